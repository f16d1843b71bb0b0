-- ===== PART A: goes FIRST, ahead of the names: the tables' words, and 'selects' of the private methods out of them =====
/-- a private method of a class that the tables say can be made, by its rows of tables_1 -/
def lw_okq (q : MethodName × Nat) : Prop := (q.1.cls ≠ "java/lang/invoke/MethodHandle" ∧ q.1.cls ≠ "java/lang/invoke/VarHandle") ∧ Cond.instantiable q.1.cls q.2 ∈ tables_1 ∧ Cond.privateMethod q.1 ∈ tables_1 ∧ Cond.instanceMethod q.1 ∈ tables_1
theorem lw_p0 : lw_okq (⟨"BladeRing", "isFigure", "(I)Z"⟩, 16) := ⟨⟨by decide +kernel, by decide +kernel⟩, List.mem_of_getElem? (i := 20) (by decide +kernel), List.mem_of_getElem? (i := 390) (by decide +kernel), List.mem_of_getElem? (i := 391) (by decide +kernel)⟩
theorem lw_p1 : lw_okq (⟨"BladeRing", "doneOnFloor", "(LBladeRing$Figure;Z)I"⟩, 16) := ⟨⟨by decide +kernel, by decide +kernel⟩, List.mem_of_getElem? (i := 20) (by decide +kernel), List.mem_of_getElem? (i := 394) (by decide +kernel), List.mem_of_getElem? (i := 395) (by decide +kernel)⟩
theorem lw_p2 : lw_okq (⟨"BladeRing", "isVillage", "(I)Z"⟩, 16) := ⟨⟨by decide +kernel, by decide +kernel⟩, List.mem_of_getElem? (i := 20) (by decide +kernel), List.mem_of_getElem? (i := 506) (by decide +kernel), List.mem_of_getElem? (i := 507) (by decide +kernel)⟩
theorem lw_p3 : lw_okq (⟨"BladeRing", "beatsOf", "(LBladeRing$Village;)I"⟩, 16) := ⟨⟨by decide +kernel, by decide +kernel⟩, List.mem_of_getElem? (i := 20) (by decide +kernel), List.mem_of_getElem? (i := 518) (by decide +kernel), List.mem_of_getElem? (i := 519) (by decide +kernel)⟩
def lw_privs_1 : List (MethodName × Nat) := [(⟨"BladeRing", "isFigure", "(I)Z"⟩, 16), (⟨"BladeRing", "doneOnFloor", "(LBladeRing$Figure;Z)I"⟩, 16), (⟨"BladeRing", "isVillage", "(I)Z"⟩, 16), (⟨"BladeRing", "beatsOf", "(LBladeRing$Village;)I"⟩, 16)]
theorem lw_r1 : ∀ q ∈ lw_privs_1, lw_okq q := List.forall_mem_cons.mpr ⟨lw_p0, List.forall_mem_cons.mpr ⟨lw_p1, List.forall_mem_cons.mpr ⟨lw_p2, List.forall_mem_cons.mpr ⟨lw_p3, fun _ h => absurd h List.not_mem_nil⟩⟩⟩⟩
def lw_privs : List (MethodName × Nat) := lw_privs_1
def lw_tbl : List Cond := k2_sels lw_privs ++ tables_1
theorem lw_privs_ok : ∀ q ∈ lw_privs, lw_okq q := lw_r1
-- ===== end of PART A; then your names; then what follows =====
/-! ===== BEGIN printed: names, fields, word lists, decode rows ===== -/
def RX0 : String := "BladeRing$Figure"
def TX0 : u_T := fun k => match k with
  | 0 => ("BladeRing$Figure", "beats", "[B", true)
  | _ => ("BladeRing$Figure", "length", "I", false)
def tyX0 : Nat → FieldType := fun k => match k with
  | 0 => .array .byte
  | _ => .int
abbrev wsX00 : List Cond := u_ws RX0 TX0 2
theorem nmX0 : ∀ a, a < 2 → ∀ b, b < 2 → a ≠ b → (TX0 a).2.1 ≠ (TX0 b).2.1 := by decide +kernel
theorem tyX0_ok : ∀ k, k < 2 → parseFieldDescriptor (TX0 k).2.2.1 = some (tyX0 k) := by decide +kernel
abbrev cX0_init : ByteArray := prog_2_method_1_code
def yX0_init : MethodName := ⟨RX0, "<init>", "()V"⟩
abbrev cX0_become : ByteArray := prog_2_method_2_code
def yX0_become : MethodName := ⟨RX0, "become", "(LBladeRing$Figure;)V"⟩
abbrev cX0_append : ByteArray := prog_2_method_3_code
def yX0_append : MethodName := ⟨RX0, "append", "(I)Z"⟩
abbrev cX0_beatAt : ByteArray := prog_2_method_4_code
def yX0_beatAt : MethodName := ⟨RX0, "beatAt", "(I)I"⟩
abbrev cX0_sortOf : ByteArray := prog_2_method_5_code
def yX0_sortOf : MethodName := ⟨RX0, "sortOf", "(I)I"⟩
abbrev cX0_numberOf : ByteArray := prog_2_method_6_code
def yX0_numberOf : MethodName := ⟨RX0, "numberOf", "(I)I"⟩
def RX1 : String := "BladeRing$Floor"
def TX1 : u_T := fun k => match k with
  | 0 => ("BladeRing$Floor", "now", "LBladeRing$Weave;", true)
  | 1 => ("BladeRing$Floor", "past", "[LBladeRing$Weave;", true)
  | 2 => ("BladeRing$Floor", "next", "I", false)
  | 3 => ("BladeRing$Floor", "undoable", "I", false)
  | _ => ("BladeRing$Floor", "refusal", "I", false)
def tyX1 : Nat → FieldType := fun k => match k with
  | 0 => .object "BladeRing$Weave"
  | 1 => .array (.object "BladeRing$Weave")
  | 2 => .int
  | 3 => .int
  | _ => .int
abbrev wsX10 : List Cond := u_ws RX1 TX1 5
theorem nmX1 : ∀ a, a < 5 → ∀ b, b < 5 → a ≠ b → (TX1 a).2.1 ≠ (TX1 b).2.1 := by decide +kernel
theorem tyX1_ok : ∀ k, k < 5 → parseFieldDescriptor (TX1 k).2.2.1 = some (tyX1 k) := by decide +kernel
abbrev cX1_init : ByteArray := prog_3_method_1_code
def yX1_init : MethodName := ⟨RX1, "<init>", "()V"⟩
abbrev cX1_forget : ByteArray := prog_3_method_2_code
def yX1_forget : MethodName := ⟨RX1, "forget", "()V"⟩
abbrev cX1_rowAt : ByteArray := prog_3_method_3_code
def yX1_rowAt : MethodName := ⟨RX1, "rowAt", "(I)LBladeRing$Weave;"⟩
abbrev cX1_attempt : ByteArray := prog_3_method_4_code
def yX1_attempt : MethodName := ⟨RX1, "attempt", "(II)I"⟩
abbrev cX1_run : ByteArray := prog_3_method_6_code
def yX1_run : MethodName := ⟨RX1, "run", "(LBladeRing$Figure;Z)I"⟩
abbrev cX1_sortBack : ByteArray := prog_3_method_7_code
def yX1_sortBack : MethodName := ⟨RX1, "sortBack", "(I)I"⟩
abbrev cX1_numberBack : ByteArray := prog_3_method_8_code
def yX1_numberBack : MethodName := ⟨RX1, "numberBack", "(II)I"⟩
def RX2 : String := "BladeRing$Search"
def TX2 : u_T := fun k => match k with
  | 0 => ("BladeRing$Search", "seats", "[J", true)
  | 1 => ("BladeRing$Search", "overs", "[J", true)
  | 2 => ("BladeRing$Search", "keys", "[J", true)
  | 3 => ("BladeRing$Search", "parents", "[I", true)
  | 4 => ("BladeRing$Search", "acts", "[I", true)
  | 5 => ("BladeRing$Search", "slots", "[I", true)
  | 6 => ("BladeRing$Search", "from", "LBladeRing$Weave;", true)
  | 7 => ("BladeRing$Search", "to", "LBladeRing$Weave;", true)
  | 8 => ("BladeRing$Search", "step", "LBladeRing$Weave;", true)
  | 9 => ("BladeRing$Search", "goalKey", "J", false)
  | 10 => ("BladeRing$Search", "searched", "Z", false)
  | 11 => ("BladeRing$Search", "metCount", "I", false)
  | 12 => ("BladeRing$Search", "goal", "I", false)
  | _ => ("BladeRing$Search", "answer", "I", false)
def tyX2 : Nat → FieldType := fun k => match k with
  | 0 => .array .long
  | 1 => .array .long
  | 2 => .array .long
  | 3 => .array .int
  | 4 => .array .int
  | 5 => .array .int
  | 6 => .object "BladeRing$Weave"
  | 7 => .object "BladeRing$Weave"
  | 8 => .object "BladeRing$Weave"
  | 9 => .long
  | 10 => .boolean
  | 11 => .int
  | 12 => .int
  | _ => .int
abbrev wsX20 : List Cond := u_ws RX2 TX2 14
theorem nmX2 : ∀ a, a < 14 → ∀ b, b < 14 → a ≠ b → (TX2 a).2.1 ≠ (TX2 b).2.1 := by decide +kernel
theorem tyX2_ok : ∀ k, k < 14 → parseFieldDescriptor (TX2 k).2.2.1 = some (tyX2 k) := by decide +kernel
abbrev cX2_init : ByteArray := prog_4_method_1_code
def yX2_init : MethodName := ⟨RX2, "<init>", "()V"⟩
def RX3 : String := "BladeRing$Sharing"
def TX3 : u_T := fun k => match k with
  | 0 => ("BladeRing$Sharing", "lengths", "[[I", true)
  | _ => ("BladeRing$Sharing", "row", "LBladeRing$Village;", true)
def tyX3 : Nat → FieldType := fun k => match k with
  | 0 => .array (.array .int)
  | _ => .object "BladeRing$Village"
abbrev wsX30 : List Cond := u_ws RX3 TX3 2
theorem nmX3 : ∀ a, a < 2 → ∀ b, b < 2 → a ≠ b → (TX3 a).2.1 ≠ (TX3 b).2.1 := by decide +kernel
theorem tyX3_ok : ∀ k, k < 2 → parseFieldDescriptor (TX3 k).2.2.1 = some (tyX3 k) := by decide +kernel
abbrev cX3_init : ByteArray := prog_5_method_1_code
def yX3_init : MethodName := ⟨RX3, "<init>", "()V"⟩
abbrev cX3_find : ByteArray := prog_5_method_2_code
def yX3_find : MethodName := ⟨RX3, "find", "(LBladeRing$Village;LBladeRing$Village;)V"⟩
abbrev cX3_measure : ByteArray := prog_5_method_3_code
def yX3_measure : MethodName := ⟨RX3, "measure", "(LBladeRing$Village;LBladeRing$Village;)V"⟩
abbrev cX3_lengthAt : ByteArray := prog_5_method_4_code
def yX3_lengthAt : MethodName := ⟨RX3, "lengthAt", "(LBladeRing$Village;ILBladeRing$Village;I)I"⟩
abbrev cX3_leastNext : ByteArray := prog_5_method_5_code
def yX3_leastNext : MethodName := ⟨RX3, "leastNext", "(LBladeRing$Village;ILBladeRing$Village;II)I"⟩
def RX4 : String := "BladeRing$Sheet"
def TX4 : u_T := fun k => match k with
  | 0 => ("BladeRing$Sheet", "cells", "[I", true)
  | 1 => ("BladeRing$Sheet", "lane", "I", false)
  | _ => ("BladeRing$Sheet", "size", "I", false)
def tyX4 : Nat → FieldType := fun k => match k with
  | 0 => .array .int
  | 1 => .int
  | _ => .int
abbrev wsX40 : List Cond := u_ws RX4 TX4 3
theorem nmX4 : ∀ a, a < 3 → ∀ b, b < 3 → a ≠ b → (TX4 a).2.1 ≠ (TX4 b).2.1 := by decide +kernel
theorem tyX4_ok : ∀ k, k < 3 → parseFieldDescriptor (TX4 k).2.2.1 = some (tyX4 k) := by decide +kernel
abbrev cX4_init : ByteArray := prog_6_method_1_code
def yX4_init : MethodName := ⟨RX4, "<init>", "()V"⟩
def RX5 : String := "BladeRing$Tape"
def TX5 : u_T := fun k => match k with
  | 0 => ("BladeRing$Tape", "bytes", "[B", true)
  | 1 => ("BladeRing$Tape", "length", "I", false)
  | 2 => ("BladeRing$Tape", "reading", "I", false)
  | 3 => ("BladeRing$Tape", "kind", "I", false)
  | 4 => ("BladeRing$Tape", "place", "I", false)
  | _ => ("BladeRing$Tape", "value", "I", false)
def tyX5 : Nat → FieldType := fun k => match k with
  | 0 => .array .byte
  | 1 => .int
  | 2 => .int
  | 3 => .int
  | 4 => .int
  | _ => .int
abbrev wsX50 : List Cond := u_ws RX5 TX5 6
theorem nmX5 : ∀ a, a < 6 → ∀ b, b < 6 → a ≠ b → (TX5 a).2.1 ≠ (TX5 b).2.1 := by decide +kernel
theorem tyX5_ok : ∀ k, k < 6 → parseFieldDescriptor (TX5 k).2.2.1 = some (tyX5 k) := by decide +kernel
abbrev cX5_init : ByteArray := prog_7_method_1_code
def yX5_init : MethodName := ⟨RX5, "<init>", "()V"⟩
abbrev cX5_append : ByteArray := prog_7_method_2_code
def yX5_append : MethodName := ⟨RX5, "append", "(J)Z"⟩
abbrev cX5_byteAt : ByteArray := prog_7_method_3_code
def yX5_byteAt : MethodName := ⟨RX5, "byteAt", "(I)I"⟩
abbrev cX5_rewind : ByteArray := prog_7_method_4_code
def yX5_rewind : MethodName := ⟨RX5, "rewind", "()V"⟩
abbrev cX5_readToken : ByteArray := prog_7_method_5_code
def yX5_readToken : MethodName := ⟨RX5, "readToken", "()V"⟩
abbrev cX5_readNumber : ByteArray := prog_7_method_6_code
def yX5_readNumber : MethodName := ⟨RX5, "readNumber", "()V"⟩
abbrev cX5_isDigit : ByteArray := prog_7_method_7_code
def yX5_isDigit : MethodName := ⟨RX5, "isDigit", "(I)Z"⟩
abbrev cX5_kindOf : ByteArray := prog_7_method_8_code
def yX5_kindOf : MethodName := ⟨RX5, "kindOf", "(I)I"⟩
def RX6 : String := "BladeRing$Teller"
def TX6 : u_T := fun k => match k with
  | 0 => ("BladeRing$Teller", "draft", "LBladeRing$Figure;", true)
  | 1 => ("BladeRing$Teller", "starts", "[I", true)
  | 2 => ("BladeRing$Teller", "times", "[I", true)
  | 3 => ("BladeRing$Teller", "open", "I", false)
  | 4 => ("BladeRing$Teller", "wanted", "I", false)
  | 5 => ("BladeRing$Teller", "letter", "I", false)
  | 6 => ("BladeRing$Teller", "rounds", "I", false)
  | 7 => ("BladeRing$Teller", "empty", "Z", false)
  | 8 => ("BladeRing$Teller", "overlong", "Z", false)
  | 9 => ("BladeRing$Teller", "fault", "I", false)
  | _ => ("BladeRing$Teller", "faultPlace", "I", false)
def tyX6 : Nat → FieldType := fun k => match k with
  | 0 => .object "BladeRing$Figure"
  | 1 => .array .int
  | 2 => .array .int
  | 3 => .int
  | 4 => .int
  | 5 => .int
  | 6 => .int
  | 7 => .boolean
  | 8 => .boolean
  | 9 => .int
  | _ => .int
abbrev wsX60 : List Cond := u_ws RX6 TX6 11
theorem nmX6 : ∀ a, a < 11 → ∀ b, b < 11 → a ≠ b → (TX6 a).2.1 ≠ (TX6 b).2.1 := by decide +kernel
theorem tyX6_ok : ∀ k, k < 11 → parseFieldDescriptor (TX6 k).2.2.1 = some (tyX6 k) := by decide +kernel
abbrev cX6_init : ByteArray := prog_8_method_1_code
def yX6_init : MethodName := ⟨RX6, "<init>", "()V"⟩
abbrev cX6_tell : ByteArray := prog_8_method_2_code
def yX6_tell : MethodName := ⟨RX6, "tell", "(LBladeRing$Tape;[LBladeRing$Figure;I)V"⟩
abbrev cX6_begin : ByteArray := prog_8_method_3_code
def yX6_begin : MethodName := ⟨RX6, "begin", "()V"⟩
abbrev cX6_taken : ByteArray := prog_8_method_4_code
def yX6_taken : MethodName := ⟨RX6, "taken", "(LBladeRing$Tape;[LBladeRing$Figure;I)I"⟩
abbrev cX6_takenItem : ByteArray := prog_8_method_5_code
def yX6_takenItem : MethodName := ⟨RX6, "takenItem", "(LBladeRing$Tape;)I"⟩
abbrev cX6_takenNumber : ByteArray := prog_8_method_6_code
def yX6_takenNumber : MethodName := ⟨RX6, "takenNumber", "(LBladeRing$Tape;[LBladeRing$Figure;I)I"⟩
abbrev cX6_takenOpen : ByteArray := prog_8_method_7_code
def yX6_takenOpen : MethodName := ⟨RX6, "takenOpen", "(LBladeRing$Tape;)I"⟩
abbrev cX6_closed : ByteArray := prog_8_method_8_code
def yX6_closed : MethodName := ⟨RX6, "closed", "()I"⟩
abbrev cX6_writeOut : ByteArray := prog_8_method_9_code
def yX6_writeOut : MethodName := ⟨RX6, "writeOut", "(LBladeRing$Figure;II)V"⟩
abbrev cX6_write : ByteArray := prog_8_method_10_code
def yX6_write : MethodName := ⟨RX6, "write", "(II)V"⟩
def RX7 : String := "BladeRing$Village"
def TX7 : u_T := fun k => match k with
  | 0 => ("BladeRing$Village", "figures", "[I", true)
  | _ => ("BladeRing$Village", "length", "I", false)
def tyX7 : Nat → FieldType := fun k => match k with
  | 0 => .array .int
  | _ => .int
abbrev wsX70 : List Cond := u_ws RX7 TX7 2
theorem nmX7 : ∀ a, a < 2 → ∀ b, b < 2 → a ≠ b → (TX7 a).2.1 ≠ (TX7 b).2.1 := by decide +kernel
theorem tyX7_ok : ∀ k, k < 2 → parseFieldDescriptor (TX7 k).2.2.1 = some (tyX7 k) := by decide +kernel
abbrev cX7_init : ByteArray := prog_9_method_1_code
def yX7_init : MethodName := ⟨RX7, "<init>", "()V"⟩
abbrev cX7_append : ByteArray := prog_9_method_2_code
def yX7_append : MethodName := ⟨RX7, "append", "(I)Z"⟩
abbrev cX7_figureAt : ByteArray := prog_9_method_3_code
def yX7_figureAt : MethodName := ⟨RX7, "figureAt", "(I)I"⟩
abbrev cX7_placeFrom : ByteArray := prog_9_method_4_code
def yX7_placeFrom : MethodName := ⟨RX7, "placeFrom", "(II)I"⟩
def RX8 : String := "BladeRing$Weave"
def TX8 : u_T := fun k => match k with
  | 0 => ("BladeRing$Weave", "dancers", "I", false)
  | 1 => ("BladeRing$Weave", "seats", "J", false)
  | 2 => ("BladeRing$Weave", "inward", "I", false)
  | 3 => ("BladeRing$Weave", "held", "I", false)
  | _ => ("BladeRing$Weave", "overs", "J", false)
def tyX8 : Nat → FieldType := fun k => match k with
  | 0 => .int
  | 1 => .long
  | 2 => .int
  | 3 => .int
  | _ => .long
abbrev wsX80 : List Cond := u_ws RX8 TX8 5
theorem nmX8 : ∀ a, a < 5 → ∀ b, b < 5 → a ≠ b → (TX8 a).2.1 ≠ (TX8 b).2.1 := by decide +kernel
theorem tyX8_ok : ∀ k, k < 5 → parseFieldDescriptor (TX8 k).2.2.1 = some (tyX8 k) := by decide +kernel
abbrev cX8_init : ByteArray := prog_10_method_1_code
def yX8_init : MethodName := ⟨RX8, "<init>", "()V"⟩
abbrev cX8_begin : ByteArray := prog_10_method_2_code
def yX8_begin : MethodName := ⟨RX8, "begin", "(I)V"⟩
abbrev cX8_become : ByteArray := prog_10_method_3_code
def yX8_become : MethodName := ⟨RX8, "become", "(LBladeRing$Weave;)V"⟩
abbrev cX8_next : ByteArray := prog_10_method_6_code
def yX8_next : MethodName := ⟨RX8, "next", "(I)I"⟩
abbrev cX8_previous : ByteArray := prog_10_method_7_code
def yX8_previous : MethodName := ⟨RX8, "previous", "(I)I"⟩
abbrev cX8_dancerAt : ByteArray := prog_10_method_8_code
def yX8_dancerAt : MethodName := ⟨RX8, "dancerAt", "(I)I"⟩
abbrev cX8_placeOf : ByteArray := prog_10_method_9_code
def yX8_placeOf : MethodName := ⟨RX8, "placeOf", "(I)I"⟩
abbrev cX8_stepsUp : ByteArray := prog_10_method_10_code
def yX8_stepsUp : MethodName := ⟨RX8, "stepsUp", "(II)I"⟩
abbrev cX8_seatBits : ByteArray := prog_10_method_11_code
def yX8_seatBits : MethodName := ⟨RX8, "seatBits", "()J"⟩
abbrev cX8_seatsAfter : ByteArray := prog_10_method_12_code
def yX8_seatsAfter : MethodName := ⟨RX8, "seatsAfter", "(I)J"⟩
abbrev cX8_overBit : ByteArray := prog_10_method_14_code
def yX8_overBit : MethodName := ⟨RX8, "overBit", "(II)J"⟩
abbrev cX8_lies : ByteArray := prog_10_method_15_code
def yX8_lies : MethodName := ⟨RX8, "lies", "(II)Z"⟩
abbrev cX8_thoseBelow : ByteArray := prog_10_method_16_code
def yX8_thoseBelow : MethodName := ⟨RX8, "thoseBelow", "(I)I"⟩
abbrev cX8_thoseAbove : ByteArray := prog_10_method_17_code
def yX8_thoseAbove : MethodName := ⟨RX8, "thoseAbove", "(I)I"⟩
abbrev cX8_change : ByteArray := prog_10_method_18_code
def yX8_change : MethodName := ⟨RX8, "change", "(II)I"⟩
abbrev cX8_withinRing : ByteArray := prog_10_method_19_code
def yX8_withinRing : MethodName := ⟨RX8, "withinRing", "(I)I"⟩
abbrev cX8_pass : ByteArray := prog_10_method_20_code
def yX8_pass : MethodName := ⟨RX8, "pass", "(IZ)I"⟩
abbrev cX8_canCross : ByteArray := prog_10_method_21_code
def yX8_canCross : MethodName := ⟨RX8, "canCross", "(II)Z"⟩
abbrev cX8_letGo : ByteArray := prog_10_method_22_code
def yX8_letGo : MethodName := ⟨RX8, "letGo", "(I)I"⟩
abbrev cX8_takeUp : ByteArray := prog_10_method_23_code
def yX8_takeUp : MethodName := ⟨RX8, "takeUp", "(I)I"⟩
abbrev cX8_freeOf : ByteArray := prog_10_method_25_code
def yX8_freeOf : MethodName := ⟨RX8, "freeOf", "(I)I"⟩
abbrev cX8_layerOf : ByteArray := prog_10_method_26_code
def yX8_layerOf : MethodName := ⟨RX8, "layerOf", "(I)I"⟩
def RX9 : String := "BladeRing"
def TX9 : u_T := fun k => match k with
  | 0 => ("BladeRing", "floor", "LBladeRing$Floor;", true)
  | 1 => ("BladeRing", "trial", "LBladeRing$Floor;", true)
  | 2 => ("BladeRing", "probe", "LBladeRing$Weave;", true)
  | 3 => ("BladeRing", "poses", "[LBladeRing$Weave;", true)
  | 4 => ("BladeRing", "poseCount", "I", false)
  | 5 => ("BladeRing", "search", "LBladeRing$Search;", true)
  | 6 => ("BladeRing", "tape", "LBladeRing$Tape;", true)
  | 7 => ("BladeRing", "teller", "LBladeRing$Teller;", true)
  | 8 => ("BladeRing", "figures", "[LBladeRing$Figure;", true)
  | 9 => ("BladeRing", "figureCount", "I", false)
  | 10 => ("BladeRing", "latestFault", "I", false)
  | 11 => ("BladeRing", "latestStop", "I", false)
  | 12 => ("BladeRing", "villages", "[LBladeRing$Village;", true)
  | 13 => ("BladeRing", "villageCount", "I", false)
  | 14 => ("BladeRing", "sharing", "LBladeRing$Sharing;", true)
  | _ => ("BladeRing", "sheets", "[LBladeRing$Sheet;", true)
def tyX9 : Nat → FieldType := fun k => match k with
  | 0 => .object "BladeRing$Floor"
  | 1 => .object "BladeRing$Floor"
  | 2 => .object "BladeRing$Weave"
  | 3 => .array (.object "BladeRing$Weave")
  | 4 => .int
  | 5 => .object "BladeRing$Search"
  | 6 => .object "BladeRing$Tape"
  | 7 => .object "BladeRing$Teller"
  | 8 => .array (.object "BladeRing$Figure")
  | 9 => .int
  | 10 => .int
  | 11 => .int
  | 12 => .array (.object "BladeRing$Village")
  | 13 => .int
  | 14 => .object "BladeRing$Sharing"
  | _ => .array (.object "BladeRing$Sheet")
abbrev wsX90 : List Cond := u_ws RX9 TX9 16
theorem nmX9 : ∀ a, a < 16 → ∀ b, b < 16 → a ≠ b → (TX9 a).2.1 ≠ (TX9 b).2.1 := by decide +kernel
theorem tyX9_ok : ∀ k, k < 16 → parseFieldDescriptor (TX9 k).2.2.1 = some (tyX9 k) := by decide +kernel
abbrev cX9_init : ByteArray := prog_1_method_1_code
def yX9_init : MethodName := ⟨RX9, "<init>", "()V"⟩
abbrev cX9_ring : ByteArray := prog_1_method_2_code
def yX9_ring : MethodName := ⟨RX9, "ring", "(I)I"⟩
abbrev cX9_place : ByteArray := prog_1_method_5_code
def yX9_place : MethodName := ⟨RX9, "place", "(II)I"⟩
abbrev cX9_blade : ByteArray := prog_1_method_6_code
def yX9_blade : MethodName := ⟨RX9, "blade", "(II)I"⟩
abbrev cX9_over : ByteArray := prog_1_method_7_code
def yX9_over : MethodName := ⟨RX9, "over", "(II)I"⟩
abbrev cX9_feed : ByteArray := prog_1_method_10_code
def yX9_feed : MethodName := ⟨RX9, "feed", "(J)I"⟩
abbrev cX9_end : ByteArray := prog_1_method_11_code
def yX9_end : MethodName := ⟨RX9, "end", "(I)I"⟩
abbrev cX9_figure : ByteArray := prog_1_method_12_code
def yX9_figure : MethodName := ⟨RX9, "figure", "()I"⟩
abbrev cX9_dance : ByteArray := prog_1_method_15_code
def yX9_dance : MethodName := ⟨RX9, "dance", "(I)I"⟩
abbrev cX9_why : ByteArray := prog_1_method_16_code
def yX9_why : MethodName := ⟨RX9, "why", "()I"⟩
abbrev cX9_back : ByteArray := prog_1_method_17_code
def yX9_back : MethodName := ⟨RX9, "back", "(I)I"⟩
abbrev cX9_village : ByteArray := prog_1_method_26_code
def yX9_village : MethodName := ⟨RX9, "village", "()I"⟩
abbrev cX9_add : ByteArray := prog_1_method_27_code
def yX9_add : MethodName := ⟨RX9, "add", "(II)I"⟩
abbrev cX9_danceOf : ByteArray := prog_1_method_28_code
def yX9_danceOf : MethodName := ⟨RX9, "danceOf", "(II)I"⟩
abbrev cX9_shared : ByteArray := prog_1_method_29_code
def yX9_shared : MethodName := ⟨RX9, "shared", "(III)I"⟩
abbrev cX9_perform : ByteArray := prog_1_method_30_code
def yX9_perform : MethodName := ⟨RX9, "perform", "(I)I"⟩
abbrev cX9_isFigure : ByteArray := prog_1_method_35_code
def yX9_isFigure : MethodName := ⟨RX9, "isFigure", "(I)Z"⟩
abbrev cX9_isVillage : ByteArray := prog_1_method_37_code
def yX9_isVillage : MethodName := ⟨RX9, "isVillage", "(I)Z"⟩
abbrev cX9_doneOnFloor : ByteArray := prog_1_method_40_code
def yX9_doneOnFloor : MethodName := ⟨RX9, "doneOnFloor", "(LBladeRing$Figure;Z)I"⟩
abbrev cX9_beatsOf : ByteArray := prog_1_method_41_code
def yX9_beatsOf : MethodName := ⟨RX9, "beatsOf", "(LBladeRing$Village;)I"⟩
def RX10 : String := "BladeRingModel"
def TX10 : u_T := fun k => match k with
  | _ => ("", "", "", false)
def tyX10 : Nat → FieldType := fun k => match k with
  | _ => .int
abbrev wsX100 : List Cond := u_ws RX10 TX10 0
theorem nmX10 : ∀ a, a < 0 → ∀ b, b < 0 → a ≠ b → (TX10 a).2.1 ≠ (TX10 b).2.1 := by decide +kernel
theorem tyX10_ok : ∀ k, k < 0 → parseFieldDescriptor (TX10 k).2.2.1 = some (tyX10 k) := by decide +kernel
def RJx145de : String := "java/io/Serializable"
def TJx145de : u_T := fun k => match k with
  | _ => ("", "", "", false)
def tyJx145de : Nat → FieldType := fun k => match k with
  | _ => .int
abbrev wsJx145de0 : List Cond := u_ws RJx145de TJx145de 0
theorem nmJx145de : ∀ a, a < 0 → ∀ b, b < 0 → a ≠ b → (TJx145de a).2.1 ≠ (TJx145de b).2.1 := by decide +kernel
theorem tyJx145de_ok : ∀ k, k < 0 → parseFieldDescriptor (TJx145de k).2.2.1 = some (tyJx145de k) := by decide +kernel
def RJx9f9b0 : String := "java/lang/CharSequence"
def TJx9f9b0 : u_T := fun k => match k with
  | _ => ("", "", "", false)
def tyJx9f9b0 : Nat → FieldType := fun k => match k with
  | _ => .int
abbrev wsJx9f9b00 : List Cond := u_ws RJx9f9b0 TJx9f9b0 0
theorem nmJx9f9b0 : ∀ a, a < 0 → ∀ b, b < 0 → a ≠ b → (TJx9f9b0 a).2.1 ≠ (TJx9f9b0 b).2.1 := by decide +kernel
theorem tyJx9f9b0_ok : ∀ k, k < 0 → parseFieldDescriptor (TJx9f9b0 k).2.2.1 = some (tyJx9f9b0 k) := by decide +kernel
def RJ11 : String := "java/lang/Character"
def TJ11 : u_T := fun k => match k with
  | _ => ("", "", "", false)
def tyJ11 : Nat → FieldType := fun k => match k with
  | _ => .int
abbrev wsJ110 : List Cond := u_ws RJ11 TJ11 0
theorem nmJ11 : ∀ a, a < 0 → ∀ b, b < 0 → a ≠ b → (TJ11 a).2.1 ≠ (TJ11 b).2.1 := by decide +kernel
theorem tyJ11_ok : ∀ k, k < 0 → parseFieldDescriptor (TJ11 k).2.2.1 = some (tyJ11 k) := by decide +kernel
abbrev cJ11_isValidCodePoint_9a6ad : ByteArray := prog_13_method_11_code
def yJ11_isValidCodePoint_9a6ad : MethodName := ⟨RJ11, "isValidCodePoint", "(I)Z"⟩
abbrev cJ11_highSurrogate_5068e : ByteArray := prog_13_method_28_code
def yJ11_highSurrogate_5068e : MethodName := ⟨RJ11, "highSurrogate", "(I)C"⟩
abbrev cJ11_lowSurrogate_5068e : ByteArray := prog_13_method_29_code
def yJ11_lowSurrogate_5068e : MethodName := ⟨RJ11, "lowSurrogate", "(I)C"⟩
def RJxb160c : String := "java/lang/Comparable"
def TJxb160c : u_T := fun k => match k with
  | _ => ("", "", "", false)
def tyJxb160c : Nat → FieldType := fun k => match k with
  | _ => .int
abbrev wsJxb160c0 : List Cond := u_ws RJxb160c TJxb160c 0
theorem nmJxb160c : ∀ a, a < 0 → ∀ b, b < 0 → a ≠ b → (TJxb160c a).2.1 ≠ (TJxb160c b).2.1 := by decide +kernel
theorem tyJxb160c_ok : ∀ k, k < 0 → parseFieldDescriptor (TJxb160c k).2.2.1 = some (tyJxb160c k) := by decide +kernel
def RJ6 : String := "java/lang/Integer"
def TJ6 : u_T := fun k => match k with
  | _ => ("", "", "", false)
def tyJ6 : Nat → FieldType := fun k => match k with
  | _ => .int
abbrev wsJ60 : List Cond := u_ws RJ6 TJ6 0
theorem nmJ6 : ∀ a, a < 0 → ∀ b, b < 0 → a ≠ b → (TJ6 a).2.1 ≠ (TJ6 b).2.1 := by decide +kernel
theorem tyJ6_ok : ∀ k, k < 0 → parseFieldDescriptor (TJ6 k).2.2.1 = some (tyJ6 k) := by decide +kernel
abbrev cJ6_bitCount_0f7a4 : ByteArray := prog_14_method_49_code
def yJ6_bitCount_0f7a4 : MethodName := ⟨RJ6, "bitCount", "(I)I"⟩
def RJ9 : String := "java/lang/Math"
def TJ9 : u_T := fun k => match k with
  | _ => ("", "", "", false)
def tyJ9 : Nat → FieldType := fun k => match k with
  | _ => .int
abbrev wsJ90 : List Cond := u_ws RJ9 TJ9 0
theorem nmJ9 : ∀ a, a < 0 → ∀ b, b < 0 → a ≠ b → (TJ9 a).2.1 ≠ (TJ9 b).2.1 := by decide +kernel
theorem tyJ9_ok : ∀ k, k < 0 → parseFieldDescriptor (TJ9 k).2.2.1 = some (tyJ9 k) := by decide +kernel
abbrev cJ9_abs_0f7a4 : ByteArray := prog_15_method_59_code
def yJ9_abs_0f7a4 : MethodName := ⟨RJ9, "abs", "(I)I"⟩
abbrev cJ9_max_7cf53 : ByteArray := prog_15_method_65_code
def yJ9_max_7cf53 : MethodName := ⟨RJ9, "max", "(II)I"⟩
abbrev cJ9_min_7cf53 : ByteArray := prog_15_method_69_code
def yJ9_min_7cf53 : MethodName := ⟨RJ9, "min", "(II)I"⟩
def RJ0 : String := "java/lang/String"
def TJ0 : u_T := fun k => match k with
  | _ => ("", "", "", false)
def tyJ0 : Nat → FieldType := fun k => match k with
  | _ => .int
abbrev wsJ00 : List Cond := u_ws RJ0 TJ0 0
theorem nmJ0 : ∀ a, a < 0 → ∀ b, b < 0 → a ≠ b → (TJ0 a).2.1 ≠ (TJ0 b).2.1 := by decide +kernel
theorem tyJ0_ok : ∀ k, k < 0 → parseFieldDescriptor (TJ0 k).2.2.1 = some (tyJ0 k) := by decide +kernel
abbrev cJ0_length_8abf5 : ByteArray := prog_16_method_54_code
def yJ0_length_8abf5 : MethodName := ⟨RJ0, "length", "()I"⟩
abbrev cJ0_indexOf_0f7a4 : ByteArray := prog_16_method_79_code
def yJ0_indexOf_0f7a4 : MethodName := ⟨RJ0, "indexOf", "(I)I"⟩
abbrev cJ0_indexOf_7cf53 : ByteArray := prog_16_method_80_code
def yJ0_indexOf_7cf53 : MethodName := ⟨RJ0, "indexOf", "(II)I"⟩
abbrev cJ0_coder_7d493 : ByteArray := prog_16_method_152_code
def yJ0_coder_7d493 : MethodName := ⟨RJ0, "coder", "()B"⟩
abbrev cJ0_isLatin1_aae02 : ByteArray := prog_16_method_154_code
def yJ0_isLatin1_aae02 : MethodName := ⟨RJ0, "isLatin1", "()Z"⟩
abbrev cJ0_checkBoundsBeginEnd_23922 : ByteArray := prog_16_method_158_code
def yJ0_checkBoundsBeginEnd_23922 : MethodName := ⟨RJ0, "checkBoundsBeginEnd", "(III)V"⟩
def RJ1 : String := "java/lang/StringLatin1"
def TJ1 : u_T := fun k => match k with
  | _ => ("", "", "", false)
def tyJ1 : Nat → FieldType := fun k => match k with
  | _ => .int
abbrev wsJ10 : List Cond := u_ws RJ1 TJ1 0
theorem nmJ1 : ∀ a, a < 0 → ∀ b, b < 0 → a ≠ b → (TJ1 a).2.1 ≠ (TJ1 b).2.1 := by decide +kernel
theorem tyJ1_ok : ∀ k, k < 0 → parseFieldDescriptor (TJ1 k).2.2.1 = some (tyJ1 k) := by decide +kernel
abbrev cJ1_canEncode_9a6ad : ByteArray := prog_17_method_4_code
def yJ1_canEncode_9a6ad : MethodName := ⟨RJ1, "canEncode", "(I)Z"⟩
abbrev cJ1_indexOf_4cfef : ByteArray := prog_17_method_22_code
def yJ1_indexOf_4cfef : MethodName := ⟨RJ1, "indexOf", "([BIII)I"⟩
abbrev cJ1_indexOfChar_4cfef : ByteArray := prog_17_method_23_code
def yJ1_indexOfChar_4cfef : MethodName := ⟨RJ1, "indexOfChar", "([BIII)I"⟩
def RJ2 : String := "java/lang/StringUTF16"
def TJ2 : u_T := fun k => match k with
  | _ => ("", "", "", false)
def tyJ2 : Nat → FieldType := fun k => match k with
  | _ => .int
abbrev wsJ20 : List Cond := u_ws RJ2 TJ2 0
theorem nmJ2 : ∀ a, a < 0 → ∀ b, b < 0 → a ≠ b → (TJ2 a).2.1 ≠ (TJ2 b).2.1 := by decide +kernel
theorem tyJ2_ok : ∀ k, k < 0 → parseFieldDescriptor (TJ2 k).2.2.1 = some (tyJ2 k) := by decide +kernel
abbrev cJ2_getChar_3b067 : ByteArray := prog_18_method_5_code
def yJ2_getChar_3b067 : MethodName := ⟨RJ2, "getChar", "([BI)C"⟩
abbrev cJ2_length_9d52b : ByteArray := prog_18_method_6_code
def yJ2_length_9d52b : MethodName := ⟨RJ2, "length", "([B)I"⟩
abbrev cJ2_indexOf_4cfef : ByteArray := prog_18_method_40_code
def yJ2_indexOf_4cfef : MethodName := ⟨RJ2, "indexOf", "([BIII)I"⟩
abbrev cJ2_indexOfChar_4cfef : ByteArray := prog_18_method_47_code
def yJ2_indexOfChar_4cfef : MethodName := ⟨RJ2, "indexOfChar", "([BIII)I"⟩
abbrev cJ2_indexOfCharUnsafe_4cfef : ByteArray := prog_18_method_48_code
def yJ2_indexOfCharUnsafe_4cfef : MethodName := ⟨RJ2, "indexOfCharUnsafe", "([BIII)I"⟩
abbrev cJ2_indexOfSupplementary_4cfef : ByteArray := prog_18_method_49_code
def yJ2_indexOfSupplementary_4cfef : MethodName := ⟨RJ2, "indexOfSupplementary", "([BIII)I"⟩
abbrev cJ2_checkBoundsBeginEnd_d044e : ByteArray := prog_18_method_93_code
def yJ2_checkBoundsBeginEnd_d044e : MethodName := ⟨RJ2, "checkBoundsBeginEnd", "(II[B)V"⟩
def RJ10 : String := "java/lang/System"
def TJ10 : u_T := fun k => match k with
  | _ => ("", "", "", false)
def tyJ10 : Nat → FieldType := fun k => match k with
  | _ => .int
abbrev wsJ100 : List Cond := u_ws RJ10 TJ10 0
theorem nmJ10 : ∀ a, a < 0 → ∀ b, b < 0 → a ≠ b → (TJ10 a).2.1 ≠ (TJ10 b).2.1 := by decide +kernel
theorem tyJ10_ok : ∀ k, k < 0 → parseFieldDescriptor (TJ10 k).2.2.1 = some (tyJ10 k) := by decide +kernel
def RJxfd54e : String := "java/lang/constant/Constable"
def TJxfd54e : u_T := fun k => match k with
  | _ => ("", "", "", false)
def tyJxfd54e : Nat → FieldType := fun k => match k with
  | _ => .int
abbrev wsJxfd54e0 : List Cond := u_ws RJxfd54e TJxfd54e 0
theorem nmJxfd54e : ∀ a, a < 0 → ∀ b, b < 0 → a ≠ b → (TJxfd54e a).2.1 ≠ (TJxfd54e b).2.1 := by decide +kernel
theorem tyJxfd54e_ok : ∀ k, k < 0 → parseFieldDescriptor (TJxfd54e k).2.2.1 = some (tyJxfd54e k) := by decide +kernel
def RJx3cf43 : String := "java/lang/constant/ConstantDesc"
def TJx3cf43 : u_T := fun k => match k with
  | _ => ("", "", "", false)
def tyJx3cf43 : Nat → FieldType := fun k => match k with
  | _ => .int
abbrev wsJx3cf430 : List Cond := u_ws RJx3cf43 TJx3cf43 0
theorem nmJx3cf43 : ∀ a, a < 0 → ∀ b, b < 0 → a ≠ b → (TJx3cf43 a).2.1 ≠ (TJx3cf43 b).2.1 := by decide +kernel
theorem tyJx3cf43_ok : ∀ k, k < 0 → parseFieldDescriptor (TJx3cf43 k).2.2.1 = some (tyJx3cf43 k) := by decide +kernel
def RJ3 : String := "jdk/internal/util/Preconditions"
def TJ3 : u_T := fun k => match k with
  | _ => ("", "", "", false)
def tyJ3 : Nat → FieldType := fun k => match k with
  | _ => .int
abbrev wsJ30 : List Cond := u_ws RJ3 TJ3 0
theorem nmJ3 : ∀ a, a < 0 → ∀ b, b < 0 → a ≠ b → (TJ3 a).2.1 ≠ (TJ3 b).2.1 := by decide +kernel
theorem tyJ3_ok : ∀ k, k < 0 → parseFieldDescriptor (TJ3 k).2.2.1 = some (tyJ3 k) := by decide +kernel
abbrev cJ3_checkFromToIndex_8c36e : ByteArray := prog_20_method_12_code
def yJ3_checkFromToIndex_8c36e : MethodName := ⟨RJ3, "checkFromToIndex", "(IIILjava/util/function/BiFunction;)I"⟩
def RL : String := "BladeRingLaw"
abbrev cL_part : ByteArray := method_2_code
def yL_part : MethodName := ⟨RL, "part", "(II)I"⟩
abbrev cL_cell : ByteArray := method_3_code
def yL_cell : MethodName := ⟨RL, "cell", "([II)I"⟩
abbrev cL_says : ByteArray := method_4_code
def yL_says : MethodName := ⟨RL, "says", "(LBladeRing;[II)I"⟩
abbrev cL_letter : ByteArray := method_5_code
def yL_letter : MethodName := ⟨RL, "letter", "(I)I"⟩
abbrev cL_figure : ByteArray := method_6_code
def yL_figure : MethodName := ⟨RL, "figure", "([III[I[I[I[IZ)I"⟩
abbrev cL_law : ByteArray := code
def yL_law : MethodName := ⟨RL, "law", "([I)Z"⟩
abbrev vwCl : List vw_C := [(RX0, TX0, 2), (RX1, TX1, 5), (RX2, TX2, 14), (RX3, TX3, 2), (RX4, TX4, 3), (RX5, TX5, 6), (RX6, TX6, 11), (RX7, TX7, 2), (RX8, TX8, 5), (RX9, TX9, 16)]
/-- the words that a method may hand on: by their kind -/
def kOK : Cond → Bool
  | .methodLink .. => true
  | .fieldLink .. => true
  | .classLink .. => true
  | .constant .. => true
  | .constantLong .. => true
  | .code .. => true
  | .instanceMethod .. => true
  | .selects .. => true
  | .initialized .. => true
  | .static .. => true
  | .instantiable .. => true
  | .arrayClass .. => true
  | .native .. => true
  | .lays .. => true
  | .laysFinal .. => true
  | _ => false
theorem kOK_good {w : Cond} (h : kOK w = true) : (w.onTables && w.keeps) = true ∨ ∃ ty, w = .arrayClass ty := by
  cases w <;> first | (simp [kOK] at h; done) | exact Or.inl rfl | exact Or.inr ⟨_, rfl⟩
def wsL_law : List Cond := lw_tbl.filter kOK
theorem wsL_law_gd : GoodIn lw_tbl wsL_law := fun w h => ⟨(List.mem_filter.mp h).1, kOK_good (List.mem_filter.mp h).2⟩
theorem wsL_law_in : ∀ w ∈ wsL_law, w ∈ lw_tbl := fun w h => (wsL_law_gd w h).1
theorem wm_1 {w : Cond} {i : Nat} (hi : tables_1_1[i]? = some w) (hk : kOK w = true) : w ∈ wsL_law := List.mem_filter.mpr ⟨by have h := List.mem_of_getElem? hi; exact List.mem_append_right _ (List.mem_append_left _ h), hk⟩
theorem wm_2 {w : Cond} {i : Nat} (hi : tables_1_2[i]? = some w) (hk : kOK w = true) : w ∈ wsL_law := List.mem_filter.mpr ⟨by have h := List.mem_of_getElem? hi; exact List.mem_append_right _ (List.mem_append_right _ (List.mem_append_left _ h)), hk⟩
theorem wm_3 {w : Cond} {i : Nat} (hi : tables_1_3[i]? = some w) (hk : kOK w = true) : w ∈ wsL_law := List.mem_filter.mpr ⟨by have h := List.mem_of_getElem? hi; exact List.mem_append_right _ (List.mem_append_right _ (List.mem_append_right _ (List.mem_append_left _ h))), hk⟩
theorem wm_4 {w : Cond} {i : Nat} (hi : tables_1_4[i]? = some w) (hk : kOK w = true) : w ∈ wsL_law := List.mem_filter.mpr ⟨by have h := List.mem_of_getElem? hi; exact List.mem_append_right _ (List.mem_append_right _ (List.mem_append_right _ (List.mem_append_right _ (h)))), hk⟩
theorem wm_0 {w : Cond} {i : Nat} (hi : (k2_sels lw_privs)[i]? = some w) (hk : kOK w = true) : w ∈ wsL_law := List.mem_filter.mpr ⟨List.mem_append_left _ (List.mem_of_getElem? hi), hk⟩
