def RX0 : String := "FerryTickets$Half"
def TX0 : u_T := fun k => match k with
  | 0 => ("FerryTickets$Half", "isPunched", "Z", false)
  | 1 => ("FerryTickets$Half", "keptMood", "I", false)
  | 2 => ("FerryTickets$Half", "wetness", "I", false)
  | 3 => ("FerryTickets$Half", "isLost", "Z", false)
  | _ => ("FerryTickets$Half", "isRidden", "Z", false)
def tyX0 : Nat → FieldType := fun k => match k with
  | 0 => .boolean
  | 1 => .int
  | 2 => .int
  | 3 => .boolean
  | _ => .boolean
theorem nmX0 : ∀ a, a < 5 → ∀ b, b < 5 → a ≠ b → (TX0 a).2.1 ≠ (TX0 b).2.1 := by decide +kernel
theorem tyX0_ok : ∀ k, k < 5 → parseFieldDescriptor (TX0 k).2.2.1 = some (tyX0 k) := by decide +kernel
abbrev cX0_init : ByteArray := prog_2_method_1_code
def yX0_init : MethodName := ⟨RX0, "<init>", "()V"⟩
abbrev cX0_start : ByteArray := prog_2_method_2_code
def yX0_start : MethodName := ⟨RX0, "start", "()V"⟩
abbrev cX0_take : ByteArray := prog_2_method_3_code
def yX0_take : MethodName := ⟨RX0, "take", "(LFerryTickets$Half;)V"⟩
abbrev cX0_wetterBy : ByteArray := prog_2_method_4_code
def yX0_wetterBy : MethodName := ⟨RX0, "wetterBy", "(I)I"⟩
abbrev cX0_holesFor : ByteArray := prog_2_method_5_code
def yX0_holesFor : MethodName := ⟨RX0, "holesFor", "(II)I"⟩
abbrev cX0_holesWhenWet : ByteArray := prog_2_method_6_code
def yX0_holesWhenWet : MethodName := ⟨RX0, "holesWhenWet", "(LFerryTickets$Word;I)I"⟩
abbrev cX0_seenAs : ByteArray := prog_2_method_7_code
def yX0_seenAs : MethodName := ⟨RX0, "seenAs", "(CII)C"⟩
abbrev cX0_seen : ByteArray := prog_2_method_8_code
def yX0_seen : MethodName := ⟨RX0, "seen", "(C)C"⟩
abbrev cX0_rightLetters : ByteArray := prog_2_method_9_code
def yX0_rightLetters : MethodName := ⟨RX0, "rightLetters", "(LFerryTickets$Word;II)I"⟩
abbrev cX0_firstWrongPlace : ByteArray := prog_2_method_10_code
def yX0_firstWrongPlace : MethodName := ⟨RX0, "firstWrongPlace", "(LFerryTickets$Word;)I"⟩
abbrev cX0_unlikeLetters : ByteArray := prog_2_method_11_code
def yX0_unlikeLetters : MethodName := ⟨RX0, "unlikeLetters", "(LFerryTickets$Word;LFerryTickets$Word;)I"⟩
abbrev cX0_isReadRightly : ByteArray := prog_2_method_12_code
def yX0_isReadRightly : MethodName := ⟨RX0, "isReadRightly", "(LFerryTickets$Word;)Z"⟩
abbrev cX0_isRightWhileDry : ByteArray := prog_2_method_13_code
def yX0_isRightWhileDry : MethodName := ⟨RX0, "isRightWhileDry", "(LFerryTickets$Word;)Z"⟩
def RX1 : String := "FerryTickets$Office"
def TX1 : u_T := fun k => match k with
  | 0 => ("FerryTickets$Office", "tickets", "[LFerryTickets$Ticket;", true)
  | 1 => ("FerryTickets$Office", "count", "I", false)
  | 2 => ("FerryTickets$Office", "draft", "LFerryTickets$Word;", true)
  | 3 => ("FerryTickets$Office", "moods", "[I", true)
  | 4 => ("FerryTickets$Office", "openness", "[Z", true)
  | 5 => ("FerryTickets$Office", "today", "I", false)
  | 6 => ("FerryTickets$Office", "printed", "I", false)
  | 7 => ("FerryTickets$Office", "outRides", "I", false)
  | 8 => ("FerryTickets$Office", "returnRides", "I", false)
  | _ => ("FerryTickets$Office", "holesPunched", "I", false)
def tyX1 : Nat → FieldType := fun k => match k with
  | 0 => .array (.object "FerryTickets$Ticket")
  | 1 => .int
  | 2 => .object "FerryTickets$Word"
  | 3 => .array .int
  | 4 => .array .boolean
  | 5 => .int
  | 6 => .int
  | 7 => .int
  | 8 => .int
  | _ => .int
theorem nmX1 : ∀ a, a < 10 → ∀ b, b < 10 → a ≠ b → (TX1 a).2.1 ≠ (TX1 b).2.1 := by decide +kernel
theorem tyX1_ok : ∀ k, k < 10 → parseFieldDescriptor (TX1 k).2.2.1 = some (tyX1 k) := by decide +kernel
abbrev cX1_init : ByteArray := prog_3_method_1_code
def yX1_init : MethodName := ⟨RX1, "<init>", "()V"⟩
abbrev cX1_take : ByteArray := prog_3_method_3_code
def yX1_take : MethodName := ⟨RX1, "take", "(LFerryTickets$Office;)V"⟩
abbrev cX1_hasTicket : ByteArray := prog_3_method_4_code
def yX1_hasTicket : MethodName := ⟨RX1, "hasTicket", "(I)Z"⟩
abbrev cX1_removeTicket : ByteArray := prog_3_method_5_code
def yX1_removeTicket : MethodName := ⟨RX1, "removeTicket", "(I)V"⟩
abbrev cX1_moodOf : ByteArray := prog_3_method_6_code
def yX1_moodOf : MethodName := ⟨RX1, "moodOf", "(I)I"⟩
abbrev cX1_isClosed : ByteArray := prog_3_method_7_code
def yX1_isClosed : MethodName := ⟨RX1, "isClosed", "(I)Z"⟩
abbrev cX1_openPiers : ByteArray := prog_3_method_8_code
def yX1_openPiers : MethodName := ⟨RX1, "openPiers", "()I"⟩
abbrev cX1_tornTickets : ByteArray := prog_3_method_9_code
def yX1_tornTickets : MethodName := ⟨RX1, "tornTickets", "()I"⟩
abbrev cX1_lostHalves : ByteArray := prog_3_method_10_code
def yX1_lostHalves : MethodName := ⟨RX1, "lostHalves", "()I"⟩
abbrev cX1_punchedHalves : ByteArray := prog_3_method_11_code
def yX1_punchedHalves : MethodName := ⟨RX1, "punchedHalves", "()I"⟩
abbrev cX1_rightHalves : ByteArray := prog_3_method_12_code
def yX1_rightHalves : MethodName := ⟨RX1, "rightHalves", "()I"⟩
abbrev cX1_holesLeft : ByteArray := prog_3_method_13_code
def yX1_holesLeft : MethodName := ⟨RX1, "holesLeft", "()I"⟩
abbrev cX1_firstWith : ByteArray := prog_3_method_14_code
def yX1_firstWith : MethodName := ⟨RX1, "firstWith", "(LFerryTickets$Word;)I"⟩
abbrev cX1_ticketsAhead : ByteArray := prog_3_method_15_code
def yX1_ticketsAhead : MethodName := ⟨RX1, "ticketsAhead", "(II)I"⟩
abbrev cX1_hindrance : ByteArray := prog_3_method_16_code
def yX1_hindrance : MethodName := ⟨RX1, "hindrance", "(LFerryTickets$Ticket;Z)I"⟩
abbrev cX1_hindranceDetail : ByteArray := prog_3_method_17_code
def yX1_hindranceDetail : MethodName := ⟨RX1, "hindranceDetail", "(LFerryTickets$Ticket;ZI)I"⟩
def RX2 : String := "FerryTickets$Ticket"
def TX2 : u_T := fun k => match k with
  | 0 => ("FerryTickets$Ticket", "word", "LFerryTickets$Word;", true)
  | 1 => ("FerryTickets$Ticket", "from", "I", false)
  | 2 => ("FerryTickets$Ticket", "to", "I", false)
  | 3 => ("FerryTickets$Ticket", "clause", "I", false)
  | 4 => ("FerryTickets$Ticket", "isTorn", "Z", false)
  | 5 => ("FerryTickets$Ticket", "outDay", "I", false)
  | 6 => ("FerryTickets$Ticket", "outHalf", "LFerryTickets$Half;", true)
  | _ => ("FerryTickets$Ticket", "returnHalf", "LFerryTickets$Half;", true)
def tyX2 : Nat → FieldType := fun k => match k with
  | 0 => .object "FerryTickets$Word"
  | 1 => .int
  | 2 => .int
  | 3 => .int
  | 4 => .boolean
  | 5 => .int
  | 6 => .object "FerryTickets$Half"
  | _ => .object "FerryTickets$Half"
theorem nmX2 : ∀ a, a < 8 → ∀ b, b < 8 → a ≠ b → (TX2 a).2.1 ≠ (TX2 b).2.1 := by decide +kernel
theorem tyX2_ok : ∀ k, k < 8 → parseFieldDescriptor (TX2 k).2.2.1 = some (tyX2 k) := by decide +kernel
abbrev cX2_init : ByteArray := prog_4_method_1_code
def yX2_init : MethodName := ⟨RX2, "<init>", "()V"⟩
abbrev cX2_start : ByteArray := prog_4_method_2_code
def yX2_start : MethodName := ⟨RX2, "start", "(LFerryTickets$Word;III)V"⟩
abbrev cX2_take : ByteArray := prog_4_method_3_code
def yX2_take : MethodName := ⟨RX2, "take", "(LFerryTickets$Ticket;)V"⟩
abbrev cX2_half : ByteArray := prog_4_method_4_code
def yX2_half : MethodName := ⟨RX2, "half", "(Z)LFerryTickets$Half;"⟩
abbrev cX2_getWet : ByteArray := prog_4_method_5_code
def yX2_getWet : MethodName := ⟨RX2, "getWet", "(ZI)V"⟩
abbrev cX2_wetness : ByteArray := prog_4_method_6_code
def yX2_wetness : MethodName := ⟨RX2, "wetness", "()I"⟩
abbrev cX2_holesLeft : ByteArray := prog_4_method_7_code
def yX2_holesLeft : MethodName := ⟨RX2, "holesLeft", "()I"⟩
abbrev cX2_measured : ByteArray := prog_4_method_8_code
def yX2_measured : MethodName := ⟨RX2, "measured", "(I)I"⟩
abbrev cX2_isSameByReading : ByteArray := prog_4_method_9_code
def yX2_isSameByReading : MethodName := ⟨RX2, "isSameByReading", "()Z"⟩
abbrev cX2_isSameByHoles : ByteArray := prog_4_method_10_code
def yX2_isSameByHoles : MethodName := ⟨RX2, "isSameByHoles", "()Z"⟩
def RX3 : String := "FerryTickets$Word"
def TX3 : u_T := fun k => match k with
  | 0 => ("FerryTickets$Word", "letters", "[C", true)
  | _ => ("FerryTickets$Word", "length", "I", false)
def tyX3 : Nat → FieldType := fun k => match k with
  | 0 => .array .char
  | _ => .int
theorem nmX3 : ∀ a, a < 2 → ∀ b, b < 2 → a ≠ b → (TX3 a).2.1 ≠ (TX3 b).2.1 := by decide +kernel
theorem tyX3_ok : ∀ k, k < 2 → parseFieldDescriptor (TX3 k).2.2.1 = some (tyX3 k) := by decide +kernel
abbrev cX3_init : ByteArray := prog_5_method_1_code
def yX3_init : MethodName := ⟨RX3, "<init>", "()V"⟩
abbrev cX3_take : ByteArray := prog_5_method_2_code
def yX3_take : MethodName := ⟨RX3, "take", "(LFerryTickets$Word;)V"⟩
abbrev cX3_add : ByteArray := prog_5_method_3_code
def yX3_add : MethodName := ⟨RX3, "add", "(C)V"⟩
abbrev cX3_hasPlace : ByteArray := prog_5_method_4_code
def yX3_hasPlace : MethodName := ⟨RX3, "hasPlace", "(I)Z"⟩
abbrev cX3_letterAt : ByteArray := prog_5_method_5_code
def yX3_letterAt : MethodName := ⟨RX3, "letterAt", "(I)C"⟩
abbrev cX3_vowelCount : ByteArray := prog_5_method_6_code
def yX3_vowelCount : MethodName := ⟨RX3, "vowelCount", "()I"⟩
abbrev cX3_countOf : ByteArray := prog_5_method_7_code
def yX3_countOf : MethodName := ⟨RX3, "countOf", "(C)I"⟩
abbrev cX3_isSame : ByteArray := prog_5_method_8_code
def yX3_isSame : MethodName := ⟨RX3, "isSame", "(LFerryTickets$Word;)Z"⟩
def RX4 : String := "FerryTickets"
def TX4 : u_T := fun k => match k with
  | 0 => ("FerryTickets", "now", "LFerryTickets$Office;", false)
  | 1 => ("FerryTickets", "spare", "LFerryTickets$Office;", false)
  | 2 => ("FerryTickets", "saved", "LFerryTickets$Office;", true)
  | 3 => ("FerryTickets", "hasSnapshot", "Z", false)
  | 4 => ("FerryTickets", "past", "[LFerryTickets$Office;", true)
  | 5 => ("FerryTickets", "undoable", "I", false)
  | 6 => ("FerryTickets", "told", "LFerryTickets$Word;", true)
  | 7 => ("FerryTickets", "buffer", "[C", true)
  | 8 => ("FerryTickets", "buffered", "I", false)
  | 9 => ("FerryTickets", "written", "[C", true)
  | 10 => ("FerryTickets", "writtenLength", "I", false)
  | 11 => ("FerryTickets", "refusalReason", "I", false)
  | 12 => ("FerryTickets", "refusalDetail", "I", false)
  | 13 => ("FerryTickets", "faultPosition", "I", false)
  | _ => ("FerryTickets", "refusedOrder", "I", false)
def tyX4 : Nat → FieldType := fun k => match k with
  | 0 => .object "FerryTickets$Office"
  | 1 => .object "FerryTickets$Office"
  | 2 => .object "FerryTickets$Office"
  | 3 => .boolean
  | 4 => .array (.object "FerryTickets$Office")
  | 5 => .int
  | 6 => .object "FerryTickets$Word"
  | 7 => .array .char
  | 8 => .int
  | 9 => .array .char
  | 10 => .int
  | 11 => .int
  | 12 => .int
  | 13 => .int
  | _ => .int
theorem nmX4 : ∀ a, a < 15 → ∀ b, b < 15 → a ≠ b → (TX4 a).2.1 ≠ (TX4 b).2.1 := by decide +kernel
theorem tyX4_ok : ∀ k, k < 15 → parseFieldDescriptor (TX4 k).2.2.1 = some (tyX4 k) := by decide +kernel
abbrev cX4_init : ByteArray := prog_1_method_1_code
def yX4_init : MethodName := ⟨RX4, "<init>", "()V"⟩
abbrev cX4_letter : ByteArray := prog_1_method_3_code
def yX4_letter : MethodName := ⟨RX4, "letter", "(C)I"⟩
abbrev cX4_unletter : ByteArray := prog_1_method_4_code
def yX4_unletter : MethodName := ⟨RX4, "unletter", "()I"⟩
abbrev cX4_print : ByteArray := prog_1_method_5_code
def yX4_print : MethodName := ⟨RX4, "print", "(III)I"⟩
abbrev cX4_throwAway : ByteArray := prog_1_method_6_code
def yX4_throwAway : MethodName := ⟨RX4, "throwAway", "(I)I"⟩
abbrev cX4_mood : ByteArray := prog_1_method_7_code
def yX4_mood : MethodName := ⟨RX4, "mood", "(II)I"⟩
abbrev cX4_pier : ByteArray := prog_1_method_8_code
def yX4_pier : MethodName := ⟨RX4, "pier", "(IZ)I"⟩
abbrev cX4_ticketOf : ByteArray := prog_1_method_9_code
def yX4_ticketOf : MethodName := ⟨RX4, "ticketOf", "(II)I"⟩
abbrev cX4_wordAt : ByteArray := prog_1_method_10_code
def yX4_wordAt : MethodName := ⟨RX4, "wordAt", "(II)C"⟩
abbrev cX4_punch : ByteArray := prog_1_method_11_code
def yX4_punch : MethodName := ⟨RX4, "punch", "(IZI)I"⟩
abbrev cX4_wet : ByteArray := prog_1_method_12_code
def yX4_wet : MethodName := ⟨RX4, "wet", "(IZI)I"⟩
abbrev cX4_tear : ByteArray := prog_1_method_13_code
def yX4_tear : MethodName := ⟨RX4, "tear", "(I)I"⟩
abbrev cX4_lose : ByteArray := prog_1_method_14_code
def yX4_lose : MethodName := ⟨RX4, "lose", "(IZ)I"⟩
abbrev cX4_find : ByteArray := prog_1_method_15_code
def yX4_find : MethodName := ⟨RX4, "find", "(IZ)I"⟩
abbrev cX4_halfOf : ByteArray := prog_1_method_16_code
def yX4_halfOf : MethodName := ⟨RX4, "halfOf", "(IZI)I"⟩
abbrev cX4_readAt : ByteArray := prog_1_method_17_code
def yX4_readAt : MethodName := ⟨RX4, "readAt", "(IZI)C"⟩
abbrev cX4_doAgree : ByteArray := prog_1_method_18_code
def yX4_doAgree : MethodName := ⟨RX4, "doAgree", "(IZ)Z"⟩
abbrev cX4_moodFor : ByteArray := prog_1_method_19_code
def yX4_moodFor : MethodName := ⟨RX4, "moodFor", "(IZ)I"⟩
abbrev cX4_would : ByteArray := prog_1_method_20_code
def yX4_would : MethodName := ⟨RX4, "would", "(IZI)I"⟩
abbrev cX4_likely : ByteArray := prog_1_method_21_code
def yX4_likely : MethodName := ⟨RX4, "likely", "(IZ)I"⟩
abbrev cX4_ride : ByteArray := prog_1_method_22_code
def yX4_ride : MethodName := ⟨RX4, "ride", "(IZ)I"⟩
abbrev cX4_hinders : ByteArray := prog_1_method_23_code
def yX4_hinders : MethodName := ⟨RX4, "hinders", "(IZ)I"⟩
abbrev cX4_day : ByteArray := prog_1_method_24_code
def yX4_day : MethodName := ⟨RX4, "day", "()I"⟩
abbrev cX4_daysLeft : ByteArray := prog_1_method_25_code
def yX4_daysLeft : MethodName := ⟨RX4, "daysLeft", "(I)I"⟩
abbrev cX4_words : ByteArray := prog_1_method_26_code
def yX4_words : MethodName := ⟨RX4, "words", "()I"⟩
abbrev cX4_sharing : ByteArray := prog_1_method_27_code
def yX4_sharing : MethodName := ⟨RX4, "sharing", "(I)I"⟩
abbrev cX4_often : ByteArray := prog_1_method_28_code
def yX4_often : MethodName := ⟨RX4, "often", "(C)I"⟩
abbrev cX4_ranked : ByteArray := prog_1_method_29_code
def yX4_ranked : MethodName := ⟨RX4, "ranked", "(II)I"⟩
abbrev cX4_isRight : ByteArray := prog_1_method_30_code
def yX4_isRight : MethodName := ⟨RX4, "isRight", "()Z"⟩
abbrev cX4_line : ByteArray := prog_1_method_31_code
def yX4_line : MethodName := ⟨RX4, "line", "(I)I"⟩
abbrev cX4_holeLine : ByteArray := prog_1_method_32_code
def yX4_holeLine : MethodName := ⟨RX4, "holeLine", "(IZ)I"⟩
abbrev cX4_refusal : ByteArray := prog_1_method_34_code
def yX4_refusal : MethodName := ⟨RX4, "refusal", "(Z)I"⟩
abbrev cX4_account : ByteArray := prog_1_method_35_code
def yX4_account : MethodName := ⟨RX4, "account", "(I)I"⟩
abbrev cX4_meanWet : ByteArray := prog_1_method_36_code
def yX4_meanWet : MethodName := ⟨RX4, "meanWet", "()D"⟩
abbrev cX4_readShare : ByteArray := prog_1_method_37_code
def yX4_readShare : MethodName := ⟨RX4, "readShare", "()F"⟩
abbrev cX4_append : ByteArray := prog_1_method_38_code
def yX4_append : MethodName := ⟨RX4, "append", "(I)I"⟩
abbrev cX4_read : ByteArray := prog_1_method_39_code
def yX4_read : MethodName := ⟨RX4, "read", "()I"⟩
abbrev cX4_undo : ByteArray := prog_1_method_42_code
def yX4_undo : MethodName := ⟨RX4, "undo", "()I"⟩
abbrev cX4_snapshot : ByteArray := prog_1_method_43_code
def yX4_snapshot : MethodName := ⟨RX4, "snapshot", "()I"⟩
abbrev cX4_restore : ByteArray := prog_1_method_44_code
def yX4_restore : MethodName := ⟨RX4, "restore", "()I"⟩
abbrev cX4_begin : ByteArray := prog_1_method_45_code
def yX4_begin : MethodName := ⟨RX4, "begin", "()V"⟩
abbrev cX4_settle : ByteArray := prog_1_method_46_code
def yX4_settle : MethodName := ⟨RX4, "settle", "(I)V"⟩
abbrev cX4_remember : ByteArray := prog_1_method_47_code
def yX4_remember : MethodName := ⟨RX4, "remember", "()V"⟩
abbrev cX4_refuse : ByteArray := prog_1_method_48_code
def yX4_refuse : MethodName := ⟨RX4, "refuse", "(II)I"⟩
abbrev cX4_tryLetter : ByteArray := prog_1_method_49_code
def yX4_tryLetter : MethodName := ⟨RX4, "tryLetter", "(C)I"⟩
abbrev cX4_tryUnletter : ByteArray := prog_1_method_50_code
def yX4_tryUnletter : MethodName := ⟨RX4, "tryUnletter", "()I"⟩
abbrev cX4_tryPrint : ByteArray := prog_1_method_51_code
def yX4_tryPrint : MethodName := ⟨RX4, "tryPrint", "(LFerryTickets$Word;III)I"⟩
abbrev cX4_tryThrowAway : ByteArray := prog_1_method_52_code
def yX4_tryThrowAway : MethodName := ⟨RX4, "tryThrowAway", "(I)I"⟩
abbrev cX4_tryMood : ByteArray := prog_1_method_53_code
def yX4_tryMood : MethodName := ⟨RX4, "tryMood", "(II)I"⟩
abbrev cX4_tryPier : ByteArray := prog_1_method_54_code
def yX4_tryPier : MethodName := ⟨RX4, "tryPier", "(IZ)I"⟩
abbrev cX4_tryPunch : ByteArray := prog_1_method_55_code
def yX4_tryPunch : MethodName := ⟨RX4, "tryPunch", "(IZI)I"⟩
abbrev cX4_tryWet : ByteArray := prog_1_method_56_code
def yX4_tryWet : MethodName := ⟨RX4, "tryWet", "(IZI)I"⟩
abbrev cX4_tryTear : ByteArray := prog_1_method_57_code
def yX4_tryTear : MethodName := ⟨RX4, "tryTear", "(I)I"⟩
abbrev cX4_tryLost : ByteArray := prog_1_method_58_code
def yX4_tryLost : MethodName := ⟨RX4, "tryLost", "(IZZ)I"⟩
abbrev cX4_tryRide : ByteArray := prog_1_method_59_code
def yX4_tryRide : MethodName := ⟨RX4, "tryRide", "(IZ)I"⟩
abbrev cX4_letDayGoBy : ByteArray := prog_1_method_60_code
def yX4_letDayGoBy : MethodName := ⟨RX4, "letDayGoBy", "()I"⟩
abbrev cX4_existing : ByteArray := prog_1_method_61_code
def yX4_existing : MethodName := ⟨RX4, "existing", "(I)LFerryTickets$Ticket;"⟩
abbrev cX4_punchedHalf : ByteArray := prog_1_method_62_code
def yX4_punchedHalf : MethodName := ⟨RX4, "punchedHalf", "(LFerryTickets$Ticket;Z)LFerryTickets$Half;"⟩
abbrev cX4_isPier : ByteArray := prog_1_method_63_code
def yX4_isPier : MethodName := ⟨RX4, "isPier", "(I)Z"⟩
abbrev cX4_isPuncher : ByteArray := prog_1_method_64_code
def yX4_isPuncher : MethodName := ⟨RX4, "isPuncher", "(I)Z"⟩
abbrev cX4_isLetter : ByteArray := prog_1_method_65_code
def yX4_isLetter : MethodName := ⟨RX4, "isLetter", "(C)Z"⟩
abbrev cX4_vowelNumber : ByteArray := prog_1_method_66_code
def yX4_vowelNumber : MethodName := ⟨RX4, "vowelNumber", "(C)I"⟩
abbrev cX4_writeHalf : ByteArray := prog_1_method_67_code
def yX4_writeHalf : MethodName := ⟨RX4, "writeHalf", "(LFerryTickets$Ticket;Z)V"⟩
abbrev cX4_write : ByteArray := prog_1_method_68_code
def yX4_write : MethodName := ⟨RX4, "write", "(C)V"⟩
abbrev cX4_digit : ByteArray := prog_1_method_69_code
def yX4_digit : MethodName := ⟨RX4, "digit", "(I)C"⟩
abbrev cX4_faultOfInput : ByteArray := prog_1_method_70_code
def yX4_faultOfInput : MethodName := ⟨RX4, "faultOfInput", "()I"⟩
abbrev cX4_carryOutAll : ByteArray := prog_1_method_71_code
def yX4_carryOutAll : MethodName := ⟨RX4, "carryOutAll", "()I"⟩
abbrev cX4_endOfOrder : ByteArray := prog_1_method_72_code
def yX4_endOfOrder : MethodName := ⟨RX4, "endOfOrder", "(I)I"⟩
abbrev cX4_shapeOf : ByteArray := prog_1_method_73_code
def yX4_shapeOf : MethodName := ⟨RX4, "shapeOf", "(C)Ljava/lang/String;"⟩
abbrev cX4_fittingCharacters : ByteArray := prog_1_method_74_code
def yX4_fittingCharacters : MethodName := ⟨RX4, "fittingCharacters", "(CI)I"⟩
abbrev cX4_lettersFrom : ByteArray := prog_1_method_75_code
def yX4_lettersFrom : MethodName := ⟨RX4, "lettersFrom", "(I)I"⟩
abbrev cX4_carryOut : ByteArray := prog_1_method_76_code
def yX4_carryOut : MethodName := ⟨RX4, "carryOut", "(II)I"⟩
abbrev cX4_carryOutPrint : ByteArray := prog_1_method_77_code
def yX4_carryOutPrint : MethodName := ⟨RX4, "carryOutPrint", "(II)I"⟩
abbrev cX4_digitAt : ByteArray := prog_1_method_78_code
def yX4_digitAt : MethodName := ⟨RX4, "digitAt", "(I)I"⟩
abbrev cX4_signAt : ByteArray := prog_1_method_79_code
def yX4_signAt : MethodName := ⟨RX4, "signAt", "(I)C"⟩
def RX5 : String := "FerryTicketsModel"
def TX5 : u_T := fun k => match k with
  | _ => ("", "", "", false)
def tyX5 : Nat → FieldType := fun k => match k with
  | _ => .int
theorem nmX5 : ∀ a, a < 0 → ∀ b, b < 0 → a ≠ b → (TX5 a).2.1 ≠ (TX5 b).2.1 := by decide +kernel
theorem tyX5_ok : ∀ k, k < 0 → parseFieldDescriptor (TX5 k).2.2.1 = some (tyX5 k) := by decide +kernel
def RJx145de : String := "java/io/Serializable"
def TJx145de : u_T := fun k => match k with
  | _ => ("", "", "", false)
def tyJx145de : Nat → FieldType := fun k => match k with
  | _ => .int
theorem nmJx145de : ∀ a, a < 0 → ∀ b, b < 0 → a ≠ b → (TJx145de a).2.1 ≠ (TJx145de b).2.1 := by decide +kernel
theorem tyJx145de_ok : ∀ k, k < 0 → parseFieldDescriptor (TJx145de k).2.2.1 = some (tyJx145de k) := by decide +kernel
def RJ5 : String := "java/lang/AbstractStringBuilder"
def TJ5 : u_T := fun k => match k with
  | _ => ("", "", "", false)
def tyJ5 : Nat → FieldType := fun k => match k with
  | _ => .int
theorem nmJ5 : ∀ a, a < 0 → ∀ b, b < 0 → a ≠ b → (TJ5 a).2.1 ≠ (TJ5 b).2.1 := by decide +kernel
theorem tyJ5_ok : ∀ k, k < 0 → parseFieldDescriptor (TJ5 k).2.2.1 = some (tyJ5 k) := by decide +kernel
abbrev cJ5_init_d00df : ByteArray := prog_9_method_2_code
def yJ5_init_d00df : MethodName := ⟨RJ5, "<init>", "(I)V"⟩
abbrev cJ5_length_8abf5 : ByteArray := prog_9_method_6_code
def yJ5_length_8abf5 : MethodName := ⟨RJ5, "length", "()I"⟩
abbrev cJ5_ensureCapacityInternal_d00df : ByteArray := prog_9_method_9_code
def yJ5_ensureCapacityInternal_d00df : MethodName := ⟨RJ5, "ensureCapacityInternal", "(I)V"⟩
abbrev cJ5_newCapacity_0f7a4 : ByteArray := prog_9_method_10_code
def yJ5_newCapacity_0f7a4 : MethodName := ⟨RJ5, "newCapacity", "(I)I"⟩
abbrev cJ5_inflate_da8c8 : ByteArray := prog_9_method_11_code
def yJ5_inflate_da8c8 : MethodName := ⟨RJ5, "inflate", "()V"⟩
abbrev cJ5_append_cf1ce : ByteArray := prog_9_method_22_code
def yJ5_append_cf1ce : MethodName := ⟨RJ5, "append", "(Ljava/lang/String;)Ljava/lang/AbstractStringBuilder;"⟩
abbrev cJ5_appendNull_278bc : ByteArray := prog_9_method_26_code
def yJ5_appendNull_278bc : MethodName := ⟨RJ5, "appendNull", "()Ljava/lang/AbstractStringBuilder;"⟩
abbrev cJ5_append_c97b9 : ByteArray := prog_9_method_32_code
def yJ5_append_c97b9 : MethodName := ⟨RJ5, "append", "(I)Ljava/lang/AbstractStringBuilder;"⟩
abbrev cJ5_getValue_6d5f1 : ByteArray := prog_9_method_64_code
def yJ5_getValue_6d5f1 : MethodName := ⟨RJ5, "getValue", "()[B"⟩
abbrev cJ5_isLatin1_aae02 : ByteArray := prog_9_method_68_code
def yJ5_isLatin1_aae02 : MethodName := ⟨RJ5, "isLatin1", "()Z"⟩
abbrev cJ5_inflateIfNeededFor_a7421 : ByteArray := prog_9_method_71_code
def yJ5_inflateIfNeededFor_a7421 : MethodName := ⟨RJ5, "inflateIfNeededFor", "(Ljava/lang/String;)V"⟩
abbrev cJ5_putStringAt_47b60 : ByteArray := prog_9_method_73_code
def yJ5_putStringAt_47b60 : MethodName := ⟨RJ5, "putStringAt", "(ILjava/lang/String;)V"⟩
def RJx2cfe8 : String := "java/lang/Appendable"
def TJx2cfe8 : u_T := fun k => match k with
  | _ => ("", "", "", false)
def tyJx2cfe8 : Nat → FieldType := fun k => match k with
  | _ => .int
theorem nmJx2cfe8 : ∀ a, a < 0 → ∀ b, b < 0 → a ≠ b → (TJx2cfe8 a).2.1 ≠ (TJx2cfe8 b).2.1 := by decide +kernel
theorem tyJx2cfe8_ok : ∀ k, k < 0 → parseFieldDescriptor (TJx2cfe8 k).2.2.1 = some (tyJx2cfe8 k) := by decide +kernel
def RJx00060 : String := "java/lang/ArrayIndexOutOfBoundsException"
def TJx00060 : u_T := fun k => match k with
  | 0 => ("java/lang/Throwable", "backtrace", "Ljava/lang/Object;", false)
  | 1 => ("java/lang/Throwable", "detailMessage", "Ljava/lang/String;", false)
  | 2 => ("java/lang/Throwable", "cause", "Ljava/lang/Throwable;", false)
  | 3 => ("java/lang/Throwable", "stackTrace", "[Ljava/lang/StackTraceElement;", false)
  | 4 => ("java/lang/Throwable", "depth", "I", false)
  | _ => ("java/lang/Throwable", "suppressedExceptions", "Ljava/util/List;", false)
def tyJx00060 : Nat → FieldType := fun k => match k with
  | 0 => .object "java/lang/Object"
  | 1 => .object "java/lang/String"
  | 2 => .object "java/lang/Throwable"
  | 3 => .array (.object "java/lang/StackTraceElement")
  | 4 => .int
  | _ => .object "java/util/List"
theorem nmJx00060 : ∀ a, a < 6 → ∀ b, b < 6 → a ≠ b → (TJx00060 a).2.1 ≠ (TJx00060 b).2.1 := by decide +kernel
theorem tyJx00060_ok : ∀ k, k < 6 → parseFieldDescriptor (TJx00060 k).2.2.1 = some (tyJx00060 k) := by decide +kernel
abbrev cJx00060_init_a7421 : ByteArray := prog_12_method_2_code
def yJx00060_init_a7421 : MethodName := ⟨RJx00060, "<init>", "(Ljava/lang/String;)V"⟩
def RJx9f9b0 : String := "java/lang/CharSequence"
def TJx9f9b0 : u_T := fun k => match k with
  | _ => ("", "", "", false)
def tyJx9f9b0 : Nat → FieldType := fun k => match k with
  | _ => .int
theorem nmJx9f9b0 : ∀ a, a < 0 → ∀ b, b < 0 → a ≠ b → (TJx9f9b0 a).2.1 ≠ (TJx9f9b0 b).2.1 := by decide +kernel
theorem tyJx9f9b0_ok : ∀ k, k < 0 → parseFieldDescriptor (TJx9f9b0 k).2.2.1 = some (tyJx9f9b0 k) := by decide +kernel
def RJx8e188 : String := "java/lang/Cloneable"
def TJx8e188 : u_T := fun k => match k with
  | _ => ("", "", "", false)
def tyJx8e188 : Nat → FieldType := fun k => match k with
  | _ => .int
theorem nmJx8e188 : ∀ a, a < 0 → ∀ b, b < 0 → a ≠ b → (TJx8e188 a).2.1 ≠ (TJx8e188 b).2.1 := by decide +kernel
theorem tyJx8e188_ok : ∀ k, k < 0 → parseFieldDescriptor (TJx8e188 k).2.2.1 = some (tyJx8e188 k) := by decide +kernel
def RJxb160c : String := "java/lang/Comparable"
def TJxb160c : u_T := fun k => match k with
  | _ => ("", "", "", false)
def tyJxb160c : Nat → FieldType := fun k => match k with
  | _ => .int
theorem nmJxb160c : ∀ a, a < 0 → ∀ b, b < 0 → a ≠ b → (TJxb160c a).2.1 ≠ (TJxb160c b).2.1 := by decide +kernel
theorem tyJxb160c_ok : ∀ k, k < 0 → parseFieldDescriptor (TJxb160c k).2.2.1 = some (tyJxb160c k) := by decide +kernel
def RJ6 : String := "java/lang/Integer"
def TJ6 : u_T := fun k => match k with
  | _ => ("", "", "", false)
def tyJ6 : Nat → FieldType := fun k => match k with
  | _ => .int
theorem nmJ6 : ∀ a, a < 0 → ∀ b, b < 0 → a ≠ b → (TJ6 a).2.1 ≠ (TJ6 b).2.1 := by decide +kernel
theorem tyJ6_ok : ∀ k, k < 0 → parseFieldDescriptor (TJ6 k).2.2.1 = some (tyJ6 k) := by decide +kernel
abbrev cJ6_getChars_ba4f3 : ByteArray := prog_20_method_12_code
def yJ6_getChars_ba4f3 : MethodName := ⟨RJ6, "getChars", "(II[B)I"⟩
abbrev cJ6_stringSize_0f7a4 : ByteArray := prog_20_method_13_code
def yJ6_stringSize_0f7a4 : MethodName := ⟨RJ6, "stringSize", "(I)I"⟩
def RJ9 : String := "java/lang/Math"
def TJ9 : u_T := fun k => match k with
  | _ => ("", "", "", false)
def tyJ9 : Nat → FieldType := fun k => match k with
  | _ => .int
theorem nmJ9 : ∀ a, a < 0 → ∀ b, b < 0 → a ≠ b → (TJ9 a).2.1 ≠ (TJ9 b).2.1 := by decide +kernel
theorem tyJ9_ok : ∀ k, k < 0 → parseFieldDescriptor (TJ9 k).2.2.1 = some (tyJ9 k) := by decide +kernel
abbrev cJ9_floorMod_7cf53 : ByteArray := prog_21_method_50_code
def yJ9_floorMod_7cf53 : MethodName := ⟨RJ9, "floorMod", "(II)I"⟩
abbrev cJ9_max_7cf53 : ByteArray := prog_21_method_65_code
def yJ9_max_7cf53 : MethodName := ⟨RJ9, "max", "(II)I"⟩
abbrev cJ9_min_7cf53 : ByteArray := prog_21_method_69_code
def yJ9_min_7cf53 : MethodName := ⟨RJ9, "min", "(II)I"⟩
def RJxd2413 : String := "java/lang/Number"
def TJxd2413 : u_T := fun k => match k with
  | _ => ("", "", "", false)
def tyJxd2413 : Nat → FieldType := fun k => match k with
  | _ => .int
theorem nmJxd2413 : ∀ a, a < 0 → ∀ b, b < 0 → a ≠ b → (TJxd2413 a).2.1 ≠ (TJxd2413 b).2.1 := by decide +kernel
theorem tyJxd2413_ok : ∀ k, k < 0 → parseFieldDescriptor (TJxd2413 k).2.2.1 = some (tyJxd2413 k) := by decide +kernel
def RJ0 : String := "java/lang/String"
def TJ0 : u_T := fun k => match k with
  | 0 => ("java/lang/String", "value", "[B", true)
  | 1 => ("java/lang/String", "coder", "B", true)
  | 2 => ("java/lang/String", "hash", "I", false)
  | _ => ("java/lang/String", "hashIsZero", "Z", false)
def tyJ0 : Nat → FieldType := fun k => match k with
  | 0 => .array .byte
  | 1 => .byte
  | 2 => .int
  | _ => .boolean
theorem nmJ0 : ∀ a, a < 4 → ∀ b, b < 4 → a ≠ b → (TJ0 a).2.1 ≠ (TJ0 b).2.1 := by decide +kernel
theorem tyJ0_ok : ∀ k, k < 4 → parseFieldDescriptor (TJ0 k).2.2.1 = some (tyJ0 k) := by decide +kernel
abbrev cJ0_init_81219 : ByteArray := prog_24_method_53_code
def yJ0_init_81219 : MethodName := ⟨RJ0, "<init>", "(Ljava/lang/StringBuilder;)V"⟩
abbrev cJ0_length_8abf5 : ByteArray := prog_24_method_54_code
def yJ0_length_8abf5 : MethodName := ⟨RJ0, "length", "()I"⟩
abbrev cJ0_charAt_5068e : ByteArray := prog_24_method_56_code
def yJ0_charAt_5068e : MethodName := ⟨RJ0, "charAt", "(I)C"⟩
abbrev cJ0_getBytes_840e7 : ByteArray := prog_24_method_147_code
def yJ0_getBytes_840e7 : MethodName := ⟨RJ0, "getBytes", "([BIB)V"⟩
abbrev cJ0_init_db425 : ByteArray := prog_24_method_150_code
def yJ0_init_db425 : MethodName := ⟨RJ0, "<init>", "(Ljava/lang/AbstractStringBuilder;Ljava/lang/Void;)V"⟩
abbrev cJ0_coder_7d493 : ByteArray := prog_24_method_152_code
def yJ0_coder_7d493 : MethodName := ⟨RJ0, "coder", "()B"⟩
abbrev cJ0_isLatin1_aae02 : ByteArray := prog_24_method_154_code
def yJ0_isLatin1_aae02 : MethodName := ⟨RJ0, "isLatin1", "()Z"⟩
abbrev cJ0_checkIndex_df160 : ByteArray := prog_24_method_155_code
def yJ0_checkIndex_df160 : MethodName := ⟨RJ0, "checkIndex", "(II)V"⟩
abbrev cJ0_checkBoundsOffCount_cabcc : ByteArray := prog_24_method_157_code
def yJ0_checkBoundsOffCount_cabcc : MethodName := ⟨RJ0, "checkBoundsOffCount", "(III)I"⟩
abbrev cJ0_checkBoundsBeginEnd_23922 : ByteArray := prog_24_method_158_code
def yJ0_checkBoundsBeginEnd_23922 : MethodName := ⟨RJ0, "checkBoundsBeginEnd", "(III)V"⟩
def RJ4 : String := "java/lang/StringBuilder"
def TJ4 : u_T := fun k => match k with
  | 0 => ("java/lang/AbstractStringBuilder", "value", "[B", false)
  | 1 => ("java/lang/AbstractStringBuilder", "coder", "B", false)
  | 2 => ("java/lang/AbstractStringBuilder", "maybeLatin1", "Z", false)
  | _ => ("java/lang/AbstractStringBuilder", "count", "I", false)
def tyJ4 : Nat → FieldType := fun k => match k with
  | 0 => .array .byte
  | 1 => .byte
  | 2 => .boolean
  | _ => .int
theorem nmJ4 : ∀ a, a < 4 → ∀ b, b < 4 → a ≠ b → (TJ4 a).2.1 ≠ (TJ4 b).2.1 := by decide +kernel
theorem tyJ4_ok : ∀ k, k < 4 → parseFieldDescriptor (TJ4 k).2.2.1 = some (tyJ4 k) := by decide +kernel
abbrev cJ4_init_da8c8 : ByteArray := prog_25_method_1_code
def yJ4_init_da8c8 : MethodName := ⟨RJ4, "<init>", "()V"⟩
abbrev cJ4_append_15ec4 : ByteArray := prog_25_method_7_code
def yJ4_append_15ec4 : MethodName := ⟨RJ4, "append", "(Ljava/lang/String;)Ljava/lang/StringBuilder;"⟩
abbrev cJ4_append_bf812 : ByteArray := prog_25_method_15_code
def yJ4_append_bf812 : MethodName := ⟨RJ4, "append", "(I)Ljava/lang/StringBuilder;"⟩
abbrev cJ4_toString_0e30d : ByteArray := prog_25_method_42_code
def yJ4_toString_0e30d : MethodName := ⟨RJ4, "toString", "()Ljava/lang/String;"⟩
abbrev cJ4_length_8abf5 : ByteArray := prog_25_method_93_code
def yJ4_length_8abf5 : MethodName := ⟨RJ4, "length", "()I"⟩
def RJ1 : String := "java/lang/StringLatin1"
def TJ1 : u_T := fun k => match k with
  | _ => ("", "", "", false)
def tyJ1 : Nat → FieldType := fun k => match k with
  | _ => .int
theorem nmJ1 : ∀ a, a < 0 → ∀ b, b < 0 → a ≠ b → (TJ1 a).2.1 ≠ (TJ1 b).2.1 := by decide +kernel
theorem tyJ1_ok : ∀ k, k < 0 → parseFieldDescriptor (TJ1 k).2.2.1 = some (tyJ1 k) := by decide +kernel
abbrev cJ1_charAt_3b067 : ByteArray := prog_26_method_2_code
def yJ1_charAt_3b067 : MethodName := ⟨RJ1, "charAt", "([BI)C"⟩
abbrev cJ1_inflate_0e8fd : ByteArray := prog_26_method_50_code
def yJ1_inflate_0e8fd : MethodName := ⟨RJ1, "inflate", "([BI[BII)V"⟩
def RJ2 : String := "java/lang/StringUTF16"
def TJ2 : u_T := fun k => match k with
  | _ => ("", "", "", false)
def tyJ2 : Nat → FieldType := fun k => match k with
  | _ => .int
theorem nmJ2 : ∀ a, a < 0 → ∀ b, b < 0 → a ≠ b → (TJ2 a).2.1 ≠ (TJ2 b).2.1 := by decide +kernel
theorem tyJ2_ok : ∀ k, k < 0 → parseFieldDescriptor (TJ2 k).2.2.1 = some (tyJ2 k) := by decide +kernel
abbrev cJ2_newBytesFor_77867 : ByteArray := prog_27_method_2_code
def yJ2_newBytesFor_77867 : MethodName := ⟨RJ2, "newBytesFor", "(I)[B"⟩
abbrev cJ2_newBytesLength_0f7a4 : ByteArray := prog_27_method_3_code
def yJ2_newBytesLength_0f7a4 : MethodName := ⟨RJ2, "newBytesLength", "(I)I"⟩
abbrev cJ2_putChar_b72d1 : ByteArray := prog_27_method_4_code
def yJ2_putChar_b72d1 : MethodName := ⟨RJ2, "putChar", "([BII)V"⟩
abbrev cJ2_getChar_3b067 : ByteArray := prog_27_method_5_code
def yJ2_getChar_3b067 : MethodName := ⟨RJ2, "getChar", "([BI)C"⟩
abbrev cJ2_length_9d52b : ByteArray := prog_27_method_6_code
def yJ2_length_9d52b : MethodName := ⟨RJ2, "length", "([B)I"⟩
abbrev cJ2_coderFromArrayLen_85cad : ByteArray := prog_27_method_15_code
def yJ2_coderFromArrayLen_85cad : MethodName := ⟨RJ2, "coderFromArrayLen", "([BI)B"⟩
abbrev cJ2_compress_39247 : ByteArray := prog_27_method_17_code
def yJ2_compress_39247 : MethodName := ⟨RJ2, "compress", "([BII)[B"⟩
abbrev cJ2_compress_5af95 : ByteArray := prog_27_method_22_code
def yJ2_compress_5af95 : MethodName := ⟨RJ2, "compress", "([BI[BII)I"⟩
abbrev cJ2_getChars_46870 : ByteArray := prog_27_method_77_code
def yJ2_getChars_46870 : MethodName := ⟨RJ2, "getChars", "(III[B)I"⟩
abbrev cJ2_putCharsAt_cd4e5 : ByteArray := prog_27_method_81_code
def yJ2_putCharsAt_cd4e5 : MethodName := ⟨RJ2, "putCharsAt", "([BICCCC)I"⟩
abbrev cJ2_charAt_3b067 : ByteArray := prog_27_method_83_code
def yJ2_charAt_3b067 : MethodName := ⟨RJ2, "charAt", "([BI)C"⟩
abbrev cJ2_inflate_0e8fd : ByteArray := prog_27_method_86_code
def yJ2_inflate_0e8fd : MethodName := ⟨RJ2, "inflate", "([BI[BII)V"⟩
abbrev cJ2_getChars_ba4f3 : ByteArray := prog_27_method_89_code
def yJ2_getChars_ba4f3 : MethodName := ⟨RJ2, "getChars", "(II[B)I"⟩
abbrev cJ2_checkIndex_2214a : ByteArray := prog_27_method_91_code
def yJ2_checkIndex_2214a : MethodName := ⟨RJ2, "checkIndex", "(I[B)V"⟩
abbrev cJ2_checkBoundsBeginEnd_d044e : ByteArray := prog_27_method_93_code
def yJ2_checkBoundsBeginEnd_d044e : MethodName := ⟨RJ2, "checkBoundsBeginEnd", "(II[B)V"⟩
abbrev cJ2_checkBoundsOffCount_d044e : ByteArray := prog_27_method_94_code
def yJ2_checkBoundsOffCount_d044e : MethodName := ⟨RJ2, "checkBoundsOffCount", "(II[B)V"⟩
def RJ10 : String := "java/lang/System"
def TJ10 : u_T := fun k => match k with
  | _ => ("", "", "", false)
def tyJ10 : Nat → FieldType := fun k => match k with
  | _ => .int
theorem nmJ10 : ∀ a, a < 0 → ∀ b, b < 0 → a ≠ b → (TJ10 a).2.1 ≠ (TJ10 b).2.1 := by decide +kernel
theorem tyJ10_ok : ∀ k, k < 0 → parseFieldDescriptor (TJ10 k).2.2.1 = some (tyJ10 k) := by decide +kernel
def RJxfd54e : String := "java/lang/constant/Constable"
def TJxfd54e : u_T := fun k => match k with
  | _ => ("", "", "", false)
def tyJxfd54e : Nat → FieldType := fun k => match k with
  | _ => .int
theorem nmJxfd54e : ∀ a, a < 0 → ∀ b, b < 0 → a ≠ b → (TJxfd54e a).2.1 ≠ (TJxfd54e b).2.1 := by decide +kernel
theorem tyJxfd54e_ok : ∀ k, k < 0 → parseFieldDescriptor (TJxfd54e k).2.2.1 = some (tyJxfd54e k) := by decide +kernel
def RJx3cf43 : String := "java/lang/constant/ConstantDesc"
def TJx3cf43 : u_T := fun k => match k with
  | _ => ("", "", "", false)
def tyJx3cf43 : Nat → FieldType := fun k => match k with
  | _ => .int
theorem nmJx3cf43 : ∀ a, a < 0 → ∀ b, b < 0 → a ≠ b → (TJx3cf43 a).2.1 ≠ (TJx3cf43 b).2.1 := by decide +kernel
theorem tyJx3cf43_ok : ∀ k, k < 0 → parseFieldDescriptor (TJx3cf43 k).2.2.1 = some (tyJx3cf43 k) := by decide +kernel
def RJ7 : String := "java/util/Arrays"
def TJ7 : u_T := fun k => match k with
  | _ => ("", "", "", false)
def tyJ7 : Nat → FieldType := fun k => match k with
  | _ => .int
theorem nmJ7 : ∀ a, a < 0 → ∀ b, b < 0 → a ≠ b → (TJ7 a).2.1 ≠ (TJ7 b).2.1 := by decide +kernel
theorem tyJ7_ok : ∀ k, k < 0 → parseFieldDescriptor (TJ7 k).2.2.1 = some (tyJ7 k) := by decide +kernel
abbrev cJ7_copyOf_9075b : ByteArray := prog_33_method_121_code
def yJ7_copyOf_9075b : MethodName := ⟨RJ7, "copyOf", "([BI)[B"⟩
abbrev cJ7_checkLength_df160 : ByteArray := prog_33_method_131_code
def yJ7_checkLength_df160 : MethodName := ⟨RJ7, "checkLength", "(II)V"⟩
abbrev cJ7_copyOfRange_39247 : ByteArray := prog_33_method_132_code
def yJ7_copyOfRange_39247 : MethodName := ⟨RJ7, "copyOfRange", "([BII)[B"⟩
abbrev cJ7_copyOfRangeByte_39247 : ByteArray := prog_33_method_133_code
def yJ7_copyOfRangeByte_39247 : MethodName := ⟨RJ7, "copyOfRangeByte", "([BII)[B"⟩
def RJ8 : String := "jdk/internal/util/ArraysSupport"
def TJ8 : u_T := fun k => match k with
  | _ => ("", "", "", false)
def tyJ8 : Nat → FieldType := fun k => match k with
  | _ => .int
theorem nmJ8 : ∀ a, a < 0 → ∀ b, b < 0 → a ≠ b → (TJ8 a).2.1 ≠ (TJ8 b).2.1 := by decide +kernel
theorem tyJ8_ok : ∀ k, k < 0 → parseFieldDescriptor (TJ8 k).2.2.1 = some (tyJ8 k) := by decide +kernel
abbrev cJ8_newLength_cabcc : ByteArray := prog_35_method_27_code
def yJ8_newLength_cabcc : MethodName := ⟨RJ8, "newLength", "(III)I"⟩
abbrev cJ8_hugeLength_7cf53 : ByteArray := prog_35_method_28_code
def yJ8_hugeLength_7cf53 : MethodName := ⟨RJ8, "hugeLength", "(II)I"⟩
def RJ3 : String := "jdk/internal/util/Preconditions"
def TJ3 : u_T := fun k => match k with
  | _ => ("", "", "", false)
def tyJ3 : Nat → FieldType := fun k => match k with
  | _ => .int
theorem nmJ3 : ∀ a, a < 0 → ∀ b, b < 0 → a ≠ b → (TJ3 a).2.1 ≠ (TJ3 b).2.1 := by decide +kernel
theorem tyJ3_ok : ∀ k, k < 0 → parseFieldDescriptor (TJ3 k).2.2.1 = some (tyJ3 k) := by decide +kernel
abbrev cJ3_checkIndex_8e157 : ByteArray := prog_36_method_11_code
def yJ3_checkIndex_8e157 : MethodName := ⟨RJ3, "checkIndex", "(IILjava/util/function/BiFunction;)I"⟩
abbrev cJ3_checkFromToIndex_8c36e : ByteArray := prog_36_method_12_code
def yJ3_checkFromToIndex_8c36e : MethodName := ⟨RJ3, "checkFromToIndex", "(IIILjava/util/function/BiFunction;)I"⟩
abbrev cJ3_checkFromIndexSize_8c36e : ByteArray := prog_36_method_13_code
def yJ3_checkFromIndexSize_8c36e : MethodName := ⟨RJ3, "checkFromIndexSize", "(IIILjava/util/function/BiFunction;)I"⟩
def RL : String := "FerryTicketsLaw"
abbrev cL_cell : ByteArray := method_2_code
def yL_cell : MethodName := ⟨RL, "cell", "([II)I"⟩
abbrev cL_pick : ByteArray := method_3_code
def yL_pick : MethodName := ⟨RL, "pick", "([III)I"⟩
abbrev cL_letter : ByteArray := method_4_code
def yL_letter : MethodName := ⟨RL, "letter", "(LFerryTickets;C)I"⟩
abbrev cL_unletter : ByteArray := method_5_code
def yL_unletter : MethodName := ⟨RL, "unletter", "(LFerryTickets;)I"⟩
abbrev cL_print : ByteArray := method_6_code
def yL_print : MethodName := ⟨RL, "print", "(LFerryTickets;III)I"⟩
abbrev cL_throwAway : ByteArray := method_7_code
def yL_throwAway : MethodName := ⟨RL, "throwAway", "(LFerryTickets;I)I"⟩
abbrev cL_mood : ByteArray := method_8_code
def yL_mood : MethodName := ⟨RL, "mood", "(LFerryTickets;II)I"⟩
abbrev cL_pier : ByteArray := method_9_code
def yL_pier : MethodName := ⟨RL, "pier", "(LFerryTickets;IZ)I"⟩
abbrev cL_ticketOf : ByteArray := method_10_code
def yL_ticketOf : MethodName := ⟨RL, "ticketOf", "(LFerryTickets;II)I"⟩
abbrev cL_wordAt : ByteArray := method_11_code
def yL_wordAt : MethodName := ⟨RL, "wordAt", "(LFerryTickets;II)I"⟩
abbrev cL_punch : ByteArray := method_12_code
def yL_punch : MethodName := ⟨RL, "punch", "(LFerryTickets;IZI)I"⟩
abbrev cL_wet : ByteArray := method_13_code
def yL_wet : MethodName := ⟨RL, "wet", "(LFerryTickets;IZI)I"⟩
abbrev cL_tear : ByteArray := method_14_code
def yL_tear : MethodName := ⟨RL, "tear", "(LFerryTickets;I)I"⟩
abbrev cL_lose : ByteArray := method_15_code
def yL_lose : MethodName := ⟨RL, "lose", "(LFerryTickets;IZ)I"⟩
abbrev cL_find : ByteArray := method_16_code
def yL_find : MethodName := ⟨RL, "find", "(LFerryTickets;IZ)I"⟩
abbrev cL_halfOf : ByteArray := method_17_code
def yL_halfOf : MethodName := ⟨RL, "halfOf", "(LFerryTickets;IZI)I"⟩
abbrev cL_readAt : ByteArray := method_18_code
def yL_readAt : MethodName := ⟨RL, "readAt", "(LFerryTickets;IZI)I"⟩
abbrev cL_doAgree : ByteArray := method_19_code
def yL_doAgree : MethodName := ⟨RL, "doAgree", "(LFerryTickets;IZ)I"⟩
abbrev cL_moodFor : ByteArray := method_20_code
def yL_moodFor : MethodName := ⟨RL, "moodFor", "(LFerryTickets;IZ)I"⟩
abbrev cL_would : ByteArray := method_21_code
def yL_would : MethodName := ⟨RL, "would", "(LFerryTickets;IZI)I"⟩
abbrev cL_likely : ByteArray := method_22_code
def yL_likely : MethodName := ⟨RL, "likely", "(LFerryTickets;IZ)I"⟩
abbrev cL_ride : ByteArray := method_23_code
def yL_ride : MethodName := ⟨RL, "ride", "(LFerryTickets;IZ)I"⟩
abbrev cL_hinders : ByteArray := method_24_code
def yL_hinders : MethodName := ⟨RL, "hinders", "(LFerryTickets;IZ)I"⟩
abbrev cL_daysLeft : ByteArray := method_25_code
def yL_daysLeft : MethodName := ⟨RL, "daysLeft", "(LFerryTickets;I)I"⟩
abbrev cL_sharing : ByteArray := method_26_code
def yL_sharing : MethodName := ⟨RL, "sharing", "(LFerryTickets;I)I"⟩
abbrev cL_often : ByteArray := method_27_code
def yL_often : MethodName := ⟨RL, "often", "(LFerryTickets;C)I"⟩
abbrev cL_ranked : ByteArray := method_28_code
def yL_ranked : MethodName := ⟨RL, "ranked", "(LFerryTickets;II)I"⟩
abbrev cL_line : ByteArray := method_29_code
def yL_line : MethodName := ⟨RL, "line", "(LFerryTickets;I)I"⟩
abbrev cL_holeLine : ByteArray := method_30_code
def yL_holeLine : MethodName := ⟨RL, "holeLine", "(LFerryTickets;IZ)I"⟩
abbrev cL_refusal : ByteArray := method_32_code
def yL_refusal : MethodName := ⟨RL, "refusal", "(LFerryTickets;Z)I"⟩
abbrev cL_account : ByteArray := method_33_code
def yL_account : MethodName := ⟨RL, "account", "(LFerryTickets;I)I"⟩
abbrev cL_meanWet : ByteArray := method_34_code
def yL_meanWet : MethodName := ⟨RL, "meanWet", "(LFerryTickets;)D"⟩
abbrev cL_readShare : ByteArray := method_35_code
def yL_readShare : MethodName := ⟨RL, "readShare", "(LFerryTickets;)F"⟩
abbrev cL_append : ByteArray := method_36_code
def yL_append : MethodName := ⟨RL, "append", "(LFerryTickets;I)I"⟩
abbrev cL_read : ByteArray := method_37_code
def yL_read : MethodName := ⟨RL, "read", "(LFerryTickets;)I"⟩
abbrev cL_undo : ByteArray := method_40_code
def yL_undo : MethodName := ⟨RL, "undo", "(LFerryTickets;)I"⟩
abbrev cL_restore : ByteArray := method_41_code
def yL_restore : MethodName := ⟨RL, "restore", "(LFerryTickets;)I"⟩
abbrev cL_reads : ByteArray := method_42_code
def yL_reads : MethodName := ⟨RL, "reads", "(LFerryTickets;Ljava/lang/String;)I"⟩
abbrev cL_law : ByteArray := code
def yL_law : MethodName := ⟨RL, "law", "([I)Z"⟩
abbrev cL_does : ByteArray := method_47_code
def yL_does : MethodName := ⟨RL, "does", "([IIILFerryTickets;IZI)I"⟩
abbrev cL_sum : ByteArray := method_48_code
def yL_sum : MethodName := ⟨RL, "sum", "(LFerryTickets;)J"⟩
abbrev cL_isHalf : ByteArray := method_49_code
def yL_isHalf : MethodName := ⟨RL, "isHalf", "(LFerryTickets;IZ)Z"⟩
abbrev cL_isWhole : ByteArray := method_50_code
def yL_isWhole : MethodName := ⟨RL, "isWhole", "(LFerryTickets;)Z"⟩
abbrev cL_measure : ByteArray := method_51_code
def yL_measure : MethodName := ⟨RL, "measure", "(LFerryTickets;II)I"⟩
abbrev cL_isKept : ByteArray := method_52_code
def yL_isKept : MethodName := ⟨RL, "isKept", "(LFerryTickets;[JI)Z"⟩
