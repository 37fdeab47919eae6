theorem iX0 : ∀ w ∈ u_ws RX0 TX0 5, w ∈ lwA := by
  intro w hw
  obtain ⟨k, hk, rfl⟩ := List.mem_map.mp hw
  have hk := List.mem_range.mp hk
  rcases (show k = 0 ∨ k = 1 ∨ k = 2 ∨ k = 3 ∨ k = 4 by omega) with rfl | rfl | rfl | rfl | rfl
  · exact mA 162 (by decide +kernel) rfl
  · exact mA 164 (by decide +kernel) rfl
  · exact mA 166 (by decide +kernel) rfl
  · exact mA 168 (by decide +kernel) rfl
  · exact mA 170 (by decide +kernel) rfl
theorem iX1 : ∀ w ∈ u_ws RX1 TX1 10, w ∈ lwA := by
  intro w hw
  obtain ⟨k, hk, rfl⟩ := List.mem_map.mp hw
  have hk := List.mem_range.mp hk
  rcases (show k = 0 ∨ k = 1 ∨ k = 2 ∨ k = 3 ∨ k = 4 ∨ k = 5 ∨ k = 6 ∨ k = 7 ∨ k = 8 ∨ k = 9 by omega) with rfl | rfl | rfl | rfl | rfl | rfl | rfl | rfl | rfl | rfl
  · exact mA 236 (by decide +kernel) rfl
  · exact mA 238 (by decide +kernel) rfl
  · exact mA 240 (by decide +kernel) rfl
  · exact mA 242 (by decide +kernel) rfl
  · exact mA 244 (by decide +kernel) rfl
  · exact mA 246 (by decide +kernel) rfl
  · exact mA 248 (by decide +kernel) rfl
  · exact mA 250 (by decide +kernel) rfl
  · exact mA 252 (by decide +kernel) rfl
  · exact mA 254 (by decide +kernel) rfl
theorem iX2 : ∀ w ∈ u_ws RX2 TX2 8, w ∈ lwA := by
  intro w hw
  obtain ⟨k, hk, rfl⟩ := List.mem_map.mp hw
  have hk := List.mem_range.mp hk
  rcases (show k = 0 ∨ k = 1 ∨ k = 2 ∨ k = 3 ∨ k = 4 ∨ k = 5 ∨ k = 6 ∨ k = 7 by omega) with rfl | rfl | rfl | rfl | rfl | rfl | rfl | rfl
  · exact mA 199 (by decide +kernel) rfl
  · exact mA 201 (by decide +kernel) rfl
  · exact mA 203 (by decide +kernel) rfl
  · exact mA 205 (by decide +kernel) rfl
  · exact mA 207 (by decide +kernel) rfl
  · exact mA 209 (by decide +kernel) rfl
  · exact mA 211 (by decide +kernel) rfl
  · exact mA 213 (by decide +kernel) rfl
theorem iX3 : ∀ w ∈ u_ws RX3 TX3 2, w ∈ lwA := by
  intro w hw
  obtain ⟨k, hk, rfl⟩ := List.mem_map.mp hw
  have hk := List.mem_range.mp hk
  rcases (show k = 0 ∨ k = 1 by omega) with rfl | rfl
  · exact mA 127 (by decide +kernel) rfl
  · exact mA 129 (by decide +kernel) rfl
theorem iX4 : ∀ w ∈ u_ws RX4 TX4 15, w ∈ lwA := by
  intro w hw
  obtain ⟨k, hk, rfl⟩ := List.mem_map.mp hw
  have hk := List.mem_range.mp hk
  rcases (show k = 0 ∨ k = 1 ∨ k = 2 ∨ k = 3 ∨ k = 4 ∨ k = 5 ∨ k = 6 ∨ k = 7 ∨ k = 8 ∨ k = 9 ∨ k = 10 ∨ k = 11 ∨ k = 12 ∨ k = 13 ∨ k = 14 by omega) with rfl | rfl | rfl | rfl | rfl | rfl | rfl | rfl | rfl | rfl | rfl | rfl | rfl | rfl | rfl
  · exact mA 275 (by decide +kernel) rfl
  · exact mA 277 (by decide +kernel) rfl
  · exact mA 279 (by decide +kernel) rfl
  · exact mA 281 (by decide +kernel) rfl
  · exact mA 283 (by decide +kernel) rfl
  · exact mA 285 (by decide +kernel) rfl
  · exact mA 287 (by decide +kernel) rfl
  · exact mA 289 (by decide +kernel) rfl
  · exact mA 291 (by decide +kernel) rfl
  · exact mA 293 (by decide +kernel) rfl
  · exact mA 295 (by decide +kernel) rfl
  · exact mA 297 (by decide +kernel) rfl
  · exact mA 299 (by decide +kernel) rfl
  · exact mA 301 (by decide +kernel) rfl
  · exact mA 303 (by decide +kernel) rfl
theorem iJ4 : ∀ w ∈ u_ws RJ4 TJ4 4, w ∈ lwA := by
  intro w hw
  obtain ⟨k, hk, rfl⟩ := List.mem_map.mp hw
  have hk := List.mem_range.mp hk
  rcases (show k = 0 ∨ k = 1 ∨ k = 2 ∨ k = 3 by omega) with rfl | rfl | rfl | rfl
  · exact mA 660 (by decide +kernel) rfl
  · exact mA 662 (by decide +kernel) rfl
  · exact mA 664 (by decide +kernel) rfl
  · exact mA 666 (by decide +kernel) rfl
theorem iJ0 : ∀ w ∈ u_ws RJ0 TJ0 4, w ∈ lwA := by
  intro w hw
  obtain ⟨k, hk, rfl⟩ := List.mem_map.mp hw
  have hk := List.mem_range.mp hk
  rcases (show k = 0 ∨ k = 1 ∨ k = 2 ∨ k = 3 by omega) with rfl | rfl | rfl | rfl
  · exact mA 392 (by decide +kernel) rfl
  · exact mA 394 (by decide +kernel) rfl
  · exact mA 859 (by decide +kernel) rfl
  · exact mA 861 (by decide +kernel) rfl
theorem q_1 : Cond.selects yX4_existing.cls yX4_existing yX4_existing ∈ lwA := mA 1 (by decide +kernel) rfl
theorem q_2 : Cond.selects yX1_hasTicket.cls yX1_hasTicket yX1_hasTicket ∈ lwA := mA 2 (by decide +kernel) rfl
theorem q_3 : Cond.selects yX2_half.cls yX2_half yX2_half ∈ lwA := mA 3 (by decide +kernel) rfl
theorem q_4 : Cond.selects yX0_holesWhenWet.cls yX0_holesWhenWet yX0_holesWhenWet ∈ lwA := mA 4 (by decide +kernel) rfl
theorem q_5 : Cond.selects yX3_letterAt.cls yX3_letterAt yX3_letterAt ∈ lwA := mA 5 (by decide +kernel) rfl
theorem q_6 : Cond.selects yX3_hasPlace.cls yX3_hasPlace yX3_hasPlace ∈ lwA := mA 6 (by decide +kernel) rfl
theorem q_7 : Cond.selects yX0_holesFor.cls yX0_holesFor yX0_holesFor ∈ lwA := mA 7 (by decide +kernel) rfl
theorem q_8 : Cond.selects yX0_rightLetters.cls yX0_rightLetters yX0_rightLetters ∈ lwA := mA 8 (by decide +kernel) rfl
theorem q_9 : Cond.selects yX0_seenAs.cls yX0_seenAs yX0_seenAs ∈ lwA := mA 9 (by decide +kernel) rfl
theorem q_10 : Cond.selects yX0_wetterBy.cls yX0_wetterBy yX0_wetterBy ∈ lwA := mA 10 (by decide +kernel) rfl
theorem q_11 : Cond.selects yX1_hindrance.cls yX1_hindrance yX1_hindrance ∈ lwA := mA 11 (by decide +kernel) rfl
theorem q_12 : Cond.selects yX1_isClosed.cls yX1_isClosed yX1_isClosed ∈ lwA := mA 12 (by decide +kernel) rfl
theorem q_13 : Cond.selects yX0_firstWrongPlace.cls yX0_firstWrongPlace yX0_firstWrongPlace ∈ lwA := mA 13 (by decide +kernel) rfl
theorem q_14 : Cond.selects yX1_openPiers.cls yX1_openPiers yX1_openPiers ∈ lwA := mA 14 (by decide +kernel) rfl
theorem q_15 : Cond.selects yX1_tornTickets.cls yX1_tornTickets yX1_tornTickets ∈ lwA := mA 15 (by decide +kernel) rfl
theorem q_16 : Cond.selects yX1_lostHalves.cls yX1_lostHalves yX1_lostHalves ∈ lwA := mA 16 (by decide +kernel) rfl
theorem q_17 : Cond.selects yX1_punchedHalves.cls yX1_punchedHalves yX1_punchedHalves ∈ lwA := mA 17 (by decide +kernel) rfl
theorem q_18 : Cond.selects yX1_holesLeft.cls yX1_holesLeft yX1_holesLeft ∈ lwA := mA 18 (by decide +kernel) rfl
theorem q_19 : Cond.selects yX2_holesLeft.cls yX2_holesLeft yX2_holesLeft ∈ lwA := mA 19 (by decide +kernel) rfl
theorem q_20 : Cond.selects yX4_faultOfInput.cls yX4_faultOfInput yX4_faultOfInput ∈ lwA := mA 20 (by decide +kernel) rfl
theorem q_21 : Cond.selects yX4_endOfOrder.cls yX4_endOfOrder yX4_endOfOrder ∈ lwA := mA 21 (by decide +kernel) rfl
theorem q_22 : Cond.selects yX4_signAt.cls yX4_signAt yX4_signAt ∈ lwA := mA 22 (by decide +kernel) rfl
theorem q_23 : Cond.selects yX4_fittingCharacters.cls yX4_fittingCharacters yX4_fittingCharacters ∈ lwA := mA 23 (by decide +kernel) rfl
theorem q_24 : Cond.selects yX4_lettersFrom.cls yX4_lettersFrom yX4_lettersFrom ∈ lwA := mA 24 (by decide +kernel) rfl
theorem q_25 : Cond.selects yX4_begin.cls yX4_begin yX4_begin ∈ lwA := mA 25 (by decide +kernel) rfl
theorem q_26 : Cond.selects yX1_take.cls yX1_take yX1_take ∈ lwA := mA 26 (by decide +kernel) rfl
theorem q_27 : Cond.selects yX2_take.cls yX2_take yX2_take ∈ lwA := mA 27 (by decide +kernel) rfl
theorem q_28 : Cond.selects yX3_take.cls yX3_take yX3_take ∈ lwA := mA 28 (by decide +kernel) rfl
theorem q_29 : Cond.selects yX0_take.cls yX0_take yX0_take ∈ lwA := mA 29 (by decide +kernel) rfl
theorem q_30 : Cond.selects yX4_carryOutAll.cls yX4_carryOutAll yX4_carryOutAll ∈ lwA := mA 30 (by decide +kernel) rfl
theorem q_31 : Cond.selects yX4_carryOut.cls yX4_carryOut yX4_carryOut ∈ lwA := mA 31 (by decide +kernel) rfl
theorem q_32 : Cond.selects yX4_digitAt.cls yX4_digitAt yX4_digitAt ∈ lwA := mA 32 (by decide +kernel) rfl
theorem q_33 : Cond.selects yX4_carryOutPrint.cls yX4_carryOutPrint yX4_carryOutPrint ∈ lwA := mA 33 (by decide +kernel) rfl
theorem q_34 : Cond.selects yX3_add.cls yX3_add yX3_add ∈ lwA := mA 34 (by decide +kernel) rfl
theorem q_35 : Cond.selects yX4_tryPrint.cls yX4_tryPrint yX4_tryPrint ∈ lwA := mA 35 (by decide +kernel) rfl
theorem q_36 : Cond.selects yX3_vowelCount.cls yX3_vowelCount yX3_vowelCount ∈ lwA := mA 36 (by decide +kernel) rfl
theorem q_37 : Cond.selects yX4_refuse.cls yX4_refuse yX4_refuse ∈ lwA := mA 37 (by decide +kernel) rfl
theorem q_38 : Cond.selects yX2_start.cls yX2_start yX2_start ∈ lwA := mA 38 (by decide +kernel) rfl
theorem q_39 : Cond.selects yX0_start.cls yX0_start yX0_start ∈ lwA := mA 39 (by decide +kernel) rfl
theorem q_40 : Cond.selects yX4_tryPunch.cls yX4_tryPunch yX4_tryPunch ∈ lwA := mA 40 (by decide +kernel) rfl
theorem q_41 : Cond.selects yX4_tryWet.cls yX4_tryWet yX4_tryWet ∈ lwA := mA 41 (by decide +kernel) rfl
theorem q_42 : Cond.selects yX2_getWet.cls yX2_getWet yX2_getWet ∈ lwA := mA 42 (by decide +kernel) rfl
theorem q_43 : Cond.selects yX4_tryTear.cls yX4_tryTear yX4_tryTear ∈ lwA := mA 43 (by decide +kernel) rfl
theorem q_44 : Cond.selects yX4_tryLost.cls yX4_tryLost yX4_tryLost ∈ lwA := mA 44 (by decide +kernel) rfl
theorem q_45 : Cond.selects yX4_tryRide.cls yX4_tryRide yX4_tryRide ∈ lwA := mA 45 (by decide +kernel) rfl
theorem q_46 : Cond.selects yX1_hindranceDetail.cls yX1_hindranceDetail yX1_hindranceDetail ∈ lwA := mA 46 (by decide +kernel) rfl
theorem q_47 : Cond.selects yX4_tryMood.cls yX4_tryMood yX4_tryMood ∈ lwA := mA 47 (by decide +kernel) rfl
theorem q_48 : Cond.selects yX4_tryPier.cls yX4_tryPier yX4_tryPier ∈ lwA := mA 48 (by decide +kernel) rfl
theorem q_49 : Cond.selects yX4_tryThrowAway.cls yX4_tryThrowAway yX4_tryThrowAway ∈ lwA := mA 49 (by decide +kernel) rfl
theorem q_50 : Cond.selects yX1_removeTicket.cls yX1_removeTicket yX1_removeTicket ∈ lwA := mA 50 (by decide +kernel) rfl
theorem q_51 : Cond.selects yX4_letDayGoBy.cls yX4_letDayGoBy yX4_letDayGoBy ∈ lwA := mA 51 (by decide +kernel) rfl
theorem q_52 : Cond.selects yX4_remember.cls yX4_remember yX4_remember ∈ lwA := mA 52 (by decide +kernel) rfl
theorem q_53 : Cond.selects yX4_tryLetter.cls yX4_tryLetter yX4_tryLetter ∈ lwA := mA 53 (by decide +kernel) rfl
theorem q_54 : Cond.selects yX4_settle.cls yX4_settle yX4_settle ∈ lwA := mA 54 (by decide +kernel) rfl
theorem q_55 : Cond.selects yX4_tryUnletter.cls yX4_tryUnletter yX4_tryUnletter ∈ lwA := mA 55 (by decide +kernel) rfl
theorem q_56 : Cond.selects yX1_moodOf.cls yX1_moodOf yX1_moodOf ∈ lwA := mA 56 (by decide +kernel) rfl
theorem q_57 : Cond.selects yX0_seen.cls yX0_seen yX0_seen ∈ lwA := mA 57 (by decide +kernel) rfl
theorem q_58 : Cond.selects yX0_unlikeLetters.cls yX0_unlikeLetters yX0_unlikeLetters ∈ lwA := mA 58 (by decide +kernel) rfl
theorem q_59 : Cond.selects yX4_write.cls yX4_write yX4_write ∈ lwA := mA 59 (by decide +kernel) rfl
theorem q_60 : Cond.selects yX3_isSame.cls yX3_isSame yX3_isSame ∈ lwA := mA 60 (by decide +kernel) rfl
theorem q_61 : Cond.selects yX2_isSameByHoles.cls yX2_isSameByHoles yX2_isSameByHoles ∈ lwA := mA 61 (by decide +kernel) rfl
theorem q_62 : Cond.selects yX2_isSameByReading.cls yX2_isSameByReading yX2_isSameByReading ∈ lwA := mA 62 (by decide +kernel) rfl
theorem q_63 : Cond.selects yX4_writeHalf.cls yX4_writeHalf yX4_writeHalf ∈ lwA := mA 63 (by decide +kernel) rfl
theorem q_64 : Cond.selects yX1_ticketsAhead.cls yX1_ticketsAhead yX1_ticketsAhead ∈ lwA := mA 64 (by decide +kernel) rfl
theorem q_65 : Cond.selects yX2_measured.cls yX2_measured yX2_measured ∈ lwA := mA 65 (by decide +kernel) rfl
theorem q_66 : Cond.selects yX2_wetness.cls yX2_wetness yX2_wetness ∈ lwA := mA 66 (by decide +kernel) rfl
theorem q_67 : Cond.selects yX3_countOf.cls yX3_countOf yX3_countOf ∈ lwA := mA 67 (by decide +kernel) rfl
theorem q_68 : Cond.selects yX1_firstWith.cls yX1_firstWith yX1_firstWith ∈ lwA := mA 68 (by decide +kernel) rfl
theorem q_69 : Cond.selects yX1_rightHalves.cls yX1_rightHalves yX1_rightHalves ∈ lwA := mA 69 (by decide +kernel) rfl
theorem q_70 : Cond.selects yX0_isReadRightly.cls yX0_isReadRightly yX0_isReadRightly ∈ lwA := mA 70 (by decide +kernel) rfl
theorem q_71 : Cond.selects yX0_isRightWhileDry.cls yX0_isRightWhileDry yX0_isRightWhileDry ∈ lwA := mA 71 (by decide +kernel) rfl
theorem q_73 : Cond.initialized RX4 ∈ lwA := mA 73 (by decide +kernel) rfl
theorem q_74 : Cond.initialized RX1 ∈ lwA := mA 74 (by decide +kernel) rfl
theorem q_75 : Cond.initialized RX3 ∈ lwA := mA 75 (by decide +kernel) rfl
theorem q_76 : Cond.initialized RX2 ∈ lwA := mA 76 (by decide +kernel) rfl
theorem q_77 : Cond.initialized RX0 ∈ lwA := mA 77 (by decide +kernel) rfl
theorem q_81 : Cond.initialized "java/lang/IllegalArgumentException" ∈ lwA := mA 81 (by decide +kernel) rfl
theorem q_82 : Cond.initialized "java/lang/IndexOutOfBoundsException" ∈ lwA := mA 82 (by decide +kernel) rfl
theorem q_85 : Cond.initialized RJ9 ∈ lwA := mA 85 (by decide +kernel) rfl
theorem q_89 : Cond.initialized "java/util/NoSuchElementException" ∈ lwA := mA 89 (by decide +kernel) rfl
theorem q_97 : Cond.initialized "java/lang/IllegalStateException" ∈ lwA := mA 97 (by decide +kernel) rfl
theorem q_98 : Cond.initialized "java/lang/UnsupportedOperationException" ∈ lwA := mA 98 (by decide +kernel) rfl
theorem q_99 : Cond.initialized "java/lang/ArithmeticException" ∈ lwA := mA 99 (by decide +kernel) rfl
theorem q_122 : Cond.fieldLink RX3 9 "FerryTickets$Word" "letters" "[C" ∈ lwA := mA 122 (by decide +kernel) rfl
theorem q_123 : Cond.fieldLink RX3 15 "FerryTickets$Word" "length" "I" ∈ lwA := mA 123 (by decide +kernel) rfl
theorem q_124 : Cond.fieldLinkNest RX4 86 "FerryTickets$Word" "length" "I" "FerryTickets" ∈ lwN := mN 124 (by decide +kernel) rfl
theorem q_125 : Cond.fieldLinkNest RX0 34 "FerryTickets$Word" "length" "I" "FerryTickets" ∈ lwN := mN 125 (by decide +kernel) rfl
theorem q_126 : Cond.fieldLinkNest RX2 76 "FerryTickets$Word" "length" "I" "FerryTickets" ∈ lwN := mN 126 (by decide +kernel) rfl
theorem q_146 : Cond.fieldLink RX0 9 "FerryTickets$Half" "isPunched" "Z" ∈ lwA := mA 146 (by decide +kernel) rfl
theorem q_147 : Cond.fieldLinkNest RX2 79 "FerryTickets$Half" "isPunched" "Z" "FerryTickets" ∈ lwN := mN 147 (by decide +kernel) rfl
theorem q_148 : Cond.fieldLinkNest RX1 85 "FerryTickets$Half" "isPunched" "Z" "FerryTickets" ∈ lwN := mN 148 (by decide +kernel) rfl
theorem q_149 : Cond.fieldLinkNest RX4 195 "FerryTickets$Half" "isPunched" "Z" "FerryTickets" ∈ lwN := mN 149 (by decide +kernel) rfl
theorem q_150 : Cond.fieldLink RX0 15 "FerryTickets$Half" "keptMood" "I" ∈ lwA := mA 150 (by decide +kernel) rfl
theorem q_151 : Cond.fieldLinkNest RX2 90 "FerryTickets$Half" "keptMood" "I" "FerryTickets" ∈ lwN := mN 151 (by decide +kernel) rfl
theorem q_152 : Cond.fieldLinkNest RX4 198 "FerryTickets$Half" "keptMood" "I" "FerryTickets" ∈ lwN := mN 152 (by decide +kernel) rfl
theorem q_153 : Cond.fieldLink RX0 19 "FerryTickets$Half" "wetness" "I" ∈ lwA := mA 153 (by decide +kernel) rfl
theorem q_154 : Cond.fieldLinkNest RX2 63 "FerryTickets$Half" "wetness" "I" "FerryTickets" ∈ lwN := mN 154 (by decide +kernel) rfl
theorem q_155 : Cond.fieldLinkNest RX4 179 "FerryTickets$Half" "wetness" "I" "FerryTickets" ∈ lwN := mN 155 (by decide +kernel) rfl
theorem q_156 : Cond.fieldLink RX0 22 "FerryTickets$Half" "isLost" "Z" ∈ lwA := mA 156 (by decide +kernel) rfl
theorem q_157 : Cond.fieldLinkNest RX1 77 "FerryTickets$Half" "isLost" "Z" "FerryTickets" ∈ lwN := mN 157 (by decide +kernel) rfl
theorem q_158 : Cond.fieldLinkNest RX4 201 "FerryTickets$Half" "isLost" "Z" "FerryTickets" ∈ lwN := mN 158 (by decide +kernel) rfl
theorem q_159 : Cond.fieldLink RX0 25 "FerryTickets$Half" "isRidden" "Z" ∈ lwA := mA 159 (by decide +kernel) rfl
theorem q_160 : Cond.fieldLinkNest RX1 110 "FerryTickets$Half" "isRidden" "Z" "FerryTickets" ∈ lwN := mN 160 (by decide +kernel) rfl
theorem q_161 : Cond.fieldLinkNest RX4 204 "FerryTickets$Half" "isRidden" "Z" "FerryTickets" ∈ lwN := mN 161 (by decide +kernel) rfl
theorem q_175 : Cond.fieldLink RX2 12 "FerryTickets$Ticket" "word" "LFerryTickets$Word;" ∈ lwA := mA 175 (by decide +kernel) rfl
theorem q_176 : Cond.fieldLinkNest RX4 119 "FerryTickets$Ticket" "word" "LFerryTickets$Word;" "FerryTickets" ∈ lwN := mN 176 (by decide +kernel) rfl
theorem q_177 : Cond.fieldLinkNest RX1 88 "FerryTickets$Ticket" "word" "LFerryTickets$Word;" "FerryTickets" ∈ lwN := mN 177 (by decide +kernel) rfl
theorem q_178 : Cond.fieldLink RX2 18 "FerryTickets$Ticket" "from" "I" ∈ lwA := mA 178 (by decide +kernel) rfl
theorem q_179 : Cond.fieldLinkNest RX4 127 "FerryTickets$Ticket" "from" "I" "FerryTickets" ∈ lwN := mN 179 (by decide +kernel) rfl
theorem q_180 : Cond.fieldLinkNest RX1 119 "FerryTickets$Ticket" "from" "I" "FerryTickets" ∈ lwN := mN 180 (by decide +kernel) rfl
theorem q_181 : Cond.fieldLink RX2 22 "FerryTickets$Ticket" "to" "I" ∈ lwA := mA 181 (by decide +kernel) rfl
theorem q_182 : Cond.fieldLinkNest RX4 130 "FerryTickets$Ticket" "to" "I" "FerryTickets" ∈ lwN := mN 182 (by decide +kernel) rfl
theorem q_183 : Cond.fieldLinkNest RX1 125 "FerryTickets$Ticket" "to" "I" "FerryTickets" ∈ lwN := mN 183 (by decide +kernel) rfl
theorem q_184 : Cond.fieldLink RX2 25 "FerryTickets$Ticket" "clause" "I" ∈ lwA := mA 184 (by decide +kernel) rfl
theorem q_185 : Cond.fieldLinkNest RX4 133 "FerryTickets$Ticket" "clause" "I" "FerryTickets" ∈ lwN := mN 185 (by decide +kernel) rfl
theorem q_186 : Cond.fieldLinkNest RX1 116 "FerryTickets$Ticket" "clause" "I" "FerryTickets" ∈ lwN := mN 186 (by decide +kernel) rfl
theorem q_187 : Cond.fieldLink RX2 28 "FerryTickets$Ticket" "isTorn" "Z" ∈ lwA := mA 187 (by decide +kernel) rfl
theorem q_188 : Cond.fieldLinkNest RX1 69 "FerryTickets$Ticket" "isTorn" "Z" "FerryTickets" ∈ lwN := mN 188 (by decide +kernel) rfl
theorem q_189 : Cond.fieldLinkNest RX4 136 "FerryTickets$Ticket" "isTorn" "Z" "FerryTickets" ∈ lwN := mN 189 (by decide +kernel) rfl
theorem q_190 : Cond.fieldLink RX2 32 "FerryTickets$Ticket" "outDay" "I" ∈ lwA := mA 190 (by decide +kernel) rfl
theorem q_191 : Cond.fieldLinkNest RX4 139 "FerryTickets$Ticket" "outDay" "I" "FerryTickets" ∈ lwN := mN 191 (by decide +kernel) rfl
theorem q_192 : Cond.fieldLinkNest RX1 113 "FerryTickets$Ticket" "outDay" "I" "FerryTickets" ∈ lwN := mN 192 (by decide +kernel) rfl
theorem q_193 : Cond.fieldLink RX2 38 "FerryTickets$Ticket" "outHalf" "LFerryTickets$Half;" ∈ lwA := mA 193 (by decide +kernel) rfl
theorem q_194 : Cond.fieldLinkNest RX1 73 "FerryTickets$Ticket" "outHalf" "LFerryTickets$Half;" "FerryTickets" ∈ lwN := mN 194 (by decide +kernel) rfl
theorem q_195 : Cond.fieldLinkNest RX4 262 "FerryTickets$Ticket" "outHalf" "LFerryTickets$Half;" "FerryTickets" ∈ lwN := mN 195 (by decide +kernel) rfl
theorem q_196 : Cond.fieldLink RX2 42 "FerryTickets$Ticket" "returnHalf" "LFerryTickets$Half;" ∈ lwA := mA 196 (by decide +kernel) rfl
theorem q_197 : Cond.fieldLinkNest RX1 82 "FerryTickets$Ticket" "returnHalf" "LFerryTickets$Half;" "FerryTickets" ∈ lwN := mN 197 (by decide +kernel) rfl
theorem q_198 : Cond.fieldLinkNest RX4 300 "FerryTickets$Ticket" "returnHalf" "LFerryTickets$Half;" "FerryTickets" ∈ lwN := mN 198 (by decide +kernel) rfl
theorem q_216 : Cond.fieldLink RX1 11 "FerryTickets$Office" "tickets" "[LFerryTickets$Ticket;" ∈ lwA := mA 216 (by decide +kernel) rfl
theorem q_217 : Cond.fieldLinkNest RX4 235 "FerryTickets$Office" "tickets" "[LFerryTickets$Ticket;" "FerryTickets" ∈ lwN := mN 217 (by decide +kernel) rfl
theorem q_218 : Cond.fieldLink RX1 17 "FerryTickets$Office" "count" "I" ∈ lwA := mA 218 (by decide +kernel) rfl
theorem q_219 : Cond.fieldLinkNest RX4 66 "FerryTickets$Office" "count" "I" "FerryTickets" ∈ lwN := mN 219 (by decide +kernel) rfl
theorem q_220 : Cond.fieldLink RX1 24 "FerryTickets$Office" "draft" "LFerryTickets$Word;" ∈ lwA := mA 220 (by decide +kernel) rfl
theorem q_221 : Cond.fieldLinkNest RX4 83 "FerryTickets$Office" "draft" "LFerryTickets$Word;" "FerryTickets" ∈ lwN := mN 221 (by decide +kernel) rfl
theorem q_222 : Cond.fieldLink RX1 28 "FerryTickets$Office" "moods" "[I" ∈ lwA := mA 222 (by decide +kernel) rfl
theorem q_223 : Cond.fieldLinkNest RX4 416 "FerryTickets$Office" "moods" "[I" "FerryTickets" ∈ lwN := mN 223 (by decide +kernel) rfl
theorem q_224 : Cond.fieldLink RX1 32 "FerryTickets$Office" "openness" "[Z" ∈ lwA := mA 224 (by decide +kernel) rfl
theorem q_225 : Cond.fieldLinkNest RX4 420 "FerryTickets$Office" "openness" "[Z" "FerryTickets" ∈ lwN := mN 225 (by decide +kernel) rfl
theorem q_226 : Cond.fieldLink RX1 36 "FerryTickets$Office" "today" "I" ∈ lwA := mA 226 (by decide +kernel) rfl
theorem q_227 : Cond.fieldLinkNest RX4 259 "FerryTickets$Office" "today" "I" "FerryTickets" ∈ lwN := mN 227 (by decide +kernel) rfl
theorem q_228 : Cond.fieldLink RX1 39 "FerryTickets$Office" "printed" "I" ∈ lwA := mA 228 (by decide +kernel) rfl
theorem q_229 : Cond.fieldLinkNest RX4 336 "FerryTickets$Office" "printed" "I" "FerryTickets" ∈ lwN := mN 229 (by decide +kernel) rfl
theorem q_230 : Cond.fieldLink RX1 42 "FerryTickets$Office" "outRides" "I" ∈ lwA := mA 230 (by decide +kernel) rfl
theorem q_231 : Cond.fieldLinkNest RX4 246 "FerryTickets$Office" "outRides" "I" "FerryTickets" ∈ lwN := mN 231 (by decide +kernel) rfl
theorem q_232 : Cond.fieldLink RX1 45 "FerryTickets$Office" "returnRides" "I" ∈ lwA := mA 232 (by decide +kernel) rfl
theorem q_233 : Cond.fieldLinkNest RX4 249 "FerryTickets$Office" "returnRides" "I" "FerryTickets" ∈ lwN := mN 233 (by decide +kernel) rfl
theorem q_234 : Cond.fieldLink RX1 48 "FerryTickets$Office" "holesPunched" "I" ∈ lwA := mA 234 (by decide +kernel) rfl
theorem q_235 : Cond.fieldLinkNest RX4 339 "FerryTickets$Office" "holesPunched" "I" "FerryTickets" ∈ lwN := mN 235 (by decide +kernel) rfl
theorem q_260 : Cond.fieldLink RX4 12 "FerryTickets" "now" "LFerryTickets$Office;" ∈ lwA := mA 260 (by decide +kernel) rfl
theorem q_261 : Cond.fieldLink RX4 16 "FerryTickets" "spare" "LFerryTickets$Office;" ∈ lwA := mA 261 (by decide +kernel) rfl
theorem q_262 : Cond.fieldLink RX4 19 "FerryTickets" "saved" "LFerryTickets$Office;" ∈ lwA := mA 262 (by decide +kernel) rfl
theorem q_263 : Cond.fieldLink RX4 22 "FerryTickets" "hasSnapshot" "Z" ∈ lwA := mA 263 (by decide +kernel) rfl
theorem q_264 : Cond.fieldLink RX4 26 "FerryTickets" "past" "[LFerryTickets$Office;" ∈ lwA := mA 264 (by decide +kernel) rfl
theorem q_265 : Cond.fieldLink RX4 30 "FerryTickets" "undoable" "I" ∈ lwA := mA 265 (by decide +kernel) rfl
theorem q_266 : Cond.fieldLink RX4 37 "FerryTickets" "told" "LFerryTickets$Word;" ∈ lwA := mA 266 (by decide +kernel) rfl
theorem q_267 : Cond.fieldLink RX4 41 "FerryTickets" "buffer" "[C" ∈ lwA := mA 267 (by decide +kernel) rfl
theorem q_268 : Cond.fieldLink RX4 45 "FerryTickets" "buffered" "I" ∈ lwA := mA 268 (by decide +kernel) rfl
theorem q_269 : Cond.fieldLink RX4 48 "FerryTickets" "written" "[C" ∈ lwA := mA 269 (by decide +kernel) rfl
theorem q_270 : Cond.fieldLink RX4 51 "FerryTickets" "writtenLength" "I" ∈ lwA := mA 270 (by decide +kernel) rfl
theorem q_271 : Cond.fieldLink RX4 54 "FerryTickets" "refusalReason" "I" ∈ lwA := mA 271 (by decide +kernel) rfl
theorem q_272 : Cond.fieldLink RX4 57 "FerryTickets" "refusalDetail" "I" ∈ lwA := mA 272 (by decide +kernel) rfl
theorem q_273 : Cond.fieldLink RX4 60 "FerryTickets" "faultPosition" "I" ∈ lwA := mA 273 (by decide +kernel) rfl
theorem q_274 : Cond.fieldLink RX4 63 "FerryTickets" "refusedOrder" "I" ∈ lwA := mA 274 (by decide +kernel) rfl
theorem q_401 : Cond.methodLink RX4 115 yX4_existing ∈ lwA := mA 401 (by decide +kernel) rfl
theorem q_403 : Cond.instanceMethod yX4_existing ∈ lwA := mA 403 (by decide +kernel) rfl
theorem q_404 : Cond.code yX4_existing cX4_existing 2 (some (.object "FerryTickets$Ticket")) ∈ lwA := mA 404 (by decide +kernel) rfl
theorem q_405 : Cond.methodLinkNest RX4 407 yX1_hasTicket "FerryTickets" ∈ lwN := mN 405 (by decide +kernel) rfl
theorem q_407 : Cond.instanceMethod yX1_hasTicket ∈ lwA := mA 407 (by decide +kernel) rfl
theorem q_408 : Cond.code yX1_hasTicket cX1_hasTicket 2 (some .boolean) ∈ lwA := mA 408 (by decide +kernel) rfl
theorem q_409 : Cond.classLink RX4 320 "java/lang/IndexOutOfBoundsException" ∈ lwA := mA 409 (by decide +kernel) rfl
theorem q_422 : Cond.methodLinkNest RX4 166 yX2_half "FerryTickets" ∈ lwN := mN 422 (by decide +kernel) rfl
theorem q_424 : Cond.instanceMethod yX2_half ∈ lwA := mA 424 (by decide +kernel) rfl
theorem q_425 : Cond.code yX2_half cX2_half 2 (some (.object "FerryTickets$Half")) ∈ lwA := mA 425 (by decide +kernel) rfl
theorem q_426 : Cond.methodLinkNest RX4 170 yX0_holesWhenWet "FerryTickets" ∈ lwN := mN 426 (by decide +kernel) rfl
theorem q_428 : Cond.instanceMethod yX0_holesWhenWet ∈ lwA := mA 428 (by decide +kernel) rfl
theorem q_429 : Cond.code yX0_holesWhenWet cX0_holesWhenWet 5 (some .int) ∈ lwA := mA 429 (by decide +kernel) rfl
theorem q_430 : Cond.methodLinkNest RX0 39 yX3_letterAt "FerryTickets" ∈ lwN := mN 430 (by decide +kernel) rfl
theorem q_432 : Cond.instanceMethod yX3_letterAt ∈ lwA := mA 432 (by decide +kernel) rfl
theorem q_433 : Cond.code yX3_letterAt cX3_letterAt 2 (some .char) ∈ lwA := mA 433 (by decide +kernel) rfl
theorem q_434 : Cond.methodLink RX3 19 yX3_hasPlace ∈ lwA := mA 434 (by decide +kernel) rfl
theorem q_436 : Cond.instanceMethod yX3_hasPlace ∈ lwA := mA 436 (by decide +kernel) rfl
theorem q_437 : Cond.code yX3_hasPlace cX3_hasPlace 2 (some .boolean) ∈ lwA := mA 437 (by decide +kernel) rfl
theorem q_438 : Cond.methodLinkNest RX0 43 yX4_vowelNumber "FerryTickets" ∈ lwN := mN 438 (by decide +kernel) rfl
theorem q_439 : Cond.static yX4_vowelNumber ∈ lwA := mA 439 (by decide +kernel) rfl
theorem q_440 : Cond.code yX4_vowelNumber cX4_vowelNumber 1 (some .int) ∈ lwA := mA 440 (by decide +kernel) rfl
theorem q_441 : Cond.methodLink RX0 47 yX0_holesFor ∈ lwA := mA 441 (by decide +kernel) rfl
theorem q_443 : Cond.instanceMethod yX0_holesFor ∈ lwA := mA 443 (by decide +kernel) rfl
theorem q_444 : Cond.code yX0_holesFor cX0_holesFor 5 (some .int) ∈ lwA := mA 444 (by decide +kernel) rfl
theorem q_445 : Cond.methodLinkNest RX4 207 yX0_rightLetters "FerryTickets" ∈ lwN := mN 445 (by decide +kernel) rfl
theorem q_447 : Cond.instanceMethod yX0_rightLetters ∈ lwA := mA 447 (by decide +kernel) rfl
theorem q_448 : Cond.code yX0_rightLetters cX0_rightLetters 7 (some .int) ∈ lwA := mA 448 (by decide +kernel) rfl
theorem q_449 : Cond.methodLink RX0 60 yX0_seenAs ∈ lwA := mA 449 (by decide +kernel) rfl
theorem q_451 : Cond.instanceMethod yX0_seenAs ∈ lwA := mA 451 (by decide +kernel) rfl
theorem q_452 : Cond.code yX0_seenAs cX0_seenAs 6 (some .char) ∈ lwA := mA 452 (by decide +kernel) rfl
theorem q_454 : Cond.methodLink RX0 52 yJ9_floorMod_7cf53 ∈ lwA := mA 454 (by decide +kernel) rfl
theorem q_455 : Cond.static yJ9_floorMod_7cf53 ∈ lwA := mA 455 (by decide +kernel) rfl
theorem q_456 : Cond.code yJ9_floorMod_7cf53 cJ9_floorMod_7cf53 3 (some .int) ∈ lwA := mA 456 (by decide +kernel) rfl
theorem q_457 : Cond.methodLink RX0 55 yJ0_charAt_5068e ∈ lwA := mA 457 (by decide +kernel) rfl
theorem q_497 : Cond.classLink RX4 142 "java/lang/IllegalArgumentException" ∈ lwA := mA 497 (by decide +kernel) rfl
theorem q_522 : Cond.methodLink RX4 213 yX4_punchedHalf ∈ lwA := mA 522 (by decide +kernel) rfl
theorem q_523 : Cond.static yX4_punchedHalf ∈ lwA := mA 523 (by decide +kernel) rfl
theorem q_524 : Cond.code yX4_punchedHalf cX4_punchedHalf 3 (some (.object "FerryTickets$Half")) ∈ lwA := mA 524 (by decide +kernel) rfl
theorem q_525 : Cond.classLink RX4 153 "java/util/NoSuchElementException" ∈ lwA := mA 525 (by decide +kernel) rfl
theorem q_541 : Cond.methodLinkNest RX4 232 yX0_wetterBy "FerryTickets" ∈ lwN := mN 541 (by decide +kernel) rfl
theorem q_543 : Cond.instanceMethod yX0_wetterBy ∈ lwA := mA 543 (by decide +kernel) rfl
theorem q_544 : Cond.code yX0_wetterBy cX0_wetterBy 2 (some .int) ∈ lwA := mA 544 (by decide +kernel) rfl
theorem q_545 : Cond.methodLink RX0 28 yJ9_min_7cf53 ∈ lwA := mA 545 (by decide +kernel) rfl
theorem q_546 : Cond.static yJ9_min_7cf53 ∈ lwA := mA 546 (by decide +kernel) rfl
theorem q_547 : Cond.code yJ9_min_7cf53 cJ9_min_7cf53 2 (some .int) ∈ lwA := mA 547 (by decide +kernel) rfl
theorem q_555 : Cond.methodLinkNest RX4 252 yX1_hindrance "FerryTickets" ∈ lwN := mN 555 (by decide +kernel) rfl
theorem q_557 : Cond.instanceMethod yX1_hindrance ∈ lwA := mA 557 (by decide +kernel) rfl
theorem q_558 : Cond.code yX1_hindrance cX1_hindrance 4 (some .int) ∈ lwA := mA 558 (by decide +kernel) rfl
theorem q_559 : Cond.methodLinkNest RX1 106 yX2_half "FerryTickets" ∈ lwN := mN 559 (by decide +kernel) rfl
theorem q_560 : Cond.methodLink RX1 122 yX1_isClosed ∈ lwA := mA 560 (by decide +kernel) rfl
theorem q_562 : Cond.instanceMethod yX1_isClosed ∈ lwA := mA 562 (by decide +kernel) rfl
theorem q_563 : Cond.code yX1_isClosed cX1_isClosed 2 (some .boolean) ∈ lwA := mA 563 (by decide +kernel) rfl
theorem q_564 : Cond.methodLinkNest RX1 66 yX4_isPier "FerryTickets" ∈ lwN := mN 564 (by decide +kernel) rfl
theorem q_565 : Cond.static yX4_isPier ∈ lwA := mA 565 (by decide +kernel) rfl
theorem q_566 : Cond.code yX4_isPier cX4_isPier 1 (some .boolean) ∈ lwA := mA 566 (by decide +kernel) rfl
theorem q_567 : Cond.methodLinkNest RX1 128 yX0_firstWrongPlace "FerryTickets" ∈ lwN := mN 567 (by decide +kernel) rfl
theorem q_569 : Cond.instanceMethod yX0_firstWrongPlace ∈ lwA := mA 569 (by decide +kernel) rfl
theorem q_570 : Cond.code yX0_firstWrongPlace cX0_firstWrongPlace 4 (some .int) ∈ lwA := mA 570 (by decide +kernel) rfl
theorem q_579 : Cond.classLink RX4 325 "java/lang/IllegalStateException" ∈ lwA := mA 579 (by decide +kernel) rfl
theorem q_602 : Cond.methodLinkNest RX4 112 yX1_openPiers "FerryTickets" ∈ lwN := mN 602 (by decide +kernel) rfl
theorem q_604 : Cond.instanceMethod yX1_openPiers ∈ lwA := mA 604 (by decide +kernel) rfl
theorem q_605 : Cond.code yX1_openPiers cX1_openPiers 3 (some .int) ∈ lwA := mA 605 (by decide +kernel) rfl
theorem q_606 : Cond.methodLinkNest RX4 185 yX1_tornTickets "FerryTickets" ∈ lwN := mN 606 (by decide +kernel) rfl
theorem q_608 : Cond.instanceMethod yX1_tornTickets ∈ lwA := mA 608 (by decide +kernel) rfl
theorem q_609 : Cond.code yX1_tornTickets cX1_tornTickets 3 (some .int) ∈ lwA := mA 609 (by decide +kernel) rfl
theorem q_610 : Cond.methodLinkNest RX4 192 yX1_lostHalves "FerryTickets" ∈ lwN := mN 610 (by decide +kernel) rfl
theorem q_612 : Cond.instanceMethod yX1_lostHalves ∈ lwA := mA 612 (by decide +kernel) rfl
theorem q_613 : Cond.code yX1_lostHalves cX1_lostHalves 3 (some .int) ∈ lwA := mA 613 (by decide +kernel) rfl
theorem q_614 : Cond.methodLinkNest RX4 330 yX1_punchedHalves "FerryTickets" ∈ lwN := mN 614 (by decide +kernel) rfl
theorem q_616 : Cond.instanceMethod yX1_punchedHalves ∈ lwA := mA 616 (by decide +kernel) rfl
theorem q_617 : Cond.code yX1_punchedHalves cX1_punchedHalves 3 (some .int) ∈ lwA := mA 617 (by decide +kernel) rfl
theorem q_618 : Cond.methodLinkNest RX4 333 yX1_holesLeft "FerryTickets" ∈ lwN := mN 618 (by decide +kernel) rfl
theorem q_620 : Cond.instanceMethod yX1_holesLeft ∈ lwA := mA 620 (by decide +kernel) rfl
theorem q_621 : Cond.code yX1_holesLeft cX1_holesLeft 3 (some .int) ∈ lwA := mA 621 (by decide +kernel) rfl
theorem q_622 : Cond.methodLinkNest RX1 95 yX2_holesLeft "FerryTickets" ∈ lwN := mN 622 (by decide +kernel) rfl
theorem q_624 : Cond.instanceMethod yX2_holesLeft ∈ lwA := mA 624 (by decide +kernel) rfl
theorem q_625 : Cond.code yX2_holesLeft cX2_holesLeft 1 (some .int) ∈ lwA := mA 625 (by decide +kernel) rfl
theorem q_626 : Cond.methodLinkNest RX2 66 yX0_holesWhenWet "FerryTickets" ∈ lwN := mN 626 (by decide +kernel) rfl
theorem q_693 : Cond.static yJ9_max_7cf53 ∈ lwA := mA 693 (by decide +kernel) rfl
theorem q_694 : Cond.code yJ9_max_7cf53 cJ9_max_7cf53 2 (some .int) ∈ lwA := mA 694 (by decide +kernel) rfl
theorem q_857 : Cond.fieldLink RJ0 9 "java/lang/String" "value" "[B" ∈ lwA := mA 857 (by decide +kernel) rfl
theorem q_886 : Cond.methodLink RX4 360 yX4_faultOfInput ∈ lwA := mA 886 (by decide +kernel) rfl
theorem q_888 : Cond.instanceMethod yX4_faultOfInput ∈ lwA := mA 888 (by decide +kernel) rfl
theorem q_889 : Cond.code yX4_faultOfInput cX4_faultOfInput 4 (some .int) ∈ lwA := mA 889 (by decide +kernel) rfl
theorem q_890 : Cond.methodLink RX4 436 yX4_endOfOrder ∈ lwA := mA 890 (by decide +kernel) rfl
theorem q_892 : Cond.instanceMethod yX4_endOfOrder ∈ lwA := mA 892 (by decide +kernel) rfl
theorem q_893 : Cond.code yX4_endOfOrder cX4_endOfOrder 6 (some .int) ∈ lwA := mA 893 (by decide +kernel) rfl
theorem q_894 : Cond.methodLink RX4 439 yX4_signAt ∈ lwA := mA 894 (by decide +kernel) rfl
theorem q_896 : Cond.instanceMethod yX4_signAt ∈ lwA := mA 896 (by decide +kernel) rfl
theorem q_897 : Cond.code yX4_signAt cX4_signAt 2 (some .char) ∈ lwA := mA 897 (by decide +kernel) rfl
theorem q_898 : Cond.methodLink RX4 445 yX4_shapeOf ∈ lwA := mA 898 (by decide +kernel) rfl
theorem q_899 : Cond.static yX4_shapeOf ∈ lwA := mA 899 (by decide +kernel) rfl
theorem q_900 : Cond.code yX4_shapeOf cX4_shapeOf 1 (some (.object "java/lang/String")) ∈ lwA := mA 900 (by decide +kernel) rfl
theorem q_914 : Cond.methodLink RX4 449 yJ0_length_8abf5 ∈ lwA := mA 914 (by decide +kernel) rfl
theorem q_915 : Cond.methodLink RX4 453 yJ0_charAt_5068e ∈ lwA := mA 915 (by decide +kernel) rfl
theorem q_916 : Cond.methodLink RX4 456 yX4_fittingCharacters ∈ lwA := mA 916 (by decide +kernel) rfl
theorem q_918 : Cond.instanceMethod yX4_fittingCharacters ∈ lwA := mA 918 (by decide +kernel) rfl
theorem q_919 : Cond.code yX4_fittingCharacters cX4_fittingCharacters 4 (some .int) ∈ lwA := mA 919 (by decide +kernel) rfl
theorem q_920 : Cond.methodLink RX4 486 yX4_lettersFrom ∈ lwA := mA 920 (by decide +kernel) rfl
theorem q_922 : Cond.instanceMethod yX4_lettersFrom ∈ lwA := mA 922 (by decide +kernel) rfl
theorem q_923 : Cond.code yX4_lettersFrom cX4_lettersFrom 3 (some .int) ∈ lwA := mA 923 (by decide +kernel) rfl
theorem q_924 : Cond.methodLink RX4 281 yX4_isLetter ∈ lwA := mA 924 (by decide +kernel) rfl
theorem q_925 : Cond.static yX4_isLetter ∈ lwA := mA 925 (by decide +kernel) rfl
theorem q_926 : Cond.code yX4_isLetter cX4_isLetter 1 (some .boolean) ∈ lwA := mA 926 (by decide +kernel) rfl
theorem q_927 : Cond.methodLink RX4 314 yX4_vowelNumber ∈ lwA := mA 927 (by decide +kernel) rfl
theorem q_929 : Cond.methodLink RX4 72 yX4_begin ∈ lwA := mA 929 (by decide +kernel) rfl
theorem q_931 : Cond.instanceMethod yX4_begin ∈ lwA := mA 931 (by decide +kernel) rfl
theorem q_932 : Cond.code yX4_begin cX4_begin 1 none ∈ lwA := mA 932 (by decide +kernel) rfl
theorem q_933 : Cond.methodLinkNest RX4 368 yX1_take "FerryTickets" ∈ lwN := mN 933 (by decide +kernel) rfl
theorem q_935 : Cond.instanceMethod yX1_take ∈ lwA := mA 935 (by decide +kernel) rfl
theorem q_936 : Cond.code yX1_take cX1_take 3 none ∈ lwA := mA 936 (by decide +kernel) rfl
theorem q_937 : Cond.methodLinkNest RX1 55 yX2_take "FerryTickets" ∈ lwN := mN 937 (by decide +kernel) rfl
theorem q_939 : Cond.instanceMethod yX2_take ∈ lwA := mA 939 (by decide +kernel) rfl
theorem q_940 : Cond.code yX2_take cX2_take 2 none ∈ lwA := mA 940 (by decide +kernel) rfl
theorem q_941 : Cond.methodLinkNest RX2 45 yX3_take "FerryTickets" ∈ lwN := mN 941 (by decide +kernel) rfl
theorem q_943 : Cond.instanceMethod yX3_take ∈ lwA := mA 943 (by decide +kernel) rfl
theorem q_944 : Cond.code yX3_take cX3_take 3 none ∈ lwA := mA 944 (by decide +kernel) rfl
theorem q_945 : Cond.methodLinkNest RX2 52 yX0_take "FerryTickets" ∈ lwN := mN 945 (by decide +kernel) rfl
theorem q_947 : Cond.instanceMethod yX0_take ∈ lwA := mA 947 (by decide +kernel) rfl
theorem q_948 : Cond.code yX0_take cX0_take 2 none ∈ lwA := mA 948 (by decide +kernel) rfl
theorem q_949 : Cond.methodLinkNest RX1 59 yX3_take "FerryTickets" ∈ lwN := mN 949 (by decide +kernel) rfl
theorem q_950 : Cond.methodLink RX4 365 yX4_carryOutAll ∈ lwA := mA 950 (by decide +kernel) rfl
theorem q_952 : Cond.instanceMethod yX4_carryOutAll ∈ lwA := mA 952 (by decide +kernel) rfl
theorem q_953 : Cond.code yX4_carryOutAll cX4_carryOutAll 4 (some .int) ∈ lwA := mA 953 (by decide +kernel) rfl
theorem q_954 : Cond.methodLink RX4 442 yX4_carryOut ∈ lwA := mA 954 (by decide +kernel) rfl
theorem q_956 : Cond.instanceMethod yX4_carryOut ∈ lwA := mA 956 (by decide +kernel) rfl
theorem q_957 : Cond.code yX4_carryOut cX4_carryOut 6 (some .int) ∈ lwA := mA 957 (by decide +kernel) rfl
theorem q_958 : Cond.methodLink RX4 489 yX4_digitAt ∈ lwA := mA 958 (by decide +kernel) rfl
theorem q_960 : Cond.instanceMethod yX4_digitAt ∈ lwA := mA 960 (by decide +kernel) rfl
theorem q_961 : Cond.code yX4_digitAt cX4_digitAt 3 (some .int) ∈ lwA := mA 961 (by decide +kernel) rfl
theorem q_962 : Cond.methodLink RX4 492 yX4_carryOutPrint ∈ lwA := mA 962 (by decide +kernel) rfl
theorem q_964 : Cond.instanceMethod yX4_carryOutPrint ∈ lwA := mA 964 (by decide +kernel) rfl
theorem q_965 : Cond.code yX4_carryOutPrint cX4_carryOutPrint 4 (some .int) ∈ lwA := mA 965 (by decide +kernel) rfl
theorem q_966 : Cond.methodLinkNest RX4 397 yX3_add "FerryTickets" ∈ lwN := mN 966 (by decide +kernel) rfl
theorem q_968 : Cond.instanceMethod yX3_add ∈ lwA := mA 968 (by decide +kernel) rfl
theorem q_969 : Cond.code yX3_add cX3_add 2 none ∈ lwA := mA 969 (by decide +kernel) rfl
theorem q_970 : Cond.methodLink RX4 93 yX4_tryPrint ∈ lwA := mA 970 (by decide +kernel) rfl
theorem q_972 : Cond.instanceMethod yX4_tryPrint ∈ lwA := mA 972 (by decide +kernel) rfl
theorem q_973 : Cond.code yX4_tryPrint cX4_tryPrint 5 (some .int) ∈ lwA := mA 973 (by decide +kernel) rfl
theorem q_974 : Cond.methodLink RX4 400 yX4_isPier ∈ lwA := mA 974 (by decide +kernel) rfl
theorem q_975 : Cond.methodLinkNest RX4 124 yX3_vowelCount "FerryTickets" ∈ lwN := mN 975 (by decide +kernel) rfl
theorem q_977 : Cond.instanceMethod yX3_vowelCount ∈ lwA := mA 977 (by decide +kernel) rfl
theorem q_978 : Cond.code yX3_vowelCount cX3_vowelCount 3 (some .int) ∈ lwA := mA 978 (by decide +kernel) rfl
theorem q_979 : Cond.methodLink RX3 23 yX3_letterAt ∈ lwA := mA 979 (by decide +kernel) rfl
theorem q_980 : Cond.methodLinkNest RX3 27 yX4_vowelNumber "FerryTickets" ∈ lwN := mN 980 (by decide +kernel) rfl
theorem q_981 : Cond.methodLink RX4 394 yX4_refuse ∈ lwA := mA 981 (by decide +kernel) rfl
theorem q_983 : Cond.instanceMethod yX4_refuse ∈ lwA := mA 983 (by decide +kernel) rfl
theorem q_984 : Cond.code yX4_refuse cX4_refuse 3 (some .int) ∈ lwA := mA 984 (by decide +kernel) rfl
theorem q_985 : Cond.methodLinkNest RX4 403 yX2_start "FerryTickets" ∈ lwN := mN 985 (by decide +kernel) rfl
theorem q_987 : Cond.instanceMethod yX2_start ∈ lwA := mA 987 (by decide +kernel) rfl
theorem q_988 : Cond.code yX2_start cX2_start 5 none ∈ lwA := mA 988 (by decide +kernel) rfl
theorem q_989 : Cond.methodLinkNest RX2 49 yX0_start "FerryTickets" ∈ lwN := mN 989 (by decide +kernel) rfl
theorem q_991 : Cond.instanceMethod yX0_start ∈ lwA := mA 991 (by decide +kernel) rfl
theorem q_992 : Cond.code yX0_start cX0_start 1 none ∈ lwA := mA 992 (by decide +kernel) rfl
theorem q_993 : Cond.methodLink RX4 162 yX4_tryPunch ∈ lwA := mA 993 (by decide +kernel) rfl
theorem q_995 : Cond.instanceMethod yX4_tryPunch ∈ lwA := mA 995 (by decide +kernel) rfl
theorem q_996 : Cond.code yX4_tryPunch cX4_tryPunch 6 (some .int) ∈ lwA := mA 996 (by decide +kernel) rfl
theorem q_997 : Cond.methodLink RX4 413 yX4_isPuncher ∈ lwA := mA 997 (by decide +kernel) rfl
theorem q_998 : Cond.static yX4_isPuncher ∈ lwA := mA 998 (by decide +kernel) rfl
theorem q_999 : Cond.code yX4_isPuncher cX4_isPuncher 1 (some .boolean) ∈ lwA := mA 999 (by decide +kernel) rfl
theorem q_1000 : Cond.methodLink RX4 176 yX4_tryWet ∈ lwA := mA 1000 (by decide +kernel) rfl
theorem q_1002 : Cond.instanceMethod yX4_tryWet ∈ lwA := mA 1002 (by decide +kernel) rfl
theorem q_1003 : Cond.code yX4_tryWet cX4_tryWet 4 (some .int) ∈ lwA := mA 1003 (by decide +kernel) rfl
theorem q_1004 : Cond.methodLinkNest RX4 424 yX2_getWet "FerryTickets" ∈ lwN := mN 1004 (by decide +kernel) rfl
theorem q_1006 : Cond.instanceMethod yX2_getWet ∈ lwA := mA 1006 (by decide +kernel) rfl
theorem q_1007 : Cond.code yX2_getWet cX2_getWet 5 none ∈ lwA := mA 1007 (by decide +kernel) rfl
theorem q_1008 : Cond.methodLink RX2 55 yX2_half ∈ lwA := mA 1008 (by decide +kernel) rfl
theorem q_1009 : Cond.methodLinkNest RX2 59 yX0_wetterBy "FerryTickets" ∈ lwN := mN 1009 (by decide +kernel) rfl
theorem q_1010 : Cond.methodLink RX4 182 yX4_tryTear ∈ lwA := mA 1010 (by decide +kernel) rfl
theorem q_1012 : Cond.instanceMethod yX4_tryTear ∈ lwA := mA 1012 (by decide +kernel) rfl
theorem q_1013 : Cond.code yX4_tryTear cX4_tryTear 2 (some .int) ∈ lwA := mA 1013 (by decide +kernel) rfl
theorem q_1014 : Cond.methodLink RX4 188 yX4_tryLost ∈ lwA := mA 1014 (by decide +kernel) rfl
theorem q_1016 : Cond.instanceMethod yX4_tryLost ∈ lwA := mA 1016 (by decide +kernel) rfl
theorem q_1017 : Cond.code yX4_tryLost cX4_tryLost 5 (some .int) ∈ lwA := mA 1017 (by decide +kernel) rfl
theorem q_1018 : Cond.methodLink RX4 243 yX4_tryRide ∈ lwA := mA 1018 (by decide +kernel) rfl
theorem q_1020 : Cond.instanceMethod yX4_tryRide ∈ lwA := mA 1020 (by decide +kernel) rfl
theorem q_1021 : Cond.code yX4_tryRide cX4_tryRide 5 (some .int) ∈ lwA := mA 1021 (by decide +kernel) rfl
theorem q_1022 : Cond.methodLinkNest RX4 428 yX1_hindranceDetail "FerryTickets" ∈ lwN := mN 1022 (by decide +kernel) rfl
theorem q_1024 : Cond.instanceMethod yX1_hindranceDetail ∈ lwA := mA 1024 (by decide +kernel) rfl
theorem q_1025 : Cond.code yX1_hindranceDetail cX1_hindranceDetail 6 (some .int) ∈ lwA := mA 1025 (by decide +kernel) rfl
theorem q_1026 : Cond.methodLink RX1 132 yJ9_min_7cf53 ∈ lwA := mA 1026 (by decide +kernel) rfl
theorem q_1027 : Cond.methodLink RX1 138 yJ9_max_7cf53 ∈ lwA := mA 1027 (by decide +kernel) rfl
theorem q_1028 : Cond.methodLink RX4 104 yX4_tryMood ∈ lwA := mA 1028 (by decide +kernel) rfl
theorem q_1030 : Cond.instanceMethod yX4_tryMood ∈ lwA := mA 1030 (by decide +kernel) rfl
theorem q_1031 : Cond.code yX4_tryMood cX4_tryMood 3 (some .int) ∈ lwA := mA 1031 (by decide +kernel) rfl
theorem q_1032 : Cond.methodLink RX4 108 yX4_tryPier ∈ lwA := mA 1032 (by decide +kernel) rfl
theorem q_1034 : Cond.instanceMethod yX4_tryPier ∈ lwA := mA 1034 (by decide +kernel) rfl
theorem q_1035 : Cond.code yX4_tryPier cX4_tryPier 3 (some .int) ∈ lwA := mA 1035 (by decide +kernel) rfl
theorem q_1036 : Cond.methodLink RX4 97 yX4_tryThrowAway ∈ lwA := mA 1036 (by decide +kernel) rfl
theorem q_1038 : Cond.instanceMethod yX4_tryThrowAway ∈ lwA := mA 1038 (by decide +kernel) rfl
theorem q_1039 : Cond.code yX4_tryThrowAway cX4_tryThrowAway 2 (some .int) ∈ lwA := mA 1039 (by decide +kernel) rfl
theorem q_1040 : Cond.methodLinkNest RX4 410 yX1_removeTicket "FerryTickets" ∈ lwN := mN 1040 (by decide +kernel) rfl
theorem q_1042 : Cond.instanceMethod yX1_removeTicket ∈ lwA := mA 1042 (by decide +kernel) rfl
theorem q_1043 : Cond.code yX1_removeTicket cX1_removeTicket 4 none ∈ lwA := mA 1043 (by decide +kernel) rfl
theorem q_1044 : Cond.methodLink RX4 256 yX4_letDayGoBy ∈ lwA := mA 1044 (by decide +kernel) rfl
theorem q_1046 : Cond.instanceMethod yX4_letDayGoBy ∈ lwA := mA 1046 (by decide +kernel) rfl
theorem q_1047 : Cond.code yX4_letDayGoBy cX4_letDayGoBy 1 (some .int) ∈ lwA := mA 1047 (by decide +kernel) rfl
theorem q_1048 : Cond.classLink RX4 372 "java/lang/UnsupportedOperationException" ∈ lwA := mA 1048 (by decide +kernel) rfl
theorem q_1064 : Cond.methodLink RX4 377 yX4_remember ∈ lwA := mA 1064 (by decide +kernel) rfl
theorem q_1066 : Cond.instanceMethod yX4_remember ∈ lwA := mA 1066 (by decide +kernel) rfl
theorem q_1067 : Cond.code yX4_remember cX4_remember 3 none ∈ lwA := mA 1067 (by decide +kernel) rfl
theorem q_1075 : Cond.methodLink RX4 75 yX4_tryLetter ∈ lwA := mA 1075 (by decide +kernel) rfl
theorem q_1077 : Cond.instanceMethod yX4_tryLetter ∈ lwA := mA 1077 (by decide +kernel) rfl
theorem q_1078 : Cond.code yX4_tryLetter cX4_tryLetter 2 (some .int) ∈ lwA := mA 1078 (by decide +kernel) rfl
theorem q_1079 : Cond.methodLink RX4 79 yX4_settle ∈ lwA := mA 1079 (by decide +kernel) rfl
theorem q_1081 : Cond.instanceMethod yX4_settle ∈ lwA := mA 1081 (by decide +kernel) rfl
theorem q_1082 : Cond.code yX4_settle cX4_settle 2 none ∈ lwA := mA 1082 (by decide +kernel) rfl
theorem q_1093 : Cond.methodLink RX4 89 yX4_tryUnletter ∈ lwA := mA 1093 (by decide +kernel) rfl
theorem q_1095 : Cond.instanceMethod yX4_tryUnletter ∈ lwA := mA 1095 (by decide +kernel) rfl
theorem q_1096 : Cond.code yX4_tryUnletter cX4_tryUnletter 1 (some .int) ∈ lwA := mA 1096 (by decide +kernel) rfl
theorem q_1111 : Cond.methodLinkNest RX4 101 yX1_moodOf "FerryTickets" ∈ lwN := mN 1111 (by decide +kernel) rfl
theorem q_1113 : Cond.instanceMethod yX1_moodOf ∈ lwA := mA 1113 (by decide +kernel) rfl
theorem q_1114 : Cond.code yX1_moodOf cX1_moodOf 2 (some .int) ∈ lwA := mA 1114 (by decide +kernel) rfl
theorem q_1115 : Cond.methodLinkNest RX1 62 yX4_isPuncher "FerryTickets" ∈ lwN := mN 1115 (by decide +kernel) rfl
theorem q_1205 : Cond.methodLinkNest RX4 149 yX3_hasPlace "FerryTickets" ∈ lwN := mN 1205 (by decide +kernel) rfl
theorem q_1207 : Cond.methodLinkNest RX4 158 yX3_letterAt "FerryTickets" ∈ lwN := mN 1207 (by decide +kernel) rfl
theorem q_1221 : Cond.methodLinkNest RX4 217 yX0_seen "FerryTickets" ∈ lwN := mN 1221 (by decide +kernel) rfl
theorem q_1223 : Cond.instanceMethod yX0_seen ∈ lwA := mA 1223 (by decide +kernel) rfl
theorem q_1224 : Cond.code yX0_seen cX0_seen 2 (some .char) ∈ lwA := mA 1224 (by decide +kernel) rfl
theorem q_1240 : Cond.methodLinkNest RX4 239 yX0_unlikeLetters "FerryTickets" ∈ lwN := mN 1240 (by decide +kernel) rfl
theorem q_1242 : Cond.instanceMethod yX0_unlikeLetters ∈ lwA := mA 1242 (by decide +kernel) rfl
theorem q_1243 : Cond.code yX0_unlikeLetters cX0_unlikeLetters 6 (some .int) ∈ lwA := mA 1243 (by decide +kernel) rfl
theorem q_1244 : Cond.methodLink RX0 64 yJ9_max_7cf53 ∈ lwA := mA 1244 (by decide +kernel) rfl
theorem q_1245 : Cond.methodLink RX0 67 yX0_seen ∈ lwA := mA 1245 (by decide +kernel) rfl
theorem q_1253 : Cond.methodLinkNest RX4 317 yX0_holesFor "FerryTickets" ∈ lwN := mN 1253 (by decide +kernel) rfl
theorem q_1254 : Cond.methodLink RX4 311 yX4_digit ∈ lwA := mA 1254 (by decide +kernel) rfl
theorem q_1255 : Cond.static yX4_digit ∈ lwA := mA 1255 (by decide +kernel) rfl
theorem q_1256 : Cond.code yX4_digit cX4_digit 1 (some .char) ∈ lwA := mA 1256 (by decide +kernel) rfl
theorem q_1257 : Cond.methodLink RX4 307 yX4_write ∈ lwA := mA 1257 (by decide +kernel) rfl
theorem q_1259 : Cond.instanceMethod yX4_write ∈ lwA := mA 1259 (by decide +kernel) rfl
theorem q_1260 : Cond.code yX4_write cX4_write 2 none ∈ lwA := mA 1260 (by decide +kernel) rfl
theorem q_1268 : Cond.methodLinkNest RX4 277 yX3_isSame "FerryTickets" ∈ lwN := mN 1268 (by decide +kernel) rfl
theorem q_1270 : Cond.instanceMethod yX3_isSame ∈ lwA := mA 1270 (by decide +kernel) rfl
theorem q_1271 : Cond.code yX3_isSame cX3_isSame 3 (some .boolean) ∈ lwA := mA 1271 (by decide +kernel) rfl
theorem q_1280 : Cond.methodLinkNest RX4 221 yX2_isSameByHoles "FerryTickets" ∈ lwN := mN 1280 (by decide +kernel) rfl
theorem q_1282 : Cond.instanceMethod yX2_isSameByHoles ∈ lwA := mA 1282 (by decide +kernel) rfl
theorem q_1283 : Cond.code yX2_isSameByHoles cX2_isSameByHoles 6 (some .boolean) ∈ lwA := mA 1283 (by decide +kernel) rfl
theorem q_1284 : Cond.methodLinkNest RX2 82 yX3_letterAt "FerryTickets" ∈ lwN := mN 1284 (by decide +kernel) rfl
theorem q_1285 : Cond.methodLinkNest RX2 93 yX4_vowelNumber "FerryTickets" ∈ lwN := mN 1285 (by decide +kernel) rfl
theorem q_1286 : Cond.methodLinkNest RX2 97 yX0_holesFor "FerryTickets" ∈ lwN := mN 1286 (by decide +kernel) rfl
theorem q_1287 : Cond.methodLink RX2 101 yJ9_floorMod_7cf53 ∈ lwA := mA 1287 (by decide +kernel) rfl
theorem q_1288 : Cond.methodLinkNest RX4 225 yX2_isSameByReading "FerryTickets" ∈ lwN := mN 1288 (by decide +kernel) rfl
theorem q_1290 : Cond.instanceMethod yX2_isSameByReading ∈ lwA := mA 1290 (by decide +kernel) rfl
theorem q_1291 : Cond.code yX2_isSameByReading cX2_isSameByReading 3 (some .boolean) ∈ lwA := mA 1291 (by decide +kernel) rfl
theorem q_1292 : Cond.methodLinkNest RX2 86 yX0_seen "FerryTickets" ∈ lwN := mN 1292 (by decide +kernel) rfl
theorem q_1301 : Cond.methodLink RX4 268 yJ9_max_7cf53 ∈ lwA := mA 1301 (by decide +kernel) rfl
theorem q_1309 : Cond.methodLink RX4 303 yX4_writeHalf ∈ lwA := mA 1309 (by decide +kernel) rfl
theorem q_1311 : Cond.instanceMethod yX4_writeHalf ∈ lwA := mA 1311 (by decide +kernel) rfl
theorem q_1312 : Cond.code yX4_writeHalf cX4_writeHalf 5 none ∈ lwA := mA 1312 (by decide +kernel) rfl
theorem q_1321 : Cond.methodLinkNest RX4 292 yX1_ticketsAhead "FerryTickets" ∈ lwN := mN 1321 (by decide +kernel) rfl
theorem q_1323 : Cond.instanceMethod yX1_ticketsAhead ∈ lwA := mA 1323 (by decide +kernel) rfl
theorem q_1324 : Cond.code yX1_ticketsAhead cX1_ticketsAhead 7 (some .int) ∈ lwA := mA 1324 (by decide +kernel) rfl
theorem q_1325 : Cond.methodLinkNest RX1 102 yX2_measured "FerryTickets" ∈ lwN := mN 1325 (by decide +kernel) rfl
theorem q_1327 : Cond.instanceMethod yX2_measured ∈ lwA := mA 1327 (by decide +kernel) rfl
theorem q_1328 : Cond.code yX2_measured cX2_measured 2 (some .int) ∈ lwA := mA 1328 (by decide +kernel) rfl
theorem q_1329 : Cond.methodLink RX2 70 yX2_wetness ∈ lwA := mA 1329 (by decide +kernel) rfl
theorem q_1331 : Cond.instanceMethod yX2_wetness ∈ lwA := mA 1331 (by decide +kernel) rfl
theorem q_1332 : Cond.code yX2_wetness cX2_wetness 1 (some .int) ∈ lwA := mA 1332 (by decide +kernel) rfl
theorem q_1333 : Cond.methodLink RX2 73 yX2_holesLeft ∈ lwA := mA 1333 (by decide +kernel) rfl
theorem q_1346 : Cond.methodLinkNest RX4 287 yX3_countOf "FerryTickets" ∈ lwN := mN 1346 (by decide +kernel) rfl
theorem q_1348 : Cond.instanceMethod yX3_countOf ∈ lwA := mA 1348 (by decide +kernel) rfl
theorem q_1349 : Cond.code yX3_countOf cX3_countOf 4 (some .int) ∈ lwA := mA 1349 (by decide +kernel) rfl
theorem q_1354 : Cond.methodLinkNest RX4 273 yX1_firstWith "FerryTickets" ∈ lwN := mN 1354 (by decide +kernel) rfl
theorem q_1356 : Cond.instanceMethod yX1_firstWith ∈ lwA := mA 1356 (by decide +kernel) rfl
theorem q_1357 : Cond.code yX1_firstWith cX1_firstWith 3 (some .int) ∈ lwA := mA 1357 (by decide +kernel) rfl
theorem q_1358 : Cond.methodLinkNest RX1 99 yX3_isSame "FerryTickets" ∈ lwN := mN 1358 (by decide +kernel) rfl
theorem q_1382 : Cond.classLink RX4 344 "java/lang/ArithmeticException" ∈ lwA := mA 1382 (by decide +kernel) rfl
theorem q_1385 : Cond.methodLinkNest RX4 349 yX2_wetness "FerryTickets" ∈ lwN := mN 1385 (by decide +kernel) rfl
theorem q_1394 : Cond.methodLinkNest RX4 353 yX1_rightHalves "FerryTickets" ∈ lwN := mN 1394 (by decide +kernel) rfl
theorem q_1396 : Cond.instanceMethod yX1_rightHalves ∈ lwA := mA 1396 (by decide +kernel) rfl
theorem q_1397 : Cond.code yX1_rightHalves cX1_rightHalves 3 (some .int) ∈ lwA := mA 1397 (by decide +kernel) rfl
theorem q_1398 : Cond.methodLinkNest RX1 91 yX0_isReadRightly "FerryTickets" ∈ lwN := mN 1398 (by decide +kernel) rfl
theorem q_1400 : Cond.instanceMethod yX0_isReadRightly ∈ lwA := mA 1400 (by decide +kernel) rfl
theorem q_1401 : Cond.code yX0_isReadRightly cX0_isReadRightly 2 (some .boolean) ∈ lwA := mA 1401 (by decide +kernel) rfl
theorem q_1402 : Cond.methodLink RX0 71 yX0_firstWrongPlace ∈ lwA := mA 1402 (by decide +kernel) rfl
theorem q_1407 : Cond.methodLinkNest RX4 297 yX0_isRightWhileDry "FerryTickets" ∈ lwN := mN 1407 (by decide +kernel) rfl
theorem q_1409 : Cond.instanceMethod yX0_isRightWhileDry ∈ lwA := mA 1409 (by decide +kernel) rfl
theorem q_1410 : Cond.code yX0_isRightWhileDry cX0_isRightWhileDry 2 (some .boolean) ∈ lwA := mA 1410 (by decide +kernel) rfl
theorem q_1411 : Cond.methodLink RX0 75 yX0_isReadRightly ∈ lwA := mA 1411 (by decide +kernel) rfl
