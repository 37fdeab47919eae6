theorem iX0 : ∀ w ∈ u_ws RX0 TX0 5, w ∈ lwA := by
  intro w hw
  obtain ⟨k, hk, rfl⟩ := List.mem_map.mp hw
  have hk := List.mem_range.mp hk
  rcases (show k = 0 ∨ k = 1 ∨ k = 2 ∨ k = 3 ∨ k = 4 by omega) with rfl | rfl | rfl | rfl | rfl
  · exact mA 215 (by decide +kernel) rfl
  · exact mA 217 (by decide +kernel) rfl
  · exact mA 219 (by decide +kernel) rfl
  · exact mA 221 (by decide +kernel) rfl
  · exact mA 223 (by decide +kernel) rfl
theorem iX1 : ∀ w ∈ u_ws RX1 TX1 10, w ∈ lwA := by
  intro w hw
  obtain ⟨k, hk, rfl⟩ := List.mem_map.mp hw
  have hk := List.mem_range.mp hk
  rcases (show k = 0 ∨ k = 1 ∨ k = 2 ∨ k = 3 ∨ k = 4 ∨ k = 5 ∨ k = 6 ∨ k = 7 ∨ k = 8 ∨ k = 9 by omega) with rfl | rfl | rfl | rfl | rfl | rfl | rfl | rfl | rfl | rfl
  · exact mA 289 (by decide +kernel) rfl
  · exact mA 291 (by decide +kernel) rfl
  · exact mA 293 (by decide +kernel) rfl
  · exact mA 295 (by decide +kernel) rfl
  · exact mA 297 (by decide +kernel) rfl
  · exact mA 299 (by decide +kernel) rfl
  · exact mA 301 (by decide +kernel) rfl
  · exact mA 303 (by decide +kernel) rfl
  · exact mA 305 (by decide +kernel) rfl
  · exact mA 307 (by decide +kernel) rfl
theorem iX2 : ∀ w ∈ u_ws RX2 TX2 8, w ∈ lwA := by
  intro w hw
  obtain ⟨k, hk, rfl⟩ := List.mem_map.mp hw
  have hk := List.mem_range.mp hk
  rcases (show k = 0 ∨ k = 1 ∨ k = 2 ∨ k = 3 ∨ k = 4 ∨ k = 5 ∨ k = 6 ∨ k = 7 by omega) with rfl | rfl | rfl | rfl | rfl | rfl | rfl | rfl
  · exact mA 252 (by decide +kernel) rfl
  · exact mA 254 (by decide +kernel) rfl
  · exact mA 256 (by decide +kernel) rfl
  · exact mA 258 (by decide +kernel) rfl
  · exact mA 260 (by decide +kernel) rfl
  · exact mA 262 (by decide +kernel) rfl
  · exact mA 264 (by decide +kernel) rfl
  · exact mA 266 (by decide +kernel) rfl
theorem iX3 : ∀ w ∈ u_ws RX3 TX3 2, w ∈ lwA := by
  intro w hw
  obtain ⟨k, hk, rfl⟩ := List.mem_map.mp hw
  have hk := List.mem_range.mp hk
  rcases (show k = 0 ∨ k = 1 by omega) with rfl | rfl
  · exact mA 180 (by decide +kernel) rfl
  · exact mA 182 (by decide +kernel) rfl
theorem iX4 : ∀ w ∈ u_ws RX4 TX4 15, w ∈ lwA := by
  intro w hw
  obtain ⟨k, hk, rfl⟩ := List.mem_map.mp hw
  have hk := List.mem_range.mp hk
  rcases (show k = 0 ∨ k = 1 ∨ k = 2 ∨ k = 3 ∨ k = 4 ∨ k = 5 ∨ k = 6 ∨ k = 7 ∨ k = 8 ∨ k = 9 ∨ k = 10 ∨ k = 11 ∨ k = 12 ∨ k = 13 ∨ k = 14 by omega) with rfl | rfl | rfl | rfl | rfl | rfl | rfl | rfl | rfl | rfl | rfl | rfl | rfl | rfl | rfl
  · exact mA 328 (by decide +kernel) rfl
  · exact mA 330 (by decide +kernel) rfl
  · exact mA 332 (by decide +kernel) rfl
  · exact mA 334 (by decide +kernel) rfl
  · exact mA 336 (by decide +kernel) rfl
  · exact mA 338 (by decide +kernel) rfl
  · exact mA 340 (by decide +kernel) rfl
  · exact mA 342 (by decide +kernel) rfl
  · exact mA 344 (by decide +kernel) rfl
  · exact mA 346 (by decide +kernel) rfl
  · exact mA 348 (by decide +kernel) rfl
  · exact mA 350 (by decide +kernel) rfl
  · exact mA 352 (by decide +kernel) rfl
  · exact mA 354 (by decide +kernel) rfl
  · exact mA 356 (by decide +kernel) rfl
theorem iX5 : ∀ w ∈ u_ws RX5 TX5 23, w ∈ lwA := by
  intro w hw
  obtain ⟨k, hk, rfl⟩ := List.mem_map.mp hw
  have hk := List.mem_range.mp hk
  rcases (show k = 0 ∨ k = 1 ∨ k = 2 ∨ k = 3 ∨ k = 4 ∨ k = 5 ∨ k = 6 ∨ k = 7 ∨ k = 8 ∨ k = 9 ∨ k = 10 ∨ k = 11 ∨ k = 12 ∨ k = 13 ∨ k = 14 ∨ k = 15 ∨ k = 16 ∨ k = 17 ∨ k = 18 ∨ k = 19 ∨ k = 20 ∨ k = 21 ∨ k = 22 by omega) with rfl | rfl | rfl | rfl | rfl | rfl | rfl | rfl | rfl | rfl | rfl | rfl | rfl | rfl | rfl | rfl | rfl | rfl | rfl | rfl | rfl | rfl | rfl
  · exact mA 1277 (by decide +kernel) rfl
  · exact mA 1279 (by decide +kernel) rfl
  · exact mA 1281 (by decide +kernel) rfl
  · exact mA 1283 (by decide +kernel) rfl
  · exact mA 1285 (by decide +kernel) rfl
  · exact mA 1287 (by decide +kernel) rfl
  · exact mA 1289 (by decide +kernel) rfl
  · exact mA 1291 (by decide +kernel) rfl
  · exact mA 1293 (by decide +kernel) rfl
  · exact mA 1295 (by decide +kernel) rfl
  · exact mA 1297 (by decide +kernel) rfl
  · exact mA 1299 (by decide +kernel) rfl
  · exact mA 1301 (by decide +kernel) rfl
  · exact mA 1303 (by decide +kernel) rfl
  · exact mA 1305 (by decide +kernel) rfl
  · exact mA 1307 (by decide +kernel) rfl
  · exact mA 1309 (by decide +kernel) rfl
  · exact mA 1311 (by decide +kernel) rfl
  · exact mA 1313 (by decide +kernel) rfl
  · exact mA 1315 (by decide +kernel) rfl
  · exact mA 1317 (by decide +kernel) rfl
  · exact mA 1319 (by decide +kernel) rfl
  · exact mA 1321 (by decide +kernel) rfl
theorem q_0 : Cond.selects yX1_empty.cls yX1_empty yX1_empty ∈ lwA := mA 0 (by decide +kernel) rfl
theorem q_2 : Cond.selects yX1_take.cls yX1_take yX1_take ∈ lwA := mA 2 (by decide +kernel) rfl
theorem q_3 : Cond.selects yX2_take.cls yX2_take yX2_take ∈ lwA := mA 3 (by decide +kernel) rfl
theorem q_4 : Cond.selects yX3_take.cls yX3_take yX3_take ∈ lwA := mA 4 (by decide +kernel) rfl
theorem q_5 : Cond.selects yX0_take.cls yX0_take yX0_take ∈ lwA := mA 5 (by decide +kernel) rfl
theorem q_10 : Cond.selects yX1_firstWith.cls yX1_firstWith yX1_firstWith ∈ lwA := mA 10 (by decide +kernel) rfl
theorem q_11 : Cond.selects yX3_isSame.cls yX3_isSame yX3_isSame ∈ lwA := mA 11 (by decide +kernel) rfl
theorem q_12 : Cond.selects yX3_letterAt.cls yX3_letterAt yX3_letterAt ∈ lwA := mA 12 (by decide +kernel) rfl
theorem q_13 : Cond.selects yX3_hasPlace.cls yX3_hasPlace yX3_hasPlace ∈ lwA := mA 13 (by decide +kernel) rfl
theorem q_17 : Cond.selects yX0_holesFor.cls yX0_holesFor yX0_holesFor ∈ lwA := mA 17 (by decide +kernel) rfl
theorem q_23 : Cond.selects yX4_refuse.cls yX4_refuse yX4_refuse ∈ lwA := mA 23 (by decide +kernel) rfl
theorem q_24 : Cond.selects yX3_add.cls yX3_add yX3_add ∈ lwA := mA 24 (by decide +kernel) rfl
theorem q_26 : Cond.selects yX4_tryPrint.cls yX4_tryPrint yX4_tryPrint ∈ lwA := mA 26 (by decide +kernel) rfl
theorem q_27 : Cond.selects yX3_vowelCount.cls yX3_vowelCount yX3_vowelCount ∈ lwA := mA 27 (by decide +kernel) rfl
theorem q_28 : Cond.selects yX2_start.cls yX2_start yX2_start ∈ lwA := mA 28 (by decide +kernel) rfl
theorem q_29 : Cond.selects yX0_start.cls yX0_start yX0_start ∈ lwA := mA 29 (by decide +kernel) rfl
theorem q_31 : Cond.selects yX1_hasTicket.cls yX1_hasTicket yX1_hasTicket ∈ lwA := mA 31 (by decide +kernel) rfl
theorem q_32 : Cond.selects yX1_removeTicket.cls yX1_removeTicket yX1_removeTicket ∈ lwA := mA 32 (by decide +kernel) rfl
theorem q_39 : Cond.selects yX2_half.cls yX2_half yX2_half ∈ lwA := mA 39 (by decide +kernel) rfl
theorem q_40 : Cond.selects yX0_holesWhenWet.cls yX0_holesWhenWet yX0_holesWhenWet ∈ lwA := mA 40 (by decide +kernel) rfl
theorem q_42 : Cond.selects yX2_getWet.cls yX2_getWet yX2_getWet ∈ lwA := mA 42 (by decide +kernel) rfl
theorem q_43 : Cond.selects yX0_wetterBy.cls yX0_wetterBy yX0_wetterBy ∈ lwA := mA 43 (by decide +kernel) rfl
theorem q_56 : Cond.selects yX2_measured.cls yX2_measured yX2_measured ∈ lwA := mA 56 (by decide +kernel) rfl
theorem q_57 : Cond.selects yX2_wetness.cls yX2_wetness yX2_wetness ∈ lwA := mA 57 (by decide +kernel) rfl
theorem q_58 : Cond.selects yX2_holesLeft.cls yX2_holesLeft yX2_holesLeft ∈ lwA := mA 58 (by decide +kernel) rfl
theorem q_67 : Cond.selects yX4_lettersFrom.cls yX4_lettersFrom yX4_lettersFrom ∈ lwA := mA 67 (by decide +kernel) rfl
theorem q_70 : Cond.selects yX4_digitAt.cls yX4_digitAt yX4_digitAt ∈ lwA := mA 70 (by decide +kernel) rfl
theorem q_72 : Cond.selects yX5_remembers.cls yX5_remembers yX5_remembers ∈ lwA := mA 72 (by decide +kernel) rfl
theorem q_73 : Cond.selects yX5_addsLetter.cls yX5_addsLetter yX5_addsLetter ∈ lwA := mA 73 (by decide +kernel) rfl
theorem q_74 : Cond.selects yX5_refused.cls yX5_refused yX5_refused ∈ lwA := mA 74 (by decide +kernel) rfl
theorem q_75 : Cond.selects yX5_done.cls yX5_done yX5_done ∈ lwA := mA 75 (by decide +kernel) rfl
theorem q_76 : Cond.selects yX5_ends.cls yX5_ends yX5_ends ∈ lwA := mA 76 (by decide +kernel) rfl
theorem q_77 : Cond.selects yX5_changed.cls yX5_changed yX5_changed ∈ lwA := mA 77 (by decide +kernel) rfl
theorem q_78 : Cond.selects yX5_fails.cls yX5_fails yX5_fails ∈ lwA := mA 78 (by decide +kernel) rfl
theorem q_79 : Cond.selects yX5_takesLetter.cls yX5_takesLetter yX5_takesLetter ∈ lwA := mA 79 (by decide +kernel) rfl
theorem q_80 : Cond.selects yX5_printsDraft.cls yX5_printsDraft yX5_printsDraft ∈ lwA := mA 80 (by decide +kernel) rfl
theorem q_81 : Cond.selects yX5_prints.cls yX5_prints yX5_prints ∈ lwA := mA 81 (by decide +kernel) rfl
theorem q_82 : Cond.selects yX5_sets.cls yX5_sets yX5_sets ∈ lwA := mA 82 (by decide +kernel) rfl
theorem q_83 : Cond.selects yX5_setsHalf.cls yX5_setsHalf yX5_setsHalf ∈ lwA := mA 83 (by decide +kernel) rfl
theorem q_84 : Cond.selects yX5_throwsAway.cls yX5_throwsAway yX5_throwsAway ∈ lwA := mA 84 (by decide +kernel) rfl
theorem q_85 : Cond.selects yX5_isTicket.cls yX5_isTicket yX5_isTicket ∈ lwA := mA 85 (by decide +kernel) rfl
theorem q_86 : Cond.selects yX5_tellsMood.cls yX5_tellsMood yX5_tellsMood ∈ lwA := mA 86 (by decide +kernel) rfl
theorem q_87 : Cond.selects yX5_turnsPier.cls yX5_turnsPier yX5_turnsPier ∈ lwA := mA 87 (by decide +kernel) rfl
theorem q_88 : Cond.selects yX5_isClosed.cls yX5_isClosed yX5_isClosed ∈ lwA := mA 88 (by decide +kernel) rfl
theorem q_89 : Cond.selects yX5_openMany.cls yX5_openMany yX5_openMany ∈ lwA := mA 89 (by decide +kernel) rfl
theorem q_90 : Cond.selects yX5_of.cls yX5_of yX5_of ∈ lwA := mA 90 (by decide +kernel) rfl
theorem q_91 : Cond.selects yX5_vowelsOf.cls yX5_vowelsOf yX5_vowelsOf ∈ lwA := mA 91 (by decide +kernel) rfl
theorem q_92 : Cond.selects yX5_letterOf.cls yX5_letterOf yX5_letterOf ∈ lwA := mA 92 (by decide +kernel) rfl
theorem q_93 : Cond.selects yX5_punches.cls yX5_punches yX5_punches ∈ lwA := mA 93 (by decide +kernel) rfl
theorem q_94 : Cond.selects yX5_isPunched.cls yX5_isPunched yX5_isPunched ∈ lwA := mA 94 (by decide +kernel) rfl
theorem q_95 : Cond.selects yX5_half.cls yX5_half yX5_half ∈ lwA := mA 95 (by decide +kernel) rfl
theorem q_96 : Cond.selects yX5_holesOf.cls yX5_holesOf yX5_holesOf ∈ lwA := mA 96 (by decide +kernel) rfl
theorem q_97 : Cond.selects yX5_holesAt.cls yX5_holesAt yX5_holesAt ∈ lwA := mA 97 (by decide +kernel) rfl
theorem q_98 : Cond.selects yX5_makesWet.cls yX5_makesWet yX5_makesWet ∈ lwA := mA 98 (by decide +kernel) rfl
theorem q_99 : Cond.selects yX5_getsWet.cls yX5_getsWet yX5_getsWet ∈ lwA := mA 99 (by decide +kernel) rfl
theorem q_100 : Cond.selects yX5_tears.cls yX5_tears yX5_tears ∈ lwA := mA 100 (by decide +kernel) rfl
theorem q_101 : Cond.selects yX5_tornMany.cls yX5_tornMany yX5_tornMany ∈ lwA := mA 101 (by decide +kernel) rfl
theorem q_102 : Cond.selects yX5_goes.cls yX5_goes yX5_goes ∈ lwA := mA 102 (by decide +kernel) rfl
theorem q_103 : Cond.selects yX5_lostMany.cls yX5_lostMany yX5_lostMany ∈ lwA := mA 103 (by decide +kernel) rfl
theorem q_104 : Cond.selects yX5_leftOf.cls yX5_leftOf yX5_leftOf ∈ lwA := mA 104 (by decide +kernel) rfl
theorem q_105 : Cond.selects yX5_leftAt.cls yX5_leftAt yX5_leftAt ∈ lwA := mA 105 (by decide +kernel) rfl
theorem q_106 : Cond.selects yX5_rightOf.cls yX5_rightOf yX5_rightOf ∈ lwA := mA 106 (by decide +kernel) rfl
theorem q_107 : Cond.selects yX5_readWith.cls yX5_readWith yX5_readWith ∈ lwA := mA 107 (by decide +kernel) rfl
theorem q_108 : Cond.selects yX5_reads.cls yX5_reads yX5_reads ∈ lwA := mA 108 (by decide +kernel) rfl
theorem q_109 : Cond.selects yX5_halfThere.cls yX5_halfThere yX5_halfThere ∈ lwA := mA 109 (by decide +kernel) rfl
theorem q_110 : Cond.selects yX5_unlike.cls yX5_unlike yX5_unlike ∈ lwA := mA 110 (by decide +kernel) rfl
theorem q_111 : Cond.selects yX5_rides.cls yX5_rides yX5_rides ∈ lwA := mA 111 (by decide +kernel) rfl
theorem q_112 : Cond.selects yX5_hindrance.cls yX5_hindrance yX5_hindrance ∈ lwA := mA 112 (by decide +kernel) rfl
theorem q_113 : Cond.selects yX5_isRead.cls yX5_isRead yX5_isRead ∈ lwA := mA 113 (by decide +kernel) rfl
theorem q_114 : Cond.selects yX5_firstUnlike.cls yX5_firstUnlike yX5_firstUnlike ∈ lwA := mA 114 (by decide +kernel) rfl
theorem q_115 : Cond.selects yX5_passes.cls yX5_passes yX5_passes ∈ lwA := mA 115 (by decide +kernel) rfl
theorem q_116 : Cond.selects yX5_isWordOf.cls yX5_isWordOf yX5_isWordOf ∈ lwA := mA 116 (by decide +kernel) rfl
theorem q_117 : Cond.selects yX5_measureOf.cls yX5_measureOf yX5_measureOf ∈ lwA := mA 117 (by decide +kernel) rfl
theorem q_118 : Cond.selects yX5_writesHalf.cls yX5_writesHalf yX5_writesHalf ∈ lwA := mA 118 (by decide +kernel) rfl
theorem q_119 : Cond.selects yX5_writes.cls yX5_writes yX5_writes ∈ lwA := mA 119 (by decide +kernel) rfl
theorem q_120 : Cond.selects yX5_punchedMany.cls yX5_punchedMany yX5_punchedMany ∈ lwA := mA 120 (by decide +kernel) rfl
theorem q_121 : Cond.selects yX5_allLeft.cls yX5_allLeft yX5_allLeft ∈ lwA := mA 121 (by decide +kernel) rfl
theorem q_122 : Cond.selects yX5_readsOne.cls yX5_readsOne yX5_readsOne ∈ lwA := mA 122 (by decide +kernel) rfl
theorem q_123 : Cond.selects yX5_here.cls yX5_here yX5_here ∈ lwA := mA 123 (by decide +kernel) rfl
theorem q_124 : Cond.selects yX5_readsWord.cls yX5_readsWord yX5_readsWord ∈ lwA := mA 124 (by decide +kernel) rfl
theorem q_125 : Cond.selects yX5_sign.cls yX5_sign yX5_sign ∈ lwA := mA 125 (by decide +kernel) rfl
theorem q_126 : Cond.selects yX5_digit.cls yX5_digit yX5_digit ∈ lwA := mA 126 (by decide +kernel) rfl
theorem q_127 : Cond.selects yX5_readsHalf.cls yX5_readsHalf yX5_readsHalf ∈ lwA := mA 127 (by decide +kernel) rfl
theorem q_128 : Cond.selects yX5_does.cls yX5_does yX5_does ∈ lwA := mA 128 (by decide +kernel) rfl
theorem q_129 : Cond.selects yX5_printsGiven.cls yX5_printsGiven yX5_printsGiven ∈ lwA := mA 129 (by decide +kernel) rfl
theorem q_131 : Cond.initialized RX4 ∈ lwA := mA 131 (by decide +kernel) rfl
theorem q_132 : Cond.initialized RX1 ∈ lwA := mA 132 (by decide +kernel) rfl
theorem q_133 : Cond.initialized RX3 ∈ lwA := mA 133 (by decide +kernel) rfl
theorem q_134 : Cond.initialized RX2 ∈ lwA := mA 134 (by decide +kernel) rfl
theorem q_135 : Cond.initialized RX0 ∈ lwA := mA 135 (by decide +kernel) rfl
theorem q_136 : Cond.initialized RX5 ∈ lwA := mA 136 (by decide +kernel) rfl
theorem q_146 : Cond.initialized RJ9 ∈ lwA := mA 146 (by decide +kernel) rfl
theorem q_174 : Cond.fieldLink RX3 9 "FerryTickets$Word" "letters" "[C" ∈ lwA := mA 174 (by decide +kernel) rfl
theorem q_175 : Cond.fieldLink RX3 15 "FerryTickets$Word" "length" "I" ∈ lwA := mA 175 (by decide +kernel) rfl
theorem q_176 : Cond.fieldLinkNest RX1 52 "FerryTickets$Word" "length" "I" "FerryTickets" ∈ lwN := mN 176 (by decide +kernel) rfl
theorem q_177 : Cond.fieldLinkNest RX4 86 "FerryTickets$Word" "length" "I" "FerryTickets" ∈ lwN := mN 177 (by decide +kernel) rfl
theorem q_178 : Cond.fieldLinkNest RX0 34 "FerryTickets$Word" "length" "I" "FerryTickets" ∈ lwN := mN 178 (by decide +kernel) rfl
theorem q_179 : Cond.fieldLinkNest RX2 76 "FerryTickets$Word" "length" "I" "FerryTickets" ∈ lwN := mN 179 (by decide +kernel) rfl
theorem q_199 : Cond.fieldLink RX0 9 "FerryTickets$Half" "isPunched" "Z" ∈ lwA := mA 199 (by decide +kernel) rfl
theorem q_200 : Cond.fieldLinkNest RX2 79 "FerryTickets$Half" "isPunched" "Z" "FerryTickets" ∈ lwN := mN 200 (by decide +kernel) rfl
theorem q_201 : Cond.fieldLinkNest RX1 85 "FerryTickets$Half" "isPunched" "Z" "FerryTickets" ∈ lwN := mN 201 (by decide +kernel) rfl
theorem q_202 : Cond.fieldLinkNest RX4 195 "FerryTickets$Half" "isPunched" "Z" "FerryTickets" ∈ lwN := mN 202 (by decide +kernel) rfl
theorem q_203 : Cond.fieldLink RX0 15 "FerryTickets$Half" "keptMood" "I" ∈ lwA := mA 203 (by decide +kernel) rfl
theorem q_204 : Cond.fieldLinkNest RX2 90 "FerryTickets$Half" "keptMood" "I" "FerryTickets" ∈ lwN := mN 204 (by decide +kernel) rfl
theorem q_205 : Cond.fieldLinkNest RX4 198 "FerryTickets$Half" "keptMood" "I" "FerryTickets" ∈ lwN := mN 205 (by decide +kernel) rfl
theorem q_206 : Cond.fieldLink RX0 19 "FerryTickets$Half" "wetness" "I" ∈ lwA := mA 206 (by decide +kernel) rfl
theorem q_207 : Cond.fieldLinkNest RX2 63 "FerryTickets$Half" "wetness" "I" "FerryTickets" ∈ lwN := mN 207 (by decide +kernel) rfl
theorem q_209 : Cond.fieldLink RX0 22 "FerryTickets$Half" "isLost" "Z" ∈ lwA := mA 209 (by decide +kernel) rfl
theorem q_210 : Cond.fieldLinkNest RX1 77 "FerryTickets$Half" "isLost" "Z" "FerryTickets" ∈ lwN := mN 210 (by decide +kernel) rfl
theorem q_211 : Cond.fieldLinkNest RX4 201 "FerryTickets$Half" "isLost" "Z" "FerryTickets" ∈ lwN := mN 211 (by decide +kernel) rfl
theorem q_212 : Cond.fieldLink RX0 25 "FerryTickets$Half" "isRidden" "Z" ∈ lwA := mA 212 (by decide +kernel) rfl
theorem q_228 : Cond.fieldLink RX2 12 "FerryTickets$Ticket" "word" "LFerryTickets$Word;" ∈ lwA := mA 228 (by decide +kernel) rfl
theorem q_229 : Cond.fieldLinkNest RX4 119 "FerryTickets$Ticket" "word" "LFerryTickets$Word;" "FerryTickets" ∈ lwN := mN 229 (by decide +kernel) rfl
theorem q_230 : Cond.fieldLinkNest RX1 88 "FerryTickets$Ticket" "word" "LFerryTickets$Word;" "FerryTickets" ∈ lwN := mN 230 (by decide +kernel) rfl
theorem q_231 : Cond.fieldLink RX2 18 "FerryTickets$Ticket" "from" "I" ∈ lwA := mA 231 (by decide +kernel) rfl
theorem q_234 : Cond.fieldLink RX2 22 "FerryTickets$Ticket" "to" "I" ∈ lwA := mA 234 (by decide +kernel) rfl
theorem q_237 : Cond.fieldLink RX2 25 "FerryTickets$Ticket" "clause" "I" ∈ lwA := mA 237 (by decide +kernel) rfl
theorem q_240 : Cond.fieldLink RX2 28 "FerryTickets$Ticket" "isTorn" "Z" ∈ lwA := mA 240 (by decide +kernel) rfl
theorem q_241 : Cond.fieldLinkNest RX1 69 "FerryTickets$Ticket" "isTorn" "Z" "FerryTickets" ∈ lwN := mN 241 (by decide +kernel) rfl
theorem q_242 : Cond.fieldLinkNest RX4 136 "FerryTickets$Ticket" "isTorn" "Z" "FerryTickets" ∈ lwN := mN 242 (by decide +kernel) rfl
theorem q_243 : Cond.fieldLink RX2 32 "FerryTickets$Ticket" "outDay" "I" ∈ lwA := mA 243 (by decide +kernel) rfl
theorem q_246 : Cond.fieldLink RX2 38 "FerryTickets$Ticket" "outHalf" "LFerryTickets$Half;" ∈ lwA := mA 246 (by decide +kernel) rfl
theorem q_247 : Cond.fieldLinkNest RX1 73 "FerryTickets$Ticket" "outHalf" "LFerryTickets$Half;" "FerryTickets" ∈ lwN := mN 247 (by decide +kernel) rfl
theorem q_249 : Cond.fieldLink RX2 42 "FerryTickets$Ticket" "returnHalf" "LFerryTickets$Half;" ∈ lwA := mA 249 (by decide +kernel) rfl
theorem q_250 : Cond.fieldLinkNest RX1 82 "FerryTickets$Ticket" "returnHalf" "LFerryTickets$Half;" "FerryTickets" ∈ lwN := mN 250 (by decide +kernel) rfl
theorem q_269 : Cond.fieldLink RX1 11 "FerryTickets$Office" "tickets" "[LFerryTickets$Ticket;" ∈ lwA := mA 269 (by decide +kernel) rfl
theorem q_270 : Cond.fieldLinkNest RX4 235 "FerryTickets$Office" "tickets" "[LFerryTickets$Ticket;" "FerryTickets" ∈ lwN := mN 270 (by decide +kernel) rfl
theorem q_271 : Cond.fieldLink RX1 17 "FerryTickets$Office" "count" "I" ∈ lwA := mA 271 (by decide +kernel) rfl
theorem q_272 : Cond.fieldLinkNest RX4 66 "FerryTickets$Office" "count" "I" "FerryTickets" ∈ lwN := mN 272 (by decide +kernel) rfl
theorem q_273 : Cond.fieldLink RX1 24 "FerryTickets$Office" "draft" "LFerryTickets$Word;" ∈ lwA := mA 273 (by decide +kernel) rfl
theorem q_274 : Cond.fieldLinkNest RX4 83 "FerryTickets$Office" "draft" "LFerryTickets$Word;" "FerryTickets" ∈ lwN := mN 274 (by decide +kernel) rfl
theorem q_275 : Cond.fieldLink RX1 28 "FerryTickets$Office" "moods" "[I" ∈ lwA := mA 275 (by decide +kernel) rfl
theorem q_276 : Cond.fieldLinkNest RX4 416 "FerryTickets$Office" "moods" "[I" "FerryTickets" ∈ lwN := mN 276 (by decide +kernel) rfl
theorem q_277 : Cond.fieldLink RX1 32 "FerryTickets$Office" "openness" "[Z" ∈ lwA := mA 277 (by decide +kernel) rfl
theorem q_278 : Cond.fieldLinkNest RX4 420 "FerryTickets$Office" "openness" "[Z" "FerryTickets" ∈ lwN := mN 278 (by decide +kernel) rfl
theorem q_279 : Cond.fieldLink RX1 36 "FerryTickets$Office" "today" "I" ∈ lwA := mA 279 (by decide +kernel) rfl
theorem q_280 : Cond.fieldLinkNest RX4 259 "FerryTickets$Office" "today" "I" "FerryTickets" ∈ lwN := mN 280 (by decide +kernel) rfl
theorem q_281 : Cond.fieldLink RX1 39 "FerryTickets$Office" "printed" "I" ∈ lwA := mA 281 (by decide +kernel) rfl
theorem q_282 : Cond.fieldLinkNest RX4 336 "FerryTickets$Office" "printed" "I" "FerryTickets" ∈ lwN := mN 282 (by decide +kernel) rfl
theorem q_283 : Cond.fieldLink RX1 42 "FerryTickets$Office" "outRides" "I" ∈ lwA := mA 283 (by decide +kernel) rfl
theorem q_285 : Cond.fieldLink RX1 45 "FerryTickets$Office" "returnRides" "I" ∈ lwA := mA 285 (by decide +kernel) rfl
theorem q_287 : Cond.fieldLink RX1 48 "FerryTickets$Office" "holesPunched" "I" ∈ lwA := mA 287 (by decide +kernel) rfl
theorem q_288 : Cond.fieldLinkNest RX4 339 "FerryTickets$Office" "holesPunched" "I" "FerryTickets" ∈ lwN := mN 288 (by decide +kernel) rfl
theorem q_313 : Cond.fieldLink RX4 12 "FerryTickets" "now" "LFerryTickets$Office;" ∈ lwA := mA 313 (by decide +kernel) rfl
theorem q_314 : Cond.fieldLink RX4 16 "FerryTickets" "spare" "LFerryTickets$Office;" ∈ lwA := mA 314 (by decide +kernel) rfl
theorem q_315 : Cond.fieldLink RX4 19 "FerryTickets" "saved" "LFerryTickets$Office;" ∈ lwA := mA 315 (by decide +kernel) rfl
theorem q_316 : Cond.fieldLink RX4 22 "FerryTickets" "hasSnapshot" "Z" ∈ lwA := mA 316 (by decide +kernel) rfl
theorem q_317 : Cond.fieldLink RX4 26 "FerryTickets" "past" "[LFerryTickets$Office;" ∈ lwA := mA 317 (by decide +kernel) rfl
theorem q_318 : Cond.fieldLink RX4 30 "FerryTickets" "undoable" "I" ∈ lwA := mA 318 (by decide +kernel) rfl
theorem q_319 : Cond.fieldLink RX4 37 "FerryTickets" "told" "LFerryTickets$Word;" ∈ lwA := mA 319 (by decide +kernel) rfl
theorem q_320 : Cond.fieldLink RX4 41 "FerryTickets" "buffer" "[C" ∈ lwA := mA 320 (by decide +kernel) rfl
theorem q_321 : Cond.fieldLink RX4 45 "FerryTickets" "buffered" "I" ∈ lwA := mA 321 (by decide +kernel) rfl
theorem q_322 : Cond.fieldLink RX4 48 "FerryTickets" "written" "[C" ∈ lwA := mA 322 (by decide +kernel) rfl
theorem q_323 : Cond.fieldLink RX4 51 "FerryTickets" "writtenLength" "I" ∈ lwA := mA 323 (by decide +kernel) rfl
theorem q_324 : Cond.fieldLink RX4 54 "FerryTickets" "refusalReason" "I" ∈ lwA := mA 324 (by decide +kernel) rfl
theorem q_325 : Cond.fieldLink RX4 57 "FerryTickets" "refusalDetail" "I" ∈ lwA := mA 325 (by decide +kernel) rfl
theorem q_363 : Cond.methodLinkNest RX4 69 yX1_empty "FerryTickets" ∈ lwN := mN 363 (by decide +kernel) rfl
theorem q_365 : Cond.instanceMethod yX1_empty ∈ lwA := mA 365 (by decide +kernel) rfl
theorem q_366 : Cond.code yX1_empty cX1_empty 2 none ∈ lwA := mA 366 (by decide +kernel) rfl
theorem q_375 : Cond.methodLinkNest RX4 368 yX1_take "FerryTickets" ∈ lwN := mN 375 (by decide +kernel) rfl
theorem q_377 : Cond.instanceMethod yX1_take ∈ lwA := mA 377 (by decide +kernel) rfl
theorem q_378 : Cond.code yX1_take cX1_take 3 none ∈ lwA := mA 378 (by decide +kernel) rfl
theorem q_379 : Cond.methodLinkNest RX1 55 yX2_take "FerryTickets" ∈ lwN := mN 379 (by decide +kernel) rfl
theorem q_381 : Cond.instanceMethod yX2_take ∈ lwA := mA 381 (by decide +kernel) rfl
theorem q_382 : Cond.code yX2_take cX2_take 2 none ∈ lwA := mA 382 (by decide +kernel) rfl
theorem q_383 : Cond.methodLinkNest RX2 45 yX3_take "FerryTickets" ∈ lwN := mN 383 (by decide +kernel) rfl
theorem q_385 : Cond.instanceMethod yX3_take ∈ lwA := mA 385 (by decide +kernel) rfl
theorem q_386 : Cond.code yX3_take cX3_take 3 none ∈ lwA := mA 386 (by decide +kernel) rfl
theorem q_387 : Cond.methodLinkNest RX2 52 yX0_take "FerryTickets" ∈ lwN := mN 387 (by decide +kernel) rfl
theorem q_389 : Cond.instanceMethod yX0_take ∈ lwA := mA 389 (by decide +kernel) rfl
theorem q_390 : Cond.code yX0_take cX0_take 2 none ∈ lwA := mA 390 (by decide +kernel) rfl
theorem q_391 : Cond.methodLinkNest RX1 59 yX3_take "FerryTickets" ∈ lwN := mN 391 (by decide +kernel) rfl
theorem q_512 : Cond.methodLinkNest RX4 273 yX1_firstWith "FerryTickets" ∈ lwN := mN 512 (by decide +kernel) rfl
theorem q_514 : Cond.instanceMethod yX1_firstWith ∈ lwA := mA 514 (by decide +kernel) rfl
theorem q_515 : Cond.code yX1_firstWith cX1_firstWith 3 (some .int) ∈ lwA := mA 515 (by decide +kernel) rfl
theorem q_516 : Cond.methodLinkNest RX1 99 yX3_isSame "FerryTickets" ∈ lwN := mN 516 (by decide +kernel) rfl
theorem q_518 : Cond.instanceMethod yX3_isSame ∈ lwA := mA 518 (by decide +kernel) rfl
theorem q_519 : Cond.code yX3_isSame cX3_isSame 3 (some .boolean) ∈ lwA := mA 519 (by decide +kernel) rfl
theorem q_520 : Cond.methodLink RX3 23 yX3_letterAt ∈ lwA := mA 520 (by decide +kernel) rfl
theorem q_522 : Cond.instanceMethod yX3_letterAt ∈ lwA := mA 522 (by decide +kernel) rfl
theorem q_523 : Cond.code yX3_letterAt cX3_letterAt 2 (some .char) ∈ lwA := mA 523 (by decide +kernel) rfl
theorem q_524 : Cond.methodLink RX3 19 yX3_hasPlace ∈ lwA := mA 524 (by decide +kernel) rfl
theorem q_526 : Cond.instanceMethod yX3_hasPlace ∈ lwA := mA 526 (by decide +kernel) rfl
theorem q_527 : Cond.code yX3_hasPlace cX3_hasPlace 2 (some .boolean) ∈ lwA := mA 527 (by decide +kernel) rfl
theorem q_536 : Cond.methodLinkNest RX2 82 yX3_letterAt "FerryTickets" ∈ lwN := mN 536 (by decide +kernel) rfl
theorem q_545 : Cond.methodLinkNest RX0 43 yX4_vowelNumber "FerryTickets" ∈ lwN := mN 545 (by decide +kernel) rfl
theorem q_546 : Cond.static yX4_vowelNumber ∈ lwA := mA 546 (by decide +kernel) rfl
theorem q_547 : Cond.code yX4_vowelNumber cX4_vowelNumber 1 (some .int) ∈ lwA := mA 547 (by decide +kernel) rfl
theorem q_548 : Cond.methodLink RX0 47 yX0_holesFor ∈ lwA := mA 548 (by decide +kernel) rfl
theorem q_550 : Cond.instanceMethod yX0_holesFor ∈ lwA := mA 550 (by decide +kernel) rfl
theorem q_551 : Cond.code yX0_holesFor cX0_holesFor 5 (some .int) ∈ lwA := mA 551 (by decide +kernel) rfl
theorem q_554 : Cond.static yJ9_floorMod_7cf53 ∈ lwA := mA 554 (by decide +kernel) rfl
theorem q_555 : Cond.code yJ9_floorMod_7cf53 cJ9_floorMod_7cf53 3 (some .int) ∈ lwA := mA 555 (by decide +kernel) rfl
theorem q_600 : Cond.methodLinkNest RX2 93 yX4_vowelNumber "FerryTickets" ∈ lwN := mN 600 (by decide +kernel) rfl
theorem q_601 : Cond.methodLinkNest RX2 97 yX0_holesFor "FerryTickets" ∈ lwN := mN 601 (by decide +kernel) rfl
theorem q_602 : Cond.methodLink RX2 101 yJ9_floorMod_7cf53 ∈ lwA := mA 602 (by decide +kernel) rfl
theorem q_615 : Cond.methodLinkNest RX0 39 yX3_letterAt "FerryTickets" ∈ lwN := mN 615 (by decide +kernel) rfl
theorem q_633 : Cond.methodLink RX4 281 yX4_isLetter ∈ lwA := mA 633 (by decide +kernel) rfl
theorem q_634 : Cond.static yX4_isLetter ∈ lwA := mA 634 (by decide +kernel) rfl
theorem q_635 : Cond.code yX4_isLetter cX4_isLetter 1 (some .boolean) ∈ lwA := mA 635 (by decide +kernel) rfl
theorem q_636 : Cond.methodLink RX4 314 yX4_vowelNumber ∈ lwA := mA 636 (by decide +kernel) rfl
theorem q_637 : Cond.methodLink RX4 394 yX4_refuse ∈ lwA := mA 637 (by decide +kernel) rfl
theorem q_639 : Cond.instanceMethod yX4_refuse ∈ lwA := mA 639 (by decide +kernel) rfl
theorem q_640 : Cond.code yX4_refuse cX4_refuse 3 (some .int) ∈ lwA := mA 640 (by decide +kernel) rfl
theorem q_641 : Cond.methodLinkNest RX4 397 yX3_add "FerryTickets" ∈ lwN := mN 641 (by decide +kernel) rfl
theorem q_643 : Cond.instanceMethod yX3_add ∈ lwA := mA 643 (by decide +kernel) rfl
theorem q_644 : Cond.code yX3_add cX3_add 2 none ∈ lwA := mA 644 (by decide +kernel) rfl
theorem q_684 : Cond.methodLink RX4 93 yX4_tryPrint ∈ lwA := mA 684 (by decide +kernel) rfl
theorem q_686 : Cond.instanceMethod yX4_tryPrint ∈ lwA := mA 686 (by decide +kernel) rfl
theorem q_687 : Cond.code yX4_tryPrint cX4_tryPrint 5 (some .int) ∈ lwA := mA 687 (by decide +kernel) rfl
theorem q_688 : Cond.methodLink RX4 400 yX4_isPier ∈ lwA := mA 688 (by decide +kernel) rfl
theorem q_689 : Cond.static yX4_isPier ∈ lwA := mA 689 (by decide +kernel) rfl
theorem q_690 : Cond.code yX4_isPier cX4_isPier 1 (some .boolean) ∈ lwA := mA 690 (by decide +kernel) rfl
theorem q_691 : Cond.methodLinkNest RX4 124 yX3_vowelCount "FerryTickets" ∈ lwN := mN 691 (by decide +kernel) rfl
theorem q_693 : Cond.instanceMethod yX3_vowelCount ∈ lwA := mA 693 (by decide +kernel) rfl
theorem q_694 : Cond.code yX3_vowelCount cX3_vowelCount 3 (some .int) ∈ lwA := mA 694 (by decide +kernel) rfl
theorem q_695 : Cond.methodLinkNest RX3 27 yX4_vowelNumber "FerryTickets" ∈ lwN := mN 695 (by decide +kernel) rfl
theorem q_696 : Cond.methodLinkNest RX4 403 yX2_start "FerryTickets" ∈ lwN := mN 696 (by decide +kernel) rfl
theorem q_698 : Cond.instanceMethod yX2_start ∈ lwA := mA 698 (by decide +kernel) rfl
theorem q_699 : Cond.code yX2_start cX2_start 5 none ∈ lwA := mA 699 (by decide +kernel) rfl
theorem q_700 : Cond.methodLinkNest RX2 49 yX0_start "FerryTickets" ∈ lwN := mN 700 (by decide +kernel) rfl
theorem q_702 : Cond.instanceMethod yX0_start ∈ lwA := mA 702 (by decide +kernel) rfl
theorem q_703 : Cond.code yX0_start cX0_start 1 none ∈ lwA := mA 703 (by decide +kernel) rfl
theorem q_715 : Cond.methodLinkNest RX4 407 yX1_hasTicket "FerryTickets" ∈ lwN := mN 715 (by decide +kernel) rfl
theorem q_717 : Cond.instanceMethod yX1_hasTicket ∈ lwA := mA 717 (by decide +kernel) rfl
theorem q_718 : Cond.code yX1_hasTicket cX1_hasTicket 2 (some .boolean) ∈ lwA := mA 718 (by decide +kernel) rfl
theorem q_719 : Cond.methodLinkNest RX4 410 yX1_removeTicket "FerryTickets" ∈ lwN := mN 719 (by decide +kernel) rfl
theorem q_721 : Cond.instanceMethod yX1_removeTicket ∈ lwA := mA 721 (by decide +kernel) rfl
theorem q_722 : Cond.code yX1_removeTicket cX1_removeTicket 4 none ∈ lwA := mA 722 (by decide +kernel) rfl
theorem q_734 : Cond.methodLinkNest RX1 62 yX4_isPuncher "FerryTickets" ∈ lwN := mN 734 (by decide +kernel) rfl
theorem q_735 : Cond.static yX4_isPuncher ∈ lwA := mA 735 (by decide +kernel) rfl
theorem q_736 : Cond.code yX4_isPuncher cX4_isPuncher 1 (some .boolean) ∈ lwA := mA 736 (by decide +kernel) rfl
theorem q_741 : Cond.methodLink RX4 413 yX4_isPuncher ∈ lwA := mA 741 (by decide +kernel) rfl
theorem q_807 : Cond.methodLinkNest RX4 166 yX2_half "FerryTickets" ∈ lwN := mN 807 (by decide +kernel) rfl
theorem q_809 : Cond.instanceMethod yX2_half ∈ lwA := mA 809 (by decide +kernel) rfl
theorem q_810 : Cond.code yX2_half cX2_half 2 (some (.object "FerryTickets$Half")) ∈ lwA := mA 810 (by decide +kernel) rfl
theorem q_811 : Cond.methodLinkNest RX4 170 yX0_holesWhenWet "FerryTickets" ∈ lwN := mN 811 (by decide +kernel) rfl
theorem q_813 : Cond.instanceMethod yX0_holesWhenWet ∈ lwA := mA 813 (by decide +kernel) rfl
theorem q_814 : Cond.code yX0_holesWhenWet cX0_holesWhenWet 5 (some .int) ∈ lwA := mA 814 (by decide +kernel) rfl
theorem q_826 : Cond.methodLinkNest RX4 424 yX2_getWet "FerryTickets" ∈ lwN := mN 826 (by decide +kernel) rfl
theorem q_828 : Cond.instanceMethod yX2_getWet ∈ lwA := mA 828 (by decide +kernel) rfl
theorem q_829 : Cond.code yX2_getWet cX2_getWet 5 none ∈ lwA := mA 829 (by decide +kernel) rfl
theorem q_830 : Cond.methodLink RX2 55 yX2_half ∈ lwA := mA 830 (by decide +kernel) rfl
theorem q_831 : Cond.methodLinkNest RX2 59 yX0_wetterBy "FerryTickets" ∈ lwN := mN 831 (by decide +kernel) rfl
theorem q_833 : Cond.instanceMethod yX0_wetterBy ∈ lwA := mA 833 (by decide +kernel) rfl
theorem q_834 : Cond.code yX0_wetterBy cX0_wetterBy 2 (some .int) ∈ lwA := mA 834 (by decide +kernel) rfl
theorem q_835 : Cond.methodLink RX0 28 yJ9_min_7cf53 ∈ lwA := mA 835 (by decide +kernel) rfl
theorem q_836 : Cond.static yJ9_min_7cf53 ∈ lwA := mA 836 (by decide +kernel) rfl
theorem q_837 : Cond.code yJ9_min_7cf53 cJ9_min_7cf53 2 (some .int) ∈ lwA := mA 837 (by decide +kernel) rfl
theorem q_958 : Cond.methodLinkNest RX1 66 yX4_isPier "FerryTickets" ∈ lwN := mN 958 (by decide +kernel) rfl
theorem q_1014 : Cond.methodLinkNest RX1 102 yX2_measured "FerryTickets" ∈ lwN := mN 1014 (by decide +kernel) rfl
theorem q_1016 : Cond.instanceMethod yX2_measured ∈ lwA := mA 1016 (by decide +kernel) rfl
theorem q_1017 : Cond.code yX2_measured cX2_measured 2 (some .int) ∈ lwA := mA 1017 (by decide +kernel) rfl
theorem q_1018 : Cond.methodLink RX2 70 yX2_wetness ∈ lwA := mA 1018 (by decide +kernel) rfl
theorem q_1020 : Cond.instanceMethod yX2_wetness ∈ lwA := mA 1020 (by decide +kernel) rfl
theorem q_1021 : Cond.code yX2_wetness cX2_wetness 1 (some .int) ∈ lwA := mA 1021 (by decide +kernel) rfl
theorem q_1022 : Cond.methodLink RX2 73 yX2_holesLeft ∈ lwA := mA 1022 (by decide +kernel) rfl
theorem q_1024 : Cond.instanceMethod yX2_holesLeft ∈ lwA := mA 1024 (by decide +kernel) rfl
theorem q_1025 : Cond.code yX2_holesLeft cX2_holesLeft 1 (some .int) ∈ lwA := mA 1025 (by decide +kernel) rfl
theorem q_1026 : Cond.methodLinkNest RX2 66 yX0_holesWhenWet "FerryTickets" ∈ lwN := mN 1026 (by decide +kernel) rfl
theorem q_1101 : Cond.methodLinkNest RX1 95 yX2_holesLeft "FerryTickets" ∈ lwN := mN 1101 (by decide +kernel) rfl
theorem q_1194 : Cond.methodLink RX4 483 yX4_lettersFrom ∈ lwA := mA 1194 (by decide +kernel) rfl
theorem q_1196 : Cond.instanceMethod yX4_lettersFrom ∈ lwA := mA 1196 (by decide +kernel) rfl
theorem q_1197 : Cond.code yX4_lettersFrom cX4_lettersFrom 3 (some .int) ∈ lwA := mA 1197 (by decide +kernel) rfl
theorem q_1207 : Cond.methodLink RX4 486 yX4_digitAt ∈ lwA := mA 1207 (by decide +kernel) rfl
theorem q_1209 : Cond.instanceMethod yX4_digitAt ∈ lwA := mA 1209 (by decide +kernel) rfl
theorem q_1210 : Cond.code yX4_digitAt cX4_digitAt 2 (some .int) ∈ lwA := mA 1210 (by decide +kernel) rfl
theorem q_1254 : Cond.fieldLink RX5 41 "FerryTicketsModel" "thrown" "I" ∈ lwA := mA 1254 (by decide +kernel) rfl
theorem q_1255 : Cond.fieldLink RX5 7 "FerryTicketsModel" "s" "[I" ∈ lwA := mA 1255 (by decide +kernel) rfl
theorem q_1256 : Cond.fieldLink RX5 13 "FerryTicketsModel" "frame" "[I" ∈ lwA := mA 1256 (by decide +kernel) rfl
theorem q_1257 : Cond.fieldLink RX5 16 "FerryTicketsModel" "saved" "[I" ∈ lwA := mA 1257 (by decide +kernel) rfl
theorem q_1258 : Cond.fieldLink RX5 19 "FerryTicketsModel" "history" "[I" ∈ lwA := mA 1258 (by decide +kernel) rfl
theorem q_1259 : Cond.fieldLink RX5 44 "FerryTicketsModel" "kept" "I" ∈ lwA := mA 1259 (by decide +kernel) rfl
theorem q_1260 : Cond.fieldLink RX5 288 "FerryTicketsModel" "hasSaved" "Z" ∈ lwA := mA 1260 (by decide +kernel) rfl
theorem q_1261 : Cond.fieldLink RX5 22 "FerryTicketsModel" "text" "[I" ∈ lwA := mA 1261 (by decide +kernel) rfl
theorem q_1262 : Cond.fieldLink RX5 25 "FerryTicketsModel" "told" "[I" ∈ lwA := mA 1262 (by decide +kernel) rfl
theorem q_1263 : Cond.fieldLink RX5 28 "FerryTicketsModel" "out" "[I" ∈ lwA := mA 1263 (by decide +kernel) rfl
theorem q_1264 : Cond.fieldLink RX5 31 "FerryTicketsModel" "given" "[I" ∈ lwA := mA 1264 (by decide +kernel) rfl
theorem q_1265 : Cond.fieldLink RX5 248 "FerryTicketsModel" "length" "I" ∈ lwA := mA 1265 (by decide +kernel) rfl
theorem q_1266 : Cond.fieldLink RX5 231 "FerryTicketsModel" "outLength" "I" ∈ lwA := mA 1266 (by decide +kernel) rfl
theorem q_1267 : Cond.fieldLink RX5 34 "FerryTicketsModel" "faultAt" "I" ∈ lwA := mA 1267 (by decide +kernel) rfl
theorem q_1268 : Cond.fieldLink RX5 38 "FerryTicketsModel" "item" "I" ∈ lwA := mA 1268 (by decide +kernel) rfl
theorem q_1269 : Cond.fieldLink RX5 60 "FerryTicketsModel" "why" "I" ∈ lwA := mA 1269 (by decide +kernel) rfl
theorem q_1270 : Cond.fieldLink RX5 63 "FerryTicketsModel" "detail" "I" ∈ lwA := mA 1270 (by decide +kernel) rfl
theorem q_1271 : Cond.fieldLink RX5 47 "FerryTicketsModel" "about" "I" ∈ lwA := mA 1271 (by decide +kernel) rfl
theorem q_1272 : Cond.fieldLink RX5 50 "FerryTicketsModel" "answer" "I" ∈ lwA := mA 1272 (by decide +kernel) rfl
theorem q_1273 : Cond.fieldLink RX5 251 "FerryTicketsModel" "spot" "I" ∈ lwA := mA 1273 (by decide +kernel) rfl
theorem q_1274 : Cond.fieldLink RX5 254 "FerryTicketsModel" "end" "I" ∈ lwA := mA 1274 (by decide +kernel) rfl
theorem q_1275 : Cond.fieldLink RX5 264 "FerryTicketsModel" "orders" "I" ∈ lwA := mA 1275 (by decide +kernel) rfl
theorem q_1276 : Cond.fieldLink RX5 257 "FerryTicketsModel" "isWrong" "Z" ∈ lwA := mA 1276 (by decide +kernel) rfl
theorem q_1336 : Cond.methodLink RX5 166 yX5_remembers ∈ lwA := mA 1336 (by decide +kernel) rfl
theorem q_1338 : Cond.instanceMethod yX5_remembers ∈ lwA := mA 1338 (by decide +kernel) rfl
theorem q_1339 : Cond.code yX5_remembers cX5_remembers 2 none ∈ lwA := mA 1339 (by decide +kernel) rfl
theorem q_1340 : Cond.methodLink RX5 169 yX5_addsLetter ∈ lwA := mA 1340 (by decide +kernel) rfl
theorem q_1342 : Cond.instanceMethod yX5_addsLetter ∈ lwA := mA 1342 (by decide +kernel) rfl
theorem q_1343 : Cond.code yX5_addsLetter cX5_addsLetter 3 (some .int) ∈ lwA := mA 1343 (by decide +kernel) rfl
theorem q_1344 : Cond.methodLink RX5 119 yX5_isLetter ∈ lwA := mA 1344 (by decide +kernel) rfl
theorem q_1345 : Cond.static yX5_isLetter ∈ lwA := mA 1345 (by decide +kernel) rfl
theorem q_1346 : Cond.code yX5_isLetter cX5_isLetter 1 (some .boolean) ∈ lwA := mA 1346 (by decide +kernel) rfl
theorem q_1347 : Cond.methodLink RX5 82 yX5_isConsonant ∈ lwA := mA 1347 (by decide +kernel) rfl
theorem q_1348 : Cond.static yX5_isConsonant ∈ lwA := mA 1348 (by decide +kernel) rfl
theorem q_1349 : Cond.code yX5_isConsonant cX5_isConsonant 1 (some .boolean) ∈ lwA := mA 1349 (by decide +kernel) rfl
theorem q_1350 : Cond.methodLink RX5 66 yX5_in ∈ lwA := mA 1350 (by decide +kernel) rfl
theorem q_1351 : Cond.static yX5_in ∈ lwA := mA 1351 (by decide +kernel) rfl
theorem q_1352 : Cond.code yX5_in cX5_in 3 (some .boolean) ∈ lwA := mA 1352 (by decide +kernel) rfl
theorem q_1353 : Cond.methodLink RX5 86 yX5_vowel ∈ lwA := mA 1353 (by decide +kernel) rfl
theorem q_1354 : Cond.static yX5_vowel ∈ lwA := mA 1354 (by decide +kernel) rfl
theorem q_1355 : Cond.code yX5_vowel cX5_vowel 1 (some .int) ∈ lwA := mA 1355 (by decide +kernel) rfl
theorem q_1356 : Cond.methodLink RX5 122 yX5_refused ∈ lwA := mA 1356 (by decide +kernel) rfl
theorem q_1358 : Cond.instanceMethod yX5_refused ∈ lwA := mA 1358 (by decide +kernel) rfl
theorem q_1359 : Cond.code yX5_refused cX5_refused 3 (some .int) ∈ lwA := mA 1359 (by decide +kernel) rfl
theorem q_1360 : Cond.methodLink RX5 125 yX5_done ∈ lwA := mA 1360 (by decide +kernel) rfl
theorem q_1362 : Cond.instanceMethod yX5_done ∈ lwA := mA 1362 (by decide +kernel) rfl
theorem q_1363 : Cond.code yX5_done cX5_done 2 (some .int) ∈ lwA := mA 1363 (by decide +kernel) rfl
theorem q_1364 : Cond.methodLink RX5 172 yX5_ends ∈ lwA := mA 1364 (by decide +kernel) rfl
theorem q_1366 : Cond.instanceMethod yX5_ends ∈ lwA := mA 1366 (by decide +kernel) rfl
theorem q_1367 : Cond.code yX5_ends cX5_ends 3 (some .int) ∈ lwA := mA 1367 (by decide +kernel) rfl
theorem q_1368 : Cond.methodLink RX5 53 yX5_changed ∈ lwA := mA 1368 (by decide +kernel) rfl
theorem q_1370 : Cond.instanceMethod yX5_changed ∈ lwA := mA 1370 (by decide +kernel) rfl
theorem q_1371 : Cond.code yX5_changed cX5_changed 3 (some .int) ∈ lwA := mA 1371 (by decide +kernel) rfl
theorem q_1372 : Cond.methodLink RX5 57 yX5_fails ∈ lwA := mA 1372 (by decide +kernel) rfl
theorem q_1374 : Cond.instanceMethod yX5_fails ∈ lwA := mA 1374 (by decide +kernel) rfl
theorem q_1375 : Cond.code yX5_fails cX5_fails 2 (some .int) ∈ lwA := mA 1375 (by decide +kernel) rfl
theorem q_1380 : Cond.methodLink RX5 175 yX5_takesLetter ∈ lwA := mA 1380 (by decide +kernel) rfl
theorem q_1382 : Cond.instanceMethod yX5_takesLetter ∈ lwA := mA 1382 (by decide +kernel) rfl
theorem q_1383 : Cond.code yX5_takesLetter cX5_takesLetter 2 (some .int) ∈ lwA := mA 1383 (by decide +kernel) rfl
theorem q_1388 : Cond.methodLink RX5 178 yX5_printsDraft ∈ lwA := mA 1388 (by decide +kernel) rfl
theorem q_1390 : Cond.instanceMethod yX5_printsDraft ∈ lwA := mA 1390 (by decide +kernel) rfl
theorem q_1391 : Cond.code yX5_printsDraft cX5_printsDraft 6 (some .int) ∈ lwA := mA 1391 (by decide +kernel) rfl
theorem q_1392 : Cond.methodLink RX5 132 yX5_prints ∈ lwA := mA 1392 (by decide +kernel) rfl
theorem q_1394 : Cond.instanceMethod yX5_prints ∈ lwA := mA 1394 (by decide +kernel) rfl
theorem q_1395 : Cond.code yX5_prints cX5_prints 8 (some .int) ∈ lwA := mA 1395 (by decide +kernel) rfl
theorem q_1396 : Cond.methodLink RX5 74 yX5_sets ∈ lwA := mA 1396 (by decide +kernel) rfl
theorem q_1398 : Cond.instanceMethod yX5_sets ∈ lwA := mA 1398 (by decide +kernel) rfl
theorem q_1399 : Cond.code yX5_sets cX5_sets 4 none ∈ lwA := mA 1399 (by decide +kernel) rfl
theorem q_1400 : Cond.methodLink RX5 128 yX5_setsHalf ∈ lwA := mA 1400 (by decide +kernel) rfl
theorem q_1402 : Cond.instanceMethod yX5_setsHalf ∈ lwA := mA 1402 (by decide +kernel) rfl
theorem q_1403 : Cond.code yX5_setsHalf cX5_setsHalf 5 none ∈ lwA := mA 1403 (by decide +kernel) rfl
theorem q_1408 : Cond.methodLink RX5 181 yX5_throwsAway ∈ lwA := mA 1408 (by decide +kernel) rfl
theorem q_1410 : Cond.instanceMethod yX5_throwsAway ∈ lwA := mA 1410 (by decide +kernel) rfl
theorem q_1411 : Cond.code yX5_throwsAway cX5_throwsAway 4 (some .int) ∈ lwA := mA 1411 (by decide +kernel) rfl
theorem q_1412 : Cond.methodLink RX5 135 yX5_isTicket ∈ lwA := mA 1412 (by decide +kernel) rfl
theorem q_1414 : Cond.instanceMethod yX5_isTicket ∈ lwA := mA 1414 (by decide +kernel) rfl
theorem q_1415 : Cond.code yX5_isTicket cX5_isTicket 2 (some .boolean) ∈ lwA := mA 1415 (by decide +kernel) rfl
theorem q_1420 : Cond.methodLink RX5 184 yX5_tellsMood ∈ lwA := mA 1420 (by decide +kernel) rfl
theorem q_1422 : Cond.instanceMethod yX5_tellsMood ∈ lwA := mA 1422 (by decide +kernel) rfl
theorem q_1423 : Cond.code yX5_tellsMood cX5_tellsMood 4 (some .int) ∈ lwA := mA 1423 (by decide +kernel) rfl
theorem q_1428 : Cond.methodLink RX5 187 yX5_turnsPier ∈ lwA := mA 1428 (by decide +kernel) rfl
theorem q_1430 : Cond.instanceMethod yX5_turnsPier ∈ lwA := mA 1430 (by decide +kernel) rfl
theorem q_1431 : Cond.code yX5_turnsPier cX5_turnsPier 3 (some .int) ∈ lwA := mA 1431 (by decide +kernel) rfl
theorem q_1432 : Cond.methodLink RX5 138 yX5_isClosed ∈ lwA := mA 1432 (by decide +kernel) rfl
theorem q_1434 : Cond.instanceMethod yX5_isClosed ∈ lwA := mA 1434 (by decide +kernel) rfl
theorem q_1435 : Cond.code yX5_isClosed cX5_isClosed 2 (some .boolean) ∈ lwA := mA 1435 (by decide +kernel) rfl
theorem q_1436 : Cond.methodLink RX5 141 yX5_openMany ∈ lwA := mA 1436 (by decide +kernel) rfl
theorem q_1438 : Cond.instanceMethod yX5_openMany ∈ lwA := mA 1438 (by decide +kernel) rfl
theorem q_1439 : Cond.code yX5_openMany cX5_openMany 3 (some .int) ∈ lwA := mA 1439 (by decide +kernel) rfl
theorem q_1444 : Cond.methodLink RX5 70 yX5_of ∈ lwA := mA 1444 (by decide +kernel) rfl
theorem q_1446 : Cond.instanceMethod yX5_of ∈ lwA := mA 1446 (by decide +kernel) rfl
theorem q_1447 : Cond.code yX5_of cX5_of 3 (some .int) ∈ lwA := mA 1447 (by decide +kernel) rfl
theorem q_1448 : Cond.methodLink RX5 191 yX5_vowelsOf ∈ lwA := mA 1448 (by decide +kernel) rfl
theorem q_1450 : Cond.instanceMethod yX5_vowelsOf ∈ lwA := mA 1450 (by decide +kernel) rfl
theorem q_1451 : Cond.code yX5_vowelsOf cX5_vowelsOf 4 (some .int) ∈ lwA := mA 1451 (by decide +kernel) rfl
theorem q_1452 : Cond.methodLink RX5 89 yX5_letterOf ∈ lwA := mA 1452 (by decide +kernel) rfl
theorem q_1454 : Cond.instanceMethod yX5_letterOf ∈ lwA := mA 1454 (by decide +kernel) rfl
theorem q_1455 : Cond.code yX5_letterOf cX5_letterOf 3 (some .int) ∈ lwA := mA 1455 (by decide +kernel) rfl
theorem q_1464 : Cond.methodLink RX5 194 yX5_number ∈ lwA := mA 1464 (by decide +kernel) rfl
theorem q_1465 : Cond.static yX5_number ∈ lwA := mA 1465 (by decide +kernel) rfl
theorem q_1466 : Cond.code yX5_number cX5_number 1 (some .int) ∈ lwA := mA 1466 (by decide +kernel) rfl
theorem q_1467 : Cond.methodLink RX5 198 yX5_punches ∈ lwA := mA 1467 (by decide +kernel) rfl
theorem q_1469 : Cond.instanceMethod yX5_punches ∈ lwA := mA 1469 (by decide +kernel) rfl
theorem q_1470 : Cond.code yX5_punches cX5_punches 5 (some .int) ∈ lwA := mA 1470 (by decide +kernel) rfl
theorem q_1471 : Cond.methodLink RX5 92 yX5_isPunched ∈ lwA := mA 1471 (by decide +kernel) rfl
theorem q_1473 : Cond.instanceMethod yX5_isPunched ∈ lwA := mA 1473 (by decide +kernel) rfl
theorem q_1474 : Cond.code yX5_isPunched cX5_isPunched 3 (some .boolean) ∈ lwA := mA 1474 (by decide +kernel) rfl
theorem q_1475 : Cond.methodLink RX5 78 yX5_half ∈ lwA := mA 1475 (by decide +kernel) rfl
theorem q_1477 : Cond.instanceMethod yX5_half ∈ lwA := mA 1477 (by decide +kernel) rfl
theorem q_1478 : Cond.code yX5_half cX5_half 4 (some .int) ∈ lwA := mA 1478 (by decide +kernel) rfl
theorem q_1479 : Cond.methodLink RX5 145 yX5_holesOf ∈ lwA := mA 1479 (by decide +kernel) rfl
theorem q_1481 : Cond.instanceMethod yX5_holesOf ∈ lwA := mA 1481 (by decide +kernel) rfl
theorem q_1482 : Cond.code yX5_holesOf cX5_holesOf 5 (some .int) ∈ lwA := mA 1482 (by decide +kernel) rfl
theorem q_1483 : Cond.methodLink RX5 99 yX5_holesAt ∈ lwA := mA 1483 (by decide +kernel) rfl
theorem q_1485 : Cond.instanceMethod yX5_holesAt ∈ lwA := mA 1485 (by decide +kernel) rfl
theorem q_1486 : Cond.code yX5_holesAt cX5_holesAt 5 (some .int) ∈ lwA := mA 1486 (by decide +kernel) rfl
theorem q_1487 : Cond.methodLink RX5 96 yX5_mod5 ∈ lwA := mA 1487 (by decide +kernel) rfl
theorem q_1488 : Cond.static yX5_mod5 ∈ lwA := mA 1488 (by decide +kernel) rfl
theorem q_1489 : Cond.code yX5_mod5 cX5_mod5 1 (some .int) ∈ lwA := mA 1489 (by decide +kernel) rfl
theorem q_1494 : Cond.methodLink RX5 201 yX5_makesWet ∈ lwA := mA 1494 (by decide +kernel) rfl
theorem q_1496 : Cond.instanceMethod yX5_makesWet ∈ lwA := mA 1496 (by decide +kernel) rfl
theorem q_1497 : Cond.code yX5_makesWet cX5_makesWet 4 (some .int) ∈ lwA := mA 1497 (by decide +kernel) rfl
theorem q_1498 : Cond.methodLink RX5 148 yX5_getsWet ∈ lwA := mA 1498 (by decide +kernel) rfl
theorem q_1500 : Cond.instanceMethod yX5_getsWet ∈ lwA := mA 1500 (by decide +kernel) rfl
theorem q_1501 : Cond.code yX5_getsWet cX5_getsWet 5 none ∈ lwA := mA 1501 (by decide +kernel) rfl
theorem q_1506 : Cond.methodLink RX5 204 yX5_tears ∈ lwA := mA 1506 (by decide +kernel) rfl
theorem q_1508 : Cond.instanceMethod yX5_tears ∈ lwA := mA 1508 (by decide +kernel) rfl
theorem q_1509 : Cond.code yX5_tears cX5_tears 2 (some .int) ∈ lwA := mA 1509 (by decide +kernel) rfl
theorem q_1510 : Cond.methodLink RX5 151 yX5_tornMany ∈ lwA := mA 1510 (by decide +kernel) rfl
theorem q_1512 : Cond.instanceMethod yX5_tornMany ∈ lwA := mA 1512 (by decide +kernel) rfl
theorem q_1513 : Cond.code yX5_tornMany cX5_tornMany 3 (some .int) ∈ lwA := mA 1513 (by decide +kernel) rfl
theorem q_1518 : Cond.methodLink RX5 207 yX5_goes ∈ lwA := mA 1518 (by decide +kernel) rfl
theorem q_1520 : Cond.instanceMethod yX5_goes ∈ lwA := mA 1520 (by decide +kernel) rfl
theorem q_1521 : Cond.code yX5_goes cX5_goes 4 (some .int) ∈ lwA := mA 1521 (by decide +kernel) rfl
theorem q_1522 : Cond.methodLink RX5 154 yX5_lostMany ∈ lwA := mA 1522 (by decide +kernel) rfl
theorem q_1524 : Cond.instanceMethod yX5_lostMany ∈ lwA := mA 1524 (by decide +kernel) rfl
theorem q_1525 : Cond.code yX5_lostMany cX5_lostMany 3 (some .int) ∈ lwA := mA 1525 (by decide +kernel) rfl
theorem q_1534 : Cond.methodLink RX5 210 yX5_leftOf ∈ lwA := mA 1534 (by decide +kernel) rfl
theorem q_1536 : Cond.instanceMethod yX5_leftOf ∈ lwA := mA 1536 (by decide +kernel) rfl
theorem q_1537 : Cond.code yX5_leftOf cX5_leftOf 5 (some .int) ∈ lwA := mA 1537 (by decide +kernel) rfl
theorem q_1538 : Cond.methodLink RX5 102 yX5_leftAt ∈ lwA := mA 1538 (by decide +kernel) rfl
theorem q_1540 : Cond.instanceMethod yX5_leftAt ∈ lwA := mA 1540 (by decide +kernel) rfl
theorem q_1541 : Cond.code yX5_leftAt cX5_leftAt 6 (some .int) ∈ lwA := mA 1541 (by decide +kernel) rfl
theorem q_1542 : Cond.methodLink RX5 113 yX5_rightOf ∈ lwA := mA 1542 (by decide +kernel) rfl
theorem q_1544 : Cond.instanceMethod yX5_rightOf ∈ lwA := mA 1544 (by decide +kernel) rfl
theorem q_1545 : Cond.code yX5_rightOf cX5_rightOf 7 (some .int) ∈ lwA := mA 1545 (by decide +kernel) rfl
theorem q_1546 : Cond.methodLink RX5 109 yX5_readWith ∈ lwA := mA 1546 (by decide +kernel) rfl
theorem q_1548 : Cond.instanceMethod yX5_readWith ∈ lwA := mA 1548 (by decide +kernel) rfl
theorem q_1549 : Cond.code yX5_readWith cX5_readWith 7 (some .int) ∈ lwA := mA 1549 (by decide +kernel) rfl
theorem q_1550 : Cond.methodLink RX5 106 yX5_vowelFor ∈ lwA := mA 1550 (by decide +kernel) rfl
theorem q_1551 : Cond.static yX5_vowelFor ∈ lwA := mA 1551 (by decide +kernel) rfl
theorem q_1552 : Cond.code yX5_vowelFor cX5_vowelFor 1 (some .int) ∈ lwA := mA 1552 (by decide +kernel) rfl
theorem q_1557 : Cond.methodLink RX5 116 yX5_reads ∈ lwA := mA 1557 (by decide +kernel) rfl
theorem q_1559 : Cond.instanceMethod yX5_reads ∈ lwA := mA 1559 (by decide +kernel) rfl
theorem q_1560 : Cond.code yX5_reads cX5_reads 4 (some .int) ∈ lwA := mA 1560 (by decide +kernel) rfl
theorem q_1569 : Cond.methodLink RX5 213 yX5_halfThere ∈ lwA := mA 1569 (by decide +kernel) rfl
theorem q_1571 : Cond.instanceMethod yX5_halfThere ∈ lwA := mA 1571 (by decide +kernel) rfl
theorem q_1572 : Cond.code yX5_halfThere cX5_halfThere 3 (some .int) ∈ lwA := mA 1572 (by decide +kernel) rfl
theorem q_1581 : Cond.methodLink RX5 216 yX5_unlike ∈ lwA := mA 1581 (by decide +kernel) rfl
theorem q_1583 : Cond.instanceMethod yX5_unlike ∈ lwA := mA 1583 (by decide +kernel) rfl
theorem q_1584 : Cond.code yX5_unlike cX5_unlike 8 (some .int) ∈ lwA := mA 1584 (by decide +kernel) rfl
theorem q_1589 : Cond.methodLink RX5 219 yX5_rides ∈ lwA := mA 1589 (by decide +kernel) rfl
theorem q_1591 : Cond.instanceMethod yX5_rides ∈ lwA := mA 1591 (by decide +kernel) rfl
theorem q_1592 : Cond.code yX5_rides cX5_rides 4 (some .int) ∈ lwA := mA 1592 (by decide +kernel) rfl
theorem q_1593 : Cond.methodLink RX5 163 yX5_hindrance ∈ lwA := mA 1593 (by decide +kernel) rfl
theorem q_1595 : Cond.instanceMethod yX5_hindrance ∈ lwA := mA 1595 (by decide +kernel) rfl
theorem q_1596 : Cond.code yX5_hindrance cX5_hindrance 6 (some .int) ∈ lwA := mA 1596 (by decide +kernel) rfl
theorem q_1597 : Cond.methodLink RX5 157 yX5_isRead ∈ lwA := mA 1597 (by decide +kernel) rfl
theorem q_1599 : Cond.instanceMethod yX5_isRead ∈ lwA := mA 1599 (by decide +kernel) rfl
theorem q_1600 : Cond.code yX5_isRead cX5_isRead 3 (some .boolean) ∈ lwA := mA 1600 (by decide +kernel) rfl
theorem q_1601 : Cond.methodLink RX5 160 yX5_firstUnlike ∈ lwA := mA 1601 (by decide +kernel) rfl
theorem q_1603 : Cond.instanceMethod yX5_firstUnlike ∈ lwA := mA 1603 (by decide +kernel) rfl
theorem q_1604 : Cond.code yX5_firstUnlike cX5_firstUnlike 4 (some .int) ∈ lwA := mA 1604 (by decide +kernel) rfl
theorem q_1613 : Cond.methodLink RX5 222 yX5_passes ∈ lwA := mA 1613 (by decide +kernel) rfl
theorem q_1615 : Cond.instanceMethod yX5_passes ∈ lwA := mA 1615 (by decide +kernel) rfl
theorem q_1616 : Cond.code yX5_passes cX5_passes 1 (some .int) ∈ lwA := mA 1616 (by decide +kernel) rfl
theorem q_1625 : Cond.methodLink RX5 225 yX5_isWordOf ∈ lwA := mA 1625 (by decide +kernel) rfl
theorem q_1627 : Cond.instanceMethod yX5_isWordOf ∈ lwA := mA 1627 (by decide +kernel) rfl
theorem q_1628 : Cond.code yX5_isWordOf cX5_isWordOf 4 (some .boolean) ∈ lwA := mA 1628 (by decide +kernel) rfl
theorem q_1641 : Cond.methodLink RX5 228 yX5_measureOf ∈ lwA := mA 1641 (by decide +kernel) rfl
theorem q_1643 : Cond.instanceMethod yX5_measureOf ∈ lwA := mA 1643 (by decide +kernel) rfl
theorem q_1644 : Cond.code yX5_measureOf cX5_measureOf 3 (some .int) ∈ lwA := mA 1644 (by decide +kernel) rfl
theorem q_1653 : Cond.methodLink RX5 238 yX5_writesHalf ∈ lwA := mA 1653 (by decide +kernel) rfl
theorem q_1655 : Cond.instanceMethod yX5_writesHalf ∈ lwA := mA 1655 (by decide +kernel) rfl
theorem q_1656 : Cond.code yX5_writesHalf cX5_writesHalf 4 none ∈ lwA := mA 1656 (by decide +kernel) rfl
theorem q_1657 : Cond.methodLink RX5 234 yX5_writes ∈ lwA := mA 1657 (by decide +kernel) rfl
theorem q_1659 : Cond.instanceMethod yX5_writes ∈ lwA := mA 1659 (by decide +kernel) rfl
theorem q_1660 : Cond.code yX5_writes cX5_writes 2 none ∈ lwA := mA 1660 (by decide +kernel) rfl
theorem q_1677 : Cond.methodLink RX5 242 yX5_punchedMany ∈ lwA := mA 1677 (by decide +kernel) rfl
theorem q_1679 : Cond.instanceMethod yX5_punchedMany ∈ lwA := mA 1679 (by decide +kernel) rfl
theorem q_1680 : Cond.code yX5_punchedMany cX5_punchedMany 3 (some .int) ∈ lwA := mA 1680 (by decide +kernel) rfl
theorem q_1681 : Cond.methodLink RX5 245 yX5_allLeft ∈ lwA := mA 1681 (by decide +kernel) rfl
theorem q_1683 : Cond.instanceMethod yX5_allLeft ∈ lwA := mA 1683 (by decide +kernel) rfl
theorem q_1684 : Cond.code yX5_allLeft cX5_allLeft 3 (some .int) ∈ lwA := mA 1684 (by decide +kernel) rfl
theorem q_1701 : Cond.methodLink RX5 282 yX5_readsOne ∈ lwA := mA 1701 (by decide +kernel) rfl
theorem q_1703 : Cond.instanceMethod yX5_readsOne ∈ lwA := mA 1703 (by decide +kernel) rfl
theorem q_1704 : Cond.code yX5_readsOne cX5_readsOne 2 none ∈ lwA := mA 1704 (by decide +kernel) rfl
theorem q_1705 : Cond.methodLink RX5 261 yX5_here ∈ lwA := mA 1705 (by decide +kernel) rfl
theorem q_1707 : Cond.instanceMethod yX5_here ∈ lwA := mA 1707 (by decide +kernel) rfl
theorem q_1708 : Cond.code yX5_here cX5_here 1 (some .int) ∈ lwA := mA 1708 (by decide +kernel) rfl
theorem q_1709 : Cond.methodLink RX5 273 yX5_readsWord ∈ lwA := mA 1709 (by decide +kernel) rfl
theorem q_1711 : Cond.instanceMethod yX5_readsWord ∈ lwA := mA 1711 (by decide +kernel) rfl
theorem q_1712 : Cond.code yX5_readsWord cX5_readsWord 3 none ∈ lwA := mA 1712 (by decide +kernel) rfl
theorem q_1713 : Cond.methodLink RX5 270 yX5_sign ∈ lwA := mA 1713 (by decide +kernel) rfl
theorem q_1715 : Cond.instanceMethod yX5_sign ∈ lwA := mA 1715 (by decide +kernel) rfl
theorem q_1716 : Cond.code yX5_sign cX5_sign 2 none ∈ lwA := mA 1716 (by decide +kernel) rfl
theorem q_1717 : Cond.methodLink RX5 267 yX5_digit ∈ lwA := mA 1717 (by decide +kernel) rfl
theorem q_1719 : Cond.instanceMethod yX5_digit ∈ lwA := mA 1719 (by decide +kernel) rfl
theorem q_1720 : Cond.code yX5_digit cX5_digit 1 (some .int) ∈ lwA := mA 1720 (by decide +kernel) rfl
theorem q_1721 : Cond.methodLink RX5 276 yX5_readsHalf ∈ lwA := mA 1721 (by decide +kernel) rfl
theorem q_1723 : Cond.instanceMethod yX5_readsHalf ∈ lwA := mA 1723 (by decide +kernel) rfl
theorem q_1724 : Cond.code yX5_readsHalf cX5_readsHalf 1 none ∈ lwA := mA 1724 (by decide +kernel) rfl
theorem q_1725 : Cond.methodLink RX5 285 yX5_does ∈ lwA := mA 1725 (by decide +kernel) rfl
theorem q_1727 : Cond.instanceMethod yX5_does ∈ lwA := mA 1727 (by decide +kernel) rfl
theorem q_1728 : Cond.code yX5_does cX5_does 5 (some .int) ∈ lwA := mA 1728 (by decide +kernel) rfl
theorem q_1729 : Cond.methodLink RX5 279 yX5_printsGiven ∈ lwA := mA 1729 (by decide +kernel) rfl
theorem q_1731 : Cond.instanceMethod yX5_printsGiven ∈ lwA := mA 1731 (by decide +kernel) rfl
theorem q_1732 : Cond.code yX5_printsGiven cX5_printsGiven 7 (some .int) ∈ lwA := mA 1732 (by decide +kernel) rfl
