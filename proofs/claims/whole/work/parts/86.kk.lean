theorem q_131 : Cond.initialized RL ∈ lwA := mA 131 (by decide +kernel) rfl
theorem q_153 : Cond.classLink RL 8 RX4 ∈ lwA := mA 153 (by decide +kernel) rfl
theorem q_154 : Cond.instantiable RX4 15 ∈ lwA := mA 154 (by decide +kernel) rfl
theorem q_155 : Cond.methodLink RL 149 yX4_init ∈ lwA := mA 155 (by decide +kernel) rfl
theorem q_156 : Cond.instanceMethod yX4_init ∈ lwA := mA 156 (by decide +kernel) rfl
theorem q_157 : Cond.code yX4_init cX4_init 2 none ∈ lwA := mA 157 (by decide +kernel) rfl
theorem q_360 : Cond.methodLink RL 153 yX4_clear ∈ lwA := mA 360 (by decide +kernel) rfl
theorem q_361 : Cond.instanceMethod yX4_clear ∈ lwA := mA 361 (by decide +kernel) rfl
theorem q_362 : Cond.selects yX4_clear.cls yX4_clear yX4_clear ∈ lwA := mA 362 (by decide +kernel) rfl
theorem q_363 : Cond.code yX4_clear cX4_clear 2 (some .int) ∈ lwA := mA 363 (by decide +kernel) rfl
theorem q_368 : Cond.methodLink RL 232 yX4_day ∈ lwA := mA 368 (by decide +kernel) rfl
theorem q_369 : Cond.instanceMethod yX4_day ∈ lwA := mA 369 (by decide +kernel) rfl
theorem q_370 : Cond.selects yX4_day.cls yX4_day yX4_day ∈ lwA := mA 370 (by decide +kernel) rfl
theorem q_371 : Cond.code yX4_day cX4_day 1 (some .int) ∈ lwA := mA 371 (by decide +kernel) rfl
theorem q_509 : Cond.methodLink RL 239 yX4_words ∈ lwA := mA 509 (by decide +kernel) rfl
theorem q_510 : Cond.instanceMethod yX4_words ∈ lwA := mA 510 (by decide +kernel) rfl
theorem q_511 : Cond.selects yX4_words.cls yX4_words yX4_words ∈ lwA := mA 511 (by decide +kernel) rfl
theorem q_512 : Cond.code yX4_words cX4_words 3 (some .int) ∈ lwA := mA 512 (by decide +kernel) rfl
theorem q_529 : Cond.methodLink RL 252 yX4_isRight ∈ lwA := mA 529 (by decide +kernel) rfl
theorem q_530 : Cond.instanceMethod yX4_isRight ∈ lwA := mA 530 (by decide +kernel) rfl
theorem q_531 : Cond.selects yX4_isRight.cls yX4_isRight yX4_isRight ∈ lwA := mA 531 (by decide +kernel) rfl
theorem q_532 : Cond.code yX4_isRight cX4_isRight 3 (some .boolean) ∈ lwA := mA 532 (by decide +kernel) rfl
theorem q_617 : Cond.methodLink RL 295 yX4_snapshot ∈ lwA := mA 617 (by decide +kernel) rfl
theorem q_618 : Cond.instanceMethod yX4_snapshot ∈ lwA := mA 618 (by decide +kernel) rfl
theorem q_619 : Cond.selects yX4_snapshot.cls yX4_snapshot yX4_snapshot ∈ lwA := mA 619 (by decide +kernel) rfl
theorem q_620 : Cond.code yX4_snapshot cX4_snapshot 1 (some .int) ∈ lwA := mA 620 (by decide +kernel) rfl
theorem q_621 : Cond.methodLink RL 157 yL_letter ∈ lwA := mA 621 (by decide +kernel) rfl
theorem q_622 : Cond.static yL_letter ∈ lwA := mA 622 (by decide +kernel) rfl
theorem q_623 : Cond.codeWith yL_letter cL_letter 4 (some .int) [(0, 9, 12, 13), (0, 9, 15, 15)] ∈ lwA := mA 623 (by decide +kernel) rfl
theorem q_646 : Cond.methodLink RL 166 yL_unletter ∈ lwA := mA 646 (by decide +kernel) rfl
theorem q_647 : Cond.static yL_unletter ∈ lwA := mA 647 (by decide +kernel) rfl
theorem q_648 : Cond.codeWith yL_unletter cL_unletter 3 (some .int) [(0, 8, 11, 15)] ∈ lwA := mA 648 (by decide +kernel) rfl
theorem q_657 : Cond.methodLink RL 170 yL_print ∈ lwA := mA 657 (by decide +kernel) rfl
theorem q_658 : Cond.static yL_print ∈ lwA := mA 658 (by decide +kernel) rfl
theorem q_659 : Cond.codeWith yL_print cL_print 6 (some .int) [(0, 12, 15, 25), (0, 12, 19, 13), (0, 12, 23, 15)] ∈ lwA := mA 659 (by decide +kernel) rfl
theorem q_705 : Cond.methodLink RL 174 yL_throwAway ∈ lwA := mA 705 (by decide +kernel) rfl
theorem q_706 : Cond.static yL_throwAway ∈ lwA := mA 706 (by decide +kernel) rfl
theorem q_707 : Cond.codeWith yL_throwAway cL_throwAway 4 (some .int) [(0, 9, 12, 25)] ∈ lwA := mA 707 (by decide +kernel) rfl
theorem q_724 : Cond.methodLink RL 178 yL_mood ∈ lwA := mA 724 (by decide +kernel) rfl
theorem q_725 : Cond.static yL_mood ∈ lwA := mA 725 (by decide +kernel) rfl
theorem q_726 : Cond.codeWith yL_mood cL_mood 5 (some .int) [(0, 10, 13, 25), (0, 10, 17, 13), (0, 10, 21, 15)] ∈ lwA := mA 726 (by decide +kernel) rfl
theorem q_743 : Cond.methodLink RL 182 yL_pier ∈ lwA := mA 743 (by decide +kernel) rfl
theorem q_744 : Cond.static yL_pier ∈ lwA := mA 744 (by decide +kernel) rfl
theorem q_745 : Cond.codeWith yL_pier cL_pier 5 (some .int) [(0, 10, 13, 25), (0, 10, 17, 15)] ∈ lwA := mA 745 (by decide +kernel) rfl
theorem q_758 : Cond.methodLink RL 186 yL_ticketOf ∈ lwA := mA 758 (by decide +kernel) rfl
theorem q_759 : Cond.static yL_ticketOf ∈ lwA := mA 759 (by decide +kernel) rfl
theorem q_760 : Cond.codeWith yL_ticketOf cL_ticketOf 5 (some .int) [(0, 10, 13, 25), (0, 10, 17, 13)] ∈ lwA := mA 760 (by decide +kernel) rfl
theorem q_771 : Cond.methodLink RL 189 yL_wordAt ∈ lwA := mA 771 (by decide +kernel) rfl
theorem q_772 : Cond.static yL_wordAt ∈ lwA := mA 772 (by decide +kernel) rfl
theorem q_773 : Cond.codeWith yL_wordAt cL_wordAt 5 (some .int) [(0, 10, 13, 25), (0, 10, 17, 46)] ∈ lwA := mA 773 (by decide +kernel) rfl
theorem q_797 : Cond.methodLink RL 192 yL_punch ∈ lwA := mA 797 (by decide +kernel) rfl
theorem q_798 : Cond.static yL_punch ∈ lwA := mA 798 (by decide +kernel) rfl
theorem q_799 : Cond.codeWith yL_punch cL_punch 6 (some .int) [(0, 12, 15, 25), (0, 12, 19, 15)] ∈ lwA := mA 799 (by decide +kernel) rfl
theorem q_816 : Cond.methodLink RL 196 yL_wet ∈ lwA := mA 816 (by decide +kernel) rfl
theorem q_817 : Cond.static yL_wet ∈ lwA := mA 817 (by decide +kernel) rfl
theorem q_818 : Cond.codeWith yL_wet cL_wet 6 (some .int) [(0, 12, 15, 25), (0, 12, 19, 13)] ∈ lwA := mA 818 (by decide +kernel) rfl
theorem q_839 : Cond.methodLink RL 199 yL_tear ∈ lwA := mA 839 (by decide +kernel) rfl
theorem q_840 : Cond.static yL_tear ∈ lwA := mA 840 (by decide +kernel) rfl
theorem q_841 : Cond.codeWith yL_tear cL_tear 4 (some .int) [(0, 9, 12, 25), (0, 9, 15, 15)] ∈ lwA := mA 841 (by decide +kernel) rfl
theorem q_854 : Cond.methodLink RL 202 yL_lose ∈ lwA := mA 854 (by decide +kernel) rfl
theorem q_855 : Cond.static yL_lose ∈ lwA := mA 855 (by decide +kernel) rfl
theorem q_856 : Cond.codeWith yL_lose cL_lose 5 (some .int) [(0, 10, 13, 25), (0, 10, 17, 15)] ∈ lwA := mA 856 (by decide +kernel) rfl
theorem q_869 : Cond.methodLink RL 205 yL_find ∈ lwA := mA 869 (by decide +kernel) rfl
theorem q_870 : Cond.static yL_find ∈ lwA := mA 870 (by decide +kernel) rfl
theorem q_871 : Cond.codeWith yL_find cL_find 5 (some .int) [(0, 10, 13, 25), (0, 10, 17, 15)] ∈ lwA := mA 871 (by decide +kernel) rfl
theorem q_876 : Cond.methodLink RL 208 yL_halfOf ∈ lwA := mA 876 (by decide +kernel) rfl
theorem q_877 : Cond.static yL_halfOf ∈ lwA := mA 877 (by decide +kernel) rfl
theorem q_878 : Cond.codeWith yL_halfOf cL_halfOf 6 (some .int) [(0, 12, 15, 25), (0, 12, 19, 13)] ∈ lwA := mA 878 (by decide +kernel) rfl
theorem q_888 : Cond.methodLink RL 211 yL_readAt ∈ lwA := mA 888 (by decide +kernel) rfl
theorem q_889 : Cond.static yL_readAt ∈ lwA := mA 889 (by decide +kernel) rfl
theorem q_890 : Cond.codeWith yL_readAt cL_readAt 6 (some .int) [(0, 12, 15, 25), (0, 12, 19, 46)] ∈ lwA := mA 890 (by decide +kernel) rfl
theorem q_900 : Cond.methodLink RL 214 yL_doAgree ∈ lwA := mA 900 (by decide +kernel) rfl
theorem q_901 : Cond.static yL_doAgree ∈ lwA := mA 901 (by decide +kernel) rfl
theorem q_902 : Cond.codeWith yL_doAgree cL_doAgree 5 (some .int) [(0, 17, 20, 25)] ∈ lwA := mA 902 (by decide +kernel) rfl
theorem q_907 : Cond.methodLink RL 217 yL_moodFor ∈ lwA := mA 907 (by decide +kernel) rfl
theorem q_908 : Cond.static yL_moodFor ∈ lwA := mA 908 (by decide +kernel) rfl
theorem q_909 : Cond.codeWith yL_moodFor cL_moodFor 5 (some .int) [(0, 10, 13, 25), (0, 10, 17, 46)] ∈ lwA := mA 909 (by decide +kernel) rfl
theorem q_915 : Cond.methodLink RL 220 yL_would ∈ lwA := mA 915 (by decide +kernel) rfl
theorem q_916 : Cond.static yL_would ∈ lwA := mA 916 (by decide +kernel) rfl
theorem q_917 : Cond.codeWith yL_would cL_would 6 (some .int) [(0, 12, 15, 25), (0, 12, 19, 13), (0, 12, 23, 46)] ∈ lwA := mA 917 (by decide +kernel) rfl
theorem q_924 : Cond.methodLink RL 223 yL_likely ∈ lwA := mA 924 (by decide +kernel) rfl
theorem q_925 : Cond.static yL_likely ∈ lwA := mA 925 (by decide +kernel) rfl
theorem q_926 : Cond.codeWith yL_likely cL_likely 5 (some .int) [(0, 10, 13, 25), (0, 10, 17, 46)] ∈ lwA := mA 926 (by decide +kernel) rfl
theorem q_939 : Cond.methodLink RL 226 yL_ride ∈ lwA := mA 939 (by decide +kernel) rfl
theorem q_940 : Cond.static yL_ride ∈ lwA := mA 940 (by decide +kernel) rfl
theorem q_941 : Cond.codeWith yL_ride cL_ride 5 (some .int) [(0, 10, 13, 25), (0, 10, 17, 15)] ∈ lwA := mA 941 (by decide +kernel) rfl
theorem q_967 : Cond.methodLink RL 229 yL_hinders ∈ lwA := mA 967 (by decide +kernel) rfl
theorem q_968 : Cond.static yL_hinders ∈ lwA := mA 968 (by decide +kernel) rfl
theorem q_969 : Cond.codeWith yL_hinders cL_hinders 5 (some .int) [(0, 10, 13, 25)] ∈ lwA := mA 969 (by decide +kernel) rfl
theorem q_974 : Cond.methodLink RL 236 yL_daysLeft ∈ lwA := mA 974 (by decide +kernel) rfl
theorem q_975 : Cond.static yL_daysLeft ∈ lwA := mA 975 (by decide +kernel) rfl
theorem q_976 : Cond.codeWith yL_daysLeft cL_daysLeft 4 (some .int) [(0, 9, 12, 25), (0, 9, 15, 46)] ∈ lwA := mA 976 (by decide +kernel) rfl
theorem q_983 : Cond.methodLink RL 243 yL_sharing ∈ lwA := mA 983 (by decide +kernel) rfl
theorem q_984 : Cond.static yL_sharing ∈ lwA := mA 984 (by decide +kernel) rfl
theorem q_985 : Cond.codeWith yL_sharing cL_sharing 4 (some .int) [(0, 9, 12, 25)] ∈ lwA := mA 985 (by decide +kernel) rfl
theorem q_991 : Cond.methodLink RL 246 yL_often ∈ lwA := mA 991 (by decide +kernel) rfl
theorem q_992 : Cond.static yL_often ∈ lwA := mA 992 (by decide +kernel) rfl
theorem q_993 : Cond.codeWith yL_often cL_often 4 (some .int) [(0, 9, 12, 13)] ∈ lwA := mA 993 (by decide +kernel) rfl
theorem q_1003 : Cond.methodLink RL 249 yL_ranked ∈ lwA := mA 1003 (by decide +kernel) rfl
theorem q_1004 : Cond.static yL_ranked ∈ lwA := mA 1004 (by decide +kernel) rfl
theorem q_1005 : Cond.codeWith yL_ranked cL_ranked 5 (some .int) [(0, 10, 13, 13), (0, 10, 17, 46)] ∈ lwA := mA 1005 (by decide +kernel) rfl
theorem q_1029 : Cond.methodLink RL 257 yL_line ∈ lwA := mA 1029 (by decide +kernel) rfl
theorem q_1030 : Cond.static yL_line ∈ lwA := mA 1030 (by decide +kernel) rfl
theorem q_1031 : Cond.codeWith yL_line cL_line 4 (some .int) [(0, 9, 12, 25)] ∈ lwA := mA 1031 (by decide +kernel) rfl
theorem q_1047 : Cond.methodLink RL 260 yL_holeLine ∈ lwA := mA 1047 (by decide +kernel) rfl
theorem q_1048 : Cond.static yL_holeLine ∈ lwA := mA 1048 (by decide +kernel) rfl
theorem q_1049 : Cond.codeWith yL_holeLine cL_holeLine 5 (some .int) [(0, 10, 13, 25), (0, 10, 17, 46)] ∈ lwA := mA 1049 (by decide +kernel) rfl
theorem q_1055 : Cond.methodLink RL 263 yL_character ∈ lwA := mA 1055 (by decide +kernel) rfl
theorem q_1056 : Cond.static yL_character ∈ lwA := mA 1056 (by decide +kernel) rfl
theorem q_1057 : Cond.codeWith yL_character cL_character 4 (some .int) [(0, 9, 12, 25)] ∈ lwA := mA 1057 (by decide +kernel) rfl
theorem q_1063 : Cond.methodLink RL 266 yL_refusal ∈ lwA := mA 1063 (by decide +kernel) rfl
theorem q_1064 : Cond.static yL_refusal ∈ lwA := mA 1064 (by decide +kernel) rfl
theorem q_1065 : Cond.codeWith yL_refusal cL_refusal 4 (some .int) [(0, 9, 12, 116)] ∈ lwA := mA 1065 (by decide +kernel) rfl
theorem q_1087 : Cond.methodLink RL 270 yL_account ∈ lwA := mA 1087 (by decide +kernel) rfl
theorem q_1088 : Cond.static yL_account ∈ lwA := mA 1088 (by decide +kernel) rfl
theorem q_1089 : Cond.codeWith yL_account cL_account 4 (some .int) [(0, 9, 12, 13)] ∈ lwA := mA 1089 (by decide +kernel) rfl
theorem q_1104 : Cond.methodLink RL 273 yL_meanWet ∈ lwA := mA 1104 (by decide +kernel) rfl
theorem q_1105 : Cond.static yL_meanWet ∈ lwA := mA 1105 (by decide +kernel) rfl
theorem q_1106 : Cond.codeWith yL_meanWet cL_meanWet 3 (some .int) [(0, 7, 10, 125)] ∈ lwA := mA 1106 (by decide +kernel) rfl
theorem q_1129 : Cond.methodLink RL 277 yL_readShare ∈ lwA := mA 1129 (by decide +kernel) rfl
theorem q_1130 : Cond.static yL_readShare ∈ lwA := mA 1130 (by decide +kernel) rfl
theorem q_1131 : Cond.codeWith yL_readShare cL_readShare 3 (some .int) [(0, 8, 11, 125)] ∈ lwA := mA 1131 (by decide +kernel) rfl
theorem q_1142 : Cond.methodLink RL 280 yL_append ∈ lwA := mA 1142 (by decide +kernel) rfl
theorem q_1143 : Cond.static yL_append ∈ lwA := mA 1143 (by decide +kernel) rfl
theorem q_1144 : Cond.codeWith yL_append cL_append 4 (some .int) [(0, 9, 12, 13), (0, 9, 15, 116)] ∈ lwA := mA 1144 (by decide +kernel) rfl
theorem q_1151 : Cond.methodLink RL 283 yL_read ∈ lwA := mA 1151 (by decide +kernel) rfl
theorem q_1152 : Cond.static yL_read ∈ lwA := mA 1152 (by decide +kernel) rfl
theorem q_1153 : Cond.codeWith yL_read cL_read 3 (some .int) [(0, 8, 11, 13), (0, 8, 14, 15)] ∈ lwA := mA 1153 (by decide +kernel) rfl
theorem q_1221 : Cond.methodLink RL 286 yL_errorPosition ∈ lwA := mA 1221 (by decide +kernel) rfl
theorem q_1222 : Cond.static yL_errorPosition ∈ lwA := mA 1222 (by decide +kernel) rfl
theorem q_1223 : Cond.codeWith yL_errorPosition cL_errorPosition 3 (some .int) [(0, 8, 11, 46)] ∈ lwA := mA 1223 (by decide +kernel) rfl
theorem q_1229 : Cond.methodLink RL 289 yL_refusedItem ∈ lwA := mA 1229 (by decide +kernel) rfl
theorem q_1230 : Cond.static yL_refusedItem ∈ lwA := mA 1230 (by decide +kernel) rfl
theorem q_1231 : Cond.codeWith yL_refusedItem cL_refusedItem 3 (some .int) [(0, 8, 11, 46)] ∈ lwA := mA 1231 (by decide +kernel) rfl
theorem q_1237 : Cond.methodLink RL 292 yL_undo ∈ lwA := mA 1237 (by decide +kernel) rfl
theorem q_1238 : Cond.static yL_undo ∈ lwA := mA 1238 (by decide +kernel) rfl
theorem q_1239 : Cond.codeWith yL_undo cL_undo 3 (some .int) [(0, 8, 11, 116)] ∈ lwA := mA 1239 (by decide +kernel) rfl
theorem q_1245 : Cond.methodLink RL 299 yL_restore ∈ lwA := mA 1245 (by decide +kernel) rfl
theorem q_1246 : Cond.static yL_restore ∈ lwA := mA 1246 (by decide +kernel) rfl
theorem q_1247 : Cond.codeWith yL_restore cL_restore 3 (some .int) [(0, 8, 11, 116)] ∈ lwA := mA 1247 (by decide +kernel) rfl
theorem q_1253 : Cond.classLink RL 150 RX5 ∈ lwA := mA 1253 (by decide +kernel) rfl
theorem q_1254 : Cond.instantiable RX5 23 ∈ lwA := mA 1254 (by decide +kernel) rfl
theorem q_1255 : Cond.methodLink RL 152 yX5_init ∈ lwA := mA 1255 (by decide +kernel) rfl
theorem q_1256 : Cond.instanceMethod yX5_init ∈ lwA := mA 1256 (by decide +kernel) rfl
theorem q_1257 : Cond.code yX5_init cX5_init 1 none ∈ lwA := mA 1257 (by decide +kernel) rfl
theorem q_1329 : Cond.methodLink RL 163 yX5_thrown ∈ lwA := mA 1329 (by decide +kernel) rfl
theorem q_1330 : Cond.instanceMethod yX5_thrown ∈ lwA := mA 1330 (by decide +kernel) rfl
theorem q_1331 : Cond.selects yX5_thrown.cls yX5_thrown yX5_thrown ∈ lwA := mA 1331 (by decide +kernel) rfl
theorem q_1332 : Cond.code yX5_thrown cX5_thrown 1 (some .int) ∈ lwA := mA 1332 (by decide +kernel) rfl
theorem q_1333 : Cond.methodLink RL 156 yX5_clear ∈ lwA := mA 1333 (by decide +kernel) rfl
theorem q_1334 : Cond.instanceMethod yX5_clear ∈ lwA := mA 1334 (by decide +kernel) rfl
theorem q_1335 : Cond.selects yX5_clear.cls yX5_clear yX5_clear ∈ lwA := mA 1335 (by decide +kernel) rfl
theorem q_1336 : Cond.code yX5_clear cX5_clear 3 (some .int) ∈ lwA := mA 1336 (by decide +kernel) rfl
theorem q_1337 : Cond.methodLink RL 162 yX5_letter ∈ lwA := mA 1337 (by decide +kernel) rfl
theorem q_1338 : Cond.instanceMethod yX5_letter ∈ lwA := mA 1338 (by decide +kernel) rfl
theorem q_1339 : Cond.selects yX5_letter.cls yX5_letter yX5_letter ∈ lwA := mA 1339 (by decide +kernel) rfl
theorem q_1340 : Cond.code yX5_letter cX5_letter 2 (some .int) ∈ lwA := mA 1340 (by decide +kernel) rfl
theorem q_1381 : Cond.methodLink RL 169 yX5_unletter ∈ lwA := mA 1381 (by decide +kernel) rfl
theorem q_1382 : Cond.instanceMethod yX5_unletter ∈ lwA := mA 1382 (by decide +kernel) rfl
theorem q_1383 : Cond.selects yX5_unletter.cls yX5_unletter yX5_unletter ∈ lwA := mA 1383 (by decide +kernel) rfl
theorem q_1384 : Cond.code yX5_unletter cX5_unletter 1 (some .int) ∈ lwA := mA 1384 (by decide +kernel) rfl
theorem q_1389 : Cond.methodLink RL 173 yX5_print ∈ lwA := mA 1389 (by decide +kernel) rfl
theorem q_1390 : Cond.instanceMethod yX5_print ∈ lwA := mA 1390 (by decide +kernel) rfl
theorem q_1391 : Cond.selects yX5_print.cls yX5_print yX5_print ∈ lwA := mA 1391 (by decide +kernel) rfl
theorem q_1392 : Cond.code yX5_print cX5_print 4 (some .int) ∈ lwA := mA 1392 (by decide +kernel) rfl
theorem q_1409 : Cond.methodLink RL 177 yX5_throwAway ∈ lwA := mA 1409 (by decide +kernel) rfl
theorem q_1410 : Cond.instanceMethod yX5_throwAway ∈ lwA := mA 1410 (by decide +kernel) rfl
theorem q_1411 : Cond.selects yX5_throwAway.cls yX5_throwAway yX5_throwAway ∈ lwA := mA 1411 (by decide +kernel) rfl
theorem q_1412 : Cond.code yX5_throwAway cX5_throwAway 2 (some .int) ∈ lwA := mA 1412 (by decide +kernel) rfl
theorem q_1421 : Cond.methodLink RL 181 yX5_mood ∈ lwA := mA 1421 (by decide +kernel) rfl
theorem q_1422 : Cond.instanceMethod yX5_mood ∈ lwA := mA 1422 (by decide +kernel) rfl
theorem q_1423 : Cond.selects yX5_mood.cls yX5_mood yX5_mood ∈ lwA := mA 1423 (by decide +kernel) rfl
theorem q_1424 : Cond.code yX5_mood cX5_mood 3 (some .int) ∈ lwA := mA 1424 (by decide +kernel) rfl
theorem q_1429 : Cond.methodLink RL 185 yX5_pier ∈ lwA := mA 1429 (by decide +kernel) rfl
theorem q_1430 : Cond.instanceMethod yX5_pier ∈ lwA := mA 1430 (by decide +kernel) rfl
theorem q_1431 : Cond.selects yX5_pier.cls yX5_pier yX5_pier ∈ lwA := mA 1431 (by decide +kernel) rfl
theorem q_1432 : Cond.code yX5_pier cX5_pier 3 (some .int) ∈ lwA := mA 1432 (by decide +kernel) rfl
theorem q_1445 : Cond.methodLink RL 188 yX5_ticketOf ∈ lwA := mA 1445 (by decide +kernel) rfl
theorem q_1446 : Cond.instanceMethod yX5_ticketOf ∈ lwA := mA 1446 (by decide +kernel) rfl
theorem q_1447 : Cond.selects yX5_ticketOf.cls yX5_ticketOf yX5_ticketOf ∈ lwA := mA 1447 (by decide +kernel) rfl
theorem q_1448 : Cond.code yX5_ticketOf cX5_ticketOf 3 (some .int) ∈ lwA := mA 1448 (by decide +kernel) rfl
theorem q_1461 : Cond.methodLink RL 191 yX5_wordAt ∈ lwA := mA 1461 (by decide +kernel) rfl
theorem q_1462 : Cond.instanceMethod yX5_wordAt ∈ lwA := mA 1462 (by decide +kernel) rfl
theorem q_1463 : Cond.selects yX5_wordAt.cls yX5_wordAt yX5_wordAt ∈ lwA := mA 1463 (by decide +kernel) rfl
theorem q_1464 : Cond.code yX5_wordAt cX5_wordAt 3 (some .char) ∈ lwA := mA 1464 (by decide +kernel) rfl
theorem q_1465 : Cond.methodLink RL 195 yX5_punch ∈ lwA := mA 1465 (by decide +kernel) rfl
theorem q_1466 : Cond.instanceMethod yX5_punch ∈ lwA := mA 1466 (by decide +kernel) rfl
theorem q_1467 : Cond.selects yX5_punch.cls yX5_punch yX5_punch ∈ lwA := mA 1467 (by decide +kernel) rfl
theorem q_1468 : Cond.code yX5_punch cX5_punch 4 (some .int) ∈ lwA := mA 1468 (by decide +kernel) rfl
theorem q_1495 : Cond.methodLink RL 198 yX5_wet ∈ lwA := mA 1495 (by decide +kernel) rfl
theorem q_1496 : Cond.instanceMethod yX5_wet ∈ lwA := mA 1496 (by decide +kernel) rfl
theorem q_1497 : Cond.selects yX5_wet.cls yX5_wet yX5_wet ∈ lwA := mA 1497 (by decide +kernel) rfl
theorem q_1498 : Cond.code yX5_wet cX5_wet 4 (some .int) ∈ lwA := mA 1498 (by decide +kernel) rfl
theorem q_1507 : Cond.methodLink RL 201 yX5_tear ∈ lwA := mA 1507 (by decide +kernel) rfl
theorem q_1508 : Cond.instanceMethod yX5_tear ∈ lwA := mA 1508 (by decide +kernel) rfl
theorem q_1509 : Cond.selects yX5_tear.cls yX5_tear yX5_tear ∈ lwA := mA 1509 (by decide +kernel) rfl
theorem q_1510 : Cond.code yX5_tear cX5_tear 2 (some .int) ∈ lwA := mA 1510 (by decide +kernel) rfl
theorem q_1519 : Cond.methodLink RL 204 yX5_lose ∈ lwA := mA 1519 (by decide +kernel) rfl
theorem q_1520 : Cond.instanceMethod yX5_lose ∈ lwA := mA 1520 (by decide +kernel) rfl
theorem q_1521 : Cond.selects yX5_lose.cls yX5_lose yX5_lose ∈ lwA := mA 1521 (by decide +kernel) rfl
theorem q_1522 : Cond.code yX5_lose cX5_lose 3 (some .int) ∈ lwA := mA 1522 (by decide +kernel) rfl
theorem q_1531 : Cond.methodLink RL 207 yX5_find ∈ lwA := mA 1531 (by decide +kernel) rfl
theorem q_1532 : Cond.instanceMethod yX5_find ∈ lwA := mA 1532 (by decide +kernel) rfl
theorem q_1533 : Cond.selects yX5_find.cls yX5_find yX5_find ∈ lwA := mA 1533 (by decide +kernel) rfl
theorem q_1534 : Cond.code yX5_find cX5_find 3 (some .int) ∈ lwA := mA 1534 (by decide +kernel) rfl
theorem q_1535 : Cond.methodLink RL 210 yX5_halfOf ∈ lwA := mA 1535 (by decide +kernel) rfl
theorem q_1536 : Cond.instanceMethod yX5_halfOf ∈ lwA := mA 1536 (by decide +kernel) rfl
theorem q_1537 : Cond.selects yX5_halfOf.cls yX5_halfOf yX5_halfOf ∈ lwA := mA 1537 (by decide +kernel) rfl
theorem q_1538 : Cond.code yX5_halfOf cX5_halfOf 5 (some .int) ∈ lwA := mA 1538 (by decide +kernel) rfl
theorem q_1558 : Cond.methodLink RL 213 yX5_readAt ∈ lwA := mA 1558 (by decide +kernel) rfl
theorem q_1559 : Cond.instanceMethod yX5_readAt ∈ lwA := mA 1559 (by decide +kernel) rfl
theorem q_1560 : Cond.selects yX5_readAt.cls yX5_readAt yX5_readAt ∈ lwA := mA 1560 (by decide +kernel) rfl
theorem q_1561 : Cond.code yX5_readAt cX5_readAt 4 (some .char) ∈ lwA := mA 1561 (by decide +kernel) rfl
theorem q_1566 : Cond.methodLink RL 216 yX5_doAgree ∈ lwA := mA 1566 (by decide +kernel) rfl
theorem q_1567 : Cond.instanceMethod yX5_doAgree ∈ lwA := mA 1567 (by decide +kernel) rfl
theorem q_1568 : Cond.selects yX5_doAgree.cls yX5_doAgree yX5_doAgree ∈ lwA := mA 1568 (by decide +kernel) rfl
theorem q_1569 : Cond.code yX5_doAgree cX5_doAgree 4 (some .boolean) ∈ lwA := mA 1569 (by decide +kernel) rfl
theorem q_1570 : Cond.methodLink RL 219 yX5_moodFor ∈ lwA := mA 1570 (by decide +kernel) rfl
theorem q_1571 : Cond.instanceMethod yX5_moodFor ∈ lwA := mA 1571 (by decide +kernel) rfl
theorem q_1572 : Cond.selects yX5_moodFor.cls yX5_moodFor yX5_moodFor ∈ lwA := mA 1572 (by decide +kernel) rfl
theorem q_1573 : Cond.code yX5_moodFor cX5_moodFor 5 (some .int) ∈ lwA := mA 1573 (by decide +kernel) rfl
theorem q_1578 : Cond.methodLink RL 222 yX5_would ∈ lwA := mA 1578 (by decide +kernel) rfl
theorem q_1579 : Cond.instanceMethod yX5_would ∈ lwA := mA 1579 (by decide +kernel) rfl
theorem q_1580 : Cond.selects yX5_would.cls yX5_would yX5_would ∈ lwA := mA 1580 (by decide +kernel) rfl
theorem q_1581 : Cond.code yX5_would cX5_would 6 (some .int) ∈ lwA := mA 1581 (by decide +kernel) rfl
theorem q_1582 : Cond.methodLink RL 225 yX5_likely ∈ lwA := mA 1582 (by decide +kernel) rfl
theorem q_1583 : Cond.instanceMethod yX5_likely ∈ lwA := mA 1583 (by decide +kernel) rfl
theorem q_1584 : Cond.selects yX5_likely.cls yX5_likely yX5_likely ∈ lwA := mA 1584 (by decide +kernel) rfl
theorem q_1585 : Cond.code yX5_likely cX5_likely 6 (some .int) ∈ lwA := mA 1585 (by decide +kernel) rfl
theorem q_1590 : Cond.methodLink RL 228 yX5_ride ∈ lwA := mA 1590 (by decide +kernel) rfl
theorem q_1591 : Cond.instanceMethod yX5_ride ∈ lwA := mA 1591 (by decide +kernel) rfl
theorem q_1592 : Cond.selects yX5_ride.cls yX5_ride yX5_ride ∈ lwA := mA 1592 (by decide +kernel) rfl
theorem q_1593 : Cond.code yX5_ride cX5_ride 3 (some .int) ∈ lwA := mA 1593 (by decide +kernel) rfl
theorem q_1610 : Cond.methodLink RL 231 yX5_hinders ∈ lwA := mA 1610 (by decide +kernel) rfl
theorem q_1611 : Cond.instanceMethod yX5_hinders ∈ lwA := mA 1611 (by decide +kernel) rfl
theorem q_1612 : Cond.selects yX5_hinders.cls yX5_hinders yX5_hinders ∈ lwA := mA 1612 (by decide +kernel) rfl
theorem q_1613 : Cond.code yX5_hinders cX5_hinders 3 (some .int) ∈ lwA := mA 1613 (by decide +kernel) rfl
theorem q_1614 : Cond.methodLink RL 235 yX5_day ∈ lwA := mA 1614 (by decide +kernel) rfl
theorem q_1615 : Cond.instanceMethod yX5_day ∈ lwA := mA 1615 (by decide +kernel) rfl
theorem q_1616 : Cond.selects yX5_day.cls yX5_day yX5_day ∈ lwA := mA 1616 (by decide +kernel) rfl
theorem q_1617 : Cond.code yX5_day cX5_day 1 (some .int) ∈ lwA := mA 1617 (by decide +kernel) rfl
theorem q_1622 : Cond.methodLink RL 238 yX5_daysLeft ∈ lwA := mA 1622 (by decide +kernel) rfl
theorem q_1623 : Cond.instanceMethod yX5_daysLeft ∈ lwA := mA 1623 (by decide +kernel) rfl
theorem q_1624 : Cond.selects yX5_daysLeft.cls yX5_daysLeft yX5_daysLeft ∈ lwA := mA 1624 (by decide +kernel) rfl
theorem q_1625 : Cond.code yX5_daysLeft cX5_daysLeft 3 (some .int) ∈ lwA := mA 1625 (by decide +kernel) rfl
theorem q_1626 : Cond.methodLink RL 242 yX5_words ∈ lwA := mA 1626 (by decide +kernel) rfl
theorem q_1627 : Cond.instanceMethod yX5_words ∈ lwA := mA 1627 (by decide +kernel) rfl
theorem q_1628 : Cond.selects yX5_words.cls yX5_words yX5_words ∈ lwA := mA 1628 (by decide +kernel) rfl
theorem q_1629 : Cond.code yX5_words cX5_words 5 (some .int) ∈ lwA := mA 1629 (by decide +kernel) rfl
theorem q_1634 : Cond.methodLink RL 245 yX5_sharing ∈ lwA := mA 1634 (by decide +kernel) rfl
theorem q_1635 : Cond.instanceMethod yX5_sharing ∈ lwA := mA 1635 (by decide +kernel) rfl
theorem q_1636 : Cond.selects yX5_sharing.cls yX5_sharing yX5_sharing ∈ lwA := mA 1636 (by decide +kernel) rfl
theorem q_1637 : Cond.code yX5_sharing cX5_sharing 4 (some .int) ∈ lwA := mA 1637 (by decide +kernel) rfl
theorem q_1638 : Cond.methodLink RL 248 yX5_often ∈ lwA := mA 1638 (by decide +kernel) rfl
theorem q_1639 : Cond.instanceMethod yX5_often ∈ lwA := mA 1639 (by decide +kernel) rfl
theorem q_1640 : Cond.selects yX5_often.cls yX5_often yX5_often ∈ lwA := mA 1640 (by decide +kernel) rfl
theorem q_1641 : Cond.code yX5_often cX5_often 5 (some .int) ∈ lwA := mA 1641 (by decide +kernel) rfl
theorem q_1642 : Cond.methodLink RL 251 yX5_ranked ∈ lwA := mA 1642 (by decide +kernel) rfl
theorem q_1643 : Cond.instanceMethod yX5_ranked ∈ lwA := mA 1643 (by decide +kernel) rfl
theorem q_1644 : Cond.selects yX5_ranked.cls yX5_ranked yX5_ranked ∈ lwA := mA 1644 (by decide +kernel) rfl
theorem q_1645 : Cond.code yX5_ranked cX5_ranked 7 (some .int) ∈ lwA := mA 1645 (by decide +kernel) rfl
theorem q_1650 : Cond.methodLink RL 256 yX5_isRight ∈ lwA := mA 1650 (by decide +kernel) rfl
theorem q_1651 : Cond.instanceMethod yX5_isRight ∈ lwA := mA 1651 (by decide +kernel) rfl
theorem q_1652 : Cond.selects yX5_isRight.cls yX5_isRight yX5_isRight ∈ lwA := mA 1652 (by decide +kernel) rfl
theorem q_1653 : Cond.code yX5_isRight cX5_isRight 3 (some .boolean) ∈ lwA := mA 1653 (by decide +kernel) rfl
theorem q_1654 : Cond.methodLink RL 259 yX5_line ∈ lwA := mA 1654 (by decide +kernel) rfl
theorem q_1655 : Cond.instanceMethod yX5_line ∈ lwA := mA 1655 (by decide +kernel) rfl
theorem q_1656 : Cond.selects yX5_line.cls yX5_line yX5_line ∈ lwA := mA 1656 (by decide +kernel) rfl
theorem q_1657 : Cond.code yX5_line cX5_line 2 (some .int) ∈ lwA := mA 1657 (by decide +kernel) rfl
theorem q_1666 : Cond.methodLink RL 262 yX5_holeLine ∈ lwA := mA 1666 (by decide +kernel) rfl
theorem q_1667 : Cond.instanceMethod yX5_holeLine ∈ lwA := mA 1667 (by decide +kernel) rfl
theorem q_1668 : Cond.selects yX5_holeLine.cls yX5_holeLine yX5_holeLine ∈ lwA := mA 1668 (by decide +kernel) rfl
theorem q_1669 : Cond.code yX5_holeLine cX5_holeLine 5 (some .int) ∈ lwA := mA 1669 (by decide +kernel) rfl
theorem q_1670 : Cond.methodLink RL 265 yX5_character ∈ lwA := mA 1670 (by decide +kernel) rfl
theorem q_1671 : Cond.instanceMethod yX5_character ∈ lwA := mA 1671 (by decide +kernel) rfl
theorem q_1672 : Cond.selects yX5_character.cls yX5_character yX5_character ∈ lwA := mA 1672 (by decide +kernel) rfl
theorem q_1673 : Cond.code yX5_character cX5_character 2 (some .char) ∈ lwA := mA 1673 (by decide +kernel) rfl
theorem q_1674 : Cond.methodLink RL 269 yX5_refusal ∈ lwA := mA 1674 (by decide +kernel) rfl
theorem q_1675 : Cond.instanceMethod yX5_refusal ∈ lwA := mA 1675 (by decide +kernel) rfl
theorem q_1676 : Cond.selects yX5_refusal.cls yX5_refusal yX5_refusal ∈ lwA := mA 1676 (by decide +kernel) rfl
theorem q_1677 : Cond.code yX5_refusal cX5_refusal 2 (some .int) ∈ lwA := mA 1677 (by decide +kernel) rfl
theorem q_1678 : Cond.methodLink RL 272 yX5_account ∈ lwA := mA 1678 (by decide +kernel) rfl
theorem q_1679 : Cond.instanceMethod yX5_account ∈ lwA := mA 1679 (by decide +kernel) rfl
theorem q_1680 : Cond.selects yX5_account.cls yX5_account yX5_account ∈ lwA := mA 1680 (by decide +kernel) rfl
theorem q_1681 : Cond.code yX5_account cX5_account 2 (some .int) ∈ lwA := mA 1681 (by decide +kernel) rfl
theorem q_1690 : Cond.methodLink RL 276 yX5_meanWet ∈ lwA := mA 1690 (by decide +kernel) rfl
theorem q_1691 : Cond.instanceMethod yX5_meanWet ∈ lwA := mA 1691 (by decide +kernel) rfl
theorem q_1692 : Cond.selects yX5_meanWet.cls yX5_meanWet yX5_meanWet ∈ lwA := mA 1692 (by decide +kernel) rfl
theorem q_1693 : Cond.code yX5_meanWet cX5_meanWet 3 (some .double) ∈ lwA := mA 1693 (by decide +kernel) rfl
theorem q_1694 : Cond.methodLink RL 279 yX5_readShare ∈ lwA := mA 1694 (by decide +kernel) rfl
theorem q_1695 : Cond.instanceMethod yX5_readShare ∈ lwA := mA 1695 (by decide +kernel) rfl
theorem q_1696 : Cond.selects yX5_readShare.cls yX5_readShare yX5_readShare ∈ lwA := mA 1696 (by decide +kernel) rfl
theorem q_1697 : Cond.code yX5_readShare cX5_readShare 3 (some .float) ∈ lwA := mA 1697 (by decide +kernel) rfl
theorem q_1698 : Cond.methodLink RL 282 yX5_append ∈ lwA := mA 1698 (by decide +kernel) rfl
theorem q_1699 : Cond.instanceMethod yX5_append ∈ lwA := mA 1699 (by decide +kernel) rfl
theorem q_1700 : Cond.selects yX5_append.cls yX5_append yX5_append ∈ lwA := mA 1700 (by decide +kernel) rfl
theorem q_1701 : Cond.code yX5_append cX5_append 6 (some .int) ∈ lwA := mA 1701 (by decide +kernel) rfl
theorem q_1702 : Cond.methodLink RL 285 yX5_read ∈ lwA := mA 1702 (by decide +kernel) rfl
theorem q_1703 : Cond.instanceMethod yX5_read ∈ lwA := mA 1703 (by decide +kernel) rfl
theorem q_1704 : Cond.selects yX5_read.cls yX5_read yX5_read ∈ lwA := mA 1704 (by decide +kernel) rfl
theorem q_1705 : Cond.code yX5_read cX5_read 4 (some .int) ∈ lwA := mA 1705 (by decide +kernel) rfl
theorem q_1738 : Cond.methodLink RL 288 yX5_errorPosition ∈ lwA := mA 1738 (by decide +kernel) rfl
theorem q_1739 : Cond.instanceMethod yX5_errorPosition ∈ lwA := mA 1739 (by decide +kernel) rfl
theorem q_1740 : Cond.selects yX5_errorPosition.cls yX5_errorPosition yX5_errorPosition ∈ lwA := mA 1740 (by decide +kernel) rfl
theorem q_1741 : Cond.code yX5_errorPosition cX5_errorPosition 1 (some .int) ∈ lwA := mA 1741 (by decide +kernel) rfl
theorem q_1742 : Cond.methodLink RL 291 yX5_refusedItem ∈ lwA := mA 1742 (by decide +kernel) rfl
theorem q_1743 : Cond.instanceMethod yX5_refusedItem ∈ lwA := mA 1743 (by decide +kernel) rfl
theorem q_1744 : Cond.selects yX5_refusedItem.cls yX5_refusedItem yX5_refusedItem ∈ lwA := mA 1744 (by decide +kernel) rfl
theorem q_1745 : Cond.code yX5_refusedItem cX5_refusedItem 1 (some .int) ∈ lwA := mA 1745 (by decide +kernel) rfl
theorem q_1746 : Cond.methodLink RL 294 yX5_undo ∈ lwA := mA 1746 (by decide +kernel) rfl
theorem q_1747 : Cond.instanceMethod yX5_undo ∈ lwA := mA 1747 (by decide +kernel) rfl
theorem q_1748 : Cond.selects yX5_undo.cls yX5_undo yX5_undo ∈ lwA := mA 1748 (by decide +kernel) rfl
theorem q_1749 : Cond.code yX5_undo cX5_undo 2 (some .int) ∈ lwA := mA 1749 (by decide +kernel) rfl
theorem q_1750 : Cond.methodLink RL 298 yX5_snapshot ∈ lwA := mA 1750 (by decide +kernel) rfl
theorem q_1751 : Cond.instanceMethod yX5_snapshot ∈ lwA := mA 1751 (by decide +kernel) rfl
theorem q_1752 : Cond.selects yX5_snapshot.cls yX5_snapshot yX5_snapshot ∈ lwA := mA 1752 (by decide +kernel) rfl
theorem q_1753 : Cond.code yX5_snapshot cX5_snapshot 2 (some .int) ∈ lwA := mA 1753 (by decide +kernel) rfl
theorem q_1754 : Cond.methodLink RL 301 yX5_restore ∈ lwA := mA 1754 (by decide +kernel) rfl
theorem q_1755 : Cond.instanceMethod yX5_restore ∈ lwA := mA 1755 (by decide +kernel) rfl
theorem q_1756 : Cond.selects yX5_restore.cls yX5_restore yX5_restore ∈ lwA := mA 1756 (by decide +kernel) rfl
theorem q_1757 : Cond.code yX5_restore cX5_restore 2 (some .int) ∈ lwA := mA 1757 (by decide +kernel) rfl
theorem q_1758 : Cond.arrayClass .long ∈ lwA := mA 1758 (by decide +kernel) rfl
theorem q_1759 : Cond.arrayClass .double ∈ lwA := mA 1759 (by decide +kernel) rfl
def KK0 (x m : Nat) (a1 a2 a3 : Int32) (w w2 : FW) : Prop := ∃ (rx : Int32) (w1 : FW) (b9 : Int32), F_X4_clear x w = some (rx, w1) ∧ F_X5_clear m w1 = some (b9, w2) ∧ rx = b9
def KK1 (x m : Nat) (a1 a2 a3 : Int32) (w w2 : FW) : Prop := ∃ (rx : Int32 ⊕ Nat) (w1 : FW) (b9 : Int32) (t : Int32), F_X4_letter x (fch a1) w = some (rx, w1) ∧ F_X5_letter m (fch a1) w1 = some (b9, w2) ∧ F_X5_thrown m w2 = some t ∧ (∀ e, rx = .inr e → e ∈ [1, 4]) ∧ t = wK [1, 4] rx ∧ (∀ v, rx = .inl v → v = b9)
def KK2 (x m : Nat) (a1 a2 a3 : Int32) (w w2 : FW) : Prop := ∃ (rx : Int32 ⊕ Nat) (w1 : FW) (b9 : Int32) (t : Int32), F_X4_unletter x  w = some (rx, w1) ∧ F_X5_unletter m w1 = some (b9, w2) ∧ F_X5_thrown m w2 = some t ∧ (∀ e, rx = .inr e → e ∈ [4]) ∧ t = wK [4] rx ∧ (∀ v, rx = .inl v → v = b9)
def KK3 (x m : Nat) (a1 a2 a3 : Int32) (w w2 : FW) : Prop := ∃ (rx : Int32 ⊕ Nat) (w1 : FW) (b9 : Int32) (t : Int32), F_X4_print x a1 a2 a3 w = some (rx, w1) ∧ F_X5_print m a1 a2 a3 w1 = some (b9, w2) ∧ F_X5_thrown m w2 = some t ∧ (∀ e, rx = .inr e → e ∈ [2, 1, 4]) ∧ t = wK [2, 1, 4] rx ∧ (∀ v, rx = .inl v → v = b9)
def KK4 (x m : Nat) (a1 a2 a3 : Int32) (w w2 : FW) : Prop := ∃ (rx : Int32 ⊕ Nat) (w1 : FW) (b9 : Int32) (t : Int32), F_X4_throwAway x a1 w = some (rx, w1) ∧ F_X5_throwAway m a1 w1 = some (b9, w2) ∧ F_X5_thrown m w2 = some t ∧ (∀ e, rx = .inr e → e ∈ [2]) ∧ t = wK [2] rx ∧ (∀ v, rx = .inl v → v = b9)
def KK5 (x m : Nat) (a1 a2 a3 : Int32) (w w2 : FW) : Prop := ∃ (rx : Int32 ⊕ Nat) (w1 : FW) (b9 : Int32) (t : Int32), F_X4_mood x a1 a2 w = some (rx, w1) ∧ F_X5_mood m a1 a2 w1 = some (b9, w2) ∧ F_X5_thrown m w2 = some t ∧ (∀ e, rx = .inr e → e ∈ [2, 1, 4]) ∧ t = wK [2, 1, 4] rx ∧ (∀ v, rx = .inl v → v = b9)
def KK6 (x m : Nat) (a1 a2 a3 : Int32) (w w2 : FW) : Prop := ∃ (rx : Int32 ⊕ Nat) (w1 : FW) (b9 : Int32) (t : Int32), F_X4_pier x a1 (zz a2) w = some (rx, w1) ∧ F_X5_pier m a1 (zz a2) w1 = some (b9, w2) ∧ F_X5_thrown m w2 = some t ∧ (∀ e, rx = .inr e → e ∈ [2, 4]) ∧ t = wK [2, 4] rx ∧ (∀ v, rx = .inl v → v = b9)
def KK7 (x m : Nat) (a1 a2 a3 : Int32) (w w2 : FW) : Prop := ∃ (rx : Int32 ⊕ Nat) (b9 : Int32) (t : Int32), F_X4_ticketOf x a1 a2 w = some rx ∧ F_X5_ticketOf m a1 a2 w = some (b9, w2) ∧ F_X5_thrown m w2 = some t ∧ (∀ e, rx = .inr e → e ∈ [2, 1]) ∧ t = wK [2, 1] rx ∧ (∀ v, rx = .inl v → v = b9)
def KK8 (x m : Nat) (a1 a2 a3 : Int32) (w w2 : FW) : Prop := ∃ (rx : Int32 ⊕ Nat) (b9 : Int32) (t : Int32), F_X4_wordAt x a1 a2 w = some rx ∧ F_X5_wordAt m a1 a2 w = some (b9, w2) ∧ F_X5_thrown m w2 = some t ∧ (∀ e, rx = .inr e → e ∈ [2, 5]) ∧ t = wK [2, 5] rx ∧ (∀ v, rx = .inl v → v = b9)
def KK9 (x m : Nat) (a1 a2 a3 : Int32) (w w2 : FW) : Prop := ∃ (rx : Int32 ⊕ Nat) (w1 : FW) (b9 : Int32) (t : Int32), F_X4_punch x a1 (zz a2) a3 w = some (rx, w1) ∧ F_X5_punch m a1 (zz a2) a3 w1 = some (b9, w2) ∧ F_X5_thrown m w2 = some t ∧ (∀ e, rx = .inr e → e ∈ [2, 4]) ∧ t = wK [2, 4] rx ∧ (∀ v, rx = .inl v → v = b9)
def KK10 (x m : Nat) (a1 a2 a3 : Int32) (w w2 : FW) : Prop := ∃ (rx : Int32 ⊕ Nat) (w1 : FW) (b9 : Int32) (t : Int32), F_X4_wet x a1 (zz a2) a3 w = some (rx, w1) ∧ F_X5_wet m a1 (zz a2) a3 w1 = some (b9, w2) ∧ F_X5_thrown m w2 = some t ∧ (∀ e, rx = .inr e → e ∈ [2, 1]) ∧ t = wK [2, 1] rx ∧ (∀ v, rx = .inl v → v = b9)
def KK11 (x m : Nat) (a1 a2 a3 : Int32) (w w2 : FW) : Prop := ∃ (rx : Int32 ⊕ Nat) (w1 : FW) (b9 : Int32) (t : Int32), F_X4_tear x a1 w = some (rx, w1) ∧ F_X5_tear m a1 w1 = some (b9, w2) ∧ F_X5_thrown m w2 = some t ∧ (∀ e, rx = .inr e → e ∈ [2, 4]) ∧ t = wK [2, 4] rx ∧ (∀ v, rx = .inl v → v = b9)
def KK12 (x m : Nat) (a1 a2 a3 : Int32) (w w2 : FW) : Prop := ∃ (rx : Int32 ⊕ Nat) (w1 : FW) (b9 : Int32) (t : Int32), F_X4_lose x a1 (zz a2) w = some (rx, w1) ∧ F_X5_lose m a1 (zz a2) w1 = some (b9, w2) ∧ F_X5_thrown m w2 = some t ∧ (∀ e, rx = .inr e → e ∈ [2, 4]) ∧ t = wK [2, 4] rx ∧ (∀ v, rx = .inl v → v = b9)
def KK13 (x m : Nat) (a1 a2 a3 : Int32) (w w2 : FW) : Prop := ∃ (rx : Int32 ⊕ Nat) (w1 : FW) (b9 : Int32) (t : Int32), F_X4_find x a1 (zz a2) w = some (rx, w1) ∧ F_X5_find m a1 (zz a2) w1 = some (b9, w2) ∧ F_X5_thrown m w2 = some t ∧ (∀ e, rx = .inr e → e ∈ [2, 4]) ∧ t = wK [2, 4] rx ∧ (∀ v, rx = .inl v → v = b9)
def KK14 (x m : Nat) (a1 a2 a3 : Int32) (w w2 : FW) : Prop := ∃ (rx : Int32 ⊕ Nat) (b9 : Int32) (t : Int32), F_X4_halfOf x a1 (zz a2) a3 w = some rx ∧ F_X5_halfOf m a1 (zz a2) a3 w = some (b9, w2) ∧ F_X5_thrown m w2 = some t ∧ (∀ e, rx = .inr e → e ∈ [2, 1]) ∧ t = wK [2, 1] rx ∧ (∀ v, rx = .inl v → v = b9)
def KK15 (x m : Nat) (a1 a2 a3 : Int32) (w w2 : FW) : Prop := ∃ (rx : Int32 ⊕ Nat) (b9 : Int32) (t : Int32), F_X4_readAt x a1 (zz a2) a3 w = some rx ∧ F_X5_readAt m a1 (zz a2) a3 w = some (b9, w2) ∧ F_X5_thrown m w2 = some t ∧ (∀ e, rx = .inr e → e ∈ [2, 5]) ∧ t = wK [2, 5] rx ∧ (∀ v, rx = .inl v → v = b9)
def KK16 (x m : Nat) (a1 a2 a3 : Int32) (w w2 : FW) : Prop := ∃ (rx : Int32 ⊕ Nat) (b9 : Int32) (t : Int32), F_X4_doAgree x a1 (zz a2) w = some rx ∧ F_X5_doAgree m a1 (zz a2) w = some (b9, w2) ∧ F_X5_thrown m w2 = some t ∧ (∀ e, rx = .inr e → e ∈ [2]) ∧ t = wK [2] rx ∧ (∀ v, rx = .inl v → v = b9)
def KK17 (x m : Nat) (a1 a2 a3 : Int32) (w w2 : FW) : Prop := ∃ (rx : Int32 ⊕ Nat) (b9 : Int32) (t : Int32), F_X4_moodFor x a1 (zz a2) w = some rx ∧ F_X5_moodFor m a1 (zz a2) w = some (b9, w2) ∧ F_X5_thrown m w2 = some t ∧ (∀ e, rx = .inr e → e ∈ [2, 5]) ∧ t = wK [2, 5] rx ∧ (∀ v, rx = .inl v → v = b9)
def KK18 (x m : Nat) (a1 a2 a3 : Int32) (w w2 : FW) : Prop := ∃ (rx : Int32 ⊕ Nat) (b9 : Int32) (t : Int32), F_X4_would x a1 (zz a2) a3 w = some rx ∧ F_X5_would m a1 (zz a2) a3 w = some (b9, w2) ∧ F_X5_thrown m w2 = some t ∧ (∀ e, rx = .inr e → e ∈ [2, 1, 5]) ∧ t = wK [2, 1, 5] rx ∧ (∀ v, rx = .inl v → v = b9)
def KK19 (x m : Nat) (a1 a2 a3 : Int32) (w w2 : FW) : Prop := ∃ (rx : Int32 ⊕ Nat) (b9 : Int32) (t : Int32), F_X4_likely x a1 (zz a2) w = some rx ∧ F_X5_likely m a1 (zz a2) w = some (b9, w2) ∧ F_X5_thrown m w2 = some t ∧ (∀ e, rx = .inr e → e ∈ [2, 5]) ∧ t = wK [2, 5] rx ∧ (∀ v, rx = .inl v → v = b9)
def KK20 (x m : Nat) (a1 a2 a3 : Int32) (w w2 : FW) : Prop := ∃ (rx : Int32 ⊕ Nat) (w1 : FW) (b9 : Int32) (t : Int32), F_X4_ride x a1 (zz a2) w = some (rx, w1) ∧ F_X5_ride m a1 (zz a2) w1 = some (b9, w2) ∧ F_X5_thrown m w2 = some t ∧ (∀ e, rx = .inr e → e ∈ [2, 4]) ∧ t = wK [2, 4] rx ∧ (∀ v, rx = .inl v → v = b9)
def KK21 (x m : Nat) (a1 a2 a3 : Int32) (w w2 : FW) : Prop := ∃ (rx : Int32 ⊕ Nat) (b9 : Int32) (t : Int32), F_X4_hinders x a1 (zz a2) w = some rx ∧ F_X5_hinders m a1 (zz a2) w = some (b9, w2) ∧ F_X5_thrown m w2 = some t ∧ (∀ e, rx = .inr e → e ∈ [2]) ∧ t = wK [2] rx ∧ (∀ v, rx = .inl v → v = b9)
def KK22 (x m : Nat) (a1 a2 a3 : Int32) (w w2 : FW) : Prop := ∃ (rx : Int32) (w1 : FW) (b9 : Int32), F_X4_day x w = some (.inl rx, w1) ∧ F_X5_day m w1 = some (b9, w2) ∧ rx = b9
def KK23 (x m : Nat) (a1 a2 a3 : Int32) (w w2 : FW) : Prop := ∃ (rx : Int32 ⊕ Nat) (b9 : Int32) (t : Int32), F_X4_daysLeft x a1 w = some rx ∧ F_X5_daysLeft m a1 w = some (b9, w2) ∧ F_X5_thrown m w2 = some t ∧ (∀ e, rx = .inr e → e ∈ [2, 5]) ∧ t = wK [2, 5] rx ∧ (∀ v, rx = .inl v → v = b9)
def KK24 (x m : Nat) (a1 a2 a3 : Int32) (w w2 : FW) : Prop := ∃ (rx : Int32) (b9 : Int32), F_X4_words x w = some rx ∧ F_X5_words m w = some (b9, w2) ∧ rx = b9
def KK25 (x m : Nat) (a1 a2 a3 : Int32) (w w2 : FW) : Prop := ∃ (rx : Int32 ⊕ Nat) (b9 : Int32) (t : Int32), F_X4_sharing x a1 w = some rx ∧ F_X5_sharing m a1 w = some (b9, w2) ∧ F_X5_thrown m w2 = some t ∧ (∀ e, rx = .inr e → e ∈ [2]) ∧ t = wK [2] rx ∧ (∀ v, rx = .inl v → v = b9)
def KK26 (x m : Nat) (a1 a2 a3 : Int32) (w w2 : FW) : Prop := ∃ (rx : Int32 ⊕ Nat) (b9 : Int32) (t : Int32), F_X4_often x (fch a1) w = some rx ∧ F_X5_often m (fch a1) w = some (b9, w2) ∧ F_X5_thrown m w2 = some t ∧ (∀ e, rx = .inr e → e ∈ [1]) ∧ t = wK [1] rx ∧ (∀ v, rx = .inl v → v = b9)
def KK27 (x m : Nat) (a1 a2 a3 : Int32) (w w2 : FW) : Prop := ∃ (rx : Int32 ⊕ Nat) (b9 : Int32) (t : Int32), F_X4_ranked x a1 a2 w = some rx ∧ F_X5_ranked m a1 a2 w = some (b9, w2) ∧ F_X5_thrown m w2 = some t ∧ (∀ e, rx = .inr e → e ∈ [1, 5]) ∧ t = wK [1, 5] rx ∧ (∀ v, rx = .inl v → v = b9)
def KK28 (x m : Nat) (a1 a2 a3 : Int32) (w w2 : FW) : Prop := ∃ (rx : Int32) (b9 : Int32), F_X4_isRight x w = some rx ∧ F_X5_isRight m w = some (b9, w2) ∧ rx = b9
def KK29 (x m : Nat) (a1 a2 a3 : Int32) (w w2 : FW) : Prop := ∃ (rx : Int32 ⊕ Nat) (w1 : FW) (b9 : Int32) (t : Int32), F_X4_line x a1 w = some (rx, w1) ∧ F_X5_line m a1 w1 = some (b9, w2) ∧ F_X5_thrown m w2 = some t ∧ (∀ e, rx = .inr e → e ∈ [2]) ∧ t = wK [2] rx ∧ (∀ v, rx = .inl v → v = b9)
def KK30 (x m : Nat) (a1 a2 a3 : Int32) (w w2 : FW) : Prop := ∃ (rx : Int32 ⊕ Nat) (w1 : FW) (b9 : Int32) (t : Int32), F_X4_holeLine x a1 (zz a2) w = some (rx, w1) ∧ F_X5_holeLine m a1 (zz a2) w1 = some (b9, w2) ∧ F_X5_thrown m w2 = some t ∧ (∀ e, rx = .inr e → e ∈ [2, 5]) ∧ t = wK [2, 5] rx ∧ (∀ v, rx = .inl v → v = b9)
def KK31 (x m : Nat) (a1 a2 a3 : Int32) (w w2 : FW) : Prop := ∃ (rx : Int32 ⊕ Nat) (b9 : Int32) (t : Int32), F_X4_character x a1 w = some rx ∧ F_X5_character m a1 w = some (b9, w2) ∧ F_X5_thrown m w2 = some t ∧ (∀ e, rx = .inr e → e ∈ [2]) ∧ t = wK [2] rx ∧ (∀ v, rx = .inl v → v = b9)
def KK32 (x m : Nat) (a1 a2 a3 : Int32) (w w2 : FW) : Prop := ∃ (rx : Int32 ⊕ Nat) (b9 : Int32) (t : Int32), F_X4_refusal x (zz a1) w = some rx ∧ F_X5_refusal m (zz a1) w = some (b9, w2) ∧ F_X5_thrown m w2 = some t ∧ (∀ e, rx = .inr e → e ∈ [0]) ∧ t = wK [0] rx ∧ (∀ v, rx = .inl v → v = b9)
def KK33 (x m : Nat) (a1 a2 a3 : Int32) (w w2 : FW) : Prop := ∃ (rx : Int32 ⊕ Nat) (b9 : Int32) (t : Int32), F_X4_account x a1 w = some rx ∧ F_X5_account m a1 w = some (b9, w2) ∧ F_X5_thrown m w2 = some t ∧ (∀ e, rx = .inr e → e ∈ [1]) ∧ t = wK [1] rx ∧ (∀ v, rx = .inl v → v = b9)
def KK34 (x m : Nat) (a1 a2 a3 : Int32) (w w2 : FW) : Prop := ∃ (rx : UInt64 ⊕ Nat) (b9 : UInt64) (t : Int32), F_X4_meanWet x  w = some rx ∧ F_X5_meanWet m w = some (b9, w2) ∧ F_X5_thrown m w2 = some t ∧ (∀ e, rx = .inr e → e ∈ [3]) ∧ t = wK [3] rx ∧ (∀ v, rx = .inl v → v = b9 ∧ FP.dcmp v b9 = some .eq)
def KK35 (x m : Nat) (a1 a2 a3 : Int32) (w w2 : FW) : Prop := ∃ (rx : UInt32 ⊕ Nat) (b9 : UInt32) (t : Int32), F_X4_readShare x  w = some rx ∧ F_X5_readShare m w = some (b9, w2) ∧ F_X5_thrown m w2 = some t ∧ (∀ e, rx = .inr e → e ∈ [3]) ∧ t = wK [3] rx ∧ (∀ v, rx = .inl v → v = b9 ∧ vf_n64 (FP.f2d v) ∧ FP.dcmp (FP.f2d v) (FP.f2d b9) = some .eq)
def KK36 (x m : Nat) (a1 a2 a3 : Int32) (w w2 : FW) : Prop := ∃ (rx : Int32 ⊕ Nat) (w1 : FW) (b9 : Int32) (t : Int32), F_X4_append x a1 w = some (rx, w1) ∧ F_X5_append m a1 w1 = some (b9, w2) ∧ F_X5_thrown m w2 = some t ∧ (∀ e, rx = .inr e → e ∈ [1, 0]) ∧ t = wK [1, 0] rx ∧ (∀ v, rx = .inl v → v = b9)
def KK37 (x m : Nat) (a1 a2 a3 : Int32) (w w2 : FW) : Prop := ∃ (rx : Int32 ⊕ Nat) (w1 : FW) (b9 : Int32) (t : Int32), F_X4_read x  w = some (rx, w1) ∧ F_X5_read m w1 = some (b9, w2) ∧ F_X5_thrown m w2 = some t ∧ (∀ e, rx = .inr e → e ∈ [1, 4]) ∧ t = wK [1, 4] rx ∧ (∀ v, rx = .inl v → v = b9)
def KK38 (x m : Nat) (a1 a2 a3 : Int32) (w w2 : FW) : Prop := ∃ (rx : Int32 ⊕ Nat) (b9 : Int32) (t : Int32), F_X4_errorPosition x  w = some rx ∧ F_X5_errorPosition m w = some (b9, w2) ∧ F_X5_thrown m w2 = some t ∧ (∀ e, rx = .inr e → e ∈ [5]) ∧ t = wK [5] rx ∧ (∀ v, rx = .inl v → v = b9)
def KK39 (x m : Nat) (a1 a2 a3 : Int32) (w w2 : FW) : Prop := ∃ (rx : Int32 ⊕ Nat) (b9 : Int32) (t : Int32), F_X4_refusedItem x  w = some rx ∧ F_X5_refusedItem m w = some (b9, w2) ∧ F_X5_thrown m w2 = some t ∧ (∀ e, rx = .inr e → e ∈ [5]) ∧ t = wK [5] rx ∧ (∀ v, rx = .inl v → v = b9)
def KK40 (x m : Nat) (a1 a2 a3 : Int32) (w w2 : FW) : Prop := ∃ (rx : Int32 ⊕ Nat) (w1 : FW) (b9 : Int32) (t : Int32), F_X4_undo x  w = some (rx, w1) ∧ F_X5_undo m w1 = some (b9, w2) ∧ F_X5_thrown m w2 = some t ∧ (∀ e, rx = .inr e → e ∈ [0]) ∧ t = wK [0] rx ∧ (∀ v, rx = .inl v → v = b9)
def KK41 (x m : Nat) (a1 a2 a3 : Int32) (w w2 : FW) : Prop := ∃ (rx : Int32) (w1 : FW) (b9 : Int32), F_X4_snapshot x w = some (rx, w1) ∧ F_X5_snapshot m w1 = some (b9, w2) ∧ rx = b9
def KK42 (x m : Nat) (a1 a2 a3 : Int32) (w w2 : FW) : Prop := ∃ (rx : Int32 ⊕ Nat) (w1 : FW) (b9 : Int32) (t : Int32), F_X4_restore x  w = some (rx, w1) ∧ F_X5_restore m w1 = some (b9, w2) ∧ F_X5_thrown m w2 = some t ∧ (∀ e, rx = .inr e → e ∈ [0]) ∧ t = wK [0] rx ∧ (∀ v, rx = .inl v → v = b9)
