theorem q_130 : Cond.initialized RL ∈ lwA := mA 130 (by decide +kernel) rfl
theorem q_152 : Cond.classLink RL 8 RX4 ∈ lwA := mA 152 (by decide +kernel) rfl
theorem q_153 : Cond.instantiable RX4 15 ∈ lwA := mA 153 (by decide +kernel) rfl
theorem q_154 : Cond.methodLink RL 149 yX4_init ∈ lwA := mA 154 (by decide +kernel) rfl
theorem q_155 : Cond.instanceMethod yX4_init ∈ lwA := mA 155 (by decide +kernel) rfl
theorem q_156 : Cond.code yX4_init cX4_init 2 none ∈ lwA := mA 156 (by decide +kernel) rfl
theorem q_359 : Cond.methodLink RL 153 yX4_clear ∈ lwA := mA 359 (by decide +kernel) rfl
theorem q_360 : Cond.instanceMethod yX4_clear ∈ lwA := mA 360 (by decide +kernel) rfl
theorem q_361 : Cond.selects yX4_clear.cls yX4_clear yX4_clear ∈ lwA := mA 361 (by decide +kernel) rfl
theorem q_362 : Cond.code yX4_clear cX4_clear 2 (some .int) ∈ lwA := mA 362 (by decide +kernel) rfl
theorem q_367 : Cond.methodLink RL 232 yX4_day ∈ lwA := mA 367 (by decide +kernel) rfl
theorem q_368 : Cond.instanceMethod yX4_day ∈ lwA := mA 368 (by decide +kernel) rfl
theorem q_369 : Cond.selects yX4_day.cls yX4_day yX4_day ∈ lwA := mA 369 (by decide +kernel) rfl
theorem q_370 : Cond.code yX4_day cX4_day 1 (some .int) ∈ lwA := mA 370 (by decide +kernel) rfl
theorem q_508 : Cond.methodLink RL 239 yX4_words ∈ lwA := mA 508 (by decide +kernel) rfl
theorem q_509 : Cond.instanceMethod yX4_words ∈ lwA := mA 509 (by decide +kernel) rfl
theorem q_510 : Cond.selects yX4_words.cls yX4_words yX4_words ∈ lwA := mA 510 (by decide +kernel) rfl
theorem q_511 : Cond.code yX4_words cX4_words 3 (some .int) ∈ lwA := mA 511 (by decide +kernel) rfl
theorem q_528 : Cond.methodLink RL 252 yX4_isRight ∈ lwA := mA 528 (by decide +kernel) rfl
theorem q_529 : Cond.instanceMethod yX4_isRight ∈ lwA := mA 529 (by decide +kernel) rfl
theorem q_530 : Cond.selects yX4_isRight.cls yX4_isRight yX4_isRight ∈ lwA := mA 530 (by decide +kernel) rfl
theorem q_531 : Cond.code yX4_isRight cX4_isRight 3 (some .boolean) ∈ lwA := mA 531 (by decide +kernel) rfl
theorem q_616 : Cond.methodLink RL 295 yX4_snapshot ∈ lwA := mA 616 (by decide +kernel) rfl
theorem q_617 : Cond.instanceMethod yX4_snapshot ∈ lwA := mA 617 (by decide +kernel) rfl
theorem q_618 : Cond.selects yX4_snapshot.cls yX4_snapshot yX4_snapshot ∈ lwA := mA 618 (by decide +kernel) rfl
theorem q_619 : Cond.code yX4_snapshot cX4_snapshot 1 (some .int) ∈ lwA := mA 619 (by decide +kernel) rfl
theorem q_620 : Cond.methodLink RL 157 yL_letter ∈ lwA := mA 620 (by decide +kernel) rfl
theorem q_621 : Cond.static yL_letter ∈ lwA := mA 621 (by decide +kernel) rfl
theorem q_622 : Cond.codeWith yL_letter cL_letter 4 (some .int) [(0, 9, 12, 13), (0, 9, 15, 15)] ∈ lwA := mA 622 (by decide +kernel) rfl
theorem q_645 : Cond.methodLink RL 166 yL_unletter ∈ lwA := mA 645 (by decide +kernel) rfl
theorem q_646 : Cond.static yL_unletter ∈ lwA := mA 646 (by decide +kernel) rfl
theorem q_647 : Cond.codeWith yL_unletter cL_unletter 3 (some .int) [(0, 8, 11, 15)] ∈ lwA := mA 647 (by decide +kernel) rfl
theorem q_656 : Cond.methodLink RL 170 yL_print ∈ lwA := mA 656 (by decide +kernel) rfl
theorem q_657 : Cond.static yL_print ∈ lwA := mA 657 (by decide +kernel) rfl
theorem q_658 : Cond.codeWith yL_print cL_print 6 (some .int) [(0, 12, 15, 25), (0, 12, 19, 13), (0, 12, 23, 15)] ∈ lwA := mA 658 (by decide +kernel) rfl
theorem q_704 : Cond.methodLink RL 174 yL_throwAway ∈ lwA := mA 704 (by decide +kernel) rfl
theorem q_705 : Cond.static yL_throwAway ∈ lwA := mA 705 (by decide +kernel) rfl
theorem q_706 : Cond.codeWith yL_throwAway cL_throwAway 4 (some .int) [(0, 9, 12, 25)] ∈ lwA := mA 706 (by decide +kernel) rfl
theorem q_723 : Cond.methodLink RL 178 yL_mood ∈ lwA := mA 723 (by decide +kernel) rfl
theorem q_724 : Cond.static yL_mood ∈ lwA := mA 724 (by decide +kernel) rfl
theorem q_725 : Cond.codeWith yL_mood cL_mood 5 (some .int) [(0, 10, 13, 25), (0, 10, 17, 13), (0, 10, 21, 15)] ∈ lwA := mA 725 (by decide +kernel) rfl
theorem q_742 : Cond.methodLink RL 182 yL_pier ∈ lwA := mA 742 (by decide +kernel) rfl
theorem q_743 : Cond.static yL_pier ∈ lwA := mA 743 (by decide +kernel) rfl
theorem q_744 : Cond.codeWith yL_pier cL_pier 5 (some .int) [(0, 10, 13, 25), (0, 10, 17, 15)] ∈ lwA := mA 744 (by decide +kernel) rfl
theorem q_757 : Cond.methodLink RL 186 yL_ticketOf ∈ lwA := mA 757 (by decide +kernel) rfl
theorem q_758 : Cond.static yL_ticketOf ∈ lwA := mA 758 (by decide +kernel) rfl
theorem q_759 : Cond.codeWith yL_ticketOf cL_ticketOf 5 (some .int) [(0, 10, 13, 25), (0, 10, 17, 13)] ∈ lwA := mA 759 (by decide +kernel) rfl
theorem q_770 : Cond.methodLink RL 189 yL_wordAt ∈ lwA := mA 770 (by decide +kernel) rfl
theorem q_771 : Cond.static yL_wordAt ∈ lwA := mA 771 (by decide +kernel) rfl
theorem q_772 : Cond.codeWith yL_wordAt cL_wordAt 5 (some .int) [(0, 10, 13, 25), (0, 10, 17, 46)] ∈ lwA := mA 772 (by decide +kernel) rfl
theorem q_796 : Cond.methodLink RL 192 yL_punch ∈ lwA := mA 796 (by decide +kernel) rfl
theorem q_797 : Cond.static yL_punch ∈ lwA := mA 797 (by decide +kernel) rfl
theorem q_798 : Cond.codeWith yL_punch cL_punch 6 (some .int) [(0, 12, 15, 25), (0, 12, 19, 15)] ∈ lwA := mA 798 (by decide +kernel) rfl
theorem q_815 : Cond.methodLink RL 196 yL_wet ∈ lwA := mA 815 (by decide +kernel) rfl
theorem q_816 : Cond.static yL_wet ∈ lwA := mA 816 (by decide +kernel) rfl
theorem q_817 : Cond.codeWith yL_wet cL_wet 6 (some .int) [(0, 12, 15, 25), (0, 12, 19, 13)] ∈ lwA := mA 817 (by decide +kernel) rfl
theorem q_838 : Cond.methodLink RL 199 yL_tear ∈ lwA := mA 838 (by decide +kernel) rfl
theorem q_839 : Cond.static yL_tear ∈ lwA := mA 839 (by decide +kernel) rfl
theorem q_840 : Cond.codeWith yL_tear cL_tear 4 (some .int) [(0, 9, 12, 25), (0, 9, 15, 15)] ∈ lwA := mA 840 (by decide +kernel) rfl
theorem q_853 : Cond.methodLink RL 202 yL_lose ∈ lwA := mA 853 (by decide +kernel) rfl
theorem q_854 : Cond.static yL_lose ∈ lwA := mA 854 (by decide +kernel) rfl
theorem q_855 : Cond.codeWith yL_lose cL_lose 5 (some .int) [(0, 10, 13, 25), (0, 10, 17, 15)] ∈ lwA := mA 855 (by decide +kernel) rfl
theorem q_868 : Cond.methodLink RL 205 yL_find ∈ lwA := mA 868 (by decide +kernel) rfl
theorem q_869 : Cond.static yL_find ∈ lwA := mA 869 (by decide +kernel) rfl
theorem q_870 : Cond.codeWith yL_find cL_find 5 (some .int) [(0, 10, 13, 25), (0, 10, 17, 15)] ∈ lwA := mA 870 (by decide +kernel) rfl
theorem q_875 : Cond.methodLink RL 208 yL_halfOf ∈ lwA := mA 875 (by decide +kernel) rfl
theorem q_876 : Cond.static yL_halfOf ∈ lwA := mA 876 (by decide +kernel) rfl
theorem q_877 : Cond.codeWith yL_halfOf cL_halfOf 6 (some .int) [(0, 12, 15, 25), (0, 12, 19, 13)] ∈ lwA := mA 877 (by decide +kernel) rfl
theorem q_887 : Cond.methodLink RL 211 yL_readAt ∈ lwA := mA 887 (by decide +kernel) rfl
theorem q_888 : Cond.static yL_readAt ∈ lwA := mA 888 (by decide +kernel) rfl
theorem q_889 : Cond.codeWith yL_readAt cL_readAt 6 (some .int) [(0, 12, 15, 25), (0, 12, 19, 46)] ∈ lwA := mA 889 (by decide +kernel) rfl
theorem q_899 : Cond.methodLink RL 214 yL_doAgree ∈ lwA := mA 899 (by decide +kernel) rfl
theorem q_900 : Cond.static yL_doAgree ∈ lwA := mA 900 (by decide +kernel) rfl
theorem q_901 : Cond.codeWith yL_doAgree cL_doAgree 5 (some .int) [(0, 17, 20, 25)] ∈ lwA := mA 901 (by decide +kernel) rfl
theorem q_906 : Cond.methodLink RL 217 yL_moodFor ∈ lwA := mA 906 (by decide +kernel) rfl
theorem q_907 : Cond.static yL_moodFor ∈ lwA := mA 907 (by decide +kernel) rfl
theorem q_908 : Cond.codeWith yL_moodFor cL_moodFor 5 (some .int) [(0, 10, 13, 25), (0, 10, 17, 46)] ∈ lwA := mA 908 (by decide +kernel) rfl
theorem q_914 : Cond.methodLink RL 220 yL_would ∈ lwA := mA 914 (by decide +kernel) rfl
theorem q_915 : Cond.static yL_would ∈ lwA := mA 915 (by decide +kernel) rfl
theorem q_916 : Cond.codeWith yL_would cL_would 6 (some .int) [(0, 12, 15, 25), (0, 12, 19, 13), (0, 12, 23, 46)] ∈ lwA := mA 916 (by decide +kernel) rfl
theorem q_923 : Cond.methodLink RL 223 yL_likely ∈ lwA := mA 923 (by decide +kernel) rfl
theorem q_924 : Cond.static yL_likely ∈ lwA := mA 924 (by decide +kernel) rfl
theorem q_925 : Cond.codeWith yL_likely cL_likely 5 (some .int) [(0, 10, 13, 25), (0, 10, 17, 46)] ∈ lwA := mA 925 (by decide +kernel) rfl
theorem q_938 : Cond.methodLink RL 226 yL_ride ∈ lwA := mA 938 (by decide +kernel) rfl
theorem q_939 : Cond.static yL_ride ∈ lwA := mA 939 (by decide +kernel) rfl
theorem q_940 : Cond.codeWith yL_ride cL_ride 5 (some .int) [(0, 10, 13, 25), (0, 10, 17, 15)] ∈ lwA := mA 940 (by decide +kernel) rfl
theorem q_966 : Cond.methodLink RL 229 yL_hinders ∈ lwA := mA 966 (by decide +kernel) rfl
theorem q_967 : Cond.static yL_hinders ∈ lwA := mA 967 (by decide +kernel) rfl
theorem q_968 : Cond.codeWith yL_hinders cL_hinders 5 (some .int) [(0, 10, 13, 25)] ∈ lwA := mA 968 (by decide +kernel) rfl
theorem q_973 : Cond.methodLink RL 236 yL_daysLeft ∈ lwA := mA 973 (by decide +kernel) rfl
theorem q_974 : Cond.static yL_daysLeft ∈ lwA := mA 974 (by decide +kernel) rfl
theorem q_975 : Cond.codeWith yL_daysLeft cL_daysLeft 4 (some .int) [(0, 9, 12, 25), (0, 9, 15, 46)] ∈ lwA := mA 975 (by decide +kernel) rfl
theorem q_982 : Cond.methodLink RL 243 yL_sharing ∈ lwA := mA 982 (by decide +kernel) rfl
theorem q_983 : Cond.static yL_sharing ∈ lwA := mA 983 (by decide +kernel) rfl
theorem q_984 : Cond.codeWith yL_sharing cL_sharing 4 (some .int) [(0, 9, 12, 25)] ∈ lwA := mA 984 (by decide +kernel) rfl
theorem q_990 : Cond.methodLink RL 246 yL_often ∈ lwA := mA 990 (by decide +kernel) rfl
theorem q_991 : Cond.static yL_often ∈ lwA := mA 991 (by decide +kernel) rfl
theorem q_992 : Cond.codeWith yL_often cL_often 4 (some .int) [(0, 9, 12, 13)] ∈ lwA := mA 992 (by decide +kernel) rfl
theorem q_1002 : Cond.methodLink RL 249 yL_ranked ∈ lwA := mA 1002 (by decide +kernel) rfl
theorem q_1003 : Cond.static yL_ranked ∈ lwA := mA 1003 (by decide +kernel) rfl
theorem q_1004 : Cond.codeWith yL_ranked cL_ranked 5 (some .int) [(0, 10, 13, 13), (0, 10, 17, 46)] ∈ lwA := mA 1004 (by decide +kernel) rfl
theorem q_1028 : Cond.methodLink RL 257 yL_line ∈ lwA := mA 1028 (by decide +kernel) rfl
theorem q_1029 : Cond.static yL_line ∈ lwA := mA 1029 (by decide +kernel) rfl
theorem q_1030 : Cond.codeWith yL_line cL_line 4 (some .int) [(0, 9, 12, 25)] ∈ lwA := mA 1030 (by decide +kernel) rfl
theorem q_1046 : Cond.methodLink RL 260 yL_holeLine ∈ lwA := mA 1046 (by decide +kernel) rfl
theorem q_1047 : Cond.static yL_holeLine ∈ lwA := mA 1047 (by decide +kernel) rfl
theorem q_1048 : Cond.codeWith yL_holeLine cL_holeLine 5 (some .int) [(0, 10, 13, 25), (0, 10, 17, 46)] ∈ lwA := mA 1048 (by decide +kernel) rfl
theorem q_1054 : Cond.methodLink RL 263 yL_character ∈ lwA := mA 1054 (by decide +kernel) rfl
theorem q_1055 : Cond.static yL_character ∈ lwA := mA 1055 (by decide +kernel) rfl
theorem q_1056 : Cond.codeWith yL_character cL_character 4 (some .int) [(0, 9, 12, 25)] ∈ lwA := mA 1056 (by decide +kernel) rfl
theorem q_1062 : Cond.methodLink RL 266 yL_refusal ∈ lwA := mA 1062 (by decide +kernel) rfl
theorem q_1063 : Cond.static yL_refusal ∈ lwA := mA 1063 (by decide +kernel) rfl
theorem q_1064 : Cond.codeWith yL_refusal cL_refusal 4 (some .int) [(0, 9, 12, 116)] ∈ lwA := mA 1064 (by decide +kernel) rfl
theorem q_1086 : Cond.methodLink RL 270 yL_account ∈ lwA := mA 1086 (by decide +kernel) rfl
theorem q_1087 : Cond.static yL_account ∈ lwA := mA 1087 (by decide +kernel) rfl
theorem q_1088 : Cond.codeWith yL_account cL_account 4 (some .int) [(0, 9, 12, 13)] ∈ lwA := mA 1088 (by decide +kernel) rfl
theorem q_1103 : Cond.methodLink RL 273 yL_meanWet ∈ lwA := mA 1103 (by decide +kernel) rfl
theorem q_1104 : Cond.static yL_meanWet ∈ lwA := mA 1104 (by decide +kernel) rfl
theorem q_1105 : Cond.codeWith yL_meanWet cL_meanWet 3 (some .int) [(0, 7, 10, 125)] ∈ lwA := mA 1105 (by decide +kernel) rfl
theorem q_1128 : Cond.methodLink RL 277 yL_readShare ∈ lwA := mA 1128 (by decide +kernel) rfl
theorem q_1129 : Cond.static yL_readShare ∈ lwA := mA 1129 (by decide +kernel) rfl
theorem q_1130 : Cond.codeWith yL_readShare cL_readShare 3 (some .int) [(0, 8, 11, 125)] ∈ lwA := mA 1130 (by decide +kernel) rfl
theorem q_1141 : Cond.methodLink RL 280 yL_append ∈ lwA := mA 1141 (by decide +kernel) rfl
theorem q_1142 : Cond.static yL_append ∈ lwA := mA 1142 (by decide +kernel) rfl
theorem q_1143 : Cond.codeWith yL_append cL_append 4 (some .int) [(0, 9, 12, 13), (0, 9, 15, 116)] ∈ lwA := mA 1143 (by decide +kernel) rfl
theorem q_1150 : Cond.methodLink RL 283 yL_read ∈ lwA := mA 1150 (by decide +kernel) rfl
theorem q_1151 : Cond.static yL_read ∈ lwA := mA 1151 (by decide +kernel) rfl
theorem q_1152 : Cond.codeWith yL_read cL_read 3 (some .int) [(0, 8, 11, 13), (0, 8, 14, 15)] ∈ lwA := mA 1152 (by decide +kernel) rfl
theorem q_1216 : Cond.methodLink RL 286 yL_errorPosition ∈ lwA := mA 1216 (by decide +kernel) rfl
theorem q_1217 : Cond.static yL_errorPosition ∈ lwA := mA 1217 (by decide +kernel) rfl
theorem q_1218 : Cond.codeWith yL_errorPosition cL_errorPosition 3 (some .int) [(0, 8, 11, 46)] ∈ lwA := mA 1218 (by decide +kernel) rfl
theorem q_1224 : Cond.methodLink RL 289 yL_refusedItem ∈ lwA := mA 1224 (by decide +kernel) rfl
theorem q_1225 : Cond.static yL_refusedItem ∈ lwA := mA 1225 (by decide +kernel) rfl
theorem q_1226 : Cond.codeWith yL_refusedItem cL_refusedItem 3 (some .int) [(0, 8, 11, 46)] ∈ lwA := mA 1226 (by decide +kernel) rfl
theorem q_1232 : Cond.methodLink RL 292 yL_undo ∈ lwA := mA 1232 (by decide +kernel) rfl
theorem q_1233 : Cond.static yL_undo ∈ lwA := mA 1233 (by decide +kernel) rfl
theorem q_1234 : Cond.codeWith yL_undo cL_undo 3 (some .int) [(0, 8, 11, 116)] ∈ lwA := mA 1234 (by decide +kernel) rfl
theorem q_1240 : Cond.methodLink RL 299 yL_restore ∈ lwA := mA 1240 (by decide +kernel) rfl
theorem q_1241 : Cond.static yL_restore ∈ lwA := mA 1241 (by decide +kernel) rfl
theorem q_1242 : Cond.codeWith yL_restore cL_restore 3 (some .int) [(0, 8, 11, 116)] ∈ lwA := mA 1242 (by decide +kernel) rfl
theorem q_1248 : Cond.classLink RL 150 RX5 ∈ lwA := mA 1248 (by decide +kernel) rfl
theorem q_1249 : Cond.instantiable RX5 23 ∈ lwA := mA 1249 (by decide +kernel) rfl
theorem q_1250 : Cond.methodLink RL 152 yX5_init ∈ lwA := mA 1250 (by decide +kernel) rfl
theorem q_1251 : Cond.instanceMethod yX5_init ∈ lwA := mA 1251 (by decide +kernel) rfl
theorem q_1252 : Cond.code yX5_init cX5_init 1 none ∈ lwA := mA 1252 (by decide +kernel) rfl
theorem q_1324 : Cond.methodLink RL 163 yX5_thrown ∈ lwA := mA 1324 (by decide +kernel) rfl
theorem q_1325 : Cond.instanceMethod yX5_thrown ∈ lwA := mA 1325 (by decide +kernel) rfl
theorem q_1326 : Cond.selects yX5_thrown.cls yX5_thrown yX5_thrown ∈ lwA := mA 1326 (by decide +kernel) rfl
theorem q_1327 : Cond.code yX5_thrown cX5_thrown 1 (some .int) ∈ lwA := mA 1327 (by decide +kernel) rfl
theorem q_1328 : Cond.methodLink RL 156 yX5_clear ∈ lwA := mA 1328 (by decide +kernel) rfl
theorem q_1329 : Cond.instanceMethod yX5_clear ∈ lwA := mA 1329 (by decide +kernel) rfl
theorem q_1330 : Cond.selects yX5_clear.cls yX5_clear yX5_clear ∈ lwA := mA 1330 (by decide +kernel) rfl
theorem q_1331 : Cond.code yX5_clear cX5_clear 3 (some .int) ∈ lwA := mA 1331 (by decide +kernel) rfl
theorem q_1332 : Cond.methodLink RL 162 yX5_letter ∈ lwA := mA 1332 (by decide +kernel) rfl
theorem q_1333 : Cond.instanceMethod yX5_letter ∈ lwA := mA 1333 (by decide +kernel) rfl
theorem q_1334 : Cond.selects yX5_letter.cls yX5_letter yX5_letter ∈ lwA := mA 1334 (by decide +kernel) rfl
theorem q_1335 : Cond.code yX5_letter cX5_letter 2 (some .int) ∈ lwA := mA 1335 (by decide +kernel) rfl
theorem q_1376 : Cond.methodLink RL 169 yX5_unletter ∈ lwA := mA 1376 (by decide +kernel) rfl
theorem q_1377 : Cond.instanceMethod yX5_unletter ∈ lwA := mA 1377 (by decide +kernel) rfl
theorem q_1378 : Cond.selects yX5_unletter.cls yX5_unletter yX5_unletter ∈ lwA := mA 1378 (by decide +kernel) rfl
theorem q_1379 : Cond.code yX5_unletter cX5_unletter 1 (some .int) ∈ lwA := mA 1379 (by decide +kernel) rfl
theorem q_1384 : Cond.methodLink RL 173 yX5_print ∈ lwA := mA 1384 (by decide +kernel) rfl
theorem q_1385 : Cond.instanceMethod yX5_print ∈ lwA := mA 1385 (by decide +kernel) rfl
theorem q_1386 : Cond.selects yX5_print.cls yX5_print yX5_print ∈ lwA := mA 1386 (by decide +kernel) rfl
theorem q_1387 : Cond.code yX5_print cX5_print 4 (some .int) ∈ lwA := mA 1387 (by decide +kernel) rfl
theorem q_1404 : Cond.methodLink RL 177 yX5_throwAway ∈ lwA := mA 1404 (by decide +kernel) rfl
theorem q_1405 : Cond.instanceMethod yX5_throwAway ∈ lwA := mA 1405 (by decide +kernel) rfl
theorem q_1406 : Cond.selects yX5_throwAway.cls yX5_throwAway yX5_throwAway ∈ lwA := mA 1406 (by decide +kernel) rfl
theorem q_1407 : Cond.code yX5_throwAway cX5_throwAway 2 (some .int) ∈ lwA := mA 1407 (by decide +kernel) rfl
theorem q_1416 : Cond.methodLink RL 181 yX5_mood ∈ lwA := mA 1416 (by decide +kernel) rfl
theorem q_1417 : Cond.instanceMethod yX5_mood ∈ lwA := mA 1417 (by decide +kernel) rfl
theorem q_1418 : Cond.selects yX5_mood.cls yX5_mood yX5_mood ∈ lwA := mA 1418 (by decide +kernel) rfl
theorem q_1419 : Cond.code yX5_mood cX5_mood 3 (some .int) ∈ lwA := mA 1419 (by decide +kernel) rfl
theorem q_1424 : Cond.methodLink RL 185 yX5_pier ∈ lwA := mA 1424 (by decide +kernel) rfl
theorem q_1425 : Cond.instanceMethod yX5_pier ∈ lwA := mA 1425 (by decide +kernel) rfl
theorem q_1426 : Cond.selects yX5_pier.cls yX5_pier yX5_pier ∈ lwA := mA 1426 (by decide +kernel) rfl
theorem q_1427 : Cond.code yX5_pier cX5_pier 3 (some .int) ∈ lwA := mA 1427 (by decide +kernel) rfl
theorem q_1440 : Cond.methodLink RL 188 yX5_ticketOf ∈ lwA := mA 1440 (by decide +kernel) rfl
theorem q_1441 : Cond.instanceMethod yX5_ticketOf ∈ lwA := mA 1441 (by decide +kernel) rfl
theorem q_1442 : Cond.selects yX5_ticketOf.cls yX5_ticketOf yX5_ticketOf ∈ lwA := mA 1442 (by decide +kernel) rfl
theorem q_1443 : Cond.code yX5_ticketOf cX5_ticketOf 3 (some .int) ∈ lwA := mA 1443 (by decide +kernel) rfl
theorem q_1456 : Cond.methodLink RL 191 yX5_wordAt ∈ lwA := mA 1456 (by decide +kernel) rfl
theorem q_1457 : Cond.instanceMethod yX5_wordAt ∈ lwA := mA 1457 (by decide +kernel) rfl
theorem q_1458 : Cond.selects yX5_wordAt.cls yX5_wordAt yX5_wordAt ∈ lwA := mA 1458 (by decide +kernel) rfl
theorem q_1459 : Cond.code yX5_wordAt cX5_wordAt 3 (some .char) ∈ lwA := mA 1459 (by decide +kernel) rfl
theorem q_1460 : Cond.methodLink RL 195 yX5_punch ∈ lwA := mA 1460 (by decide +kernel) rfl
theorem q_1461 : Cond.instanceMethod yX5_punch ∈ lwA := mA 1461 (by decide +kernel) rfl
theorem q_1462 : Cond.selects yX5_punch.cls yX5_punch yX5_punch ∈ lwA := mA 1462 (by decide +kernel) rfl
theorem q_1463 : Cond.code yX5_punch cX5_punch 4 (some .int) ∈ lwA := mA 1463 (by decide +kernel) rfl
theorem q_1490 : Cond.methodLink RL 198 yX5_wet ∈ lwA := mA 1490 (by decide +kernel) rfl
theorem q_1491 : Cond.instanceMethod yX5_wet ∈ lwA := mA 1491 (by decide +kernel) rfl
theorem q_1492 : Cond.selects yX5_wet.cls yX5_wet yX5_wet ∈ lwA := mA 1492 (by decide +kernel) rfl
theorem q_1493 : Cond.code yX5_wet cX5_wet 4 (some .int) ∈ lwA := mA 1493 (by decide +kernel) rfl
theorem q_1502 : Cond.methodLink RL 201 yX5_tear ∈ lwA := mA 1502 (by decide +kernel) rfl
theorem q_1503 : Cond.instanceMethod yX5_tear ∈ lwA := mA 1503 (by decide +kernel) rfl
theorem q_1504 : Cond.selects yX5_tear.cls yX5_tear yX5_tear ∈ lwA := mA 1504 (by decide +kernel) rfl
theorem q_1505 : Cond.code yX5_tear cX5_tear 2 (some .int) ∈ lwA := mA 1505 (by decide +kernel) rfl
theorem q_1514 : Cond.methodLink RL 204 yX5_lose ∈ lwA := mA 1514 (by decide +kernel) rfl
theorem q_1515 : Cond.instanceMethod yX5_lose ∈ lwA := mA 1515 (by decide +kernel) rfl
theorem q_1516 : Cond.selects yX5_lose.cls yX5_lose yX5_lose ∈ lwA := mA 1516 (by decide +kernel) rfl
theorem q_1517 : Cond.code yX5_lose cX5_lose 3 (some .int) ∈ lwA := mA 1517 (by decide +kernel) rfl
theorem q_1526 : Cond.methodLink RL 207 yX5_find ∈ lwA := mA 1526 (by decide +kernel) rfl
theorem q_1527 : Cond.instanceMethod yX5_find ∈ lwA := mA 1527 (by decide +kernel) rfl
theorem q_1528 : Cond.selects yX5_find.cls yX5_find yX5_find ∈ lwA := mA 1528 (by decide +kernel) rfl
theorem q_1529 : Cond.code yX5_find cX5_find 3 (some .int) ∈ lwA := mA 1529 (by decide +kernel) rfl
theorem q_1530 : Cond.methodLink RL 210 yX5_halfOf ∈ lwA := mA 1530 (by decide +kernel) rfl
theorem q_1531 : Cond.instanceMethod yX5_halfOf ∈ lwA := mA 1531 (by decide +kernel) rfl
theorem q_1532 : Cond.selects yX5_halfOf.cls yX5_halfOf yX5_halfOf ∈ lwA := mA 1532 (by decide +kernel) rfl
theorem q_1533 : Cond.code yX5_halfOf cX5_halfOf 5 (some .int) ∈ lwA := mA 1533 (by decide +kernel) rfl
theorem q_1553 : Cond.methodLink RL 213 yX5_readAt ∈ lwA := mA 1553 (by decide +kernel) rfl
theorem q_1554 : Cond.instanceMethod yX5_readAt ∈ lwA := mA 1554 (by decide +kernel) rfl
theorem q_1555 : Cond.selects yX5_readAt.cls yX5_readAt yX5_readAt ∈ lwA := mA 1555 (by decide +kernel) rfl
theorem q_1556 : Cond.code yX5_readAt cX5_readAt 4 (some .char) ∈ lwA := mA 1556 (by decide +kernel) rfl
theorem q_1561 : Cond.methodLink RL 216 yX5_doAgree ∈ lwA := mA 1561 (by decide +kernel) rfl
theorem q_1562 : Cond.instanceMethod yX5_doAgree ∈ lwA := mA 1562 (by decide +kernel) rfl
theorem q_1563 : Cond.selects yX5_doAgree.cls yX5_doAgree yX5_doAgree ∈ lwA := mA 1563 (by decide +kernel) rfl
theorem q_1564 : Cond.code yX5_doAgree cX5_doAgree 4 (some .boolean) ∈ lwA := mA 1564 (by decide +kernel) rfl
theorem q_1565 : Cond.methodLink RL 219 yX5_moodFor ∈ lwA := mA 1565 (by decide +kernel) rfl
theorem q_1566 : Cond.instanceMethod yX5_moodFor ∈ lwA := mA 1566 (by decide +kernel) rfl
theorem q_1567 : Cond.selects yX5_moodFor.cls yX5_moodFor yX5_moodFor ∈ lwA := mA 1567 (by decide +kernel) rfl
theorem q_1568 : Cond.code yX5_moodFor cX5_moodFor 5 (some .int) ∈ lwA := mA 1568 (by decide +kernel) rfl
theorem q_1573 : Cond.methodLink RL 222 yX5_would ∈ lwA := mA 1573 (by decide +kernel) rfl
theorem q_1574 : Cond.instanceMethod yX5_would ∈ lwA := mA 1574 (by decide +kernel) rfl
theorem q_1575 : Cond.selects yX5_would.cls yX5_would yX5_would ∈ lwA := mA 1575 (by decide +kernel) rfl
theorem q_1576 : Cond.code yX5_would cX5_would 6 (some .int) ∈ lwA := mA 1576 (by decide +kernel) rfl
theorem q_1577 : Cond.methodLink RL 225 yX5_likely ∈ lwA := mA 1577 (by decide +kernel) rfl
theorem q_1578 : Cond.instanceMethod yX5_likely ∈ lwA := mA 1578 (by decide +kernel) rfl
theorem q_1579 : Cond.selects yX5_likely.cls yX5_likely yX5_likely ∈ lwA := mA 1579 (by decide +kernel) rfl
theorem q_1580 : Cond.code yX5_likely cX5_likely 6 (some .int) ∈ lwA := mA 1580 (by decide +kernel) rfl
theorem q_1585 : Cond.methodLink RL 228 yX5_ride ∈ lwA := mA 1585 (by decide +kernel) rfl
theorem q_1586 : Cond.instanceMethod yX5_ride ∈ lwA := mA 1586 (by decide +kernel) rfl
theorem q_1587 : Cond.selects yX5_ride.cls yX5_ride yX5_ride ∈ lwA := mA 1587 (by decide +kernel) rfl
theorem q_1588 : Cond.code yX5_ride cX5_ride 3 (some .int) ∈ lwA := mA 1588 (by decide +kernel) rfl
theorem q_1605 : Cond.methodLink RL 231 yX5_hinders ∈ lwA := mA 1605 (by decide +kernel) rfl
theorem q_1606 : Cond.instanceMethod yX5_hinders ∈ lwA := mA 1606 (by decide +kernel) rfl
theorem q_1607 : Cond.selects yX5_hinders.cls yX5_hinders yX5_hinders ∈ lwA := mA 1607 (by decide +kernel) rfl
theorem q_1608 : Cond.code yX5_hinders cX5_hinders 3 (some .int) ∈ lwA := mA 1608 (by decide +kernel) rfl
theorem q_1609 : Cond.methodLink RL 235 yX5_day ∈ lwA := mA 1609 (by decide +kernel) rfl
theorem q_1610 : Cond.instanceMethod yX5_day ∈ lwA := mA 1610 (by decide +kernel) rfl
theorem q_1611 : Cond.selects yX5_day.cls yX5_day yX5_day ∈ lwA := mA 1611 (by decide +kernel) rfl
theorem q_1612 : Cond.code yX5_day cX5_day 1 (some .int) ∈ lwA := mA 1612 (by decide +kernel) rfl
theorem q_1617 : Cond.methodLink RL 238 yX5_daysLeft ∈ lwA := mA 1617 (by decide +kernel) rfl
theorem q_1618 : Cond.instanceMethod yX5_daysLeft ∈ lwA := mA 1618 (by decide +kernel) rfl
theorem q_1619 : Cond.selects yX5_daysLeft.cls yX5_daysLeft yX5_daysLeft ∈ lwA := mA 1619 (by decide +kernel) rfl
theorem q_1620 : Cond.code yX5_daysLeft cX5_daysLeft 3 (some .int) ∈ lwA := mA 1620 (by decide +kernel) rfl
theorem q_1621 : Cond.methodLink RL 242 yX5_words ∈ lwA := mA 1621 (by decide +kernel) rfl
theorem q_1622 : Cond.instanceMethod yX5_words ∈ lwA := mA 1622 (by decide +kernel) rfl
theorem q_1623 : Cond.selects yX5_words.cls yX5_words yX5_words ∈ lwA := mA 1623 (by decide +kernel) rfl
theorem q_1624 : Cond.code yX5_words cX5_words 5 (some .int) ∈ lwA := mA 1624 (by decide +kernel) rfl
theorem q_1629 : Cond.methodLink RL 245 yX5_sharing ∈ lwA := mA 1629 (by decide +kernel) rfl
theorem q_1630 : Cond.instanceMethod yX5_sharing ∈ lwA := mA 1630 (by decide +kernel) rfl
theorem q_1631 : Cond.selects yX5_sharing.cls yX5_sharing yX5_sharing ∈ lwA := mA 1631 (by decide +kernel) rfl
theorem q_1632 : Cond.code yX5_sharing cX5_sharing 4 (some .int) ∈ lwA := mA 1632 (by decide +kernel) rfl
theorem q_1633 : Cond.methodLink RL 248 yX5_often ∈ lwA := mA 1633 (by decide +kernel) rfl
theorem q_1634 : Cond.instanceMethod yX5_often ∈ lwA := mA 1634 (by decide +kernel) rfl
theorem q_1635 : Cond.selects yX5_often.cls yX5_often yX5_often ∈ lwA := mA 1635 (by decide +kernel) rfl
theorem q_1636 : Cond.code yX5_often cX5_often 5 (some .int) ∈ lwA := mA 1636 (by decide +kernel) rfl
theorem q_1637 : Cond.methodLink RL 251 yX5_ranked ∈ lwA := mA 1637 (by decide +kernel) rfl
theorem q_1638 : Cond.instanceMethod yX5_ranked ∈ lwA := mA 1638 (by decide +kernel) rfl
theorem q_1639 : Cond.selects yX5_ranked.cls yX5_ranked yX5_ranked ∈ lwA := mA 1639 (by decide +kernel) rfl
theorem q_1640 : Cond.code yX5_ranked cX5_ranked 7 (some .int) ∈ lwA := mA 1640 (by decide +kernel) rfl
theorem q_1645 : Cond.methodLink RL 256 yX5_isRight ∈ lwA := mA 1645 (by decide +kernel) rfl
theorem q_1646 : Cond.instanceMethod yX5_isRight ∈ lwA := mA 1646 (by decide +kernel) rfl
theorem q_1647 : Cond.selects yX5_isRight.cls yX5_isRight yX5_isRight ∈ lwA := mA 1647 (by decide +kernel) rfl
theorem q_1648 : Cond.code yX5_isRight cX5_isRight 3 (some .boolean) ∈ lwA := mA 1648 (by decide +kernel) rfl
theorem q_1649 : Cond.methodLink RL 259 yX5_line ∈ lwA := mA 1649 (by decide +kernel) rfl
theorem q_1650 : Cond.instanceMethod yX5_line ∈ lwA := mA 1650 (by decide +kernel) rfl
theorem q_1651 : Cond.selects yX5_line.cls yX5_line yX5_line ∈ lwA := mA 1651 (by decide +kernel) rfl
theorem q_1652 : Cond.code yX5_line cX5_line 2 (some .int) ∈ lwA := mA 1652 (by decide +kernel) rfl
theorem q_1661 : Cond.methodLink RL 262 yX5_holeLine ∈ lwA := mA 1661 (by decide +kernel) rfl
theorem q_1662 : Cond.instanceMethod yX5_holeLine ∈ lwA := mA 1662 (by decide +kernel) rfl
theorem q_1663 : Cond.selects yX5_holeLine.cls yX5_holeLine yX5_holeLine ∈ lwA := mA 1663 (by decide +kernel) rfl
theorem q_1664 : Cond.code yX5_holeLine cX5_holeLine 5 (some .int) ∈ lwA := mA 1664 (by decide +kernel) rfl
theorem q_1665 : Cond.methodLink RL 265 yX5_character ∈ lwA := mA 1665 (by decide +kernel) rfl
theorem q_1666 : Cond.instanceMethod yX5_character ∈ lwA := mA 1666 (by decide +kernel) rfl
theorem q_1667 : Cond.selects yX5_character.cls yX5_character yX5_character ∈ lwA := mA 1667 (by decide +kernel) rfl
theorem q_1668 : Cond.code yX5_character cX5_character 2 (some .char) ∈ lwA := mA 1668 (by decide +kernel) rfl
theorem q_1669 : Cond.methodLink RL 269 yX5_refusal ∈ lwA := mA 1669 (by decide +kernel) rfl
theorem q_1670 : Cond.instanceMethod yX5_refusal ∈ lwA := mA 1670 (by decide +kernel) rfl
theorem q_1671 : Cond.selects yX5_refusal.cls yX5_refusal yX5_refusal ∈ lwA := mA 1671 (by decide +kernel) rfl
theorem q_1672 : Cond.code yX5_refusal cX5_refusal 2 (some .int) ∈ lwA := mA 1672 (by decide +kernel) rfl
theorem q_1673 : Cond.methodLink RL 272 yX5_account ∈ lwA := mA 1673 (by decide +kernel) rfl
theorem q_1674 : Cond.instanceMethod yX5_account ∈ lwA := mA 1674 (by decide +kernel) rfl
theorem q_1675 : Cond.selects yX5_account.cls yX5_account yX5_account ∈ lwA := mA 1675 (by decide +kernel) rfl
theorem q_1676 : Cond.code yX5_account cX5_account 2 (some .int) ∈ lwA := mA 1676 (by decide +kernel) rfl
theorem q_1685 : Cond.methodLink RL 276 yX5_meanWet ∈ lwA := mA 1685 (by decide +kernel) rfl
theorem q_1686 : Cond.instanceMethod yX5_meanWet ∈ lwA := mA 1686 (by decide +kernel) rfl
theorem q_1687 : Cond.selects yX5_meanWet.cls yX5_meanWet yX5_meanWet ∈ lwA := mA 1687 (by decide +kernel) rfl
theorem q_1688 : Cond.code yX5_meanWet cX5_meanWet 3 (some .double) ∈ lwA := mA 1688 (by decide +kernel) rfl
theorem q_1689 : Cond.methodLink RL 279 yX5_readShare ∈ lwA := mA 1689 (by decide +kernel) rfl
theorem q_1690 : Cond.instanceMethod yX5_readShare ∈ lwA := mA 1690 (by decide +kernel) rfl
theorem q_1691 : Cond.selects yX5_readShare.cls yX5_readShare yX5_readShare ∈ lwA := mA 1691 (by decide +kernel) rfl
theorem q_1692 : Cond.code yX5_readShare cX5_readShare 3 (some .float) ∈ lwA := mA 1692 (by decide +kernel) rfl
theorem q_1693 : Cond.methodLink RL 282 yX5_append ∈ lwA := mA 1693 (by decide +kernel) rfl
theorem q_1694 : Cond.instanceMethod yX5_append ∈ lwA := mA 1694 (by decide +kernel) rfl
theorem q_1695 : Cond.selects yX5_append.cls yX5_append yX5_append ∈ lwA := mA 1695 (by decide +kernel) rfl
theorem q_1696 : Cond.code yX5_append cX5_append 6 (some .int) ∈ lwA := mA 1696 (by decide +kernel) rfl
theorem q_1697 : Cond.methodLink RL 285 yX5_read ∈ lwA := mA 1697 (by decide +kernel) rfl
theorem q_1698 : Cond.instanceMethod yX5_read ∈ lwA := mA 1698 (by decide +kernel) rfl
theorem q_1699 : Cond.selects yX5_read.cls yX5_read yX5_read ∈ lwA := mA 1699 (by decide +kernel) rfl
theorem q_1700 : Cond.code yX5_read cX5_read 4 (some .int) ∈ lwA := mA 1700 (by decide +kernel) rfl
theorem q_1733 : Cond.methodLink RL 288 yX5_errorPosition ∈ lwA := mA 1733 (by decide +kernel) rfl
theorem q_1734 : Cond.instanceMethod yX5_errorPosition ∈ lwA := mA 1734 (by decide +kernel) rfl
theorem q_1735 : Cond.selects yX5_errorPosition.cls yX5_errorPosition yX5_errorPosition ∈ lwA := mA 1735 (by decide +kernel) rfl
theorem q_1736 : Cond.code yX5_errorPosition cX5_errorPosition 1 (some .int) ∈ lwA := mA 1736 (by decide +kernel) rfl
theorem q_1737 : Cond.methodLink RL 291 yX5_refusedItem ∈ lwA := mA 1737 (by decide +kernel) rfl
theorem q_1738 : Cond.instanceMethod yX5_refusedItem ∈ lwA := mA 1738 (by decide +kernel) rfl
theorem q_1739 : Cond.selects yX5_refusedItem.cls yX5_refusedItem yX5_refusedItem ∈ lwA := mA 1739 (by decide +kernel) rfl
theorem q_1740 : Cond.code yX5_refusedItem cX5_refusedItem 1 (some .int) ∈ lwA := mA 1740 (by decide +kernel) rfl
theorem q_1741 : Cond.methodLink RL 294 yX5_undo ∈ lwA := mA 1741 (by decide +kernel) rfl
theorem q_1742 : Cond.instanceMethod yX5_undo ∈ lwA := mA 1742 (by decide +kernel) rfl
theorem q_1743 : Cond.selects yX5_undo.cls yX5_undo yX5_undo ∈ lwA := mA 1743 (by decide +kernel) rfl
theorem q_1744 : Cond.code yX5_undo cX5_undo 2 (some .int) ∈ lwA := mA 1744 (by decide +kernel) rfl
theorem q_1745 : Cond.methodLink RL 298 yX5_snapshot ∈ lwA := mA 1745 (by decide +kernel) rfl
theorem q_1746 : Cond.instanceMethod yX5_snapshot ∈ lwA := mA 1746 (by decide +kernel) rfl
theorem q_1747 : Cond.selects yX5_snapshot.cls yX5_snapshot yX5_snapshot ∈ lwA := mA 1747 (by decide +kernel) rfl
theorem q_1748 : Cond.code yX5_snapshot cX5_snapshot 2 (some .int) ∈ lwA := mA 1748 (by decide +kernel) rfl
theorem q_1749 : Cond.methodLink RL 301 yX5_restore ∈ lwA := mA 1749 (by decide +kernel) rfl
theorem q_1750 : Cond.instanceMethod yX5_restore ∈ lwA := mA 1750 (by decide +kernel) rfl
theorem q_1751 : Cond.selects yX5_restore.cls yX5_restore yX5_restore ∈ lwA := mA 1751 (by decide +kernel) rfl
theorem q_1752 : Cond.code yX5_restore cX5_restore 2 (some .int) ∈ lwA := mA 1752 (by decide +kernel) rfl
theorem q_1753 : Cond.arrayClass .long ∈ lwA := mA 1753 (by decide +kernel) rfl
theorem q_1754 : Cond.arrayClass .double ∈ lwA := mA 1754 (by decide +kernel) rfl
def KK0 (x m : Nat) (a1 a2 a3 : Int32) (w w2 : FW) : Prop := ∃ (rx : Int32) (w1 : FW) (b9 : Int32), F_X4_clear x w = some (rx, w1) ∧ F_X5_clear m w1 = some (b9, w2) ∧ rx = b9
def KK1 (x m : Nat) (a1 a2 a3 : Int32) (w w2 : FW) : Prop := ∃ (rx : Int32 ⊕ Nat) (w1 : FW) (b9 : Int32) (t : Int32), F_X4_letter x (fch a1) w = some (rx, w1) ∧ F_X5_letter m (fch a1) w1 = some (b9, w2) ∧ F_X5_thrown m w2 = some t ∧ (∀ e, rx = .inr e → e ∈ [1, 4]) ∧ t = wK [1, 4] rx ∧ (∀ v, rx = .inl v → v = b9)
def KK2 (x m : Nat) (a1 a2 a3 : Int32) (w w2 : FW) : Prop := ∃ (rx : Int32 ⊕ Nat) (w1 : FW) (b9 : Int32) (t : Int32), F_X4_unletter x  w = some (rx, w1) ∧ F_X5_unletter m w1 = some (b9, w2) ∧ F_X5_thrown m w2 = some t ∧ (∀ e, rx = .inr e → e ∈ [4]) ∧ t = wK [4] rx ∧ (∀ v, rx = .inl v → v = b9)
def KK3 (x m : Nat) (a1 a2 a3 : Int32) (w w2 : FW) : Prop := ∃ (rx : Int32 ⊕ Nat) (w1 : FW) (b9 : Int32) (t : Int32), F_X4_print x a1 a2 a3 w = some (rx, w1) ∧ F_X5_print m a1 a2 a3 w1 = some (b9, w2) ∧ F_X5_thrown m w2 = some t ∧ (∀ e, rx = .inr e → e ∈ [2, 1, 4]) ∧ t = wK [2, 1, 4] rx ∧ (∀ v, rx = .inl v → v = b9)
def KK4 (x m : Nat) (a1 a2 a3 : Int32) (w w2 : FW) : Prop := ∃ (rx : Int32 ⊕ Nat) (w1 : FW) (b9 : Int32) (t : Int32), F_X4_throwAway x a1 w = some (rx, w1) ∧ F_X5_throwAway m a1 w1 = some (b9, w2) ∧ F_X5_thrown m w2 = some t ∧ (∀ e, rx = .inr e → e ∈ [2]) ∧ t = wK [2] rx ∧ (∀ v, rx = .inl v → v = b9)
def KK5 (x m : Nat) (a1 a2 a3 : Int32) (w w2 : FW) : Prop := ∃ (rx : Int32 ⊕ Nat) (w1 : FW) (b9 : Int32) (t : Int32), F_X4_mood x a1 a2 w = some (rx, w1) ∧ F_X5_mood m a1 a2 w1 = some (b9, w2) ∧ F_X5_thrown m w2 = some t ∧ (∀ e, rx = .inr e → e ∈ [2, 1, 4]) ∧ t = wK [2, 1, 4] rx ∧ (∀ v, rx = .inl v → v = b9)
def KK6 (x m : Nat) (a1 a2 a3 : Int32) (w w2 : FW) : Prop := ∃ (rx : Int32 ⊕ Nat) (w1 : FW) (b9 : Int32) (t : Int32), F_X4_pier x a1 (zz a2) w = some (rx, w1) ∧ F_X5_pier m a1 (zz a2) w1 = some (b9, w2) ∧ F_X5_thrown m w2 = some t ∧ (∀ e, rx = .inr e → e ∈ [2, 4]) ∧ t = wK [2, 4] rx ∧ (∀ v, rx = .inl v → v = b9)
def KK7 (x m : Nat) (a1 a2 a3 : Int32) (w w2 : FW) : Prop := ∃ (rx : Int32 ⊕ Nat) (b9 : Int32) (t : Int32), F_X4_ticketOf x a1 a2 w = some rx ∧ F_X5_ticketOf m a1 a2 w = some (b9, w2) ∧ F_X5_thrown m w2 = some t ∧ (∀ e, rx = .inr e → e ∈ [2, 1]) ∧ t = wK [2, 1] rx ∧ (∀ v, rx = .inl v → v = b9)
def KK8 (x m : Nat) (a1 a2 a3 : Int32) (w w2 : FW) : Prop := ∃ (rx : Int32 ⊕ Nat) (b9 : Int32) (t : Int32), F_X4_wordAt x a1 a2 w = some rx ∧ F_X5_wordAt m a1 a2 w = some (b9, w2) ∧ F_X5_thrown m w2 = some t ∧ (∀ e, rx = .inr e → e ∈ [2, 5]) ∧ t = wK [2, 5] rx ∧ (∀ v, rx = .inl v → v = b9)
def KK9 (x m : Nat) (a1 a2 a3 : Int32) (w w2 : FW) : Prop := ∃ (rx : Int32 ⊕ Nat) (w1 : FW) (b9 : Int32) (t : Int32), F_X4_punch x a1 (zz a2) a3 w = some (rx, w1) ∧ F_X5_punch m a1 (zz a2) a3 w1 = some (b9, w2) ∧ F_X5_thrown m w2 = some t ∧ (∀ e, rx = .inr e → e ∈ [2, 4]) ∧ t = wK [2, 4] rx ∧ (∀ v, rx = .inl v → v = b9)
def KK10 (x m : Nat) (a1 a2 a3 : Int32) (w w2 : FW) : Prop := ∃ (rx : Int32 ⊕ Nat) (w1 : FW) (b9 : Int32) (t : Int32), F_X4_wet x a1 (zz a2) a3 w = some (rx, w1) ∧ F_X5_wet m a1 (zz a2) a3 w1 = some (b9, w2) ∧ F_X5_thrown m w2 = some t ∧ (∀ e, rx = .inr e → e ∈ [2, 1]) ∧ t = wK [2, 1] rx ∧ (∀ v, rx = .inl v → v = b9)
def KK11 (x m : Nat) (a1 a2 a3 : Int32) (w w2 : FW) : Prop := ∃ (rx : Int32 ⊕ Nat) (w1 : FW) (b9 : Int32) (t : Int32), F_X4_tear x a1 w = some (rx, w1) ∧ F_X5_tear m a1 w1 = some (b9, w2) ∧ F_X5_thrown m w2 = some t ∧ (∀ e, rx = .inr e → e ∈ [2, 4]) ∧ t = wK [2, 4] rx ∧ (∀ v, rx = .inl v → v = b9)
def KK12 (x m : Nat) (a1 a2 a3 : Int32) (w w2 : FW) : Prop := ∃ (rx : Int32 ⊕ Nat) (w1 : FW) (b9 : Int32) (t : Int32), F_X4_lose x a1 (zz a2) w = some (rx, w1) ∧ F_X5_lose m a1 (zz a2) w1 = some (b9, w2) ∧ F_X5_thrown m w2 = some t ∧ (∀ e, rx = .inr e → e ∈ [2, 4]) ∧ t = wK [2, 4] rx ∧ (∀ v, rx = .inl v → v = b9)
def KK13 (x m : Nat) (a1 a2 a3 : Int32) (w w2 : FW) : Prop := ∃ (rx : Int32 ⊕ Nat) (w1 : FW) (b9 : Int32) (t : Int32), F_X4_find x a1 (zz a2) w = some (rx, w1) ∧ F_X5_find m a1 (zz a2) w1 = some (b9, w2) ∧ F_X5_thrown m w2 = some t ∧ (∀ e, rx = .inr e → e ∈ [2, 4]) ∧ t = wK [2, 4] rx ∧ (∀ v, rx = .inl v → v = b9)
def KK14 (x m : Nat) (a1 a2 a3 : Int32) (w w2 : FW) : Prop := ∃ (rx : Int32 ⊕ Nat) (b9 : Int32) (t : Int32), F_X4_halfOf x a1 (zz a2) a3 w = some rx ∧ F_X5_halfOf m a1 (zz a2) a3 w = some (b9, w2) ∧ F_X5_thrown m w2 = some t ∧ (∀ e, rx = .inr e → e ∈ [2, 1]) ∧ t = wK [2, 1] rx ∧ (∀ v, rx = .inl v → v = b9)
def KK15 (x m : Nat) (a1 a2 a3 : Int32) (w w2 : FW) : Prop := ∃ (rx : Int32 ⊕ Nat) (b9 : Int32) (t : Int32), F_X4_readAt x a1 (zz a2) a3 w = some rx ∧ F_X5_readAt m a1 (zz a2) a3 w = some (b9, w2) ∧ F_X5_thrown m w2 = some t ∧ (∀ e, rx = .inr e → e ∈ [2, 5]) ∧ t = wK [2, 5] rx ∧ (∀ v, rx = .inl v → v = b9)
def KK16 (x m : Nat) (a1 a2 a3 : Int32) (w w2 : FW) : Prop := ∃ (rx : Int32 ⊕ Nat) (b9 : Int32) (t : Int32), F_X4_doAgree x a1 (zz a2) w = some rx ∧ F_X5_doAgree m a1 (zz a2) w = some (b9, w2) ∧ F_X5_thrown m w2 = some t ∧ (∀ e, rx = .inr e → e ∈ [2]) ∧ t = wK [2] rx ∧ (∀ v, rx = .inl v → v = b9)
def KK17 (x m : Nat) (a1 a2 a3 : Int32) (w w2 : FW) : Prop := ∃ (rx : Int32 ⊕ Nat) (b9 : Int32) (t : Int32), F_X4_moodFor x a1 (zz a2) w = some rx ∧ F_X5_moodFor m a1 (zz a2) w = some (b9, w2) ∧ F_X5_thrown m w2 = some t ∧ (∀ e, rx = .inr e → e ∈ [2, 5]) ∧ t = wK [2, 5] rx ∧ (∀ v, rx = .inl v → v = b9)
def KK18 (x m : Nat) (a1 a2 a3 : Int32) (w w2 : FW) : Prop := ∃ (rx : Int32 ⊕ Nat) (b9 : Int32) (t : Int32), F_X4_would x a1 (zz a2) a3 w = some rx ∧ F_X5_would m a1 (zz a2) a3 w = some (b9, w2) ∧ F_X5_thrown m w2 = some t ∧ (∀ e, rx = .inr e → e ∈ [2, 1, 5]) ∧ t = wK [2, 1, 5] rx ∧ (∀ v, rx = .inl v → v = b9)
def KK19 (x m : Nat) (a1 a2 a3 : Int32) (w w2 : FW) : Prop := ∃ (rx : Int32 ⊕ Nat) (b9 : Int32) (t : Int32), F_X4_likely x a1 (zz a2) w = some rx ∧ F_X5_likely m a1 (zz a2) w = some (b9, w2) ∧ F_X5_thrown m w2 = some t ∧ (∀ e, rx = .inr e → e ∈ [2, 5]) ∧ t = wK [2, 5] rx ∧ (∀ v, rx = .inl v → v = b9)
def KK20 (x m : Nat) (a1 a2 a3 : Int32) (w w2 : FW) : Prop := ∃ (rx : Int32 ⊕ Nat) (w1 : FW) (b9 : Int32) (t : Int32), F_X4_ride x a1 (zz a2) w = some (rx, w1) ∧ F_X5_ride m a1 (zz a2) w1 = some (b9, w2) ∧ F_X5_thrown m w2 = some t ∧ (∀ e, rx = .inr e → e ∈ [2, 4]) ∧ t = wK [2, 4] rx ∧ (∀ v, rx = .inl v → v = b9)
def KK21 (x m : Nat) (a1 a2 a3 : Int32) (w w2 : FW) : Prop := ∃ (rx : Int32 ⊕ Nat) (b9 : Int32) (t : Int32), F_X4_hinders x a1 (zz a2) w = some rx ∧ F_X5_hinders m a1 (zz a2) w = some (b9, w2) ∧ F_X5_thrown m w2 = some t ∧ (∀ e, rx = .inr e → e ∈ [2]) ∧ t = wK [2] rx ∧ (∀ v, rx = .inl v → v = b9)
def KK22 (x m : Nat) (a1 a2 a3 : Int32) (w w2 : FW) : Prop := ∃ (rx : Int32) (w1 : FW) (b9 : Int32), F_X4_day x w = some (.inl rx, w1) ∧ F_X5_day m w1 = some (b9, w2) ∧ rx = b9
def KK23 (x m : Nat) (a1 a2 a3 : Int32) (w w2 : FW) : Prop := ∃ (rx : Int32 ⊕ Nat) (b9 : Int32) (t : Int32), F_X4_daysLeft x a1 w = some rx ∧ F_X5_daysLeft m a1 w = some (b9, w2) ∧ F_X5_thrown m w2 = some t ∧ (∀ e, rx = .inr e → e ∈ [2, 5]) ∧ t = wK [2, 5] rx ∧ (∀ v, rx = .inl v → v = b9)
def KK24 (x m : Nat) (a1 a2 a3 : Int32) (w w2 : FW) : Prop := ∃ (rx : Int32) (b9 : Int32), F_X4_words x w = some rx ∧ F_X5_words m w = some (b9, w2) ∧ rx = b9
def KK25 (x m : Nat) (a1 a2 a3 : Int32) (w w2 : FW) : Prop := ∃ (rx : Int32 ⊕ Nat) (b9 : Int32) (t : Int32), F_X4_sharing x a1 w = some rx ∧ F_X5_sharing m a1 w = some (b9, w2) ∧ F_X5_thrown m w2 = some t ∧ (∀ e, rx = .inr e → e ∈ [2]) ∧ t = wK [2] rx ∧ (∀ v, rx = .inl v → v = b9)
def KK26 (x m : Nat) (a1 a2 a3 : Int32) (w w2 : FW) : Prop := ∃ (rx : Int32 ⊕ Nat) (b9 : Int32) (t : Int32), F_X4_often x (fch a1) w = some rx ∧ F_X5_often m (fch a1) w = some (b9, w2) ∧ F_X5_thrown m w2 = some t ∧ (∀ e, rx = .inr e → e ∈ [1]) ∧ t = wK [1] rx ∧ (∀ v, rx = .inl v → v = b9)
def KK27 (x m : Nat) (a1 a2 a3 : Int32) (w w2 : FW) : Prop := ∃ (rx : Int32 ⊕ Nat) (b9 : Int32) (t : Int32), F_X4_ranked x a1 a2 w = some rx ∧ F_X5_ranked m a1 a2 w = some (b9, w2) ∧ F_X5_thrown m w2 = some t ∧ (∀ e, rx = .inr e → e ∈ [1, 5]) ∧ t = wK [1, 5] rx ∧ (∀ v, rx = .inl v → v = b9)
def KK28 (x m : Nat) (a1 a2 a3 : Int32) (w w2 : FW) : Prop := ∃ (rx : Int32) (b9 : Int32), F_X4_isRight x w = some rx ∧ F_X5_isRight m w = some (b9, w2) ∧ rx = b9
def KK29 (x m : Nat) (a1 a2 a3 : Int32) (w w2 : FW) : Prop := ∃ (rx : Int32 ⊕ Nat) (w1 : FW) (b9 : Int32) (t : Int32), F_X4_line x a1 w = some (rx, w1) ∧ F_X5_line m a1 w1 = some (b9, w2) ∧ F_X5_thrown m w2 = some t ∧ (∀ e, rx = .inr e → e ∈ [2]) ∧ t = wK [2] rx ∧ (∀ v, rx = .inl v → v = b9)
def KK30 (x m : Nat) (a1 a2 a3 : Int32) (w w2 : FW) : Prop := ∃ (rx : Int32 ⊕ Nat) (w1 : FW) (b9 : Int32) (t : Int32), F_X4_holeLine x a1 (zz a2) w = some (rx, w1) ∧ F_X5_holeLine m a1 (zz a2) w1 = some (b9, w2) ∧ F_X5_thrown m w2 = some t ∧ (∀ e, rx = .inr e → e ∈ [2, 5]) ∧ t = wK [2, 5] rx ∧ (∀ v, rx = .inl v → v = b9)
def KK31 (x m : Nat) (a1 a2 a3 : Int32) (w w2 : FW) : Prop := ∃ (rx : Int32 ⊕ Nat) (b9 : Int32) (t : Int32), F_X4_character x a1 w = some rx ∧ F_X5_character m a1 w = some (b9, w2) ∧ F_X5_thrown m w2 = some t ∧ (∀ e, rx = .inr e → e ∈ [2]) ∧ t = wK [2] rx ∧ (∀ v, rx = .inl v → v = b9)
def KK32 (x m : Nat) (a1 a2 a3 : Int32) (w w2 : FW) : Prop := ∃ (rx : Int32 ⊕ Nat) (b9 : Int32) (t : Int32), F_X4_refusal x (zz a1) w = some rx ∧ F_X5_refusal m (zz a1) w = some (b9, w2) ∧ F_X5_thrown m w2 = some t ∧ (∀ e, rx = .inr e → e ∈ [0]) ∧ t = wK [0] rx ∧ (∀ v, rx = .inl v → v = b9)
def KK33 (x m : Nat) (a1 a2 a3 : Int32) (w w2 : FW) : Prop := ∃ (rx : Int32 ⊕ Nat) (b9 : Int32) (t : Int32), F_X4_account x a1 w = some rx ∧ F_X5_account m a1 w = some (b9, w2) ∧ F_X5_thrown m w2 = some t ∧ (∀ e, rx = .inr e → e ∈ [1]) ∧ t = wK [1] rx ∧ (∀ v, rx = .inl v → v = b9)
def KK34 (x m : Nat) (a1 a2 a3 : Int32) (w w2 : FW) : Prop := ∃ (rx : UInt64 ⊕ Nat) (b9 : UInt64) (t : Int32), F_X4_meanWet x  w = some rx ∧ F_X5_meanWet m w = some (b9, w2) ∧ F_X5_thrown m w2 = some t ∧ (∀ e, rx = .inr e → e ∈ [3]) ∧ t = wK [3] rx ∧ (∀ v, rx = .inl v → v = b9 ∧ FP.dcmp v b9 = some .eq)
def KK35 (x m : Nat) (a1 a2 a3 : Int32) (w w2 : FW) : Prop := ∃ (rx : UInt32 ⊕ Nat) (b9 : UInt32) (t : Int32), F_X4_readShare x  w = some rx ∧ F_X5_readShare m w = some (b9, w2) ∧ F_X5_thrown m w2 = some t ∧ (∀ e, rx = .inr e → e ∈ [3]) ∧ t = wK [3] rx ∧ (∀ v, rx = .inl v → v = b9 ∧ vf_n64 (FP.f2d v) ∧ FP.dcmp (FP.f2d v) (FP.f2d b9) = some .eq)
def KK36 (x m : Nat) (a1 a2 a3 : Int32) (w w2 : FW) : Prop := ∃ (rx : Int32 ⊕ Nat) (w1 : FW) (b9 : Int32) (t : Int32), F_X4_append x a1 w = some (rx, w1) ∧ F_X5_append m a1 w1 = some (b9, w2) ∧ F_X5_thrown m w2 = some t ∧ (∀ e, rx = .inr e → e ∈ [1, 0]) ∧ t = wK [1, 0] rx ∧ (∀ v, rx = .inl v → v = b9)
def KK37 (x m : Nat) (a1 a2 a3 : Int32) (w w2 : FW) : Prop := ∃ (rx : Int32 ⊕ Nat) (w1 : FW) (b9 : Int32) (t : Int32), F_X4_read x  w = some (rx, w1) ∧ F_X5_read m w1 = some (b9, w2) ∧ F_X5_thrown m w2 = some t ∧ (∀ e, rx = .inr e → e ∈ [1, 4]) ∧ t = wK [1, 4] rx ∧ (∀ v, rx = .inl v → v = b9)
def KK38 (x m : Nat) (a1 a2 a3 : Int32) (w w2 : FW) : Prop := ∃ (rx : Int32 ⊕ Nat) (b9 : Int32) (t : Int32), F_X4_errorPosition x  w = some rx ∧ F_X5_errorPosition m w = some (b9, w2) ∧ F_X5_thrown m w2 = some t ∧ (∀ e, rx = .inr e → e ∈ [5]) ∧ t = wK [5] rx ∧ (∀ v, rx = .inl v → v = b9)
def KK39 (x m : Nat) (a1 a2 a3 : Int32) (w w2 : FW) : Prop := ∃ (rx : Int32 ⊕ Nat) (b9 : Int32) (t : Int32), F_X4_refusedItem x  w = some rx ∧ F_X5_refusedItem m w = some (b9, w2) ∧ F_X5_thrown m w2 = some t ∧ (∀ e, rx = .inr e → e ∈ [5]) ∧ t = wK [5] rx ∧ (∀ v, rx = .inl v → v = b9)
def KK40 (x m : Nat) (a1 a2 a3 : Int32) (w w2 : FW) : Prop := ∃ (rx : Int32 ⊕ Nat) (w1 : FW) (b9 : Int32) (t : Int32), F_X4_undo x  w = some (rx, w1) ∧ F_X5_undo m w1 = some (b9, w2) ∧ F_X5_thrown m w2 = some t ∧ (∀ e, rx = .inr e → e ∈ [0]) ∧ t = wK [0] rx ∧ (∀ v, rx = .inl v → v = b9)
def KK41 (x m : Nat) (a1 a2 a3 : Int32) (w w2 : FW) : Prop := ∃ (rx : Int32) (w1 : FW) (b9 : Int32), F_X4_snapshot x w = some (rx, w1) ∧ F_X5_snapshot m w1 = some (b9, w2) ∧ rx = b9
def KK42 (x m : Nat) (a1 a2 a3 : Int32) (w w2 : FW) : Prop := ∃ (rx : Int32 ⊕ Nat) (w1 : FW) (b9 : Int32) (t : Int32), F_X4_restore x  w = some (rx, w1) ∧ F_X5_restore m w1 = some (b9, w2) ∧ F_X5_thrown m w2 = some t ∧ (∀ e, rx = .inr e → e ∈ [0]) ∧ t = wK [0] rx ∧ (∀ v, rx = .inl v → v = b9)
