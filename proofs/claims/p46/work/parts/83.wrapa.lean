theorem q_72 : Cond.initialized RL ∈ lwA := mA 72 (by decide +kernel) rfl
theorem q_313 : Cond.methodLink RL 205 yL_halfOf ∈ lwA := mA 313 (by decide +kernel) rfl
theorem q_314 : Cond.static yL_halfOf ∈ lwA := mA 314 (by decide +kernel) rfl
theorem q_315 : Cond.codeWith yL_halfOf cL_halfOf 5 (some .int) [(0, 7, 8, 32), (0, 7, 13, 20)] ∈ lwA := mA 315 (by decide +kernel) rfl
theorem q_316 : Cond.classLink RL 32 "java/lang/IndexOutOfBoundsException" ∈ lwA := mA 316 (by decide +kernel) rfl
theorem q_396 : Cond.classLink RL 20 "java/lang/IllegalArgumentException" ∈ lwA := mA 396 (by decide +kernel) rfl
theorem q_397 : Cond.methodLink RL 71 yX4_halfOf ∈ lwA := mA 397 (by decide +kernel) rfl
theorem q_398 : Cond.instanceMethod yX4_halfOf ∈ lwA := mA 398 (by decide +kernel) rfl
theorem q_399 : Cond.selects yX4_halfOf.cls yX4_halfOf yX4_halfOf ∈ lwA := mA 399 (by decide +kernel) rfl
theorem q_400 : Cond.code yX4_halfOf cX4_halfOf 6 (some .int) ∈ lwA := mA 400 (by decide +kernel) rfl
theorem q_411 : Cond.castable "java/lang/IndexOutOfBoundsException" "java/lang/IndexOutOfBoundsException" ∈ lwN := mN 411 (by decide +kernel) rfl
theorem q_499 : Cond.castable "java/lang/IllegalArgumentException" "java/lang/IllegalArgumentException" ∈ lwN := mN 499 (by decide +kernel) rfl
theorem q_513 : Cond.methodLink RL 198 yL_would ∈ lwA := mA 513 (by decide +kernel) rfl
theorem q_514 : Cond.static yL_would ∈ lwA := mA 514 (by decide +kernel) rfl
theorem q_515 : Cond.codeWith yL_would cL_would 5 (some .int) [(0, 7, 8, 32), (0, 7, 13, 20), (0, 7, 18, 53)] ∈ lwA := mA 515 (by decide +kernel) rfl
theorem q_516 : Cond.classLink RL 53 "java/util/NoSuchElementException" ∈ lwA := mA 516 (by decide +kernel) rfl
theorem q_517 : Cond.methodLink RL 85 yX4_would ∈ lwA := mA 517 (by decide +kernel) rfl
theorem q_518 : Cond.instanceMethod yX4_would ∈ lwA := mA 518 (by decide +kernel) rfl
theorem q_519 : Cond.selects yX4_would.cls yX4_would yX4_would ∈ lwA := mA 519 (by decide +kernel) rfl
theorem q_520 : Cond.code yX4_would cX4_would 6 (some .int) ∈ lwA := mA 520 (by decide +kernel) rfl
theorem q_527 : Cond.castable "java/util/NoSuchElementException" "java/util/NoSuchElementException" ∈ lwN := mN 527 (by decide +kernel) rfl
theorem q_551 : Cond.methodLink RL 94 yX4_hinders ∈ lwA := mA 551 (by decide +kernel) rfl
theorem q_552 : Cond.instanceMethod yX4_hinders ∈ lwA := mA 552 (by decide +kernel) rfl
theorem q_553 : Cond.selects yX4_hinders.cls yX4_hinders yX4_hinders ∈ lwA := mA 553 (by decide +kernel) rfl
theorem q_554 : Cond.code yX4_hinders cX4_hinders 3 (some .int) ∈ lwA := mA 554 (by decide +kernel) rfl
theorem q_574 : Cond.classLink RL 123 "java/lang/IllegalStateException" ∈ lwA := mA 574 (by decide +kernel) rfl
theorem q_575 : Cond.methodLink RL 119 yX4_refusal ∈ lwA := mA 575 (by decide +kernel) rfl
theorem q_576 : Cond.instanceMethod yX4_refusal ∈ lwA := mA 576 (by decide +kernel) rfl
theorem q_577 : Cond.selects yX4_refusal.cls yX4_refusal yX4_refusal ∈ lwA := mA 577 (by decide +kernel) rfl
theorem q_578 : Cond.code yX4_refusal cX4_refusal 2 (some .int) ∈ lwA := mA 578 (by decide +kernel) rfl
theorem q_581 : Cond.castable "java/lang/IllegalStateException" "java/lang/IllegalStateException" ∈ lwN := mN 581 (by decide +kernel) rfl
theorem q_595 : Cond.methodLink RL 189 yL_account ∈ lwA := mA 595 (by decide +kernel) rfl
theorem q_596 : Cond.static yL_account ∈ lwA := mA 596 (by decide +kernel) rfl
theorem q_597 : Cond.codeWith yL_account cL_account 3 (some .int) [(0, 5, 6, 20)] ∈ lwA := mA 597 (by decide +kernel) rfl
theorem q_598 : Cond.methodLink RL 125 yX4_account ∈ lwA := mA 598 (by decide +kernel) rfl
theorem q_599 : Cond.instanceMethod yX4_account ∈ lwA := mA 599 (by decide +kernel) rfl
theorem q_600 : Cond.selects yX4_account.cls yX4_account yX4_account ∈ lwA := mA 600 (by decide +kernel) rfl
theorem q_601 : Cond.code yX4_account cX4_account 2 (some .int) ∈ lwA := mA 601 (by decide +kernel) rfl
theorem q_872 : Cond.methodLink RL 141 yX4_append ∈ lwA := mA 872 (by decide +kernel) rfl
theorem q_873 : Cond.instanceMethod yX4_append ∈ lwA := mA 873 (by decide +kernel) rfl
theorem q_874 : Cond.selects yX4_append.cls yX4_append yX4_append ∈ lwA := mA 874 (by decide +kernel) rfl
theorem q_875 : Cond.code yX4_append cX4_append 5 (some .int) ∈ lwA := mA 875 (by decide +kernel) rfl
theorem q_881 : Cond.classLink RL 22 "java/lang/UnsupportedOperationException" ∈ lwA := mA 881 (by decide +kernel) rfl
theorem q_882 : Cond.methodLink RL 144 yX4_read ∈ lwA := mA 882 (by decide +kernel) rfl
theorem q_883 : Cond.instanceMethod yX4_read ∈ lwA := mA 883 (by decide +kernel) rfl
theorem q_884 : Cond.selects yX4_read.cls yX4_read yX4_read ∈ lwA := mA 884 (by decide +kernel) rfl
theorem q_885 : Cond.code yX4_read cX4_read 3 (some .int) ∈ lwA := mA 885 (by decide +kernel) rfl
theorem q_1050 : Cond.castable "java/lang/UnsupportedOperationException" "java/lang/UnsupportedOperationException" ∈ lwN := mN 1050 (by decide +kernel) rfl
theorem q_1071 : Cond.methodLink RL 14 yX4_letter ∈ lwA := mA 1071 (by decide +kernel) rfl
theorem q_1072 : Cond.instanceMethod yX4_letter ∈ lwA := mA 1072 (by decide +kernel) rfl
theorem q_1073 : Cond.selects yX4_letter.cls yX4_letter yX4_letter ∈ lwA := mA 1073 (by decide +kernel) rfl
theorem q_1074 : Cond.code yX4_letter cX4_letter 2 (some .int) ∈ lwA := mA 1074 (by decide +kernel) rfl
theorem q_1089 : Cond.methodLink RL 24 yX4_unletter ∈ lwA := mA 1089 (by decide +kernel) rfl
theorem q_1090 : Cond.instanceMethod yX4_unletter ∈ lwA := mA 1090 (by decide +kernel) rfl
theorem q_1091 : Cond.selects yX4_unletter.cls yX4_unletter yX4_unletter ∈ lwA := mA 1091 (by decide +kernel) rfl
theorem q_1092 : Cond.code yX4_unletter cX4_unletter 1 (some .int) ∈ lwA := mA 1092 (by decide +kernel) rfl
theorem q_1100 : Cond.methodLink RL 28 yX4_print ∈ lwA := mA 1100 (by decide +kernel) rfl
theorem q_1101 : Cond.instanceMethod yX4_print ∈ lwA := mA 1101 (by decide +kernel) rfl
theorem q_1102 : Cond.selects yX4_print.cls yX4_print yX4_print ∈ lwA := mA 1102 (by decide +kernel) rfl
theorem q_1103 : Cond.code yX4_print cX4_print 4 (some .int) ∈ lwA := mA 1103 (by decide +kernel) rfl
theorem q_1107 : Cond.methodLink RL 38 yX4_mood ∈ lwA := mA 1107 (by decide +kernel) rfl
theorem q_1108 : Cond.instanceMethod yX4_mood ∈ lwA := mA 1108 (by decide +kernel) rfl
theorem q_1109 : Cond.selects yX4_mood.cls yX4_mood yX4_mood ∈ lwA := mA 1109 (by decide +kernel) rfl
theorem q_1110 : Cond.code yX4_mood cX4_mood 4 (some .int) ∈ lwA := mA 1110 (by decide +kernel) rfl
theorem q_1119 : Cond.methodLink RL 42 yX4_pier ∈ lwA := mA 1119 (by decide +kernel) rfl
theorem q_1120 : Cond.instanceMethod yX4_pier ∈ lwA := mA 1120 (by decide +kernel) rfl
theorem q_1121 : Cond.selects yX4_pier.cls yX4_pier yX4_pier ∈ lwA := mA 1121 (by decide +kernel) rfl
theorem q_1122 : Cond.code yX4_pier cX4_pier 3 (some .int) ∈ lwA := mA 1122 (by decide +kernel) rfl
theorem q_1130 : Cond.methodLink RL 55 yX4_punch ∈ lwA := mA 1130 (by decide +kernel) rfl
theorem q_1131 : Cond.instanceMethod yX4_punch ∈ lwA := mA 1131 (by decide +kernel) rfl
theorem q_1132 : Cond.selects yX4_punch.cls yX4_punch yX4_punch ∈ lwA := mA 1132 (by decide +kernel) rfl
theorem q_1133 : Cond.code yX4_punch cX4_punch 5 (some .int) ∈ lwA := mA 1133 (by decide +kernel) rfl
theorem q_1137 : Cond.methodLink RL 59 yX4_wet ∈ lwA := mA 1137 (by decide +kernel) rfl
theorem q_1138 : Cond.instanceMethod yX4_wet ∈ lwA := mA 1138 (by decide +kernel) rfl
theorem q_1139 : Cond.selects yX4_wet.cls yX4_wet yX4_wet ∈ lwA := mA 1139 (by decide +kernel) rfl
theorem q_1140 : Cond.code yX4_wet cX4_wet 4 (some .int) ∈ lwA := mA 1140 (by decide +kernel) rfl
theorem q_1144 : Cond.methodLink RL 62 yX4_tear ∈ lwA := mA 1144 (by decide +kernel) rfl
theorem q_1145 : Cond.instanceMethod yX4_tear ∈ lwA := mA 1145 (by decide +kernel) rfl
theorem q_1146 : Cond.selects yX4_tear.cls yX4_tear yX4_tear ∈ lwA := mA 1146 (by decide +kernel) rfl
theorem q_1147 : Cond.code yX4_tear cX4_tear 2 (some .int) ∈ lwA := mA 1147 (by decide +kernel) rfl
theorem q_1151 : Cond.methodLink RL 65 yX4_lose ∈ lwA := mA 1151 (by decide +kernel) rfl
theorem q_1152 : Cond.instanceMethod yX4_lose ∈ lwA := mA 1152 (by decide +kernel) rfl
theorem q_1153 : Cond.selects yX4_lose.cls yX4_lose yX4_lose ∈ lwA := mA 1153 (by decide +kernel) rfl
theorem q_1154 : Cond.code yX4_lose cX4_lose 3 (some .int) ∈ lwA := mA 1154 (by decide +kernel) rfl
theorem q_1158 : Cond.methodLink RL 68 yX4_find ∈ lwA := mA 1158 (by decide +kernel) rfl
theorem q_1159 : Cond.instanceMethod yX4_find ∈ lwA := mA 1159 (by decide +kernel) rfl
theorem q_1160 : Cond.selects yX4_find.cls yX4_find yX4_find ∈ lwA := mA 1160 (by decide +kernel) rfl
theorem q_1161 : Cond.code yX4_find cX4_find 3 (some .int) ∈ lwA := mA 1161 (by decide +kernel) rfl
theorem q_1165 : Cond.methodLink RL 34 yX4_throwAway ∈ lwA := mA 1165 (by decide +kernel) rfl
theorem q_1166 : Cond.instanceMethod yX4_throwAway ∈ lwA := mA 1166 (by decide +kernel) rfl
theorem q_1167 : Cond.selects yX4_throwAway.cls yX4_throwAway yX4_throwAway ∈ lwA := mA 1167 (by decide +kernel) rfl
theorem q_1168 : Cond.code yX4_throwAway cX4_throwAway 2 (some .int) ∈ lwA := mA 1168 (by decide +kernel) rfl
theorem q_1172 : Cond.methodLink RL 91 yX4_ride ∈ lwA := mA 1172 (by decide +kernel) rfl
theorem q_1173 : Cond.instanceMethod yX4_ride ∈ lwA := mA 1173 (by decide +kernel) rfl
theorem q_1174 : Cond.selects yX4_ride.cls yX4_ride yX4_ride ∈ lwA := mA 1174 (by decide +kernel) rfl
theorem q_1175 : Cond.code yX4_ride cX4_ride 3 (some .int) ∈ lwA := mA 1175 (by decide +kernel) rfl
theorem q_1185 : Cond.methodLink RL 185 yL_sum ∈ lwA := mA 1185 (by decide +kernel) rfl
theorem q_1186 : Cond.static yL_sum ∈ lwA := mA 1186 (by decide +kernel) rfl
theorem q_1187 : Cond.code yL_sum cL_sum 5 (some .long) ∈ lwA := mA 1187 (by decide +kernel) rfl
theorem q_1188 : Cond.constantLong RL 300 (31 : Int64) ∈ lwA := mA 1188 (by decide +kernel) rfl
theorem q_1189 : Cond.methodLink RL 302 yL_ticketOf ∈ lwA := mA 1189 (by decide +kernel) rfl
theorem q_1190 : Cond.static yL_ticketOf ∈ lwA := mA 1190 (by decide +kernel) rfl
theorem q_1191 : Cond.codeWith yL_ticketOf cL_ticketOf 4 (some .int) [(0, 6, 7, 32), (0, 6, 11, 20)] ∈ lwA := mA 1191 (by decide +kernel) rfl
theorem q_1192 : Cond.methodLink RL 46 yX4_ticketOf ∈ lwA := mA 1192 (by decide +kernel) rfl
theorem q_1193 : Cond.instanceMethod yX4_ticketOf ∈ lwA := mA 1193 (by decide +kernel) rfl
theorem q_1194 : Cond.selects yX4_ticketOf.cls yX4_ticketOf yX4_ticketOf ∈ lwA := mA 1194 (by decide +kernel) rfl
theorem q_1195 : Cond.code yX4_ticketOf cX4_ticketOf 4 (some .int) ∈ lwA := mA 1195 (by decide +kernel) rfl
theorem q_1197 : Cond.constantLong RL 304 (7 : Int64) ∈ lwA := mA 1197 (by decide +kernel) rfl
theorem q_1198 : Cond.methodLink RL 306 yL_wordAt ∈ lwA := mA 1198 (by decide +kernel) rfl
theorem q_1199 : Cond.static yL_wordAt ∈ lwA := mA 1199 (by decide +kernel) rfl
theorem q_1200 : Cond.codeWith yL_wordAt cL_wordAt 4 (some .int) [(0, 6, 7, 32), (0, 6, 11, 53)] ∈ lwA := mA 1200 (by decide +kernel) rfl
theorem q_1201 : Cond.methodLink RL 49 yX4_wordAt ∈ lwA := mA 1201 (by decide +kernel) rfl
theorem q_1202 : Cond.instanceMethod yX4_wordAt ∈ lwA := mA 1202 (by decide +kernel) rfl
theorem q_1203 : Cond.selects yX4_wordAt.cls yX4_wordAt yX4_wordAt ∈ lwA := mA 1203 (by decide +kernel) rfl
theorem q_1204 : Cond.code yX4_wordAt cX4_wordAt 4 (some .char) ∈ lwA := mA 1204 (by decide +kernel) rfl
theorem q_1211 : Cond.methodLink RL 318 yL_isHalf ∈ lwA := mA 1211 (by decide +kernel) rfl
theorem q_1212 : Cond.static yL_isHalf ∈ lwA := mA 1212 (by decide +kernel) rfl
theorem q_1213 : Cond.code yL_isHalf cL_isHalf 17 (some .boolean) ∈ lwA := mA 1213 (by decide +kernel) rfl
theorem q_1214 : Cond.methodLink RL 308 yL_readAt ∈ lwA := mA 1214 (by decide +kernel) rfl
theorem q_1215 : Cond.static yL_readAt ∈ lwA := mA 1215 (by decide +kernel) rfl
theorem q_1216 : Cond.codeWith yL_readAt cL_readAt 5 (some .int) [(0, 7, 8, 32), (0, 7, 13, 53)] ∈ lwA := mA 1216 (by decide +kernel) rfl
theorem q_1217 : Cond.methodLink RL 74 yX4_readAt ∈ lwA := mA 1217 (by decide +kernel) rfl
theorem q_1218 : Cond.instanceMethod yX4_readAt ∈ lwA := mA 1218 (by decide +kernel) rfl
theorem q_1219 : Cond.selects yX4_readAt.cls yX4_readAt yX4_readAt ∈ lwA := mA 1219 (by decide +kernel) rfl
theorem q_1220 : Cond.code yX4_readAt cX4_readAt 6 (some .char) ∈ lwA := mA 1220 (by decide +kernel) rfl
theorem q_1225 : Cond.methodLink RL 310 yL_moodFor ∈ lwA := mA 1225 (by decide +kernel) rfl
theorem q_1226 : Cond.static yL_moodFor ∈ lwA := mA 1226 (by decide +kernel) rfl
theorem q_1227 : Cond.codeWith yL_moodFor cL_moodFor 4 (some .int) [(0, 6, 7, 32), (0, 6, 11, 53)] ∈ lwA := mA 1227 (by decide +kernel) rfl
theorem q_1228 : Cond.methodLink RL 82 yX4_moodFor ∈ lwA := mA 1228 (by decide +kernel) rfl
theorem q_1229 : Cond.instanceMethod yX4_moodFor ∈ lwA := mA 1229 (by decide +kernel) rfl
theorem q_1230 : Cond.selects yX4_moodFor.cls yX4_moodFor yX4_moodFor ∈ lwA := mA 1230 (by decide +kernel) rfl
theorem q_1231 : Cond.code yX4_moodFor cX4_moodFor 6 (some .int) ∈ lwA := mA 1231 (by decide +kernel) rfl
theorem q_1233 : Cond.methodLink RL 312 yL_likely ∈ lwA := mA 1233 (by decide +kernel) rfl
theorem q_1234 : Cond.static yL_likely ∈ lwA := mA 1234 (by decide +kernel) rfl
theorem q_1235 : Cond.codeWith yL_likely cL_likely 4 (some .int) [(0, 6, 7, 32), (0, 6, 11, 53)] ∈ lwA := mA 1235 (by decide +kernel) rfl
theorem q_1236 : Cond.methodLink RL 88 yX4_likely ∈ lwA := mA 1236 (by decide +kernel) rfl
theorem q_1237 : Cond.instanceMethod yX4_likely ∈ lwA := mA 1237 (by decide +kernel) rfl
theorem q_1238 : Cond.selects yX4_likely.cls yX4_likely yX4_likely ∈ lwA := mA 1238 (by decide +kernel) rfl
theorem q_1239 : Cond.code yX4_likely cX4_likely 9 (some .int) ∈ lwA := mA 1239 (by decide +kernel) rfl
theorem q_1246 : Cond.methodLink RL 314 yL_holeLine ∈ lwA := mA 1246 (by decide +kernel) rfl
theorem q_1247 : Cond.static yL_holeLine ∈ lwA := mA 1247 (by decide +kernel) rfl
theorem q_1248 : Cond.codeWith yL_holeLine cL_holeLine 4 (some .int) [(0, 6, 7, 32), (0, 6, 11, 53)] ∈ lwA := mA 1248 (by decide +kernel) rfl
theorem q_1249 : Cond.methodLink RL 112 yX4_holeLine ∈ lwA := mA 1249 (by decide +kernel) rfl
theorem q_1250 : Cond.instanceMethod yX4_holeLine ∈ lwA := mA 1250 (by decide +kernel) rfl
theorem q_1251 : Cond.selects yX4_holeLine.cls yX4_holeLine yX4_holeLine ∈ lwA := mA 1251 (by decide +kernel) rfl
theorem q_1252 : Cond.code yX4_holeLine cX4_holeLine 8 (some .int) ∈ lwA := mA 1252 (by decide +kernel) rfl
theorem q_1261 : Cond.methodLink RL 316 yL_sharing ∈ lwA := mA 1261 (by decide +kernel) rfl
theorem q_1262 : Cond.static yL_sharing ∈ lwA := mA 1262 (by decide +kernel) rfl
theorem q_1263 : Cond.codeWith yL_sharing cL_sharing 3 (some .int) [(0, 5, 6, 32)] ∈ lwA := mA 1263 (by decide +kernel) rfl
theorem q_1264 : Cond.methodLink RL 100 yX4_sharing ∈ lwA := mA 1264 (by decide +kernel) rfl
theorem q_1265 : Cond.instanceMethod yX4_sharing ∈ lwA := mA 1265 (by decide +kernel) rfl
theorem q_1266 : Cond.selects yX4_sharing.cls yX4_sharing yX4_sharing ∈ lwA := mA 1266 (by decide +kernel) rfl
theorem q_1267 : Cond.code yX4_sharing cX4_sharing 5 (some .int) ∈ lwA := mA 1267 (by decide +kernel) rfl
theorem q_1272 : Cond.methodLink RL 322 yJ9_max_7cf53 ∈ lwA := mA 1272 (by decide +kernel) rfl
theorem q_1273 : Cond.methodLink RL 327 yL_doAgree ∈ lwA := mA 1273 (by decide +kernel) rfl
theorem q_1274 : Cond.static yL_doAgree ∈ lwA := mA 1274 (by decide +kernel) rfl
theorem q_1275 : Cond.codeWith yL_doAgree cL_doAgree 4 (some .int) [(0, 14, 15, 32)] ∈ lwA := mA 1275 (by decide +kernel) rfl
theorem q_1276 : Cond.methodLink RL 78 yX4_doAgree ∈ lwA := mA 1276 (by decide +kernel) rfl
theorem q_1277 : Cond.instanceMethod yX4_doAgree ∈ lwA := mA 1277 (by decide +kernel) rfl
theorem q_1278 : Cond.selects yX4_doAgree.cls yX4_doAgree yX4_doAgree ∈ lwA := mA 1278 (by decide +kernel) rfl
theorem q_1279 : Cond.code yX4_doAgree cX4_doAgree 4 (some .boolean) ∈ lwA := mA 1279 (by decide +kernel) rfl
theorem q_1293 : Cond.methodLink RL 329 yL_daysLeft ∈ lwA := mA 1293 (by decide +kernel) rfl
theorem q_1294 : Cond.static yL_daysLeft ∈ lwA := mA 1294 (by decide +kernel) rfl
theorem q_1295 : Cond.codeWith yL_daysLeft cL_daysLeft 3 (some .int) [(0, 5, 6, 32), (0, 5, 10, 53)] ∈ lwA := mA 1295 (by decide +kernel) rfl
theorem q_1296 : Cond.methodLink RL 97 yX4_daysLeft ∈ lwA := mA 1296 (by decide +kernel) rfl
theorem q_1297 : Cond.instanceMethod yX4_daysLeft ∈ lwA := mA 1297 (by decide +kernel) rfl
theorem q_1298 : Cond.selects yX4_daysLeft.cls yX4_daysLeft yX4_daysLeft ∈ lwA := mA 1298 (by decide +kernel) rfl
theorem q_1299 : Cond.code yX4_daysLeft cX4_daysLeft 3 (some .int) ∈ lwA := mA 1299 (by decide +kernel) rfl
theorem q_1302 : Cond.methodLink RL 331 yL_line ∈ lwA := mA 1302 (by decide +kernel) rfl
theorem q_1303 : Cond.static yL_line ∈ lwA := mA 1303 (by decide +kernel) rfl
theorem q_1304 : Cond.codeWith yL_line cL_line 3 (some .int) [(0, 5, 6, 32)] ∈ lwA := mA 1304 (by decide +kernel) rfl
theorem q_1305 : Cond.methodLink RL 109 yX4_line ∈ lwA := mA 1305 (by decide +kernel) rfl
theorem q_1306 : Cond.instanceMethod yX4_line ∈ lwA := mA 1306 (by decide +kernel) rfl
theorem q_1307 : Cond.selects yX4_line.cls yX4_line yX4_line ∈ lwA := mA 1307 (by decide +kernel) rfl
theorem q_1308 : Cond.code yX4_line cX4_line 3 (some .int) ∈ lwA := mA 1308 (by decide +kernel) rfl
theorem q_1313 : Cond.methodLink RL 333 yL_ranked ∈ lwA := mA 1313 (by decide +kernel) rfl
theorem q_1314 : Cond.static yL_ranked ∈ lwA := mA 1314 (by decide +kernel) rfl
theorem q_1315 : Cond.codeWith yL_ranked cL_ranked 4 (some .int) [(0, 6, 7, 20), (0, 6, 11, 53)] ∈ lwA := mA 1315 (by decide +kernel) rfl
theorem q_1316 : Cond.methodLink RL 106 yX4_ranked ∈ lwA := mA 1316 (by decide +kernel) rfl
theorem q_1317 : Cond.instanceMethod yX4_ranked ∈ lwA := mA 1317 (by decide +kernel) rfl
theorem q_1318 : Cond.selects yX4_ranked.cls yX4_ranked yX4_ranked ∈ lwA := mA 1318 (by decide +kernel) rfl
theorem q_1319 : Cond.code yX4_ranked cX4_ranked 4 (some .int) ∈ lwA := mA 1319 (by decide +kernel) rfl
theorem q_1335 : Cond.methodLink RL 335 yL_measure ∈ lwA := mA 1335 (by decide +kernel) rfl
theorem q_1336 : Cond.static yL_measure ∈ lwA := mA 1336 (by decide +kernel) rfl
theorem q_1337 : Cond.code yL_measure cL_measure 4 (some .int) ∈ lwA := mA 1337 (by decide +kernel) rfl
theorem q_1338 : Cond.methodLink RL 338 yL_often ∈ lwA := mA 1338 (by decide +kernel) rfl
theorem q_1339 : Cond.static yL_often ∈ lwA := mA 1339 (by decide +kernel) rfl
theorem q_1340 : Cond.codeWith yL_often cL_often 3 (some .int) [(0, 5, 6, 20)] ∈ lwA := mA 1340 (by decide +kernel) rfl
theorem q_1341 : Cond.methodLink RL 103 yX4_often ∈ lwA := mA 1341 (by decide +kernel) rfl
theorem q_1342 : Cond.instanceMethod yX4_often ∈ lwA := mA 1342 (by decide +kernel) rfl
theorem q_1343 : Cond.selects yX4_often.cls yX4_often yX4_often ∈ lwA := mA 1343 (by decide +kernel) rfl
theorem q_1344 : Cond.code yX4_often cX4_often 4 (some .int) ∈ lwA := mA 1344 (by decide +kernel) rfl
theorem q_1350 : Cond.methodLink RL 340 yX4_words ∈ lwA := mA 1350 (by decide +kernel) rfl
theorem q_1351 : Cond.instanceMethod yX4_words ∈ lwA := mA 1351 (by decide +kernel) rfl
theorem q_1352 : Cond.selects yX4_words.cls yX4_words yX4_words ∈ lwA := mA 1352 (by decide +kernel) rfl
theorem q_1353 : Cond.code yX4_words cX4_words 3 (some .int) ∈ lwA := mA 1353 (by decide +kernel) rfl
theorem q_1359 : Cond.constantDouble RL 134 (13858279740860792832 : UInt64) ∈ lwA := mA 1359 (by decide +kernel) rfl
theorem q_1360 : Cond.constantFloat RL 140 (3264479232 : UInt32) ∈ lwA := mA 1360 (by decide +kernel) rfl
theorem q_1361 : Cond.methodLink RL 343 yL_meanWet ∈ lwA := mA 1361 (by decide +kernel) rfl
theorem q_1362 : Cond.static yL_meanWet ∈ lwA := mA 1362 (by decide +kernel) rfl
theorem q_1363 : Cond.codeWith yL_meanWet cL_meanWet 2 (some .double) [(0, 4, 5, 132)] ∈ lwA := mA 1363 (by decide +kernel) rfl
theorem q_1364 : Cond.classLink RL 132 "java/lang/ArithmeticException" ∈ lwA := mA 1364 (by decide +kernel) rfl
theorem q_1376 : Cond.castable "java/lang/ArithmeticException" "java/lang/ArithmeticException" ∈ lwN := mN 1376 (by decide +kernel) rfl
theorem q_1378 : Cond.methodLink RL 128 yX4_meanWet ∈ lwA := mA 1378 (by decide +kernel) rfl
theorem q_1379 : Cond.instanceMethod yX4_meanWet ∈ lwA := mA 1379 (by decide +kernel) rfl
theorem q_1380 : Cond.selects yX4_meanWet.cls yX4_meanWet yX4_meanWet ∈ lwA := mA 1380 (by decide +kernel) rfl
theorem q_1381 : Cond.code yX4_meanWet cX4_meanWet 4 (some .double) ∈ lwA := mA 1381 (by decide +kernel) rfl
theorem q_1386 : Cond.methodLink RL 346 yL_readShare ∈ lwA := mA 1386 (by decide +kernel) rfl
theorem q_1387 : Cond.static yL_readShare ∈ lwA := mA 1387 (by decide +kernel) rfl
theorem q_1388 : Cond.codeWith yL_readShare cL_readShare 2 (some .float) [(0, 4, 5, 132)] ∈ lwA := mA 1388 (by decide +kernel) rfl
theorem q_1389 : Cond.methodLink RL 136 yX4_readShare ∈ lwA := mA 1389 (by decide +kernel) rfl
theorem q_1390 : Cond.instanceMethod yX4_readShare ∈ lwA := mA 1390 (by decide +kernel) rfl
theorem q_1391 : Cond.selects yX4_readShare.cls yX4_readShare yX4_readShare ∈ lwA := mA 1391 (by decide +kernel) rfl
theorem q_1392 : Cond.code yX4_readShare cX4_readShare 2 (some .float) ∈ lwA := mA 1392 (by decide +kernel) rfl
theorem q_1403 : Cond.methodLink RL 349 yX4_isRight ∈ lwA := mA 1403 (by decide +kernel) rfl
theorem q_1404 : Cond.instanceMethod yX4_isRight ∈ lwA := mA 1404 (by decide +kernel) rfl
theorem q_1405 : Cond.selects yX4_isRight.cls yX4_isRight yX4_isRight ∈ lwA := mA 1405 (by decide +kernel) rfl
theorem q_1406 : Cond.code yX4_isRight cX4_isRight 3 (some .boolean) ∈ lwA := mA 1406 (by decide +kernel) rfl
theorem q_1415 : Cond.methodLink RL 353 yX4_snapshot ∈ lwA := mA 1415 (by decide +kernel) rfl
theorem q_1416 : Cond.instanceMethod yX4_snapshot ∈ lwA := mA 1416 (by decide +kernel) rfl
theorem q_1417 : Cond.selects yX4_snapshot.cls yX4_snapshot yX4_snapshot ∈ lwA := mA 1417 (by decide +kernel) rfl
theorem q_1418 : Cond.code yX4_snapshot cX4_snapshot 1 (some .int) ∈ lwA := mA 1418 (by decide +kernel) rfl
theorem q_1419 : Cond.methodLink RL 356 yJ9_min_7cf53 ∈ lwA := mA 1419 (by decide +kernel) rfl
theorem q_1420 : Cond.methodLink RL 359 yL_undo ∈ lwA := mA 1420 (by decide +kernel) rfl
theorem q_1421 : Cond.static yL_undo ∈ lwA := mA 1421 (by decide +kernel) rfl
theorem q_1422 : Cond.codeWith yL_undo cL_undo 2 (some .int) [(0, 4, 5, 123)] ∈ lwA := mA 1422 (by decide +kernel) rfl
theorem q_1423 : Cond.methodLink RL 153 yX4_undo ∈ lwA := mA 1423 (by decide +kernel) rfl
theorem q_1424 : Cond.instanceMethod yX4_undo ∈ lwA := mA 1424 (by decide +kernel) rfl
theorem q_1425 : Cond.selects yX4_undo.cls yX4_undo yX4_undo ∈ lwA := mA 1425 (by decide +kernel) rfl
theorem q_1426 : Cond.code yX4_undo cX4_undo 1 (some .int) ∈ lwA := mA 1426 (by decide +kernel) rfl
theorem q_1428 : Cond.methodLink RL 361 yL_restore ∈ lwA := mA 1428 (by decide +kernel) rfl
theorem q_1429 : Cond.static yL_restore ∈ lwA := mA 1429 (by decide +kernel) rfl
theorem q_1430 : Cond.codeWith yL_restore cL_restore 2 (some .int) [(0, 4, 5, 123)] ∈ lwA := mA 1430 (by decide +kernel) rfl
theorem q_1431 : Cond.methodLink RL 156 yX4_restore ∈ lwA := mA 1431 (by decide +kernel) rfl
theorem q_1432 : Cond.instanceMethod yX4_restore ∈ lwA := mA 1432 (by decide +kernel) rfl
theorem q_1433 : Cond.selects yX4_restore.cls yX4_restore yX4_restore ∈ lwA := mA 1433 (by decide +kernel) rfl
theorem q_1434 : Cond.code yX4_restore cX4_restore 1 (some .int) ∈ lwA := mA 1434 (by decide +kernel) rfl
theorem dL_letter_0 : decode cL_letter 0 = .ok (.aload_n 0, 1) := by decide +kernel
theorem dL_letter_1 : decode cL_letter 1 = .ok (.iload_n 1, 1) := by decide +kernel
theorem dL_letter_2 : decode cL_letter 2 = .ok (.invokevirtual 14, 3) := by decide +kernel
theorem dL_letter_5 : decode cL_letter 5 = .ok (.ireturn, 1) := by decide +kernel
theorem dL_letter_6 : decode cL_letter 6 = .ok (.astore_n 2, 1) := by decide +kernel
theorem dL_letter_7 : decode cL_letter 7 = .ok (.bipush (-78), 2) := by decide +kernel
theorem dL_letter_9 : decode cL_letter 9 = .ok (.ireturn, 1) := by decide +kernel
theorem dL_letter_10 : decode cL_letter 10 = .ok (.astore_n 2, 1) := by decide +kernel
theorem dL_letter_11 : decode cL_letter 11 = .ok (.bipush (-76), 2) := by decide +kernel
theorem dL_letter_13 : decode cL_letter 13 = .ok (.ireturn, 1) := by decide +kernel
theorem h9_L_letter : yL_letter.cls ≠ "java/lang/invoke/MethodHandle" ∧ yL_letter.cls ≠ "java/lang/invoke/VarHandle" ∧ (parseMethodDescriptor yL_letter.desc).map (fun d => d.parameters.length) = some 2 := by decide +kernel
noncomputable def F_L_letter (a0 : Nat) (x1 : Int32) (w : FW) : Option (Int32 × FW) :=
  fg (w.1 a0 = 5) inferInstance ((F_X4_letter a0 x1 w).bind (fun r1 => fse r1.1 (fun v => some (v, r1.2)) (fun q => (if q = 1 then some (((-78) : Int32), r1.2) else (if q = 4 then some (((-76) : Int32), r1.2) else none)))))
set_option maxHeartbeats 4000000 in
set_option maxRecDepth 100000 in
theorem c_L_letter (l : Launch) (D : va_G) (cy : Nat → ClassId) (a0 : Nat) (x1 : Int32) (w : FW) (r : Int32 × FW) (hF : F_L_letter a0 x1 w = some r) : lSpec l D cy yL_letter (.codeWith yL_letter cL_letter 3 (some .int) [(0, 5, 6, 20), (0, 5, 10, 22)]) { frames := 8, cells := 1, slots := 6, locals := 142 } [.ref a0, .int x1] gE0 none w r.2 (some (.int r.1)) := by
  refine l_beginW (by decide +kernel) (Nat.le_of_ble_eq_true rfl) (fun X h hC hEn hL hT => ?_)
  have hst := lOK_st hC hL
  unfold F_L_letter at hF
  obtain ⟨hk0, hF⟩ := fg_open hF
  obtain ⟨o9, h1, hF⟩ := fb_open hF
  show gAt X 0 0 3 w h gE0 [(0, .ref a0), (1, .int x1)] [] 0
  refine g_aload_n hC dL_letter_0 rfl 0 rfl ?_
  refine g_iload_n hC dL_letter_1 rfl 1 rfl ?_
  obtain ⟨o9, w1⟩ := o9
  rcases o9 with v | q
  · obtain rfl := Option.some.inj hF
    refine g_callVR hC hst [.int x1] (rv := some (.int v)) (c_X4_letter l D cy a0 x1 w _ h1) q_1074 q_73 q_1071 q_1072 q_1073 h9_X4_letter (T := TX4) (N := 15) (ci := 4) rfl hk0 ⟨Nat.le_of_ble_eq_true rfl, Nat.le_of_ble_eq_true rfl⟩ ⟨Nat.le_of_ble_eq_true rfl, Nat.le_of_ble_eq_true rfl⟩ (Nat.le_of_ble_eq_true rfl) rfl dL_letter_2 (fun h2 _ hs => ?_)
    show gAt X 1 6 3 w1 h2 gE0 [(0, .ref a0), (1, .int x1)] [.int v] 5
    exact g_iret hC hEn hs dL_letter_5
  · replace hF : (if q = 1 then some (((-78) : Int32), w1) else (if q = 4 then some (((-76) : Int32), w1) else none)) = some r := hF
    by_cases e9 : q = 1
    · replace hF := fi_pos hF e9
      subst e9
      obtain rfl := Option.some.inj hF
      refine g_callVT hC hst [.int x1] (ex := 1) (c_X4_letter l D cy a0 x1 w _ h1) q_1074 q_73 q_1071 q_1072 q_1073 h9_X4_letter (T := TX4) (N := 15) (ci := 4) rfl hk0 ⟨Nat.le_of_ble_eq_true rfl, Nat.le_of_ble_eq_true rfl⟩ ⟨Nat.le_of_ble_eq_true rfl, Nat.le_of_ble_eq_true rfl⟩ (Nat.le_of_ble_eq_true rfl) rfl dL_letter_2 (fun h2 _ hs => ?_)
      show gXt X 1 6 3 w1 h2 gE0 [(0, .ref a0), (1, .int x1)] 1 2
      refine g_catchL hC hL hT [] ⟨0, 5, 6, 20⟩ [⟨0, 5, 10, 22⟩] rfl (fun z hz => absurd hz List.not_mem_nil) (by decide) (by decide) q_396 q_499 (fun q9 => ?_)
      refine g_astore_n (L' := [(2, .ref q9), (0, .ref a0), (1, .int x1)]) hC dL_letter_6 rfl (by decide) rfl ?_
      refine g_bipush (v := (-78)) hC dL_letter_7 (by decide) ?_
      exact g_iret hC hEn hs dL_letter_9
    replace hF := fi_neg hF e9
    by_cases e9 : q = 4
    · replace hF := fi_pos hF e9
      subst e9
      obtain rfl := Option.some.inj hF
      refine g_callVT hC hst [.int x1] (ex := 4) (c_X4_letter l D cy a0 x1 w _ h1) q_1074 q_73 q_1071 q_1072 q_1073 h9_X4_letter (T := TX4) (N := 15) (ci := 4) rfl hk0 ⟨Nat.le_of_ble_eq_true rfl, Nat.le_of_ble_eq_true rfl⟩ ⟨Nat.le_of_ble_eq_true rfl, Nat.le_of_ble_eq_true rfl⟩ (Nat.le_of_ble_eq_true rfl) rfl dL_letter_2 (fun h2 _ hs => ?_)
      show gXt X 1 6 3 w1 h2 gE0 [(0, .ref a0), (1, .int x1)] 4 2
      have hpass : ∀ z ∈ ([⟨0, 5, 6, 20⟩] : List ExceptionTableEntry), z.catchType ≠ 0 ∧ ∃ nm : String, Cond.classLink RL z.catchType nm ∈ lwA ∧ (exN 4, nm) ∈ ncL := by
        intro z hz
        simp only [List.mem_cons, List.not_mem_nil, or_false] at hz
        subst hz
        exact ⟨by decide, _, q_396, by decide +kernel⟩
      refine g_catchL hC hL hT [⟨0, 5, 6, 20⟩] ⟨0, 5, 10, 22⟩ [] rfl hpass (by decide) (by decide) q_881 q_1050 (fun q9 => ?_)
      refine g_astore_n (L' := [(2, .ref q9), (0, .ref a0), (1, .int x1)]) hC dL_letter_10 rfl (by decide) rfl ?_
      refine g_bipush (v := (-76)) hC dL_letter_11 (by decide) ?_
      exact g_iret hC hEn hs dL_letter_13
    replace hF := fi_neg hF e9
    cases hF
theorem dL_unletter_0 : decode cL_unletter 0 = .ok (.aload_n 0, 1) := by decide +kernel
theorem dL_unletter_1 : decode cL_unletter 1 = .ok (.invokevirtual 24, 3) := by decide +kernel
theorem dL_unletter_4 : decode cL_unletter 4 = .ok (.ireturn, 1) := by decide +kernel
theorem dL_unletter_5 : decode cL_unletter 5 = .ok (.astore_n 1, 1) := by decide +kernel
theorem dL_unletter_6 : decode cL_unletter 6 = .ok (.bipush (-76), 2) := by decide +kernel
theorem dL_unletter_8 : decode cL_unletter 8 = .ok (.ireturn, 1) := by decide +kernel
theorem h9_L_unletter : yL_unletter.cls ≠ "java/lang/invoke/MethodHandle" ∧ yL_unletter.cls ≠ "java/lang/invoke/VarHandle" ∧ (parseMethodDescriptor yL_unletter.desc).map (fun d => d.parameters.length) = some 1 := by decide +kernel
noncomputable def F_L_unletter (a0 : Nat) (w : FW) : Option (Int32 × FW) :=
  fg (w.1 a0 = 5) inferInstance ((F_X4_unletter a0 w).bind (fun r1 => fse r1.1 (fun v => some (v, r1.2)) (fun q => (if q = 4 then some (((-76) : Int32), r1.2) else none))))
set_option maxHeartbeats 4000000 in
set_option maxRecDepth 100000 in
theorem c_L_unletter (l : Launch) (D : va_G) (cy : Nat → ClassId) (a0 : Nat) (w : FW) (r : Int32 × FW) (hF : F_L_unletter a0 w = some r) : lSpec l D cy yL_unletter (.codeWith yL_unletter cL_unletter 2 (some .int) [(0, 4, 5, 22)]) { frames := 8, cells := 1, slots := 6, locals := 141 } [.ref a0] gE0 none w r.2 (some (.int r.1)) := by
  refine l_beginW (by decide +kernel) (Nat.le_of_ble_eq_true rfl) (fun X h hC hEn hL hT => ?_)
  have hst := lOK_st hC hL
  unfold F_L_unletter at hF
  obtain ⟨hk0, hF⟩ := fg_open hF
  obtain ⟨o9, h1, hF⟩ := fb_open hF
  show gAt X 0 0 2 w h gE0 [(0, .ref a0)] [] 0
  refine g_aload_n hC dL_unletter_0 rfl 0 rfl ?_
  obtain ⟨o9, w1⟩ := o9
  rcases o9 with v | q
  · obtain rfl := Option.some.inj hF
    refine g_callVR hC hst [] (rv := some (.int v)) (c_X4_unletter l D cy a0 w _ h1) q_1092 q_73 q_1089 q_1090 q_1091 h9_X4_unletter (T := TX4) (N := 15) (ci := 4) rfl hk0 ⟨Nat.le_of_ble_eq_true rfl, Nat.le_of_ble_eq_true rfl⟩ ⟨Nat.le_of_ble_eq_true rfl, Nat.le_of_ble_eq_true rfl⟩ (Nat.le_of_ble_eq_true rfl) rfl dL_unletter_1 (fun h2 _ hs => ?_)
    show gAt X 1 6 2 w1 h2 gE0 [(0, .ref a0)] [.int v] 4
    exact g_iret hC hEn hs dL_unletter_4
  · replace hF : (if q = 4 then some (((-76) : Int32), w1) else none) = some r := hF
    by_cases e9 : q = 4
    · replace hF := fi_pos hF e9
      subst e9
      obtain rfl := Option.some.inj hF
      refine g_callVT hC hst [] (ex := 4) (c_X4_unletter l D cy a0 w _ h1) q_1092 q_73 q_1089 q_1090 q_1091 h9_X4_unletter (T := TX4) (N := 15) (ci := 4) rfl hk0 ⟨Nat.le_of_ble_eq_true rfl, Nat.le_of_ble_eq_true rfl⟩ ⟨Nat.le_of_ble_eq_true rfl, Nat.le_of_ble_eq_true rfl⟩ (Nat.le_of_ble_eq_true rfl) rfl dL_unletter_1 (fun h2 _ hs => ?_)
      show gXt X 1 6 2 w1 h2 gE0 [(0, .ref a0)] 4 1
      refine g_catchL hC hL hT [] ⟨0, 4, 5, 22⟩ [] rfl (fun z hz => absurd hz List.not_mem_nil) (by decide) (by decide) q_881 q_1050 (fun q9 => ?_)
      refine g_astore_n (L' := [(1, .ref q9), (0, .ref a0)]) hC dL_unletter_5 rfl (by decide) rfl ?_
      refine g_bipush (v := (-76)) hC dL_unletter_6 (by decide) ?_
      exact g_iret hC hEn hs dL_unletter_8
    replace hF := fi_neg hF e9
    cases hF
theorem dL_print_0 : decode cL_print 0 = .ok (.aload_n 0, 1) := by decide +kernel
theorem dL_print_1 : decode cL_print 1 = .ok (.iload_n 1, 1) := by decide +kernel
theorem dL_print_2 : decode cL_print 2 = .ok (.iload_n 2, 1) := by decide +kernel
theorem dL_print_3 : decode cL_print 3 = .ok (.iload_n 3, 1) := by decide +kernel
theorem dL_print_4 : decode cL_print 4 = .ok (.invokevirtual 28, 3) := by decide +kernel
theorem dL_print_7 : decode cL_print 7 = .ok (.ireturn, 1) := by decide +kernel
theorem dL_print_8 : decode cL_print 8 = .ok (.astore 4, 2) := by decide +kernel
theorem dL_print_10 : decode cL_print 10 = .ok (.bipush (-77), 2) := by decide +kernel
theorem dL_print_12 : decode cL_print 12 = .ok (.ireturn, 1) := by decide +kernel
theorem dL_print_13 : decode cL_print 13 = .ok (.astore 4, 2) := by decide +kernel
theorem dL_print_15 : decode cL_print 15 = .ok (.bipush (-78), 2) := by decide +kernel
theorem dL_print_17 : decode cL_print 17 = .ok (.ireturn, 1) := by decide +kernel
theorem dL_print_18 : decode cL_print 18 = .ok (.astore 4, 2) := by decide +kernel
theorem dL_print_20 : decode cL_print 20 = .ok (.bipush (-76), 2) := by decide +kernel
theorem dL_print_22 : decode cL_print 22 = .ok (.ireturn, 1) := by decide +kernel
theorem h9_L_print : yL_print.cls ≠ "java/lang/invoke/MethodHandle" ∧ yL_print.cls ≠ "java/lang/invoke/VarHandle" ∧ (parseMethodDescriptor yL_print.desc).map (fun d => d.parameters.length) = some 4 := by decide +kernel
noncomputable def F_L_print (a0 : Nat) (x1 : Int32) (x2 : Int32) (x3 : Int32) (w : FW) : Option (Int32 × FW) :=
  fg (w.1 a0 = 5) inferInstance ((F_X4_print a0 x1 x2 x3 w).bind (fun r1 => fse r1.1 (fun v => some (v, r1.2)) (fun q => (if q = 2 then some (((-77) : Int32), r1.2) else (if q = 1 then some (((-78) : Int32), r1.2) else (if q = 4 then some (((-76) : Int32), r1.2) else none))))))
set_option maxHeartbeats 4000000 in
set_option maxRecDepth 100000 in
theorem c_L_print (l : Launch) (D : va_G) (cy : Nat → ClassId) (a0 : Nat) (x1 : Int32) (x2 : Int32) (x3 : Int32) (w : FW) (r : Int32 × FW) (hF : F_L_print a0 x1 x2 x3 w = some r) : lSpec l D cy yL_print (.codeWith yL_print cL_print 5 (some .int) [(0, 7, 8, 32), (0, 7, 13, 20), (0, 7, 18, 22)]) { frames := 8, cells := 1, slots := 6, locals := 144 } [.ref a0, .int x1, .int x2, .int x3] gE0 none w r.2 (some (.int r.1)) := by
  refine l_beginW (by decide +kernel) (Nat.le_of_ble_eq_true rfl) (fun X h hC hEn hL hT => ?_)
  have hst := lOK_st hC hL
  unfold F_L_print at hF
  obtain ⟨hk0, hF⟩ := fg_open hF
  obtain ⟨o9, h1, hF⟩ := fb_open hF
  show gAt X 0 0 5 w h gE0 [(0, .ref a0), (1, .int x1), (2, .int x2), (3, .int x3)] [] 0
  refine g_aload_n hC dL_print_0 rfl 0 rfl ?_
  refine g_iload_n hC dL_print_1 rfl 1 rfl ?_
  refine g_iload_n hC dL_print_2 rfl 2 rfl ?_
  refine g_iload_n hC dL_print_3 rfl 3 rfl ?_
  obtain ⟨o9, w1⟩ := o9
  rcases o9 with v | q
  · obtain rfl := Option.some.inj hF
    refine g_callVR hC hst [.int x1, .int x2, .int x3] (rv := some (.int v)) (c_X4_print l D cy a0 x1 x2 x3 w _ h1) q_1103 q_73 q_1100 q_1101 q_1102 h9_X4_print (T := TX4) (N := 15) (ci := 4) rfl hk0 ⟨Nat.le_of_ble_eq_true rfl, Nat.le_of_ble_eq_true rfl⟩ ⟨Nat.le_of_ble_eq_true rfl, Nat.le_of_ble_eq_true rfl⟩ (Nat.le_of_ble_eq_true rfl) rfl dL_print_4 (fun h2 _ hs => ?_)
    show gAt X 1 6 5 w1 h2 gE0 [(0, .ref a0), (1, .int x1), (2, .int x2), (3, .int x3)] [.int v] 7
    exact g_iret hC hEn hs dL_print_7
  · replace hF : (if q = 2 then some (((-77) : Int32), w1) else (if q = 1 then some (((-78) : Int32), w1) else (if q = 4 then some (((-76) : Int32), w1) else none))) = some r := hF
    by_cases e9 : q = 2
    · replace hF := fi_pos hF e9
      subst e9
      obtain rfl := Option.some.inj hF
      refine g_callVT hC hst [.int x1, .int x2, .int x3] (ex := 2) (c_X4_print l D cy a0 x1 x2 x3 w _ h1) q_1103 q_73 q_1100 q_1101 q_1102 h9_X4_print (T := TX4) (N := 15) (ci := 4) rfl hk0 ⟨Nat.le_of_ble_eq_true rfl, Nat.le_of_ble_eq_true rfl⟩ ⟨Nat.le_of_ble_eq_true rfl, Nat.le_of_ble_eq_true rfl⟩ (Nat.le_of_ble_eq_true rfl) rfl dL_print_4 (fun h2 _ hs => ?_)
      show gXt X 1 6 5 w1 h2 gE0 [(0, .ref a0), (1, .int x1), (2, .int x2), (3, .int x3)] 2 4
      refine g_catchL hC hL hT [] ⟨0, 7, 8, 32⟩ [⟨0, 7, 13, 20⟩, ⟨0, 7, 18, 22⟩] rfl (fun z hz => absurd hz List.not_mem_nil) (by decide) (by decide) q_316 q_411 (fun q9 => ?_)
      refine g_astore (L' := [(4, .ref q9), (0, .ref a0), (1, .int x1), (2, .int x2), (3, .int x3)]) hC dL_print_8 (by decide) rfl ?_
      refine g_bipush (v := (-77)) hC dL_print_10 (by decide) ?_
      exact g_iret hC hEn hs dL_print_12
    replace hF := fi_neg hF e9
    by_cases e9 : q = 1
    · replace hF := fi_pos hF e9
      subst e9
      obtain rfl := Option.some.inj hF
      refine g_callVT hC hst [.int x1, .int x2, .int x3] (ex := 1) (c_X4_print l D cy a0 x1 x2 x3 w _ h1) q_1103 q_73 q_1100 q_1101 q_1102 h9_X4_print (T := TX4) (N := 15) (ci := 4) rfl hk0 ⟨Nat.le_of_ble_eq_true rfl, Nat.le_of_ble_eq_true rfl⟩ ⟨Nat.le_of_ble_eq_true rfl, Nat.le_of_ble_eq_true rfl⟩ (Nat.le_of_ble_eq_true rfl) rfl dL_print_4 (fun h2 _ hs => ?_)
      show gXt X 1 6 5 w1 h2 gE0 [(0, .ref a0), (1, .int x1), (2, .int x2), (3, .int x3)] 1 4
      have hpass : ∀ z ∈ ([⟨0, 7, 8, 32⟩] : List ExceptionTableEntry), z.catchType ≠ 0 ∧ ∃ nm : String, Cond.classLink RL z.catchType nm ∈ lwA ∧ (exN 1, nm) ∈ ncL := by
        intro z hz
        simp only [List.mem_cons, List.not_mem_nil, or_false] at hz
        subst hz
        exact ⟨by decide, _, q_316, by decide +kernel⟩
      refine g_catchL hC hL hT [⟨0, 7, 8, 32⟩] ⟨0, 7, 13, 20⟩ [⟨0, 7, 18, 22⟩] rfl hpass (by decide) (by decide) q_396 q_499 (fun q9 => ?_)
      refine g_astore (L' := [(4, .ref q9), (0, .ref a0), (1, .int x1), (2, .int x2), (3, .int x3)]) hC dL_print_13 (by decide) rfl ?_
      refine g_bipush (v := (-78)) hC dL_print_15 (by decide) ?_
      exact g_iret hC hEn hs dL_print_17
    replace hF := fi_neg hF e9
    by_cases e9 : q = 4
    · replace hF := fi_pos hF e9
      subst e9
      obtain rfl := Option.some.inj hF
      refine g_callVT hC hst [.int x1, .int x2, .int x3] (ex := 4) (c_X4_print l D cy a0 x1 x2 x3 w _ h1) q_1103 q_73 q_1100 q_1101 q_1102 h9_X4_print (T := TX4) (N := 15) (ci := 4) rfl hk0 ⟨Nat.le_of_ble_eq_true rfl, Nat.le_of_ble_eq_true rfl⟩ ⟨Nat.le_of_ble_eq_true rfl, Nat.le_of_ble_eq_true rfl⟩ (Nat.le_of_ble_eq_true rfl) rfl dL_print_4 (fun h2 _ hs => ?_)
      show gXt X 1 6 5 w1 h2 gE0 [(0, .ref a0), (1, .int x1), (2, .int x2), (3, .int x3)] 4 4
      have hpass : ∀ z ∈ ([⟨0, 7, 8, 32⟩, ⟨0, 7, 13, 20⟩] : List ExceptionTableEntry), z.catchType ≠ 0 ∧ ∃ nm : String, Cond.classLink RL z.catchType nm ∈ lwA ∧ (exN 4, nm) ∈ ncL := by
        intro z hz
        simp only [List.mem_cons, List.not_mem_nil, or_false] at hz
        rcases hz with rfl | rfl
        · exact ⟨by decide, _, q_316, by decide +kernel⟩
        · exact ⟨by decide, _, q_396, by decide +kernel⟩
      refine g_catchL hC hL hT [⟨0, 7, 8, 32⟩, ⟨0, 7, 13, 20⟩] ⟨0, 7, 18, 22⟩ [] rfl hpass (by decide) (by decide) q_881 q_1050 (fun q9 => ?_)
      refine g_astore (L' := [(4, .ref q9), (0, .ref a0), (1, .int x1), (2, .int x2), (3, .int x3)]) hC dL_print_18 (by decide) rfl ?_
      refine g_bipush (v := (-76)) hC dL_print_20 (by decide) ?_
      exact g_iret hC hEn hs dL_print_22
    replace hF := fi_neg hF e9
    cases hF
theorem dL_throwAway_0 : decode cL_throwAway 0 = .ok (.aload_n 0, 1) := by decide +kernel
theorem dL_throwAway_1 : decode cL_throwAway 1 = .ok (.iload_n 1, 1) := by decide +kernel
theorem dL_throwAway_2 : decode cL_throwAway 2 = .ok (.invokevirtual 34, 3) := by decide +kernel
theorem dL_throwAway_5 : decode cL_throwAway 5 = .ok (.ireturn, 1) := by decide +kernel
theorem dL_throwAway_6 : decode cL_throwAway 6 = .ok (.astore_n 2, 1) := by decide +kernel
theorem dL_throwAway_7 : decode cL_throwAway 7 = .ok (.bipush (-77), 2) := by decide +kernel
theorem dL_throwAway_9 : decode cL_throwAway 9 = .ok (.ireturn, 1) := by decide +kernel
theorem h9_L_throwAway : yL_throwAway.cls ≠ "java/lang/invoke/MethodHandle" ∧ yL_throwAway.cls ≠ "java/lang/invoke/VarHandle" ∧ (parseMethodDescriptor yL_throwAway.desc).map (fun d => d.parameters.length) = some 2 := by decide +kernel
noncomputable def F_L_throwAway (a0 : Nat) (x1 : Int32) (w : FW) : Option (Int32 × FW) :=
  fg (w.1 a0 = 5) inferInstance ((F_X4_throwAway a0 x1 w).bind (fun r1 => fse r1.1 (fun v => some (v, r1.2)) (fun q => (if q = 2 then some (((-77) : Int32), r1.2) else none))))
set_option maxHeartbeats 4000000 in
set_option maxRecDepth 100000 in
theorem c_L_throwAway (l : Launch) (D : va_G) (cy : Nat → ClassId) (a0 : Nat) (x1 : Int32) (w : FW) (r : Int32 × FW) (hF : F_L_throwAway a0 x1 w = some r) : lSpec l D cy yL_throwAway (.codeWith yL_throwAway cL_throwAway 3 (some .int) [(0, 5, 6, 32)]) { frames := 8, cells := 1, slots := 6, locals := 142 } [.ref a0, .int x1] gE0 none w r.2 (some (.int r.1)) := by
  refine l_beginW (by decide +kernel) (Nat.le_of_ble_eq_true rfl) (fun X h hC hEn hL hT => ?_)
  have hst := lOK_st hC hL
  unfold F_L_throwAway at hF
  obtain ⟨hk0, hF⟩ := fg_open hF
  obtain ⟨o9, h1, hF⟩ := fb_open hF
  show gAt X 0 0 3 w h gE0 [(0, .ref a0), (1, .int x1)] [] 0
  refine g_aload_n hC dL_throwAway_0 rfl 0 rfl ?_
  refine g_iload_n hC dL_throwAway_1 rfl 1 rfl ?_
  obtain ⟨o9, w1⟩ := o9
  rcases o9 with v | q
  · obtain rfl := Option.some.inj hF
    refine g_callVR hC hst [.int x1] (rv := some (.int v)) (c_X4_throwAway l D cy a0 x1 w _ h1) q_1168 q_73 q_1165 q_1166 q_1167 h9_X4_throwAway (T := TX4) (N := 15) (ci := 4) rfl hk0 ⟨Nat.le_of_ble_eq_true rfl, Nat.le_of_ble_eq_true rfl⟩ ⟨Nat.le_of_ble_eq_true rfl, Nat.le_of_ble_eq_true rfl⟩ (Nat.le_of_ble_eq_true rfl) rfl dL_throwAway_2 (fun h2 _ hs => ?_)
    show gAt X 1 6 3 w1 h2 gE0 [(0, .ref a0), (1, .int x1)] [.int v] 5
    exact g_iret hC hEn hs dL_throwAway_5
  · replace hF : (if q = 2 then some (((-77) : Int32), w1) else none) = some r := hF
    by_cases e9 : q = 2
    · replace hF := fi_pos hF e9
      subst e9
      obtain rfl := Option.some.inj hF
      refine g_callVT hC hst [.int x1] (ex := 2) (c_X4_throwAway l D cy a0 x1 w _ h1) q_1168 q_73 q_1165 q_1166 q_1167 h9_X4_throwAway (T := TX4) (N := 15) (ci := 4) rfl hk0 ⟨Nat.le_of_ble_eq_true rfl, Nat.le_of_ble_eq_true rfl⟩ ⟨Nat.le_of_ble_eq_true rfl, Nat.le_of_ble_eq_true rfl⟩ (Nat.le_of_ble_eq_true rfl) rfl dL_throwAway_2 (fun h2 _ hs => ?_)
      show gXt X 1 6 3 w1 h2 gE0 [(0, .ref a0), (1, .int x1)] 2 2
      refine g_catchL hC hL hT [] ⟨0, 5, 6, 32⟩ [] rfl (fun z hz => absurd hz List.not_mem_nil) (by decide) (by decide) q_316 q_411 (fun q9 => ?_)
      refine g_astore_n (L' := [(2, .ref q9), (0, .ref a0), (1, .int x1)]) hC dL_throwAway_6 rfl (by decide) rfl ?_
      refine g_bipush (v := (-77)) hC dL_throwAway_7 (by decide) ?_
      exact g_iret hC hEn hs dL_throwAway_9
    replace hF := fi_neg hF e9
    cases hF
theorem dL_mood_0 : decode cL_mood 0 = .ok (.aload_n 0, 1) := by decide +kernel
theorem dL_mood_1 : decode cL_mood 1 = .ok (.iload_n 1, 1) := by decide +kernel
theorem dL_mood_2 : decode cL_mood 2 = .ok (.iload_n 2, 1) := by decide +kernel
theorem dL_mood_3 : decode cL_mood 3 = .ok (.invokevirtual 38, 3) := by decide +kernel
theorem dL_mood_6 : decode cL_mood 6 = .ok (.ireturn, 1) := by decide +kernel
theorem dL_mood_7 : decode cL_mood 7 = .ok (.astore_n 3, 1) := by decide +kernel
theorem dL_mood_8 : decode cL_mood 8 = .ok (.bipush (-77), 2) := by decide +kernel
theorem dL_mood_10 : decode cL_mood 10 = .ok (.ireturn, 1) := by decide +kernel
theorem dL_mood_11 : decode cL_mood 11 = .ok (.astore_n 3, 1) := by decide +kernel
theorem dL_mood_12 : decode cL_mood 12 = .ok (.bipush (-78), 2) := by decide +kernel
theorem dL_mood_14 : decode cL_mood 14 = .ok (.ireturn, 1) := by decide +kernel
theorem dL_mood_15 : decode cL_mood 15 = .ok (.astore_n 3, 1) := by decide +kernel
theorem dL_mood_16 : decode cL_mood 16 = .ok (.bipush (-76), 2) := by decide +kernel
theorem dL_mood_18 : decode cL_mood 18 = .ok (.ireturn, 1) := by decide +kernel
theorem h9_L_mood : yL_mood.cls ≠ "java/lang/invoke/MethodHandle" ∧ yL_mood.cls ≠ "java/lang/invoke/VarHandle" ∧ (parseMethodDescriptor yL_mood.desc).map (fun d => d.parameters.length) = some 3 := by decide +kernel
noncomputable def F_L_mood (a0 : Nat) (x1 : Int32) (x2 : Int32) (w : FW) : Option (Int32 × FW) :=
  fg (w.1 a0 = 5) inferInstance ((F_X4_mood a0 x1 x2 w).bind (fun r1 => fse r1.1 (fun v => some (v, r1.2)) (fun q => (if q = 2 then some (((-77) : Int32), r1.2) else (if q = 1 then some (((-78) : Int32), r1.2) else (if q = 4 then some (((-76) : Int32), r1.2) else none))))))
set_option maxHeartbeats 4000000 in
set_option maxRecDepth 100000 in
theorem c_L_mood (l : Launch) (D : va_G) (cy : Nat → ClassId) (a0 : Nat) (x1 : Int32) (x2 : Int32) (w : FW) (r : Int32 × FW) (hF : F_L_mood a0 x1 x2 w = some r) : lSpec l D cy yL_mood (.codeWith yL_mood cL_mood 4 (some .int) [(0, 6, 7, 32), (0, 6, 11, 20), (0, 6, 15, 22)]) { frames := 8, cells := 1, slots := 6, locals := 144 } [.ref a0, .int x1, .int x2] gE0 none w r.2 (some (.int r.1)) := by
  refine l_beginW (by decide +kernel) (Nat.le_of_ble_eq_true rfl) (fun X h hC hEn hL hT => ?_)
  have hst := lOK_st hC hL
  unfold F_L_mood at hF
  obtain ⟨hk0, hF⟩ := fg_open hF
  obtain ⟨o9, h1, hF⟩ := fb_open hF
  show gAt X 0 0 4 w h gE0 [(0, .ref a0), (1, .int x1), (2, .int x2)] [] 0
  refine g_aload_n hC dL_mood_0 rfl 0 rfl ?_
  refine g_iload_n hC dL_mood_1 rfl 1 rfl ?_
  refine g_iload_n hC dL_mood_2 rfl 2 rfl ?_
  obtain ⟨o9, w1⟩ := o9
  rcases o9 with v | q
  · obtain rfl := Option.some.inj hF
    refine g_callVR hC hst [.int x1, .int x2] (rv := some (.int v)) (c_X4_mood l D cy a0 x1 x2 w _ h1) q_1110 q_73 q_1107 q_1108 q_1109 h9_X4_mood (T := TX4) (N := 15) (ci := 4) rfl hk0 ⟨Nat.le_of_ble_eq_true rfl, Nat.le_of_ble_eq_true rfl⟩ ⟨Nat.le_of_ble_eq_true rfl, Nat.le_of_ble_eq_true rfl⟩ (Nat.le_of_ble_eq_true rfl) rfl dL_mood_3 (fun h2 _ hs => ?_)
    show gAt X 1 6 4 w1 h2 gE0 [(0, .ref a0), (1, .int x1), (2, .int x2)] [.int v] 6
    exact g_iret hC hEn hs dL_mood_6
  · replace hF : (if q = 2 then some (((-77) : Int32), w1) else (if q = 1 then some (((-78) : Int32), w1) else (if q = 4 then some (((-76) : Int32), w1) else none))) = some r := hF
    by_cases e9 : q = 2
    · replace hF := fi_pos hF e9
      subst e9
      obtain rfl := Option.some.inj hF
      refine g_callVT hC hst [.int x1, .int x2] (ex := 2) (c_X4_mood l D cy a0 x1 x2 w _ h1) q_1110 q_73 q_1107 q_1108 q_1109 h9_X4_mood (T := TX4) (N := 15) (ci := 4) rfl hk0 ⟨Nat.le_of_ble_eq_true rfl, Nat.le_of_ble_eq_true rfl⟩ ⟨Nat.le_of_ble_eq_true rfl, Nat.le_of_ble_eq_true rfl⟩ (Nat.le_of_ble_eq_true rfl) rfl dL_mood_3 (fun h2 _ hs => ?_)
      show gXt X 1 6 4 w1 h2 gE0 [(0, .ref a0), (1, .int x1), (2, .int x2)] 2 3
      refine g_catchL hC hL hT [] ⟨0, 6, 7, 32⟩ [⟨0, 6, 11, 20⟩, ⟨0, 6, 15, 22⟩] rfl (fun z hz => absurd hz List.not_mem_nil) (by decide) (by decide) q_316 q_411 (fun q9 => ?_)
      refine g_astore_n (L' := [(3, .ref q9), (0, .ref a0), (1, .int x1), (2, .int x2)]) hC dL_mood_7 rfl (by decide) rfl ?_
      refine g_bipush (v := (-77)) hC dL_mood_8 (by decide) ?_
      exact g_iret hC hEn hs dL_mood_10
    replace hF := fi_neg hF e9
    by_cases e9 : q = 1
    · replace hF := fi_pos hF e9
      subst e9
      obtain rfl := Option.some.inj hF
      refine g_callVT hC hst [.int x1, .int x2] (ex := 1) (c_X4_mood l D cy a0 x1 x2 w _ h1) q_1110 q_73 q_1107 q_1108 q_1109 h9_X4_mood (T := TX4) (N := 15) (ci := 4) rfl hk0 ⟨Nat.le_of_ble_eq_true rfl, Nat.le_of_ble_eq_true rfl⟩ ⟨Nat.le_of_ble_eq_true rfl, Nat.le_of_ble_eq_true rfl⟩ (Nat.le_of_ble_eq_true rfl) rfl dL_mood_3 (fun h2 _ hs => ?_)
      show gXt X 1 6 4 w1 h2 gE0 [(0, .ref a0), (1, .int x1), (2, .int x2)] 1 3
      have hpass : ∀ z ∈ ([⟨0, 6, 7, 32⟩] : List ExceptionTableEntry), z.catchType ≠ 0 ∧ ∃ nm : String, Cond.classLink RL z.catchType nm ∈ lwA ∧ (exN 1, nm) ∈ ncL := by
        intro z hz
        simp only [List.mem_cons, List.not_mem_nil, or_false] at hz
        subst hz
        exact ⟨by decide, _, q_316, by decide +kernel⟩
      refine g_catchL hC hL hT [⟨0, 6, 7, 32⟩] ⟨0, 6, 11, 20⟩ [⟨0, 6, 15, 22⟩] rfl hpass (by decide) (by decide) q_396 q_499 (fun q9 => ?_)
      refine g_astore_n (L' := [(3, .ref q9), (0, .ref a0), (1, .int x1), (2, .int x2)]) hC dL_mood_11 rfl (by decide) rfl ?_
      refine g_bipush (v := (-78)) hC dL_mood_12 (by decide) ?_
      exact g_iret hC hEn hs dL_mood_14
    replace hF := fi_neg hF e9
    by_cases e9 : q = 4
    · replace hF := fi_pos hF e9
      subst e9
      obtain rfl := Option.some.inj hF
      refine g_callVT hC hst [.int x1, .int x2] (ex := 4) (c_X4_mood l D cy a0 x1 x2 w _ h1) q_1110 q_73 q_1107 q_1108 q_1109 h9_X4_mood (T := TX4) (N := 15) (ci := 4) rfl hk0 ⟨Nat.le_of_ble_eq_true rfl, Nat.le_of_ble_eq_true rfl⟩ ⟨Nat.le_of_ble_eq_true rfl, Nat.le_of_ble_eq_true rfl⟩ (Nat.le_of_ble_eq_true rfl) rfl dL_mood_3 (fun h2 _ hs => ?_)
      show gXt X 1 6 4 w1 h2 gE0 [(0, .ref a0), (1, .int x1), (2, .int x2)] 4 3
      have hpass : ∀ z ∈ ([⟨0, 6, 7, 32⟩, ⟨0, 6, 11, 20⟩] : List ExceptionTableEntry), z.catchType ≠ 0 ∧ ∃ nm : String, Cond.classLink RL z.catchType nm ∈ lwA ∧ (exN 4, nm) ∈ ncL := by
        intro z hz
        simp only [List.mem_cons, List.not_mem_nil, or_false] at hz
        rcases hz with rfl | rfl
        · exact ⟨by decide, _, q_316, by decide +kernel⟩
        · exact ⟨by decide, _, q_396, by decide +kernel⟩
      refine g_catchL hC hL hT [⟨0, 6, 7, 32⟩, ⟨0, 6, 11, 20⟩] ⟨0, 6, 15, 22⟩ [] rfl hpass (by decide) (by decide) q_881 q_1050 (fun q9 => ?_)
      refine g_astore_n (L' := [(3, .ref q9), (0, .ref a0), (1, .int x1), (2, .int x2)]) hC dL_mood_15 rfl (by decide) rfl ?_
      refine g_bipush (v := (-76)) hC dL_mood_16 (by decide) ?_
      exact g_iret hC hEn hs dL_mood_18
    replace hF := fi_neg hF e9
    cases hF
theorem dL_pier_0 : decode cL_pier 0 = .ok (.aload_n 0, 1) := by decide +kernel
theorem dL_pier_1 : decode cL_pier 1 = .ok (.iload_n 1, 1) := by decide +kernel
theorem dL_pier_2 : decode cL_pier 2 = .ok (.iload_n 2, 1) := by decide +kernel
theorem dL_pier_3 : decode cL_pier 3 = .ok (.invokevirtual 42, 3) := by decide +kernel
theorem dL_pier_6 : decode cL_pier 6 = .ok (.ireturn, 1) := by decide +kernel
theorem dL_pier_7 : decode cL_pier 7 = .ok (.astore_n 3, 1) := by decide +kernel
theorem dL_pier_8 : decode cL_pier 8 = .ok (.bipush (-77), 2) := by decide +kernel
theorem dL_pier_10 : decode cL_pier 10 = .ok (.ireturn, 1) := by decide +kernel
theorem dL_pier_11 : decode cL_pier 11 = .ok (.astore_n 3, 1) := by decide +kernel
theorem dL_pier_12 : decode cL_pier 12 = .ok (.bipush (-76), 2) := by decide +kernel
theorem dL_pier_14 : decode cL_pier 14 = .ok (.ireturn, 1) := by decide +kernel
theorem h9_L_pier : yL_pier.cls ≠ "java/lang/invoke/MethodHandle" ∧ yL_pier.cls ≠ "java/lang/invoke/VarHandle" ∧ (parseMethodDescriptor yL_pier.desc).map (fun d => d.parameters.length) = some 3 := by decide +kernel
noncomputable def F_L_pier (a0 : Nat) (x1 : Int32) (x2 : Int32) (w : FW) : Option (Int32 × FW) :=
  fg (w.1 a0 = 5) inferInstance ((F_X4_pier a0 x1 x2 w).bind (fun r1 => fse r1.1 (fun v => some (v, r1.2)) (fun q => (if q = 2 then some (((-77) : Int32), r1.2) else (if q = 4 then some (((-76) : Int32), r1.2) else none)))))
set_option maxHeartbeats 4000000 in
set_option maxRecDepth 100000 in
theorem c_L_pier (l : Launch) (D : va_G) (cy : Nat → ClassId) (a0 : Nat) (x1 : Int32) (x2 : Int32) (w : FW) (r : Int32 × FW) (hF : F_L_pier a0 x1 x2 w = some r) : lSpec l D cy yL_pier (.codeWith yL_pier cL_pier 4 (some .int) [(0, 6, 7, 32), (0, 6, 11, 22)]) { frames := 8, cells := 1, slots := 6, locals := 143 } [.ref a0, .int x1, .int x2] gE0 none w r.2 (some (.int r.1)) := by
  refine l_beginW (by decide +kernel) (Nat.le_of_ble_eq_true rfl) (fun X h hC hEn hL hT => ?_)
  have hst := lOK_st hC hL
  unfold F_L_pier at hF
  obtain ⟨hk0, hF⟩ := fg_open hF
  obtain ⟨o9, h1, hF⟩ := fb_open hF
  show gAt X 0 0 4 w h gE0 [(0, .ref a0), (1, .int x1), (2, .int x2)] [] 0
  refine g_aload_n hC dL_pier_0 rfl 0 rfl ?_
  refine g_iload_n hC dL_pier_1 rfl 1 rfl ?_
  refine g_iload_n hC dL_pier_2 rfl 2 rfl ?_
  obtain ⟨o9, w1⟩ := o9
  rcases o9 with v | q
  · obtain rfl := Option.some.inj hF
    refine g_callVR hC hst [.int x1, .int x2] (rv := some (.int v)) (c_X4_pier l D cy a0 x1 x2 w _ h1) q_1122 q_73 q_1119 q_1120 q_1121 h9_X4_pier (T := TX4) (N := 15) (ci := 4) rfl hk0 ⟨Nat.le_of_ble_eq_true rfl, Nat.le_of_ble_eq_true rfl⟩ ⟨Nat.le_of_ble_eq_true rfl, Nat.le_of_ble_eq_true rfl⟩ (Nat.le_of_ble_eq_true rfl) rfl dL_pier_3 (fun h2 _ hs => ?_)
    show gAt X 1 6 4 w1 h2 gE0 [(0, .ref a0), (1, .int x1), (2, .int x2)] [.int v] 6
    exact g_iret hC hEn hs dL_pier_6
  · replace hF : (if q = 2 then some (((-77) : Int32), w1) else (if q = 4 then some (((-76) : Int32), w1) else none)) = some r := hF
    by_cases e9 : q = 2
    · replace hF := fi_pos hF e9
      subst e9
      obtain rfl := Option.some.inj hF
      refine g_callVT hC hst [.int x1, .int x2] (ex := 2) (c_X4_pier l D cy a0 x1 x2 w _ h1) q_1122 q_73 q_1119 q_1120 q_1121 h9_X4_pier (T := TX4) (N := 15) (ci := 4) rfl hk0 ⟨Nat.le_of_ble_eq_true rfl, Nat.le_of_ble_eq_true rfl⟩ ⟨Nat.le_of_ble_eq_true rfl, Nat.le_of_ble_eq_true rfl⟩ (Nat.le_of_ble_eq_true rfl) rfl dL_pier_3 (fun h2 _ hs => ?_)
      show gXt X 1 6 4 w1 h2 gE0 [(0, .ref a0), (1, .int x1), (2, .int x2)] 2 3
      refine g_catchL hC hL hT [] ⟨0, 6, 7, 32⟩ [⟨0, 6, 11, 22⟩] rfl (fun z hz => absurd hz List.not_mem_nil) (by decide) (by decide) q_316 q_411 (fun q9 => ?_)
      refine g_astore_n (L' := [(3, .ref q9), (0, .ref a0), (1, .int x1), (2, .int x2)]) hC dL_pier_7 rfl (by decide) rfl ?_
      refine g_bipush (v := (-77)) hC dL_pier_8 (by decide) ?_
      exact g_iret hC hEn hs dL_pier_10
    replace hF := fi_neg hF e9
    by_cases e9 : q = 4
    · replace hF := fi_pos hF e9
      subst e9
      obtain rfl := Option.some.inj hF
      refine g_callVT hC hst [.int x1, .int x2] (ex := 4) (c_X4_pier l D cy a0 x1 x2 w _ h1) q_1122 q_73 q_1119 q_1120 q_1121 h9_X4_pier (T := TX4) (N := 15) (ci := 4) rfl hk0 ⟨Nat.le_of_ble_eq_true rfl, Nat.le_of_ble_eq_true rfl⟩ ⟨Nat.le_of_ble_eq_true rfl, Nat.le_of_ble_eq_true rfl⟩ (Nat.le_of_ble_eq_true rfl) rfl dL_pier_3 (fun h2 _ hs => ?_)
      show gXt X 1 6 4 w1 h2 gE0 [(0, .ref a0), (1, .int x1), (2, .int x2)] 4 3
      have hpass : ∀ z ∈ ([⟨0, 6, 7, 32⟩] : List ExceptionTableEntry), z.catchType ≠ 0 ∧ ∃ nm : String, Cond.classLink RL z.catchType nm ∈ lwA ∧ (exN 4, nm) ∈ ncL := by
        intro z hz
        simp only [List.mem_cons, List.not_mem_nil, or_false] at hz
        subst hz
        exact ⟨by decide, _, q_316, by decide +kernel⟩
      refine g_catchL hC hL hT [⟨0, 6, 7, 32⟩] ⟨0, 6, 11, 22⟩ [] rfl hpass (by decide) (by decide) q_881 q_1050 (fun q9 => ?_)
      refine g_astore_n (L' := [(3, .ref q9), (0, .ref a0), (1, .int x1), (2, .int x2)]) hC dL_pier_11 rfl (by decide) rfl ?_
      refine g_bipush (v := (-76)) hC dL_pier_12 (by decide) ?_
      exact g_iret hC hEn hs dL_pier_14
    replace hF := fi_neg hF e9
    cases hF
theorem dL_ticketOf_0 : decode cL_ticketOf 0 = .ok (.aload_n 0, 1) := by decide +kernel
theorem dL_ticketOf_1 : decode cL_ticketOf 1 = .ok (.iload_n 1, 1) := by decide +kernel
theorem dL_ticketOf_2 : decode cL_ticketOf 2 = .ok (.iload_n 2, 1) := by decide +kernel
theorem dL_ticketOf_3 : decode cL_ticketOf 3 = .ok (.invokevirtual 46, 3) := by decide +kernel
theorem dL_ticketOf_6 : decode cL_ticketOf 6 = .ok (.ireturn, 1) := by decide +kernel
theorem dL_ticketOf_7 : decode cL_ticketOf 7 = .ok (.astore_n 3, 1) := by decide +kernel
theorem dL_ticketOf_8 : decode cL_ticketOf 8 = .ok (.bipush (-77), 2) := by decide +kernel
theorem dL_ticketOf_10 : decode cL_ticketOf 10 = .ok (.ireturn, 1) := by decide +kernel
theorem dL_ticketOf_11 : decode cL_ticketOf 11 = .ok (.astore_n 3, 1) := by decide +kernel
theorem dL_ticketOf_12 : decode cL_ticketOf 12 = .ok (.bipush (-78), 2) := by decide +kernel
theorem dL_ticketOf_14 : decode cL_ticketOf 14 = .ok (.ireturn, 1) := by decide +kernel
theorem h9_L_ticketOf : yL_ticketOf.cls ≠ "java/lang/invoke/MethodHandle" ∧ yL_ticketOf.cls ≠ "java/lang/invoke/VarHandle" ∧ (parseMethodDescriptor yL_ticketOf.desc).map (fun d => d.parameters.length) = some 3 := by decide +kernel
noncomputable def F_L_ticketOf (a0 : Nat) (x1 : Int32) (x2 : Int32) (w : FW) : Option (Int32) :=
  fg (w.1 a0 = 5) inferInstance ((F_X4_ticketOf a0 x1 x2 w).bind (fun r1 => fse r1 (fun v => some v) (fun q => (if q = 2 then some ((-77) : Int32) else (if q = 1 then some ((-78) : Int32) else none)))))
set_option maxHeartbeats 4000000 in
set_option maxRecDepth 100000 in
theorem c_L_ticketOf (l : Launch) (D : va_G) (cy : Nat → ClassId) (a0 : Nat) (x1 : Int32) (x2 : Int32) (w : FW) (r : Int32) (hF : F_L_ticketOf a0 x1 x2 w = some r) : lSpec l D cy yL_ticketOf (.codeWith yL_ticketOf cL_ticketOf 4 (some .int) [(0, 6, 7, 32), (0, 6, 11, 20)]) { frames := 8, cells := 2, slots := 12, locals := 144 } [.ref a0, .int x1, .int x2] gE0 none w w (some (.int r)) := by
  refine l_beginW (by decide +kernel) (Nat.le_of_ble_eq_true rfl) (fun X h hC hEn hL hT => ?_)
  have hst := lOK_st hC hL
  unfold F_L_ticketOf at hF
  obtain ⟨hk0, hF⟩ := fg_open hF
  obtain ⟨o9, h1, hF⟩ := fb_open hF
  show gAt X 0 0 4 w h gE0 [(0, .ref a0), (1, .int x1), (2, .int x2)] [] 0
  refine g_aload_n hC dL_ticketOf_0 rfl 0 rfl ?_
  refine g_iload_n hC dL_ticketOf_1 rfl 1 rfl ?_
  refine g_iload_n hC dL_ticketOf_2 rfl 2 rfl ?_
  rcases o9 with v | q
  · obtain rfl := Option.some.inj hF
    refine g_callVR hC hst [.int x1, .int x2] (rv := some (.int v)) (c_X4_ticketOf l D cy a0 x1 x2 w _ h1) q_1195 q_73 q_1192 q_1193 q_1194 h9_X4_ticketOf (T := TX4) (N := 15) (ci := 4) rfl hk0 ⟨Nat.le_of_ble_eq_true rfl, Nat.le_of_ble_eq_true rfl⟩ ⟨Nat.le_of_ble_eq_true rfl, Nat.le_of_ble_eq_true rfl⟩ (Nat.le_of_ble_eq_true rfl) rfl dL_ticketOf_3 (fun h2 _ hs => ?_)
    show gAt X 2 12 4 w h2 gE0 [(0, .ref a0), (1, .int x1), (2, .int x2)] [.int v] 6
    exact g_iret hC hEn (fSm.rf w) dL_ticketOf_6
  · replace hF : (if q = 2 then some ((-77) : Int32) else (if q = 1 then some ((-78) : Int32) else none)) = some r := hF
    by_cases e9 : q = 2
    · replace hF := fi_pos hF e9
      subst e9
      obtain rfl := Option.some.inj hF
      refine g_callVT hC hst [.int x1, .int x2] (ex := 2) (c_X4_ticketOf l D cy a0 x1 x2 w _ h1) q_1195 q_73 q_1192 q_1193 q_1194 h9_X4_ticketOf (T := TX4) (N := 15) (ci := 4) rfl hk0 ⟨Nat.le_of_ble_eq_true rfl, Nat.le_of_ble_eq_true rfl⟩ ⟨Nat.le_of_ble_eq_true rfl, Nat.le_of_ble_eq_true rfl⟩ (Nat.le_of_ble_eq_true rfl) rfl dL_ticketOf_3 (fun h2 _ hs => ?_)
      show gXt X 2 12 4 w h2 gE0 [(0, .ref a0), (1, .int x1), (2, .int x2)] 2 3
      refine g_catchL hC hL hT [] ⟨0, 6, 7, 32⟩ [⟨0, 6, 11, 20⟩] rfl (fun z hz => absurd hz List.not_mem_nil) (by decide) (by decide) q_316 q_411 (fun q9 => ?_)
      refine g_astore_n (L' := [(3, .ref q9), (0, .ref a0), (1, .int x1), (2, .int x2)]) hC dL_ticketOf_7 rfl (by decide) rfl ?_
      refine g_bipush (v := (-77)) hC dL_ticketOf_8 (by decide) ?_
      exact g_iret hC hEn (fSm.rf w) dL_ticketOf_10
    replace hF := fi_neg hF e9
    by_cases e9 : q = 1
    · replace hF := fi_pos hF e9
      subst e9
      obtain rfl := Option.some.inj hF
      refine g_callVT hC hst [.int x1, .int x2] (ex := 1) (c_X4_ticketOf l D cy a0 x1 x2 w _ h1) q_1195 q_73 q_1192 q_1193 q_1194 h9_X4_ticketOf (T := TX4) (N := 15) (ci := 4) rfl hk0 ⟨Nat.le_of_ble_eq_true rfl, Nat.le_of_ble_eq_true rfl⟩ ⟨Nat.le_of_ble_eq_true rfl, Nat.le_of_ble_eq_true rfl⟩ (Nat.le_of_ble_eq_true rfl) rfl dL_ticketOf_3 (fun h2 _ hs => ?_)
      show gXt X 2 12 4 w h2 gE0 [(0, .ref a0), (1, .int x1), (2, .int x2)] 1 3
      have hpass : ∀ z ∈ ([⟨0, 6, 7, 32⟩] : List ExceptionTableEntry), z.catchType ≠ 0 ∧ ∃ nm : String, Cond.classLink RL z.catchType nm ∈ lwA ∧ (exN 1, nm) ∈ ncL := by
        intro z hz
        simp only [List.mem_cons, List.not_mem_nil, or_false] at hz
        subst hz
        exact ⟨by decide, _, q_316, by decide +kernel⟩
      refine g_catchL hC hL hT [⟨0, 6, 7, 32⟩] ⟨0, 6, 11, 20⟩ [] rfl hpass (by decide) (by decide) q_396 q_499 (fun q9 => ?_)
      refine g_astore_n (L' := [(3, .ref q9), (0, .ref a0), (1, .int x1), (2, .int x2)]) hC dL_ticketOf_11 rfl (by decide) rfl ?_
      refine g_bipush (v := (-78)) hC dL_ticketOf_12 (by decide) ?_
      exact g_iret hC hEn (fSm.rf w) dL_ticketOf_14
    replace hF := fi_neg hF e9
    cases hF
theorem dL_wordAt_0 : decode cL_wordAt 0 = .ok (.aload_n 0, 1) := by decide +kernel
theorem dL_wordAt_1 : decode cL_wordAt 1 = .ok (.iload_n 1, 1) := by decide +kernel
theorem dL_wordAt_2 : decode cL_wordAt 2 = .ok (.iload_n 2, 1) := by decide +kernel
theorem dL_wordAt_3 : decode cL_wordAt 3 = .ok (.invokevirtual 49, 3) := by decide +kernel
theorem dL_wordAt_6 : decode cL_wordAt 6 = .ok (.ireturn, 1) := by decide +kernel
theorem dL_wordAt_7 : decode cL_wordAt 7 = .ok (.astore_n 3, 1) := by decide +kernel
theorem dL_wordAt_8 : decode cL_wordAt 8 = .ok (.bipush (-77), 2) := by decide +kernel
theorem dL_wordAt_10 : decode cL_wordAt 10 = .ok (.ireturn, 1) := by decide +kernel
theorem dL_wordAt_11 : decode cL_wordAt 11 = .ok (.astore_n 3, 1) := by decide +kernel
theorem dL_wordAt_12 : decode cL_wordAt 12 = .ok (.bipush (-75), 2) := by decide +kernel
theorem dL_wordAt_14 : decode cL_wordAt 14 = .ok (.ireturn, 1) := by decide +kernel
theorem h9_L_wordAt : yL_wordAt.cls ≠ "java/lang/invoke/MethodHandle" ∧ yL_wordAt.cls ≠ "java/lang/invoke/VarHandle" ∧ (parseMethodDescriptor yL_wordAt.desc).map (fun d => d.parameters.length) = some 3 := by decide +kernel
noncomputable def F_L_wordAt (a0 : Nat) (x1 : Int32) (x2 : Int32) (w : FW) : Option (Int32) :=
  fg (w.1 a0 = 5) inferInstance ((F_X4_wordAt a0 x1 x2 w).bind (fun r1 => fse r1 (fun v => some v) (fun q => (if q = 2 then some ((-77) : Int32) else (if q = 5 then some ((-75) : Int32) else none)))))
set_option maxHeartbeats 4000000 in
set_option maxRecDepth 100000 in
theorem c_L_wordAt (l : Launch) (D : va_G) (cy : Nat → ClassId) (a0 : Nat) (x1 : Int32) (x2 : Int32) (w : FW) (r : Int32) (hF : F_L_wordAt a0 x1 x2 w = some r) : lSpec l D cy yL_wordAt (.codeWith yL_wordAt cL_wordAt 4 (some .int) [(0, 6, 7, 32), (0, 6, 11, 53)]) { frames := 8, cells := 2, slots := 12, locals := 144 } [.ref a0, .int x1, .int x2] gE0 none w w (some (.int r)) := by
  refine l_beginW (by decide +kernel) (Nat.le_of_ble_eq_true rfl) (fun X h hC hEn hL hT => ?_)
  have hst := lOK_st hC hL
  unfold F_L_wordAt at hF
  obtain ⟨hk0, hF⟩ := fg_open hF
  obtain ⟨o9, h1, hF⟩ := fb_open hF
  show gAt X 0 0 4 w h gE0 [(0, .ref a0), (1, .int x1), (2, .int x2)] [] 0
  refine g_aload_n hC dL_wordAt_0 rfl 0 rfl ?_
  refine g_iload_n hC dL_wordAt_1 rfl 1 rfl ?_
  refine g_iload_n hC dL_wordAt_2 rfl 2 rfl ?_
  rcases o9 with v | q
  · obtain rfl := Option.some.inj hF
    refine g_callVR hC hst [.int x1, .int x2] (rv := some (.int v)) (c_X4_wordAt l D cy a0 x1 x2 w _ h1) q_1204 q_73 q_1201 q_1202 q_1203 h9_X4_wordAt (T := TX4) (N := 15) (ci := 4) rfl hk0 ⟨Nat.le_of_ble_eq_true rfl, Nat.le_of_ble_eq_true rfl⟩ ⟨Nat.le_of_ble_eq_true rfl, Nat.le_of_ble_eq_true rfl⟩ (Nat.le_of_ble_eq_true rfl) rfl dL_wordAt_3 (fun h2 _ hs => ?_)
    show gAt X 2 12 4 w h2 gE0 [(0, .ref a0), (1, .int x1), (2, .int x2)] [.int v] 6
    exact g_iret hC hEn (fSm.rf w) dL_wordAt_6
  · replace hF : (if q = 2 then some ((-77) : Int32) else (if q = 5 then some ((-75) : Int32) else none)) = some r := hF
    by_cases e9 : q = 2
    · replace hF := fi_pos hF e9
      subst e9
      obtain rfl := Option.some.inj hF
      refine g_callVT hC hst [.int x1, .int x2] (ex := 2) (c_X4_wordAt l D cy a0 x1 x2 w _ h1) q_1204 q_73 q_1201 q_1202 q_1203 h9_X4_wordAt (T := TX4) (N := 15) (ci := 4) rfl hk0 ⟨Nat.le_of_ble_eq_true rfl, Nat.le_of_ble_eq_true rfl⟩ ⟨Nat.le_of_ble_eq_true rfl, Nat.le_of_ble_eq_true rfl⟩ (Nat.le_of_ble_eq_true rfl) rfl dL_wordAt_3 (fun h2 _ hs => ?_)
      show gXt X 2 12 4 w h2 gE0 [(0, .ref a0), (1, .int x1), (2, .int x2)] 2 3
      refine g_catchL hC hL hT [] ⟨0, 6, 7, 32⟩ [⟨0, 6, 11, 53⟩] rfl (fun z hz => absurd hz List.not_mem_nil) (by decide) (by decide) q_316 q_411 (fun q9 => ?_)
      refine g_astore_n (L' := [(3, .ref q9), (0, .ref a0), (1, .int x1), (2, .int x2)]) hC dL_wordAt_7 rfl (by decide) rfl ?_
      refine g_bipush (v := (-77)) hC dL_wordAt_8 (by decide) ?_
      exact g_iret hC hEn (fSm.rf w) dL_wordAt_10
    replace hF := fi_neg hF e9
    by_cases e9 : q = 5
    · replace hF := fi_pos hF e9
      subst e9
      obtain rfl := Option.some.inj hF
      refine g_callVT hC hst [.int x1, .int x2] (ex := 5) (c_X4_wordAt l D cy a0 x1 x2 w _ h1) q_1204 q_73 q_1201 q_1202 q_1203 h9_X4_wordAt (T := TX4) (N := 15) (ci := 4) rfl hk0 ⟨Nat.le_of_ble_eq_true rfl, Nat.le_of_ble_eq_true rfl⟩ ⟨Nat.le_of_ble_eq_true rfl, Nat.le_of_ble_eq_true rfl⟩ (Nat.le_of_ble_eq_true rfl) rfl dL_wordAt_3 (fun h2 _ hs => ?_)
      show gXt X 2 12 4 w h2 gE0 [(0, .ref a0), (1, .int x1), (2, .int x2)] 5 3
      have hpass : ∀ z ∈ ([⟨0, 6, 7, 32⟩] : List ExceptionTableEntry), z.catchType ≠ 0 ∧ ∃ nm : String, Cond.classLink RL z.catchType nm ∈ lwA ∧ (exN 5, nm) ∈ ncL := by
        intro z hz
        simp only [List.mem_cons, List.not_mem_nil, or_false] at hz
        subst hz
        exact ⟨by decide, _, q_316, by decide +kernel⟩
      refine g_catchL hC hL hT [⟨0, 6, 7, 32⟩] ⟨0, 6, 11, 53⟩ [] rfl hpass (by decide) (by decide) q_516 q_527 (fun q9 => ?_)
      refine g_astore_n (L' := [(3, .ref q9), (0, .ref a0), (1, .int x1), (2, .int x2)]) hC dL_wordAt_11 rfl (by decide) rfl ?_
      refine g_bipush (v := (-75)) hC dL_wordAt_12 (by decide) ?_
      exact g_iret hC hEn (fSm.rf w) dL_wordAt_14
    replace hF := fi_neg hF e9
    cases hF
theorem dL_punch_0 : decode cL_punch 0 = .ok (.aload_n 0, 1) := by decide +kernel
theorem dL_punch_1 : decode cL_punch 1 = .ok (.iload_n 1, 1) := by decide +kernel
theorem dL_punch_2 : decode cL_punch 2 = .ok (.iload_n 2, 1) := by decide +kernel
theorem dL_punch_3 : decode cL_punch 3 = .ok (.iload_n 3, 1) := by decide +kernel
theorem dL_punch_4 : decode cL_punch 4 = .ok (.invokevirtual 55, 3) := by decide +kernel
theorem dL_punch_7 : decode cL_punch 7 = .ok (.ireturn, 1) := by decide +kernel
theorem dL_punch_8 : decode cL_punch 8 = .ok (.astore 4, 2) := by decide +kernel
theorem dL_punch_10 : decode cL_punch 10 = .ok (.bipush (-77), 2) := by decide +kernel
theorem dL_punch_12 : decode cL_punch 12 = .ok (.ireturn, 1) := by decide +kernel
theorem dL_punch_13 : decode cL_punch 13 = .ok (.astore 4, 2) := by decide +kernel
theorem dL_punch_15 : decode cL_punch 15 = .ok (.bipush (-76), 2) := by decide +kernel
theorem dL_punch_17 : decode cL_punch 17 = .ok (.ireturn, 1) := by decide +kernel
theorem h9_L_punch : yL_punch.cls ≠ "java/lang/invoke/MethodHandle" ∧ yL_punch.cls ≠ "java/lang/invoke/VarHandle" ∧ (parseMethodDescriptor yL_punch.desc).map (fun d => d.parameters.length) = some 4 := by decide +kernel
noncomputable def F_L_punch (a0 : Nat) (x1 : Int32) (x2 : Int32) (x3 : Int32) (w : FW) : Option (Int32 × FW) :=
  fg (w.1 a0 = 5) inferInstance ((F_X4_punch a0 x1 x2 x3 w).bind (fun r1 => fse r1.1 (fun v => some (v, r1.2)) (fun q => (if q = 2 then some (((-77) : Int32), r1.2) else (if q = 4 then some (((-76) : Int32), r1.2) else none)))))
set_option maxHeartbeats 4000000 in
set_option maxRecDepth 100000 in
theorem c_L_punch (l : Launch) (D : va_G) (cy : Nat → ClassId) (a0 : Nat) (x1 : Int32) (x2 : Int32) (x3 : Int32) (w : FW) (r : Int32 × FW) (hF : F_L_punch a0 x1 x2 x3 w = some r) : lSpec l D cy yL_punch (.codeWith yL_punch cL_punch 5 (some .int) [(0, 7, 8, 32), (0, 7, 13, 22)]) { frames := 8, cells := 2, slots := 12, locals := 145 } [.ref a0, .int x1, .int x2, .int x3] gE0 none w r.2 (some (.int r.1)) := by
  refine l_beginW (by decide +kernel) (Nat.le_of_ble_eq_true rfl) (fun X h hC hEn hL hT => ?_)
  have hst := lOK_st hC hL
  unfold F_L_punch at hF
  obtain ⟨hk0, hF⟩ := fg_open hF
  obtain ⟨o9, h1, hF⟩ := fb_open hF
  show gAt X 0 0 5 w h gE0 [(0, .ref a0), (1, .int x1), (2, .int x2), (3, .int x3)] [] 0
  refine g_aload_n hC dL_punch_0 rfl 0 rfl ?_
  refine g_iload_n hC dL_punch_1 rfl 1 rfl ?_
  refine g_iload_n hC dL_punch_2 rfl 2 rfl ?_
  refine g_iload_n hC dL_punch_3 rfl 3 rfl ?_
  obtain ⟨o9, w1⟩ := o9
  rcases o9 with v | q
  · obtain rfl := Option.some.inj hF
    refine g_callVR hC hst [.int x1, .int x2, .int x3] (rv := some (.int v)) (c_X4_punch l D cy a0 x1 x2 x3 w _ h1) q_1133 q_73 q_1130 q_1131 q_1132 h9_X4_punch (T := TX4) (N := 15) (ci := 4) rfl hk0 ⟨Nat.le_of_ble_eq_true rfl, Nat.le_of_ble_eq_true rfl⟩ ⟨Nat.le_of_ble_eq_true rfl, Nat.le_of_ble_eq_true rfl⟩ (Nat.le_of_ble_eq_true rfl) rfl dL_punch_4 (fun h2 _ hs => ?_)
    show gAt X 2 12 5 w1 h2 gE0 [(0, .ref a0), (1, .int x1), (2, .int x2), (3, .int x3)] [.int v] 7
    exact g_iret hC hEn hs dL_punch_7
  · replace hF : (if q = 2 then some (((-77) : Int32), w1) else (if q = 4 then some (((-76) : Int32), w1) else none)) = some r := hF
    by_cases e9 : q = 2
    · replace hF := fi_pos hF e9
      subst e9
      obtain rfl := Option.some.inj hF
      refine g_callVT hC hst [.int x1, .int x2, .int x3] (ex := 2) (c_X4_punch l D cy a0 x1 x2 x3 w _ h1) q_1133 q_73 q_1130 q_1131 q_1132 h9_X4_punch (T := TX4) (N := 15) (ci := 4) rfl hk0 ⟨Nat.le_of_ble_eq_true rfl, Nat.le_of_ble_eq_true rfl⟩ ⟨Nat.le_of_ble_eq_true rfl, Nat.le_of_ble_eq_true rfl⟩ (Nat.le_of_ble_eq_true rfl) rfl dL_punch_4 (fun h2 _ hs => ?_)
      show gXt X 2 12 5 w1 h2 gE0 [(0, .ref a0), (1, .int x1), (2, .int x2), (3, .int x3)] 2 4
      refine g_catchL hC hL hT [] ⟨0, 7, 8, 32⟩ [⟨0, 7, 13, 22⟩] rfl (fun z hz => absurd hz List.not_mem_nil) (by decide) (by decide) q_316 q_411 (fun q9 => ?_)
      refine g_astore (L' := [(4, .ref q9), (0, .ref a0), (1, .int x1), (2, .int x2), (3, .int x3)]) hC dL_punch_8 (by decide) rfl ?_
      refine g_bipush (v := (-77)) hC dL_punch_10 (by decide) ?_
      exact g_iret hC hEn hs dL_punch_12
    replace hF := fi_neg hF e9
    by_cases e9 : q = 4
    · replace hF := fi_pos hF e9
      subst e9
      obtain rfl := Option.some.inj hF
      refine g_callVT hC hst [.int x1, .int x2, .int x3] (ex := 4) (c_X4_punch l D cy a0 x1 x2 x3 w _ h1) q_1133 q_73 q_1130 q_1131 q_1132 h9_X4_punch (T := TX4) (N := 15) (ci := 4) rfl hk0 ⟨Nat.le_of_ble_eq_true rfl, Nat.le_of_ble_eq_true rfl⟩ ⟨Nat.le_of_ble_eq_true rfl, Nat.le_of_ble_eq_true rfl⟩ (Nat.le_of_ble_eq_true rfl) rfl dL_punch_4 (fun h2 _ hs => ?_)
      show gXt X 2 12 5 w1 h2 gE0 [(0, .ref a0), (1, .int x1), (2, .int x2), (3, .int x3)] 4 4
      have hpass : ∀ z ∈ ([⟨0, 7, 8, 32⟩] : List ExceptionTableEntry), z.catchType ≠ 0 ∧ ∃ nm : String, Cond.classLink RL z.catchType nm ∈ lwA ∧ (exN 4, nm) ∈ ncL := by
        intro z hz
        simp only [List.mem_cons, List.not_mem_nil, or_false] at hz
        subst hz
        exact ⟨by decide, _, q_316, by decide +kernel⟩
      refine g_catchL hC hL hT [⟨0, 7, 8, 32⟩] ⟨0, 7, 13, 22⟩ [] rfl hpass (by decide) (by decide) q_881 q_1050 (fun q9 => ?_)
      refine g_astore (L' := [(4, .ref q9), (0, .ref a0), (1, .int x1), (2, .int x2), (3, .int x3)]) hC dL_punch_13 (by decide) rfl ?_
      refine g_bipush (v := (-76)) hC dL_punch_15 (by decide) ?_
      exact g_iret hC hEn hs dL_punch_17
    replace hF := fi_neg hF e9
    cases hF
theorem dL_wet_0 : decode cL_wet 0 = .ok (.aload_n 0, 1) := by decide +kernel
theorem dL_wet_1 : decode cL_wet 1 = .ok (.iload_n 1, 1) := by decide +kernel
theorem dL_wet_2 : decode cL_wet 2 = .ok (.iload_n 2, 1) := by decide +kernel
theorem dL_wet_3 : decode cL_wet 3 = .ok (.iload_n 3, 1) := by decide +kernel
theorem dL_wet_4 : decode cL_wet 4 = .ok (.invokevirtual 59, 3) := by decide +kernel
theorem dL_wet_7 : decode cL_wet 7 = .ok (.ireturn, 1) := by decide +kernel
theorem dL_wet_8 : decode cL_wet 8 = .ok (.astore 4, 2) := by decide +kernel
theorem dL_wet_10 : decode cL_wet 10 = .ok (.bipush (-77), 2) := by decide +kernel
theorem dL_wet_12 : decode cL_wet 12 = .ok (.ireturn, 1) := by decide +kernel
theorem dL_wet_13 : decode cL_wet 13 = .ok (.astore 4, 2) := by decide +kernel
theorem dL_wet_15 : decode cL_wet 15 = .ok (.bipush (-78), 2) := by decide +kernel
theorem dL_wet_17 : decode cL_wet 17 = .ok (.ireturn, 1) := by decide +kernel
theorem h9_L_wet : yL_wet.cls ≠ "java/lang/invoke/MethodHandle" ∧ yL_wet.cls ≠ "java/lang/invoke/VarHandle" ∧ (parseMethodDescriptor yL_wet.desc).map (fun d => d.parameters.length) = some 4 := by decide +kernel
noncomputable def F_L_wet (a0 : Nat) (x1 : Int32) (x2 : Int32) (x3 : Int32) (w : FW) : Option (Int32 × FW) :=
  fg (w.1 a0 = 5) inferInstance ((F_X4_wet a0 x1 x2 x3 w).bind (fun r1 => fse r1.1 (fun v => some (v, r1.2)) (fun q => (if q = 2 then some (((-77) : Int32), r1.2) else (if q = 1 then some (((-78) : Int32), r1.2) else none)))))
set_option maxHeartbeats 4000000 in
set_option maxRecDepth 100000 in
theorem c_L_wet (l : Launch) (D : va_G) (cy : Nat → ClassId) (a0 : Nat) (x1 : Int32) (x2 : Int32) (x3 : Int32) (w : FW) (r : Int32 × FW) (hF : F_L_wet a0 x1 x2 x3 w = some r) : lSpec l D cy yL_wet (.codeWith yL_wet cL_wet 5 (some .int) [(0, 7, 8, 32), (0, 7, 13, 20)]) { frames := 8, cells := 2, slots := 12, locals := 144 } [.ref a0, .int x1, .int x2, .int x3] gE0 none w r.2 (some (.int r.1)) := by
  refine l_beginW (by decide +kernel) (Nat.le_of_ble_eq_true rfl) (fun X h hC hEn hL hT => ?_)
  have hst := lOK_st hC hL
  unfold F_L_wet at hF
  obtain ⟨hk0, hF⟩ := fg_open hF
  obtain ⟨o9, h1, hF⟩ := fb_open hF
  show gAt X 0 0 5 w h gE0 [(0, .ref a0), (1, .int x1), (2, .int x2), (3, .int x3)] [] 0
  refine g_aload_n hC dL_wet_0 rfl 0 rfl ?_
  refine g_iload_n hC dL_wet_1 rfl 1 rfl ?_
  refine g_iload_n hC dL_wet_2 rfl 2 rfl ?_
  refine g_iload_n hC dL_wet_3 rfl 3 rfl ?_
  obtain ⟨o9, w1⟩ := o9
  rcases o9 with v | q
  · obtain rfl := Option.some.inj hF
    refine g_callVR hC hst [.int x1, .int x2, .int x3] (rv := some (.int v)) (c_X4_wet l D cy a0 x1 x2 x3 w _ h1) q_1140 q_73 q_1137 q_1138 q_1139 h9_X4_wet (T := TX4) (N := 15) (ci := 4) rfl hk0 ⟨Nat.le_of_ble_eq_true rfl, Nat.le_of_ble_eq_true rfl⟩ ⟨Nat.le_of_ble_eq_true rfl, Nat.le_of_ble_eq_true rfl⟩ (Nat.le_of_ble_eq_true rfl) rfl dL_wet_4 (fun h2 _ hs => ?_)
    show gAt X 2 12 5 w1 h2 gE0 [(0, .ref a0), (1, .int x1), (2, .int x2), (3, .int x3)] [.int v] 7
    exact g_iret hC hEn hs dL_wet_7
  · replace hF : (if q = 2 then some (((-77) : Int32), w1) else (if q = 1 then some (((-78) : Int32), w1) else none)) = some r := hF
    by_cases e9 : q = 2
    · replace hF := fi_pos hF e9
      subst e9
      obtain rfl := Option.some.inj hF
      refine g_callVT hC hst [.int x1, .int x2, .int x3] (ex := 2) (c_X4_wet l D cy a0 x1 x2 x3 w _ h1) q_1140 q_73 q_1137 q_1138 q_1139 h9_X4_wet (T := TX4) (N := 15) (ci := 4) rfl hk0 ⟨Nat.le_of_ble_eq_true rfl, Nat.le_of_ble_eq_true rfl⟩ ⟨Nat.le_of_ble_eq_true rfl, Nat.le_of_ble_eq_true rfl⟩ (Nat.le_of_ble_eq_true rfl) rfl dL_wet_4 (fun h2 _ hs => ?_)
      show gXt X 2 12 5 w1 h2 gE0 [(0, .ref a0), (1, .int x1), (2, .int x2), (3, .int x3)] 2 4
      refine g_catchL hC hL hT [] ⟨0, 7, 8, 32⟩ [⟨0, 7, 13, 20⟩] rfl (fun z hz => absurd hz List.not_mem_nil) (by decide) (by decide) q_316 q_411 (fun q9 => ?_)
      refine g_astore (L' := [(4, .ref q9), (0, .ref a0), (1, .int x1), (2, .int x2), (3, .int x3)]) hC dL_wet_8 (by decide) rfl ?_
      refine g_bipush (v := (-77)) hC dL_wet_10 (by decide) ?_
      exact g_iret hC hEn hs dL_wet_12
    replace hF := fi_neg hF e9
    by_cases e9 : q = 1
    · replace hF := fi_pos hF e9
      subst e9
      obtain rfl := Option.some.inj hF
      refine g_callVT hC hst [.int x1, .int x2, .int x3] (ex := 1) (c_X4_wet l D cy a0 x1 x2 x3 w _ h1) q_1140 q_73 q_1137 q_1138 q_1139 h9_X4_wet (T := TX4) (N := 15) (ci := 4) rfl hk0 ⟨Nat.le_of_ble_eq_true rfl, Nat.le_of_ble_eq_true rfl⟩ ⟨Nat.le_of_ble_eq_true rfl, Nat.le_of_ble_eq_true rfl⟩ (Nat.le_of_ble_eq_true rfl) rfl dL_wet_4 (fun h2 _ hs => ?_)
      show gXt X 2 12 5 w1 h2 gE0 [(0, .ref a0), (1, .int x1), (2, .int x2), (3, .int x3)] 1 4
      have hpass : ∀ z ∈ ([⟨0, 7, 8, 32⟩] : List ExceptionTableEntry), z.catchType ≠ 0 ∧ ∃ nm : String, Cond.classLink RL z.catchType nm ∈ lwA ∧ (exN 1, nm) ∈ ncL := by
        intro z hz
        simp only [List.mem_cons, List.not_mem_nil, or_false] at hz
        subst hz
        exact ⟨by decide, _, q_316, by decide +kernel⟩
      refine g_catchL hC hL hT [⟨0, 7, 8, 32⟩] ⟨0, 7, 13, 20⟩ [] rfl hpass (by decide) (by decide) q_396 q_499 (fun q9 => ?_)
      refine g_astore (L' := [(4, .ref q9), (0, .ref a0), (1, .int x1), (2, .int x2), (3, .int x3)]) hC dL_wet_13 (by decide) rfl ?_
      refine g_bipush (v := (-78)) hC dL_wet_15 (by decide) ?_
      exact g_iret hC hEn hs dL_wet_17
    replace hF := fi_neg hF e9
    cases hF
theorem dL_tear_0 : decode cL_tear 0 = .ok (.aload_n 0, 1) := by decide +kernel
theorem dL_tear_1 : decode cL_tear 1 = .ok (.iload_n 1, 1) := by decide +kernel
theorem dL_tear_2 : decode cL_tear 2 = .ok (.invokevirtual 62, 3) := by decide +kernel
theorem dL_tear_5 : decode cL_tear 5 = .ok (.ireturn, 1) := by decide +kernel
theorem dL_tear_6 : decode cL_tear 6 = .ok (.astore_n 2, 1) := by decide +kernel
theorem dL_tear_7 : decode cL_tear 7 = .ok (.bipush (-77), 2) := by decide +kernel
theorem dL_tear_9 : decode cL_tear 9 = .ok (.ireturn, 1) := by decide +kernel
theorem dL_tear_10 : decode cL_tear 10 = .ok (.astore_n 2, 1) := by decide +kernel
theorem dL_tear_11 : decode cL_tear 11 = .ok (.bipush (-76), 2) := by decide +kernel
theorem dL_tear_13 : decode cL_tear 13 = .ok (.ireturn, 1) := by decide +kernel
theorem h9_L_tear : yL_tear.cls ≠ "java/lang/invoke/MethodHandle" ∧ yL_tear.cls ≠ "java/lang/invoke/VarHandle" ∧ (parseMethodDescriptor yL_tear.desc).map (fun d => d.parameters.length) = some 2 := by decide +kernel
noncomputable def F_L_tear (a0 : Nat) (x1 : Int32) (w : FW) : Option (Int32 × FW) :=
  fg (w.1 a0 = 5) inferInstance ((F_X4_tear a0 x1 w).bind (fun r1 => fse r1.1 (fun v => some (v, r1.2)) (fun q => (if q = 2 then some (((-77) : Int32), r1.2) else (if q = 4 then some (((-76) : Int32), r1.2) else none)))))
set_option maxHeartbeats 4000000 in
set_option maxRecDepth 100000 in
theorem c_L_tear (l : Launch) (D : va_G) (cy : Nat → ClassId) (a0 : Nat) (x1 : Int32) (w : FW) (r : Int32 × FW) (hF : F_L_tear a0 x1 w = some r) : lSpec l D cy yL_tear (.codeWith yL_tear cL_tear 3 (some .int) [(0, 5, 6, 32), (0, 5, 10, 22)]) { frames := 8, cells := 1, slots := 6, locals := 142 } [.ref a0, .int x1] gE0 none w r.2 (some (.int r.1)) := by
  refine l_beginW (by decide +kernel) (Nat.le_of_ble_eq_true rfl) (fun X h hC hEn hL hT => ?_)
  have hst := lOK_st hC hL
  unfold F_L_tear at hF
  obtain ⟨hk0, hF⟩ := fg_open hF
  obtain ⟨o9, h1, hF⟩ := fb_open hF
  show gAt X 0 0 3 w h gE0 [(0, .ref a0), (1, .int x1)] [] 0
  refine g_aload_n hC dL_tear_0 rfl 0 rfl ?_
  refine g_iload_n hC dL_tear_1 rfl 1 rfl ?_
  obtain ⟨o9, w1⟩ := o9
  rcases o9 with v | q
  · obtain rfl := Option.some.inj hF
    refine g_callVR hC hst [.int x1] (rv := some (.int v)) (c_X4_tear l D cy a0 x1 w _ h1) q_1147 q_73 q_1144 q_1145 q_1146 h9_X4_tear (T := TX4) (N := 15) (ci := 4) rfl hk0 ⟨Nat.le_of_ble_eq_true rfl, Nat.le_of_ble_eq_true rfl⟩ ⟨Nat.le_of_ble_eq_true rfl, Nat.le_of_ble_eq_true rfl⟩ (Nat.le_of_ble_eq_true rfl) rfl dL_tear_2 (fun h2 _ hs => ?_)
    show gAt X 1 6 3 w1 h2 gE0 [(0, .ref a0), (1, .int x1)] [.int v] 5
    exact g_iret hC hEn hs dL_tear_5
  · replace hF : (if q = 2 then some (((-77) : Int32), w1) else (if q = 4 then some (((-76) : Int32), w1) else none)) = some r := hF
    by_cases e9 : q = 2
    · replace hF := fi_pos hF e9
      subst e9
      obtain rfl := Option.some.inj hF
      refine g_callVT hC hst [.int x1] (ex := 2) (c_X4_tear l D cy a0 x1 w _ h1) q_1147 q_73 q_1144 q_1145 q_1146 h9_X4_tear (T := TX4) (N := 15) (ci := 4) rfl hk0 ⟨Nat.le_of_ble_eq_true rfl, Nat.le_of_ble_eq_true rfl⟩ ⟨Nat.le_of_ble_eq_true rfl, Nat.le_of_ble_eq_true rfl⟩ (Nat.le_of_ble_eq_true rfl) rfl dL_tear_2 (fun h2 _ hs => ?_)
      show gXt X 1 6 3 w1 h2 gE0 [(0, .ref a0), (1, .int x1)] 2 2
      refine g_catchL hC hL hT [] ⟨0, 5, 6, 32⟩ [⟨0, 5, 10, 22⟩] rfl (fun z hz => absurd hz List.not_mem_nil) (by decide) (by decide) q_316 q_411 (fun q9 => ?_)
      refine g_astore_n (L' := [(2, .ref q9), (0, .ref a0), (1, .int x1)]) hC dL_tear_6 rfl (by decide) rfl ?_
      refine g_bipush (v := (-77)) hC dL_tear_7 (by decide) ?_
      exact g_iret hC hEn hs dL_tear_9
    replace hF := fi_neg hF e9
    by_cases e9 : q = 4
    · replace hF := fi_pos hF e9
      subst e9
      obtain rfl := Option.some.inj hF
      refine g_callVT hC hst [.int x1] (ex := 4) (c_X4_tear l D cy a0 x1 w _ h1) q_1147 q_73 q_1144 q_1145 q_1146 h9_X4_tear (T := TX4) (N := 15) (ci := 4) rfl hk0 ⟨Nat.le_of_ble_eq_true rfl, Nat.le_of_ble_eq_true rfl⟩ ⟨Nat.le_of_ble_eq_true rfl, Nat.le_of_ble_eq_true rfl⟩ (Nat.le_of_ble_eq_true rfl) rfl dL_tear_2 (fun h2 _ hs => ?_)
      show gXt X 1 6 3 w1 h2 gE0 [(0, .ref a0), (1, .int x1)] 4 2
      have hpass : ∀ z ∈ ([⟨0, 5, 6, 32⟩] : List ExceptionTableEntry), z.catchType ≠ 0 ∧ ∃ nm : String, Cond.classLink RL z.catchType nm ∈ lwA ∧ (exN 4, nm) ∈ ncL := by
        intro z hz
        simp only [List.mem_cons, List.not_mem_nil, or_false] at hz
        subst hz
        exact ⟨by decide, _, q_316, by decide +kernel⟩
      refine g_catchL hC hL hT [⟨0, 5, 6, 32⟩] ⟨0, 5, 10, 22⟩ [] rfl hpass (by decide) (by decide) q_881 q_1050 (fun q9 => ?_)
      refine g_astore_n (L' := [(2, .ref q9), (0, .ref a0), (1, .int x1)]) hC dL_tear_10 rfl (by decide) rfl ?_
      refine g_bipush (v := (-76)) hC dL_tear_11 (by decide) ?_
      exact g_iret hC hEn hs dL_tear_13
    replace hF := fi_neg hF e9
    cases hF
theorem dL_lose_0 : decode cL_lose 0 = .ok (.aload_n 0, 1) := by decide +kernel
theorem dL_lose_1 : decode cL_lose 1 = .ok (.iload_n 1, 1) := by decide +kernel
theorem dL_lose_2 : decode cL_lose 2 = .ok (.iload_n 2, 1) := by decide +kernel
theorem dL_lose_3 : decode cL_lose 3 = .ok (.invokevirtual 65, 3) := by decide +kernel
theorem dL_lose_6 : decode cL_lose 6 = .ok (.ireturn, 1) := by decide +kernel
theorem dL_lose_7 : decode cL_lose 7 = .ok (.astore_n 3, 1) := by decide +kernel
theorem dL_lose_8 : decode cL_lose 8 = .ok (.bipush (-77), 2) := by decide +kernel
theorem dL_lose_10 : decode cL_lose 10 = .ok (.ireturn, 1) := by decide +kernel
theorem dL_lose_11 : decode cL_lose 11 = .ok (.astore_n 3, 1) := by decide +kernel
theorem dL_lose_12 : decode cL_lose 12 = .ok (.bipush (-76), 2) := by decide +kernel
theorem dL_lose_14 : decode cL_lose 14 = .ok (.ireturn, 1) := by decide +kernel
theorem h9_L_lose : yL_lose.cls ≠ "java/lang/invoke/MethodHandle" ∧ yL_lose.cls ≠ "java/lang/invoke/VarHandle" ∧ (parseMethodDescriptor yL_lose.desc).map (fun d => d.parameters.length) = some 3 := by decide +kernel
noncomputable def F_L_lose (a0 : Nat) (x1 : Int32) (x2 : Int32) (w : FW) : Option (Int32 × FW) :=
  fg (w.1 a0 = 5) inferInstance ((F_X4_lose a0 x1 x2 w).bind (fun r1 => fse r1.1 (fun v => some (v, r1.2)) (fun q => (if q = 2 then some (((-77) : Int32), r1.2) else (if q = 4 then some (((-76) : Int32), r1.2) else none)))))
set_option maxHeartbeats 4000000 in
set_option maxRecDepth 100000 in
theorem c_L_lose (l : Launch) (D : va_G) (cy : Nat → ClassId) (a0 : Nat) (x1 : Int32) (x2 : Int32) (w : FW) (r : Int32 × FW) (hF : F_L_lose a0 x1 x2 w = some r) : lSpec l D cy yL_lose (.codeWith yL_lose cL_lose 4 (some .int) [(0, 6, 7, 32), (0, 6, 11, 22)]) { frames := 8, cells := 1, slots := 6, locals := 143 } [.ref a0, .int x1, .int x2] gE0 none w r.2 (some (.int r.1)) := by
  refine l_beginW (by decide +kernel) (Nat.le_of_ble_eq_true rfl) (fun X h hC hEn hL hT => ?_)
  have hst := lOK_st hC hL
  unfold F_L_lose at hF
  obtain ⟨hk0, hF⟩ := fg_open hF
  obtain ⟨o9, h1, hF⟩ := fb_open hF
  show gAt X 0 0 4 w h gE0 [(0, .ref a0), (1, .int x1), (2, .int x2)] [] 0
  refine g_aload_n hC dL_lose_0 rfl 0 rfl ?_
  refine g_iload_n hC dL_lose_1 rfl 1 rfl ?_
  refine g_iload_n hC dL_lose_2 rfl 2 rfl ?_
  obtain ⟨o9, w1⟩ := o9
  rcases o9 with v | q
  · obtain rfl := Option.some.inj hF
    refine g_callVR hC hst [.int x1, .int x2] (rv := some (.int v)) (c_X4_lose l D cy a0 x1 x2 w _ h1) q_1154 q_73 q_1151 q_1152 q_1153 h9_X4_lose (T := TX4) (N := 15) (ci := 4) rfl hk0 ⟨Nat.le_of_ble_eq_true rfl, Nat.le_of_ble_eq_true rfl⟩ ⟨Nat.le_of_ble_eq_true rfl, Nat.le_of_ble_eq_true rfl⟩ (Nat.le_of_ble_eq_true rfl) rfl dL_lose_3 (fun h2 _ hs => ?_)
    show gAt X 1 6 4 w1 h2 gE0 [(0, .ref a0), (1, .int x1), (2, .int x2)] [.int v] 6
    exact g_iret hC hEn hs dL_lose_6
  · replace hF : (if q = 2 then some (((-77) : Int32), w1) else (if q = 4 then some (((-76) : Int32), w1) else none)) = some r := hF
    by_cases e9 : q = 2
    · replace hF := fi_pos hF e9
      subst e9
      obtain rfl := Option.some.inj hF
      refine g_callVT hC hst [.int x1, .int x2] (ex := 2) (c_X4_lose l D cy a0 x1 x2 w _ h1) q_1154 q_73 q_1151 q_1152 q_1153 h9_X4_lose (T := TX4) (N := 15) (ci := 4) rfl hk0 ⟨Nat.le_of_ble_eq_true rfl, Nat.le_of_ble_eq_true rfl⟩ ⟨Nat.le_of_ble_eq_true rfl, Nat.le_of_ble_eq_true rfl⟩ (Nat.le_of_ble_eq_true rfl) rfl dL_lose_3 (fun h2 _ hs => ?_)
      show gXt X 1 6 4 w1 h2 gE0 [(0, .ref a0), (1, .int x1), (2, .int x2)] 2 3
      refine g_catchL hC hL hT [] ⟨0, 6, 7, 32⟩ [⟨0, 6, 11, 22⟩] rfl (fun z hz => absurd hz List.not_mem_nil) (by decide) (by decide) q_316 q_411 (fun q9 => ?_)
      refine g_astore_n (L' := [(3, .ref q9), (0, .ref a0), (1, .int x1), (2, .int x2)]) hC dL_lose_7 rfl (by decide) rfl ?_
      refine g_bipush (v := (-77)) hC dL_lose_8 (by decide) ?_
      exact g_iret hC hEn hs dL_lose_10
    replace hF := fi_neg hF e9
    by_cases e9 : q = 4
    · replace hF := fi_pos hF e9
      subst e9
      obtain rfl := Option.some.inj hF
      refine g_callVT hC hst [.int x1, .int x2] (ex := 4) (c_X4_lose l D cy a0 x1 x2 w _ h1) q_1154 q_73 q_1151 q_1152 q_1153 h9_X4_lose (T := TX4) (N := 15) (ci := 4) rfl hk0 ⟨Nat.le_of_ble_eq_true rfl, Nat.le_of_ble_eq_true rfl⟩ ⟨Nat.le_of_ble_eq_true rfl, Nat.le_of_ble_eq_true rfl⟩ (Nat.le_of_ble_eq_true rfl) rfl dL_lose_3 (fun h2 _ hs => ?_)
      show gXt X 1 6 4 w1 h2 gE0 [(0, .ref a0), (1, .int x1), (2, .int x2)] 4 3
      have hpass : ∀ z ∈ ([⟨0, 6, 7, 32⟩] : List ExceptionTableEntry), z.catchType ≠ 0 ∧ ∃ nm : String, Cond.classLink RL z.catchType nm ∈ lwA ∧ (exN 4, nm) ∈ ncL := by
        intro z hz
        simp only [List.mem_cons, List.not_mem_nil, or_false] at hz
        subst hz
        exact ⟨by decide, _, q_316, by decide +kernel⟩
      refine g_catchL hC hL hT [⟨0, 6, 7, 32⟩] ⟨0, 6, 11, 22⟩ [] rfl hpass (by decide) (by decide) q_881 q_1050 (fun q9 => ?_)
      refine g_astore_n (L' := [(3, .ref q9), (0, .ref a0), (1, .int x1), (2, .int x2)]) hC dL_lose_11 rfl (by decide) rfl ?_
      refine g_bipush (v := (-76)) hC dL_lose_12 (by decide) ?_
      exact g_iret hC hEn hs dL_lose_14
    replace hF := fi_neg hF e9
    cases hF
theorem dL_find_0 : decode cL_find 0 = .ok (.aload_n 0, 1) := by decide +kernel
theorem dL_find_1 : decode cL_find 1 = .ok (.iload_n 1, 1) := by decide +kernel
theorem dL_find_2 : decode cL_find 2 = .ok (.iload_n 2, 1) := by decide +kernel
theorem dL_find_3 : decode cL_find 3 = .ok (.invokevirtual 68, 3) := by decide +kernel
theorem dL_find_6 : decode cL_find 6 = .ok (.ireturn, 1) := by decide +kernel
theorem dL_find_7 : decode cL_find 7 = .ok (.astore_n 3, 1) := by decide +kernel
theorem dL_find_8 : decode cL_find 8 = .ok (.bipush (-77), 2) := by decide +kernel
theorem dL_find_10 : decode cL_find 10 = .ok (.ireturn, 1) := by decide +kernel
theorem dL_find_11 : decode cL_find 11 = .ok (.astore_n 3, 1) := by decide +kernel
theorem dL_find_12 : decode cL_find 12 = .ok (.bipush (-76), 2) := by decide +kernel
theorem dL_find_14 : decode cL_find 14 = .ok (.ireturn, 1) := by decide +kernel
theorem h9_L_find : yL_find.cls ≠ "java/lang/invoke/MethodHandle" ∧ yL_find.cls ≠ "java/lang/invoke/VarHandle" ∧ (parseMethodDescriptor yL_find.desc).map (fun d => d.parameters.length) = some 3 := by decide +kernel
noncomputable def F_L_find (a0 : Nat) (x1 : Int32) (x2 : Int32) (w : FW) : Option (Int32 × FW) :=
  fg (w.1 a0 = 5) inferInstance ((F_X4_find a0 x1 x2 w).bind (fun r1 => fse r1.1 (fun v => some (v, r1.2)) (fun q => (if q = 2 then some (((-77) : Int32), r1.2) else (if q = 4 then some (((-76) : Int32), r1.2) else none)))))
set_option maxHeartbeats 4000000 in
set_option maxRecDepth 100000 in
theorem c_L_find (l : Launch) (D : va_G) (cy : Nat → ClassId) (a0 : Nat) (x1 : Int32) (x2 : Int32) (w : FW) (r : Int32 × FW) (hF : F_L_find a0 x1 x2 w = some r) : lSpec l D cy yL_find (.codeWith yL_find cL_find 4 (some .int) [(0, 6, 7, 32), (0, 6, 11, 22)]) { frames := 8, cells := 1, slots := 6, locals := 143 } [.ref a0, .int x1, .int x2] gE0 none w r.2 (some (.int r.1)) := by
  refine l_beginW (by decide +kernel) (Nat.le_of_ble_eq_true rfl) (fun X h hC hEn hL hT => ?_)
  have hst := lOK_st hC hL
  unfold F_L_find at hF
  obtain ⟨hk0, hF⟩ := fg_open hF
  obtain ⟨o9, h1, hF⟩ := fb_open hF
  show gAt X 0 0 4 w h gE0 [(0, .ref a0), (1, .int x1), (2, .int x2)] [] 0
  refine g_aload_n hC dL_find_0 rfl 0 rfl ?_
  refine g_iload_n hC dL_find_1 rfl 1 rfl ?_
  refine g_iload_n hC dL_find_2 rfl 2 rfl ?_
  obtain ⟨o9, w1⟩ := o9
  rcases o9 with v | q
  · obtain rfl := Option.some.inj hF
    refine g_callVR hC hst [.int x1, .int x2] (rv := some (.int v)) (c_X4_find l D cy a0 x1 x2 w _ h1) q_1161 q_73 q_1158 q_1159 q_1160 h9_X4_find (T := TX4) (N := 15) (ci := 4) rfl hk0 ⟨Nat.le_of_ble_eq_true rfl, Nat.le_of_ble_eq_true rfl⟩ ⟨Nat.le_of_ble_eq_true rfl, Nat.le_of_ble_eq_true rfl⟩ (Nat.le_of_ble_eq_true rfl) rfl dL_find_3 (fun h2 _ hs => ?_)
    show gAt X 1 6 4 w1 h2 gE0 [(0, .ref a0), (1, .int x1), (2, .int x2)] [.int v] 6
    exact g_iret hC hEn hs dL_find_6
  · replace hF : (if q = 2 then some (((-77) : Int32), w1) else (if q = 4 then some (((-76) : Int32), w1) else none)) = some r := hF
    by_cases e9 : q = 2
    · replace hF := fi_pos hF e9
      subst e9
      obtain rfl := Option.some.inj hF
      refine g_callVT hC hst [.int x1, .int x2] (ex := 2) (c_X4_find l D cy a0 x1 x2 w _ h1) q_1161 q_73 q_1158 q_1159 q_1160 h9_X4_find (T := TX4) (N := 15) (ci := 4) rfl hk0 ⟨Nat.le_of_ble_eq_true rfl, Nat.le_of_ble_eq_true rfl⟩ ⟨Nat.le_of_ble_eq_true rfl, Nat.le_of_ble_eq_true rfl⟩ (Nat.le_of_ble_eq_true rfl) rfl dL_find_3 (fun h2 _ hs => ?_)
      show gXt X 1 6 4 w1 h2 gE0 [(0, .ref a0), (1, .int x1), (2, .int x2)] 2 3
      refine g_catchL hC hL hT [] ⟨0, 6, 7, 32⟩ [⟨0, 6, 11, 22⟩] rfl (fun z hz => absurd hz List.not_mem_nil) (by decide) (by decide) q_316 q_411 (fun q9 => ?_)
      refine g_astore_n (L' := [(3, .ref q9), (0, .ref a0), (1, .int x1), (2, .int x2)]) hC dL_find_7 rfl (by decide) rfl ?_
      refine g_bipush (v := (-77)) hC dL_find_8 (by decide) ?_
      exact g_iret hC hEn hs dL_find_10
    replace hF := fi_neg hF e9
    by_cases e9 : q = 4
    · replace hF := fi_pos hF e9
      subst e9
      obtain rfl := Option.some.inj hF
      refine g_callVT hC hst [.int x1, .int x2] (ex := 4) (c_X4_find l D cy a0 x1 x2 w _ h1) q_1161 q_73 q_1158 q_1159 q_1160 h9_X4_find (T := TX4) (N := 15) (ci := 4) rfl hk0 ⟨Nat.le_of_ble_eq_true rfl, Nat.le_of_ble_eq_true rfl⟩ ⟨Nat.le_of_ble_eq_true rfl, Nat.le_of_ble_eq_true rfl⟩ (Nat.le_of_ble_eq_true rfl) rfl dL_find_3 (fun h2 _ hs => ?_)
      show gXt X 1 6 4 w1 h2 gE0 [(0, .ref a0), (1, .int x1), (2, .int x2)] 4 3
      have hpass : ∀ z ∈ ([⟨0, 6, 7, 32⟩] : List ExceptionTableEntry), z.catchType ≠ 0 ∧ ∃ nm : String, Cond.classLink RL z.catchType nm ∈ lwA ∧ (exN 4, nm) ∈ ncL := by
        intro z hz
        simp only [List.mem_cons, List.not_mem_nil, or_false] at hz
        subst hz
        exact ⟨by decide, _, q_316, by decide +kernel⟩
      refine g_catchL hC hL hT [⟨0, 6, 7, 32⟩] ⟨0, 6, 11, 22⟩ [] rfl hpass (by decide) (by decide) q_881 q_1050 (fun q9 => ?_)
      refine g_astore_n (L' := [(3, .ref q9), (0, .ref a0), (1, .int x1), (2, .int x2)]) hC dL_find_11 rfl (by decide) rfl ?_
      refine g_bipush (v := (-76)) hC dL_find_12 (by decide) ?_
      exact g_iret hC hEn hs dL_find_14
    replace hF := fi_neg hF e9
    cases hF
theorem dL_halfOf_0 : decode cL_halfOf 0 = .ok (.aload_n 0, 1) := by decide +kernel
theorem dL_halfOf_1 : decode cL_halfOf 1 = .ok (.iload_n 1, 1) := by decide +kernel
theorem dL_halfOf_2 : decode cL_halfOf 2 = .ok (.iload_n 2, 1) := by decide +kernel
theorem dL_halfOf_3 : decode cL_halfOf 3 = .ok (.iload_n 3, 1) := by decide +kernel
theorem dL_halfOf_4 : decode cL_halfOf 4 = .ok (.invokevirtual 71, 3) := by decide +kernel
theorem dL_halfOf_7 : decode cL_halfOf 7 = .ok (.ireturn, 1) := by decide +kernel
theorem dL_halfOf_8 : decode cL_halfOf 8 = .ok (.astore 4, 2) := by decide +kernel
theorem dL_halfOf_10 : decode cL_halfOf 10 = .ok (.bipush (-77), 2) := by decide +kernel
theorem dL_halfOf_12 : decode cL_halfOf 12 = .ok (.ireturn, 1) := by decide +kernel
theorem dL_halfOf_13 : decode cL_halfOf 13 = .ok (.astore 4, 2) := by decide +kernel
theorem dL_halfOf_15 : decode cL_halfOf 15 = .ok (.bipush (-78), 2) := by decide +kernel
theorem dL_halfOf_17 : decode cL_halfOf 17 = .ok (.ireturn, 1) := by decide +kernel
theorem h9_L_halfOf : yL_halfOf.cls ≠ "java/lang/invoke/MethodHandle" ∧ yL_halfOf.cls ≠ "java/lang/invoke/VarHandle" ∧ (parseMethodDescriptor yL_halfOf.desc).map (fun d => d.parameters.length) = some 4 := by decide +kernel
noncomputable def F_L_halfOf (a0 : Nat) (x1 : Int32) (x2 : Int32) (x3 : Int32) (w : FW) : Option (Int32) :=
  fg (w.1 a0 = 5) inferInstance ((F_X4_halfOf a0 x1 x2 x3 w).bind (fun r1 => fse r1 (fun v => some v) (fun q => (if q = 2 then some ((-77) : Int32) else (if q = 1 then some ((-78) : Int32) else none)))))
set_option maxHeartbeats 4000000 in
set_option maxRecDepth 100000 in
theorem c_L_halfOf (l : Launch) (D : va_G) (cy : Nat → ClassId) (a0 : Nat) (x1 : Int32) (x2 : Int32) (x3 : Int32) (w : FW) (r : Int32) (hF : F_L_halfOf a0 x1 x2 x3 w = some r) : lSpec l D cy yL_halfOf (.codeWith yL_halfOf cL_halfOf 5 (some .int) [(0, 7, 8, 32), (0, 7, 13, 20)]) { frames := 8, cells := 2, slots := 12, locals := 161 } [.ref a0, .int x1, .int x2, .int x3] gE0 none w w (some (.int r)) := by
  refine l_beginW (by decide +kernel) (Nat.le_of_ble_eq_true rfl) (fun X h hC hEn hL hT => ?_)
  have hst := lOK_st hC hL
  unfold F_L_halfOf at hF
  obtain ⟨hk0, hF⟩ := fg_open hF
  obtain ⟨o9, h1, hF⟩ := fb_open hF
  show gAt X 0 0 5 w h gE0 [(0, .ref a0), (1, .int x1), (2, .int x2), (3, .int x3)] [] 0
  refine g_aload_n hC dL_halfOf_0 rfl 0 rfl ?_
  refine g_iload_n hC dL_halfOf_1 rfl 1 rfl ?_
  refine g_iload_n hC dL_halfOf_2 rfl 2 rfl ?_
  refine g_iload_n hC dL_halfOf_3 rfl 3 rfl ?_
  rcases o9 with v | q
  · obtain rfl := Option.some.inj hF
    refine g_callVR hC hst [.int x1, .int x2, .int x3] (rv := some (.int v)) (c_X4_halfOf l D cy a0 x1 x2 x3 w _ h1) q_400 q_73 q_397 q_398 q_399 h9_X4_halfOf (T := TX4) (N := 15) (ci := 4) rfl hk0 ⟨Nat.le_of_ble_eq_true rfl, Nat.le_of_ble_eq_true rfl⟩ ⟨Nat.le_of_ble_eq_true rfl, Nat.le_of_ble_eq_true rfl⟩ (Nat.le_of_ble_eq_true rfl) rfl dL_halfOf_4 (fun h2 _ hs => ?_)
    show gAt X 2 12 5 w h2 gE0 [(0, .ref a0), (1, .int x1), (2, .int x2), (3, .int x3)] [.int v] 7
    exact g_iret hC hEn (fSm.rf w) dL_halfOf_7
  · replace hF : (if q = 2 then some ((-77) : Int32) else (if q = 1 then some ((-78) : Int32) else none)) = some r := hF
    by_cases e9 : q = 2
    · replace hF := fi_pos hF e9
      subst e9
      obtain rfl := Option.some.inj hF
      refine g_callVT hC hst [.int x1, .int x2, .int x3] (ex := 2) (c_X4_halfOf l D cy a0 x1 x2 x3 w _ h1) q_400 q_73 q_397 q_398 q_399 h9_X4_halfOf (T := TX4) (N := 15) (ci := 4) rfl hk0 ⟨Nat.le_of_ble_eq_true rfl, Nat.le_of_ble_eq_true rfl⟩ ⟨Nat.le_of_ble_eq_true rfl, Nat.le_of_ble_eq_true rfl⟩ (Nat.le_of_ble_eq_true rfl) rfl dL_halfOf_4 (fun h2 _ hs => ?_)
      show gXt X 2 12 5 w h2 gE0 [(0, .ref a0), (1, .int x1), (2, .int x2), (3, .int x3)] 2 4
      refine g_catchL hC hL hT [] ⟨0, 7, 8, 32⟩ [⟨0, 7, 13, 20⟩] rfl (fun z hz => absurd hz List.not_mem_nil) (by decide) (by decide) q_316 q_411 (fun q9 => ?_)
      refine g_astore (L' := [(4, .ref q9), (0, .ref a0), (1, .int x1), (2, .int x2), (3, .int x3)]) hC dL_halfOf_8 (by decide) rfl ?_
      refine g_bipush (v := (-77)) hC dL_halfOf_10 (by decide) ?_
      exact g_iret hC hEn (fSm.rf w) dL_halfOf_12
    replace hF := fi_neg hF e9
    by_cases e9 : q = 1
    · replace hF := fi_pos hF e9
      subst e9
      obtain rfl := Option.some.inj hF
      refine g_callVT hC hst [.int x1, .int x2, .int x3] (ex := 1) (c_X4_halfOf l D cy a0 x1 x2 x3 w _ h1) q_400 q_73 q_397 q_398 q_399 h9_X4_halfOf (T := TX4) (N := 15) (ci := 4) rfl hk0 ⟨Nat.le_of_ble_eq_true rfl, Nat.le_of_ble_eq_true rfl⟩ ⟨Nat.le_of_ble_eq_true rfl, Nat.le_of_ble_eq_true rfl⟩ (Nat.le_of_ble_eq_true rfl) rfl dL_halfOf_4 (fun h2 _ hs => ?_)
      show gXt X 2 12 5 w h2 gE0 [(0, .ref a0), (1, .int x1), (2, .int x2), (3, .int x3)] 1 4
      have hpass : ∀ z ∈ ([⟨0, 7, 8, 32⟩] : List ExceptionTableEntry), z.catchType ≠ 0 ∧ ∃ nm : String, Cond.classLink RL z.catchType nm ∈ lwA ∧ (exN 1, nm) ∈ ncL := by
        intro z hz
        simp only [List.mem_cons, List.not_mem_nil, or_false] at hz
        subst hz
        exact ⟨by decide, _, q_316, by decide +kernel⟩
      refine g_catchL hC hL hT [⟨0, 7, 8, 32⟩] ⟨0, 7, 13, 20⟩ [] rfl hpass (by decide) (by decide) q_396 q_499 (fun q9 => ?_)
      refine g_astore (L' := [(4, .ref q9), (0, .ref a0), (1, .int x1), (2, .int x2), (3, .int x3)]) hC dL_halfOf_13 (by decide) rfl ?_
      refine g_bipush (v := (-78)) hC dL_halfOf_15 (by decide) ?_
      exact g_iret hC hEn (fSm.rf w) dL_halfOf_17
    replace hF := fi_neg hF e9
    cases hF
theorem dL_readAt_0 : decode cL_readAt 0 = .ok (.aload_n 0, 1) := by decide +kernel
theorem dL_readAt_1 : decode cL_readAt 1 = .ok (.iload_n 1, 1) := by decide +kernel
theorem dL_readAt_2 : decode cL_readAt 2 = .ok (.iload_n 2, 1) := by decide +kernel
theorem dL_readAt_3 : decode cL_readAt 3 = .ok (.iload_n 3, 1) := by decide +kernel
theorem dL_readAt_4 : decode cL_readAt 4 = .ok (.invokevirtual 74, 3) := by decide +kernel
theorem dL_readAt_7 : decode cL_readAt 7 = .ok (.ireturn, 1) := by decide +kernel
theorem dL_readAt_8 : decode cL_readAt 8 = .ok (.astore 4, 2) := by decide +kernel
theorem dL_readAt_10 : decode cL_readAt 10 = .ok (.bipush (-77), 2) := by decide +kernel
theorem dL_readAt_12 : decode cL_readAt 12 = .ok (.ireturn, 1) := by decide +kernel
theorem dL_readAt_13 : decode cL_readAt 13 = .ok (.astore 4, 2) := by decide +kernel
theorem dL_readAt_15 : decode cL_readAt 15 = .ok (.bipush (-75), 2) := by decide +kernel
theorem dL_readAt_17 : decode cL_readAt 17 = .ok (.ireturn, 1) := by decide +kernel
theorem h9_L_readAt : yL_readAt.cls ≠ "java/lang/invoke/MethodHandle" ∧ yL_readAt.cls ≠ "java/lang/invoke/VarHandle" ∧ (parseMethodDescriptor yL_readAt.desc).map (fun d => d.parameters.length) = some 4 := by decide +kernel
noncomputable def F_L_readAt (a0 : Nat) (x1 : Int32) (x2 : Int32) (x3 : Int32) (w : FW) : Option (Int32) :=
  fg (w.1 a0 = 5) inferInstance ((F_X4_readAt a0 x1 x2 x3 w).bind (fun r1 => fse r1 (fun v => some v) (fun q => (if q = 2 then some ((-77) : Int32) else (if q = 5 then some ((-75) : Int32) else none)))))
set_option maxHeartbeats 4000000 in
set_option maxRecDepth 100000 in
theorem c_L_readAt (l : Launch) (D : va_G) (cy : Nat → ClassId) (a0 : Nat) (x1 : Int32) (x2 : Int32) (x3 : Int32) (w : FW) (r : Int32) (hF : F_L_readAt a0 x1 x2 x3 w = some r) : lSpec l D cy yL_readAt (.codeWith yL_readAt cL_readAt 5 (some .int) [(0, 7, 8, 32), (0, 7, 13, 53)]) { frames := 8, cells := 3, slots := 18, locals := 156 } [.ref a0, .int x1, .int x2, .int x3] gE0 none w w (some (.int r)) := by
  refine l_beginW (by decide +kernel) (Nat.le_of_ble_eq_true rfl) (fun X h hC hEn hL hT => ?_)
  have hst := lOK_st hC hL
  unfold F_L_readAt at hF
  obtain ⟨hk0, hF⟩ := fg_open hF
  obtain ⟨o9, h1, hF⟩ := fb_open hF
  show gAt X 0 0 5 w h gE0 [(0, .ref a0), (1, .int x1), (2, .int x2), (3, .int x3)] [] 0
  refine g_aload_n hC dL_readAt_0 rfl 0 rfl ?_
  refine g_iload_n hC dL_readAt_1 rfl 1 rfl ?_
  refine g_iload_n hC dL_readAt_2 rfl 2 rfl ?_
  refine g_iload_n hC dL_readAt_3 rfl 3 rfl ?_
  rcases o9 with v | q
  · obtain rfl := Option.some.inj hF
    refine g_callVR hC hst [.int x1, .int x2, .int x3] (rv := some (.int v)) (c_X4_readAt l D cy a0 x1 x2 x3 w _ h1) q_1220 q_73 q_1217 q_1218 q_1219 h9_X4_readAt (T := TX4) (N := 15) (ci := 4) rfl hk0 ⟨Nat.le_of_ble_eq_true rfl, Nat.le_of_ble_eq_true rfl⟩ ⟨Nat.le_of_ble_eq_true rfl, Nat.le_of_ble_eq_true rfl⟩ (Nat.le_of_ble_eq_true rfl) rfl dL_readAt_4 (fun h2 _ hs => ?_)
    show gAt X 3 18 5 w h2 gE0 [(0, .ref a0), (1, .int x1), (2, .int x2), (3, .int x3)] [.int v] 7
    exact g_iret hC hEn (fSm.rf w) dL_readAt_7
  · replace hF : (if q = 2 then some ((-77) : Int32) else (if q = 5 then some ((-75) : Int32) else none)) = some r := hF
    by_cases e9 : q = 2
    · replace hF := fi_pos hF e9
      subst e9
      obtain rfl := Option.some.inj hF
      refine g_callVT hC hst [.int x1, .int x2, .int x3] (ex := 2) (c_X4_readAt l D cy a0 x1 x2 x3 w _ h1) q_1220 q_73 q_1217 q_1218 q_1219 h9_X4_readAt (T := TX4) (N := 15) (ci := 4) rfl hk0 ⟨Nat.le_of_ble_eq_true rfl, Nat.le_of_ble_eq_true rfl⟩ ⟨Nat.le_of_ble_eq_true rfl, Nat.le_of_ble_eq_true rfl⟩ (Nat.le_of_ble_eq_true rfl) rfl dL_readAt_4 (fun h2 _ hs => ?_)
      show gXt X 3 18 5 w h2 gE0 [(0, .ref a0), (1, .int x1), (2, .int x2), (3, .int x3)] 2 4
      refine g_catchL hC hL hT [] ⟨0, 7, 8, 32⟩ [⟨0, 7, 13, 53⟩] rfl (fun z hz => absurd hz List.not_mem_nil) (by decide) (by decide) q_316 q_411 (fun q9 => ?_)
      refine g_astore (L' := [(4, .ref q9), (0, .ref a0), (1, .int x1), (2, .int x2), (3, .int x3)]) hC dL_readAt_8 (by decide) rfl ?_
      refine g_bipush (v := (-77)) hC dL_readAt_10 (by decide) ?_
      exact g_iret hC hEn (fSm.rf w) dL_readAt_12
    replace hF := fi_neg hF e9
    by_cases e9 : q = 5
    · replace hF := fi_pos hF e9
      subst e9
      obtain rfl := Option.some.inj hF
      refine g_callVT hC hst [.int x1, .int x2, .int x3] (ex := 5) (c_X4_readAt l D cy a0 x1 x2 x3 w _ h1) q_1220 q_73 q_1217 q_1218 q_1219 h9_X4_readAt (T := TX4) (N := 15) (ci := 4) rfl hk0 ⟨Nat.le_of_ble_eq_true rfl, Nat.le_of_ble_eq_true rfl⟩ ⟨Nat.le_of_ble_eq_true rfl, Nat.le_of_ble_eq_true rfl⟩ (Nat.le_of_ble_eq_true rfl) rfl dL_readAt_4 (fun h2 _ hs => ?_)
      show gXt X 3 18 5 w h2 gE0 [(0, .ref a0), (1, .int x1), (2, .int x2), (3, .int x3)] 5 4
      have hpass : ∀ z ∈ ([⟨0, 7, 8, 32⟩] : List ExceptionTableEntry), z.catchType ≠ 0 ∧ ∃ nm : String, Cond.classLink RL z.catchType nm ∈ lwA ∧ (exN 5, nm) ∈ ncL := by
        intro z hz
        simp only [List.mem_cons, List.not_mem_nil, or_false] at hz
        subst hz
        exact ⟨by decide, _, q_316, by decide +kernel⟩
      refine g_catchL hC hL hT [⟨0, 7, 8, 32⟩] ⟨0, 7, 13, 53⟩ [] rfl hpass (by decide) (by decide) q_516 q_527 (fun q9 => ?_)
      refine g_astore (L' := [(4, .ref q9), (0, .ref a0), (1, .int x1), (2, .int x2), (3, .int x3)]) hC dL_readAt_13 (by decide) rfl ?_
      refine g_bipush (v := (-75)) hC dL_readAt_15 (by decide) ?_
      exact g_iret hC hEn (fSm.rf w) dL_readAt_17
    replace hF := fi_neg hF e9
    cases hF
theorem dL_doAgree_0 : decode cL_doAgree 0 = .ok (.aload_n 0, 1) := by decide +kernel
theorem dL_doAgree_1 : decode cL_doAgree 1 = .ok (.iload_n 1, 1) := by decide +kernel
theorem dL_doAgree_2 : decode cL_doAgree 2 = .ok (.iload_n 2, 1) := by decide +kernel
theorem dL_doAgree_3 : decode cL_doAgree 3 = .ok (.invokevirtual 78, 3) := by decide +kernel
theorem dL_doAgree_6 : decode cL_doAgree 6 = .ok (.ifCond .eq 7, 3) := by decide +kernel
theorem dL_doAgree_9 : decode cL_doAgree 9 = .ok (.iconst 1, 1) := by decide +kernel
theorem dL_doAgree_10 : decode cL_doAgree 10 = .ok (.goto 4, 3) := by decide +kernel
theorem dL_doAgree_13 : decode cL_doAgree 13 = .ok (.iconst 0, 1) := by decide +kernel
theorem dL_doAgree_14 : decode cL_doAgree 14 = .ok (.ireturn, 1) := by decide +kernel
theorem dL_doAgree_15 : decode cL_doAgree 15 = .ok (.astore_n 3, 1) := by decide +kernel
theorem dL_doAgree_16 : decode cL_doAgree 16 = .ok (.bipush (-77), 2) := by decide +kernel
theorem dL_doAgree_18 : decode cL_doAgree 18 = .ok (.ireturn, 1) := by decide +kernel
theorem h9_L_doAgree : yL_doAgree.cls ≠ "java/lang/invoke/MethodHandle" ∧ yL_doAgree.cls ≠ "java/lang/invoke/VarHandle" ∧ (parseMethodDescriptor yL_doAgree.desc).map (fun d => d.parameters.length) = some 3 := by decide +kernel
noncomputable def F_L_doAgree (a0 : Nat) (x1 : Int32) (x2 : Int32) (w : FW) : Option (Int32) :=
  fg (w.1 a0 = 5) inferInstance ((F_X4_doAgree a0 x1 x2 w).bind (fun r1 => fse r1 (fun v => some (if v = 0 then 0 else 1)) (fun q => (if q = 2 then some ((-77) : Int32) else none))))
set_option maxHeartbeats 4000000 in
set_option maxRecDepth 100000 in
theorem c_L_doAgree (l : Launch) (D : va_G) (cy : Nat → ClassId) (a0 : Nat) (x1 : Int32) (x2 : Int32) (w : FW) (r : Int32) (hF : F_L_doAgree a0 x1 x2 w = some r) : lSpec l D cy yL_doAgree (.codeWith yL_doAgree cL_doAgree 4 (some .int) [(0, 14, 15, 32)]) { frames := 8, cells := 1, slots := 6, locals := 176 } [.ref a0, .int x1, .int x2] gE0 none w w (some (.int r)) := by
  refine l_beginW (by decide +kernel) (Nat.le_of_ble_eq_true rfl) (fun X h hC hEn hL hT => ?_)
  have hst := lOK_st hC hL
  unfold F_L_doAgree at hF
  obtain ⟨hk0, hF⟩ := fg_open hF
  obtain ⟨o9, h1, hF⟩ := fb_open hF
  show gAt X 0 0 4 w h gE0 [(0, .ref a0), (1, .int x1), (2, .int x2)] [] 0
  refine g_aload_n hC dL_doAgree_0 rfl 0 rfl ?_
  refine g_iload_n hC dL_doAgree_1 rfl 1 rfl ?_
  refine g_iload_n hC dL_doAgree_2 rfl 2 rfl ?_
  rcases o9 with v | q
  · obtain rfl := Option.some.inj hF
    refine g_callVR hC hst [.int x1, .int x2] (rv := some (.int v)) (c_X4_doAgree l D cy a0 x1 x2 w _ h1) q_1279 q_73 q_1276 q_1277 q_1278 h9_X4_doAgree (T := TX4) (N := 15) (ci := 4) rfl hk0 ⟨Nat.le_of_ble_eq_true rfl, Nat.le_of_ble_eq_true rfl⟩ ⟨Nat.le_of_ble_eq_true rfl, Nat.le_of_ble_eq_true rfl⟩ (Nat.le_of_ble_eq_true rfl) rfl dL_doAgree_3 (fun h2 _ hs => ?_)
    show gAt X 1 6 4 w h2 gE0 [(0, .ref a0), (1, .int x1), (2, .int x2)] [.int v] 6
    refine g_if_eq hC 13 dL_doAgree_6 (by decide) (fun c9 => ?_) (fun c9 => ?_)
    · refine g_iconst (v := 0) hC dL_doAgree_13 (by decide) ?_
      rw [if_pos c9] at hEn
      exact g_iret hC hEn (fSm.rf w) dL_doAgree_14
    · refine g_iconst (v := 1) hC dL_doAgree_9 (by decide) ?_
      refine g_goto hC 14 dL_doAgree_10 (by decide) ?_
      rw [if_neg c9] at hEn
      exact g_iret hC hEn (fSm.rf w) dL_doAgree_14
  · replace hF : (if q = 2 then some ((-77) : Int32) else none) = some r := hF
    by_cases e9 : q = 2
    · replace hF := fi_pos hF e9
      subst e9
      obtain rfl := Option.some.inj hF
      refine g_callVT hC hst [.int x1, .int x2] (ex := 2) (c_X4_doAgree l D cy a0 x1 x2 w _ h1) q_1279 q_73 q_1276 q_1277 q_1278 h9_X4_doAgree (T := TX4) (N := 15) (ci := 4) rfl hk0 ⟨Nat.le_of_ble_eq_true rfl, Nat.le_of_ble_eq_true rfl⟩ ⟨Nat.le_of_ble_eq_true rfl, Nat.le_of_ble_eq_true rfl⟩ (Nat.le_of_ble_eq_true rfl) rfl dL_doAgree_3 (fun h2 _ hs => ?_)
      show gXt X 1 6 4 w h2 gE0 [(0, .ref a0), (1, .int x1), (2, .int x2)] 2 3
      refine g_catchL hC hL hT [] ⟨0, 14, 15, 32⟩ [] rfl (fun z hz => absurd hz List.not_mem_nil) (by decide) (by decide) q_316 q_411 (fun q9 => ?_)
      refine g_astore_n (L' := [(3, .ref q9), (0, .ref a0), (1, .int x1), (2, .int x2)]) hC dL_doAgree_15 rfl (by decide) rfl ?_
      refine g_bipush (v := (-77)) hC dL_doAgree_16 (by decide) ?_
      exact g_iret hC hEn (fSm.rf w) dL_doAgree_18
    replace hF := fi_neg hF e9
    cases hF
theorem dL_moodFor_0 : decode cL_moodFor 0 = .ok (.aload_n 0, 1) := by decide +kernel
theorem dL_moodFor_1 : decode cL_moodFor 1 = .ok (.iload_n 1, 1) := by decide +kernel
theorem dL_moodFor_2 : decode cL_moodFor 2 = .ok (.iload_n 2, 1) := by decide +kernel
theorem dL_moodFor_3 : decode cL_moodFor 3 = .ok (.invokevirtual 82, 3) := by decide +kernel
theorem dL_moodFor_6 : decode cL_moodFor 6 = .ok (.ireturn, 1) := by decide +kernel
theorem dL_moodFor_7 : decode cL_moodFor 7 = .ok (.astore_n 3, 1) := by decide +kernel
theorem dL_moodFor_8 : decode cL_moodFor 8 = .ok (.bipush (-77), 2) := by decide +kernel
theorem dL_moodFor_10 : decode cL_moodFor 10 = .ok (.ireturn, 1) := by decide +kernel
theorem dL_moodFor_11 : decode cL_moodFor 11 = .ok (.astore_n 3, 1) := by decide +kernel
theorem dL_moodFor_12 : decode cL_moodFor 12 = .ok (.bipush (-75), 2) := by decide +kernel
theorem dL_moodFor_14 : decode cL_moodFor 14 = .ok (.ireturn, 1) := by decide +kernel
theorem h9_L_moodFor : yL_moodFor.cls ≠ "java/lang/invoke/MethodHandle" ∧ yL_moodFor.cls ≠ "java/lang/invoke/VarHandle" ∧ (parseMethodDescriptor yL_moodFor.desc).map (fun d => d.parameters.length) = some 3 := by decide +kernel
noncomputable def F_L_moodFor (a0 : Nat) (x1 : Int32) (x2 : Int32) (w : FW) : Option (Int32) :=
  fg (w.1 a0 = 5) inferInstance ((F_X4_moodFor a0 x1 x2 w).bind (fun r1 => fse r1 (fun v => some v) (fun q => (if q = 2 then some ((-77) : Int32) else (if q = 5 then some ((-75) : Int32) else none)))))
set_option maxHeartbeats 4000000 in
set_option maxRecDepth 100000 in
theorem c_L_moodFor (l : Launch) (D : va_G) (cy : Nat → ClassId) (a0 : Nat) (x1 : Int32) (x2 : Int32) (w : FW) (r : Int32) (hF : F_L_moodFor a0 x1 x2 w = some r) : lSpec l D cy yL_moodFor (.codeWith yL_moodFor cL_moodFor 4 (some .int) [(0, 6, 7, 32), (0, 6, 11, 53)]) { frames := 8, cells := 3, slots := 18, locals := 161 } [.ref a0, .int x1, .int x2] gE0 none w w (some (.int r)) := by
  refine l_beginW (by decide +kernel) (Nat.le_of_ble_eq_true rfl) (fun X h hC hEn hL hT => ?_)
  have hst := lOK_st hC hL
  unfold F_L_moodFor at hF
  obtain ⟨hk0, hF⟩ := fg_open hF
  obtain ⟨o9, h1, hF⟩ := fb_open hF
  show gAt X 0 0 4 w h gE0 [(0, .ref a0), (1, .int x1), (2, .int x2)] [] 0
  refine g_aload_n hC dL_moodFor_0 rfl 0 rfl ?_
  refine g_iload_n hC dL_moodFor_1 rfl 1 rfl ?_
  refine g_iload_n hC dL_moodFor_2 rfl 2 rfl ?_
  rcases o9 with v | q
  · obtain rfl := Option.some.inj hF
    refine g_callVR hC hst [.int x1, .int x2] (rv := some (.int v)) (c_X4_moodFor l D cy a0 x1 x2 w _ h1) q_1231 q_73 q_1228 q_1229 q_1230 h9_X4_moodFor (T := TX4) (N := 15) (ci := 4) rfl hk0 ⟨Nat.le_of_ble_eq_true rfl, Nat.le_of_ble_eq_true rfl⟩ ⟨Nat.le_of_ble_eq_true rfl, Nat.le_of_ble_eq_true rfl⟩ (Nat.le_of_ble_eq_true rfl) rfl dL_moodFor_3 (fun h2 _ hs => ?_)
    show gAt X 3 18 4 w h2 gE0 [(0, .ref a0), (1, .int x1), (2, .int x2)] [.int v] 6
    exact g_iret hC hEn (fSm.rf w) dL_moodFor_6
  · replace hF : (if q = 2 then some ((-77) : Int32) else (if q = 5 then some ((-75) : Int32) else none)) = some r := hF
    by_cases e9 : q = 2
    · replace hF := fi_pos hF e9
      subst e9
      obtain rfl := Option.some.inj hF
      refine g_callVT hC hst [.int x1, .int x2] (ex := 2) (c_X4_moodFor l D cy a0 x1 x2 w _ h1) q_1231 q_73 q_1228 q_1229 q_1230 h9_X4_moodFor (T := TX4) (N := 15) (ci := 4) rfl hk0 ⟨Nat.le_of_ble_eq_true rfl, Nat.le_of_ble_eq_true rfl⟩ ⟨Nat.le_of_ble_eq_true rfl, Nat.le_of_ble_eq_true rfl⟩ (Nat.le_of_ble_eq_true rfl) rfl dL_moodFor_3 (fun h2 _ hs => ?_)
      show gXt X 3 18 4 w h2 gE0 [(0, .ref a0), (1, .int x1), (2, .int x2)] 2 3
      refine g_catchL hC hL hT [] ⟨0, 6, 7, 32⟩ [⟨0, 6, 11, 53⟩] rfl (fun z hz => absurd hz List.not_mem_nil) (by decide) (by decide) q_316 q_411 (fun q9 => ?_)
      refine g_astore_n (L' := [(3, .ref q9), (0, .ref a0), (1, .int x1), (2, .int x2)]) hC dL_moodFor_7 rfl (by decide) rfl ?_
      refine g_bipush (v := (-77)) hC dL_moodFor_8 (by decide) ?_
      exact g_iret hC hEn (fSm.rf w) dL_moodFor_10
    replace hF := fi_neg hF e9
    by_cases e9 : q = 5
    · replace hF := fi_pos hF e9
      subst e9
      obtain rfl := Option.some.inj hF
      refine g_callVT hC hst [.int x1, .int x2] (ex := 5) (c_X4_moodFor l D cy a0 x1 x2 w _ h1) q_1231 q_73 q_1228 q_1229 q_1230 h9_X4_moodFor (T := TX4) (N := 15) (ci := 4) rfl hk0 ⟨Nat.le_of_ble_eq_true rfl, Nat.le_of_ble_eq_true rfl⟩ ⟨Nat.le_of_ble_eq_true rfl, Nat.le_of_ble_eq_true rfl⟩ (Nat.le_of_ble_eq_true rfl) rfl dL_moodFor_3 (fun h2 _ hs => ?_)
      show gXt X 3 18 4 w h2 gE0 [(0, .ref a0), (1, .int x1), (2, .int x2)] 5 3
      have hpass : ∀ z ∈ ([⟨0, 6, 7, 32⟩] : List ExceptionTableEntry), z.catchType ≠ 0 ∧ ∃ nm : String, Cond.classLink RL z.catchType nm ∈ lwA ∧ (exN 5, nm) ∈ ncL := by
        intro z hz
        simp only [List.mem_cons, List.not_mem_nil, or_false] at hz
        subst hz
        exact ⟨by decide, _, q_316, by decide +kernel⟩
      refine g_catchL hC hL hT [⟨0, 6, 7, 32⟩] ⟨0, 6, 11, 53⟩ [] rfl hpass (by decide) (by decide) q_516 q_527 (fun q9 => ?_)
      refine g_astore_n (L' := [(3, .ref q9), (0, .ref a0), (1, .int x1), (2, .int x2)]) hC dL_moodFor_11 rfl (by decide) rfl ?_
      refine g_bipush (v := (-75)) hC dL_moodFor_12 (by decide) ?_
      exact g_iret hC hEn (fSm.rf w) dL_moodFor_14
    replace hF := fi_neg hF e9
    cases hF
