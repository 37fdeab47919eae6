theorem q_403 : Cond.castable "java/lang/IndexOutOfBoundsException" "java/lang/IndexOutOfBoundsException" ∈ lwN := mN 403 (by decide +kernel) rfl
theorem q_475 : Cond.castable "java/lang/IllegalArgumentException" "java/lang/IllegalArgumentException" ∈ lwN := mN 475 (by decide +kernel) rfl
theorem q_491 : Cond.castable "java/lang/UnsupportedOperationException" "java/lang/UnsupportedOperationException" ∈ lwN := mN 491 (by decide +kernel) rfl
theorem q_624 : Cond.classLink RL 13 "java/lang/IllegalArgumentException" ∈ lwA := mA 624 (by decide +kernel) rfl
theorem q_625 : Cond.classLink RL 15 "java/lang/UnsupportedOperationException" ∈ lwA := mA 625 (by decide +kernel) rfl
theorem q_626 : Cond.methodLink RL 7 yX4_letter ∈ lwA := mA 626 (by decide +kernel) rfl
theorem q_627 : Cond.instanceMethod yX4_letter ∈ lwA := mA 627 (by decide +kernel) rfl
theorem q_628 : Cond.selects yX4_letter.cls yX4_letter yX4_letter ∈ lwA := mA 628 (by decide +kernel) rfl
theorem q_629 : Cond.code yX4_letter cX4_letter 2 (some .int) ∈ lwA := mA 629 (by decide +kernel) rfl
theorem q_649 : Cond.methodLink RL 17 yX4_unletter ∈ lwA := mA 649 (by decide +kernel) rfl
theorem q_650 : Cond.instanceMethod yX4_unletter ∈ lwA := mA 650 (by decide +kernel) rfl
theorem q_651 : Cond.selects yX4_unletter.cls yX4_unletter yX4_unletter ∈ lwA := mA 651 (by decide +kernel) rfl
theorem q_652 : Cond.code yX4_unletter cX4_unletter 1 (some .int) ∈ lwA := mA 652 (by decide +kernel) rfl
theorem q_660 : Cond.classLink RL 25 "java/lang/IndexOutOfBoundsException" ∈ lwA := mA 660 (by decide +kernel) rfl
theorem q_681 : Cond.methodLink RL 21 yX4_print ∈ lwA := mA 681 (by decide +kernel) rfl
theorem q_682 : Cond.instanceMethod yX4_print ∈ lwA := mA 682 (by decide +kernel) rfl
theorem q_683 : Cond.selects yX4_print.cls yX4_print yX4_print ∈ lwA := mA 683 (by decide +kernel) rfl
theorem q_684 : Cond.code yX4_print cX4_print 4 (some .int) ∈ lwA := mA 684 (by decide +kernel) rfl
theorem q_708 : Cond.methodLink RL 27 yX4_throwAway ∈ lwA := mA 708 (by decide +kernel) rfl
theorem q_709 : Cond.instanceMethod yX4_throwAway ∈ lwA := mA 709 (by decide +kernel) rfl
theorem q_710 : Cond.selects yX4_throwAway.cls yX4_throwAway yX4_throwAway ∈ lwA := mA 710 (by decide +kernel) rfl
theorem q_711 : Cond.code yX4_throwAway cX4_throwAway 2 (some .int) ∈ lwA := mA 711 (by decide +kernel) rfl
theorem q_727 : Cond.methodLink RL 31 yX4_mood ∈ lwA := mA 727 (by decide +kernel) rfl
theorem q_728 : Cond.instanceMethod yX4_mood ∈ lwA := mA 728 (by decide +kernel) rfl
theorem q_729 : Cond.selects yX4_mood.cls yX4_mood yX4_mood ∈ lwA := mA 729 (by decide +kernel) rfl
theorem q_730 : Cond.code yX4_mood cX4_mood 4 (some .int) ∈ lwA := mA 730 (by decide +kernel) rfl
theorem q_746 : Cond.methodLink RL 35 yX4_pier ∈ lwA := mA 746 (by decide +kernel) rfl
theorem q_747 : Cond.instanceMethod yX4_pier ∈ lwA := mA 747 (by decide +kernel) rfl
theorem q_748 : Cond.selects yX4_pier.cls yX4_pier yX4_pier ∈ lwA := mA 748 (by decide +kernel) rfl
theorem q_749 : Cond.code yX4_pier cX4_pier 3 (some .int) ∈ lwA := mA 749 (by decide +kernel) rfl
theorem q_761 : Cond.methodLink RL 39 yX4_ticketOf ∈ lwA := mA 761 (by decide +kernel) rfl
theorem q_762 : Cond.instanceMethod yX4_ticketOf ∈ lwA := mA 762 (by decide +kernel) rfl
theorem q_763 : Cond.selects yX4_ticketOf.cls yX4_ticketOf yX4_ticketOf ∈ lwA := mA 763 (by decide +kernel) rfl
theorem q_764 : Cond.code yX4_ticketOf cX4_ticketOf 4 (some .int) ∈ lwA := mA 764 (by decide +kernel) rfl
theorem q_774 : Cond.classLink RL 46 "java/util/NoSuchElementException" ∈ lwA := mA 774 (by decide +kernel) rfl
theorem q_775 : Cond.methodLink RL 42 yX4_wordAt ∈ lwA := mA 775 (by decide +kernel) rfl
theorem q_776 : Cond.instanceMethod yX4_wordAt ∈ lwA := mA 776 (by decide +kernel) rfl
theorem q_777 : Cond.selects yX4_wordAt.cls yX4_wordAt yX4_wordAt ∈ lwA := mA 777 (by decide +kernel) rfl
theorem q_778 : Cond.code yX4_wordAt cX4_wordAt 4 (some .char) ∈ lwA := mA 778 (by decide +kernel) rfl
theorem q_782 : Cond.castable "java/util/NoSuchElementException" "java/util/NoSuchElementException" ∈ lwN := mN 782 (by decide +kernel) rfl
theorem q_800 : Cond.methodLink RL 48 yX4_punch ∈ lwA := mA 800 (by decide +kernel) rfl
theorem q_801 : Cond.instanceMethod yX4_punch ∈ lwA := mA 801 (by decide +kernel) rfl
theorem q_802 : Cond.selects yX4_punch.cls yX4_punch yX4_punch ∈ lwA := mA 802 (by decide +kernel) rfl
theorem q_803 : Cond.code yX4_punch cX4_punch 5 (some .int) ∈ lwA := mA 803 (by decide +kernel) rfl
theorem q_819 : Cond.methodLink RL 52 yX4_wet ∈ lwA := mA 819 (by decide +kernel) rfl
theorem q_820 : Cond.instanceMethod yX4_wet ∈ lwA := mA 820 (by decide +kernel) rfl
theorem q_821 : Cond.selects yX4_wet.cls yX4_wet yX4_wet ∈ lwA := mA 821 (by decide +kernel) rfl
theorem q_822 : Cond.code yX4_wet cX4_wet 4 (some .int) ∈ lwA := mA 822 (by decide +kernel) rfl
theorem q_842 : Cond.methodLink RL 55 yX4_tear ∈ lwA := mA 842 (by decide +kernel) rfl
theorem q_843 : Cond.instanceMethod yX4_tear ∈ lwA := mA 843 (by decide +kernel) rfl
theorem q_844 : Cond.selects yX4_tear.cls yX4_tear yX4_tear ∈ lwA := mA 844 (by decide +kernel) rfl
theorem q_845 : Cond.code yX4_tear cX4_tear 2 (some .int) ∈ lwA := mA 845 (by decide +kernel) rfl
theorem q_857 : Cond.methodLink RL 58 yX4_lose ∈ lwA := mA 857 (by decide +kernel) rfl
theorem q_858 : Cond.instanceMethod yX4_lose ∈ lwA := mA 858 (by decide +kernel) rfl
theorem q_859 : Cond.selects yX4_lose.cls yX4_lose yX4_lose ∈ lwA := mA 859 (by decide +kernel) rfl
theorem q_860 : Cond.code yX4_lose cX4_lose 3 (some .int) ∈ lwA := mA 860 (by decide +kernel) rfl
theorem q_872 : Cond.methodLink RL 61 yX4_find ∈ lwA := mA 872 (by decide +kernel) rfl
theorem q_873 : Cond.instanceMethod yX4_find ∈ lwA := mA 873 (by decide +kernel) rfl
theorem q_874 : Cond.selects yX4_find.cls yX4_find yX4_find ∈ lwA := mA 874 (by decide +kernel) rfl
theorem q_875 : Cond.code yX4_find cX4_find 3 (some .int) ∈ lwA := mA 875 (by decide +kernel) rfl
theorem q_879 : Cond.methodLink RL 64 yX4_halfOf ∈ lwA := mA 879 (by decide +kernel) rfl
theorem q_880 : Cond.instanceMethod yX4_halfOf ∈ lwA := mA 880 (by decide +kernel) rfl
theorem q_881 : Cond.selects yX4_halfOf.cls yX4_halfOf yX4_halfOf ∈ lwA := mA 881 (by decide +kernel) rfl
theorem q_882 : Cond.code yX4_halfOf cX4_halfOf 6 (some .int) ∈ lwA := mA 882 (by decide +kernel) rfl
theorem q_891 : Cond.methodLink RL 67 yX4_readAt ∈ lwA := mA 891 (by decide +kernel) rfl
theorem q_892 : Cond.instanceMethod yX4_readAt ∈ lwA := mA 892 (by decide +kernel) rfl
theorem q_893 : Cond.selects yX4_readAt.cls yX4_readAt yX4_readAt ∈ lwA := mA 893 (by decide +kernel) rfl
theorem q_894 : Cond.code yX4_readAt cX4_readAt 6 (some .char) ∈ lwA := mA 894 (by decide +kernel) rfl
theorem q_903 : Cond.methodLink RL 71 yX4_doAgree ∈ lwA := mA 903 (by decide +kernel) rfl
theorem q_904 : Cond.instanceMethod yX4_doAgree ∈ lwA := mA 904 (by decide +kernel) rfl
theorem q_905 : Cond.selects yX4_doAgree.cls yX4_doAgree yX4_doAgree ∈ lwA := mA 905 (by decide +kernel) rfl
theorem q_906 : Cond.code yX4_doAgree cX4_doAgree 4 (some .boolean) ∈ lwA := mA 906 (by decide +kernel) rfl
theorem q_910 : Cond.methodLink RL 75 yX4_moodFor ∈ lwA := mA 910 (by decide +kernel) rfl
theorem q_911 : Cond.instanceMethod yX4_moodFor ∈ lwA := mA 911 (by decide +kernel) rfl
theorem q_912 : Cond.selects yX4_moodFor.cls yX4_moodFor yX4_moodFor ∈ lwA := mA 912 (by decide +kernel) rfl
theorem q_913 : Cond.code yX4_moodFor cX4_moodFor 6 (some .int) ∈ lwA := mA 913 (by decide +kernel) rfl
theorem q_918 : Cond.methodLink RL 78 yX4_would ∈ lwA := mA 918 (by decide +kernel) rfl
theorem q_919 : Cond.instanceMethod yX4_would ∈ lwA := mA 919 (by decide +kernel) rfl
theorem q_920 : Cond.selects yX4_would.cls yX4_would yX4_would ∈ lwA := mA 920 (by decide +kernel) rfl
theorem q_921 : Cond.code yX4_would cX4_would 6 (some .int) ∈ lwA := mA 921 (by decide +kernel) rfl
theorem q_927 : Cond.methodLink RL 81 yX4_likely ∈ lwA := mA 927 (by decide +kernel) rfl
theorem q_928 : Cond.instanceMethod yX4_likely ∈ lwA := mA 928 (by decide +kernel) rfl
theorem q_929 : Cond.selects yX4_likely.cls yX4_likely yX4_likely ∈ lwA := mA 929 (by decide +kernel) rfl
theorem q_930 : Cond.code yX4_likely cX4_likely 9 (some .int) ∈ lwA := mA 930 (by decide +kernel) rfl
theorem q_942 : Cond.methodLink RL 84 yX4_ride ∈ lwA := mA 942 (by decide +kernel) rfl
theorem q_943 : Cond.instanceMethod yX4_ride ∈ lwA := mA 943 (by decide +kernel) rfl
theorem q_944 : Cond.selects yX4_ride.cls yX4_ride yX4_ride ∈ lwA := mA 944 (by decide +kernel) rfl
theorem q_945 : Cond.code yX4_ride cX4_ride 3 (some .int) ∈ lwA := mA 945 (by decide +kernel) rfl
theorem q_970 : Cond.methodLink RL 87 yX4_hinders ∈ lwA := mA 970 (by decide +kernel) rfl
theorem q_971 : Cond.instanceMethod yX4_hinders ∈ lwA := mA 971 (by decide +kernel) rfl
theorem q_972 : Cond.selects yX4_hinders.cls yX4_hinders yX4_hinders ∈ lwA := mA 972 (by decide +kernel) rfl
theorem q_973 : Cond.code yX4_hinders cX4_hinders 3 (some .int) ∈ lwA := mA 973 (by decide +kernel) rfl
theorem q_977 : Cond.methodLink RL 90 yX4_daysLeft ∈ lwA := mA 977 (by decide +kernel) rfl
theorem q_978 : Cond.instanceMethod yX4_daysLeft ∈ lwA := mA 978 (by decide +kernel) rfl
theorem q_979 : Cond.selects yX4_daysLeft.cls yX4_daysLeft yX4_daysLeft ∈ lwA := mA 979 (by decide +kernel) rfl
theorem q_980 : Cond.code yX4_daysLeft cX4_daysLeft 3 (some .int) ∈ lwA := mA 980 (by decide +kernel) rfl
theorem q_986 : Cond.methodLink RL 93 yX4_sharing ∈ lwA := mA 986 (by decide +kernel) rfl
theorem q_987 : Cond.instanceMethod yX4_sharing ∈ lwA := mA 987 (by decide +kernel) rfl
theorem q_988 : Cond.selects yX4_sharing.cls yX4_sharing yX4_sharing ∈ lwA := mA 988 (by decide +kernel) rfl
theorem q_989 : Cond.code yX4_sharing cX4_sharing 5 (some .int) ∈ lwA := mA 989 (by decide +kernel) rfl
theorem q_994 : Cond.methodLink RL 96 yX4_often ∈ lwA := mA 994 (by decide +kernel) rfl
theorem q_995 : Cond.instanceMethod yX4_often ∈ lwA := mA 995 (by decide +kernel) rfl
theorem q_996 : Cond.selects yX4_often.cls yX4_often yX4_often ∈ lwA := mA 996 (by decide +kernel) rfl
theorem q_997 : Cond.code yX4_often cX4_often 4 (some .int) ∈ lwA := mA 997 (by decide +kernel) rfl
theorem q_1006 : Cond.methodLink RL 99 yX4_ranked ∈ lwA := mA 1006 (by decide +kernel) rfl
theorem q_1007 : Cond.instanceMethod yX4_ranked ∈ lwA := mA 1007 (by decide +kernel) rfl
theorem q_1008 : Cond.selects yX4_ranked.cls yX4_ranked yX4_ranked ∈ lwA := mA 1008 (by decide +kernel) rfl
theorem q_1009 : Cond.code yX4_ranked cX4_ranked 4 (some .int) ∈ lwA := mA 1009 (by decide +kernel) rfl
theorem q_1032 : Cond.methodLink RL 102 yX4_line ∈ lwA := mA 1032 (by decide +kernel) rfl
theorem q_1033 : Cond.instanceMethod yX4_line ∈ lwA := mA 1033 (by decide +kernel) rfl
theorem q_1034 : Cond.selects yX4_line.cls yX4_line yX4_line ∈ lwA := mA 1034 (by decide +kernel) rfl
theorem q_1035 : Cond.code yX4_line cX4_line 3 (some .int) ∈ lwA := mA 1035 (by decide +kernel) rfl
theorem q_1050 : Cond.methodLink RL 105 yX4_holeLine ∈ lwA := mA 1050 (by decide +kernel) rfl
theorem q_1051 : Cond.instanceMethod yX4_holeLine ∈ lwA := mA 1051 (by decide +kernel) rfl
theorem q_1052 : Cond.selects yX4_holeLine.cls yX4_holeLine yX4_holeLine ∈ lwA := mA 1052 (by decide +kernel) rfl
theorem q_1053 : Cond.code yX4_holeLine cX4_holeLine 8 (some .int) ∈ lwA := mA 1053 (by decide +kernel) rfl
theorem q_1058 : Cond.methodLink RL 108 yX4_character ∈ lwA := mA 1058 (by decide +kernel) rfl
theorem q_1059 : Cond.instanceMethod yX4_character ∈ lwA := mA 1059 (by decide +kernel) rfl
theorem q_1060 : Cond.selects yX4_character.cls yX4_character yX4_character ∈ lwA := mA 1060 (by decide +kernel) rfl
theorem q_1061 : Cond.code yX4_character cX4_character 2 (some .char) ∈ lwA := mA 1061 (by decide +kernel) rfl
theorem q_1066 : Cond.classLink RL 116 "java/lang/IllegalStateException" ∈ lwA := mA 1066 (by decide +kernel) rfl
theorem q_1067 : Cond.methodLink RL 112 yX4_refusal ∈ lwA := mA 1067 (by decide +kernel) rfl
theorem q_1068 : Cond.instanceMethod yX4_refusal ∈ lwA := mA 1068 (by decide +kernel) rfl
theorem q_1069 : Cond.selects yX4_refusal.cls yX4_refusal yX4_refusal ∈ lwA := mA 1069 (by decide +kernel) rfl
theorem q_1070 : Cond.code yX4_refusal cX4_refusal 2 (some .int) ∈ lwA := mA 1070 (by decide +kernel) rfl
theorem q_1073 : Cond.castable "java/lang/IllegalStateException" "java/lang/IllegalStateException" ∈ lwN := mN 1073 (by decide +kernel) rfl
theorem q_1090 : Cond.methodLink RL 118 yX4_account ∈ lwA := mA 1090 (by decide +kernel) rfl
theorem q_1091 : Cond.instanceMethod yX4_account ∈ lwA := mA 1091 (by decide +kernel) rfl
theorem q_1092 : Cond.selects yX4_account.cls yX4_account yX4_account ∈ lwA := mA 1092 (by decide +kernel) rfl
theorem q_1093 : Cond.code yX4_account cX4_account 2 (some .int) ∈ lwA := mA 1093 (by decide +kernel) rfl
theorem q_1107 : Cond.classLink RL 125 "java/lang/ArithmeticException" ∈ lwA := mA 1107 (by decide +kernel) rfl
theorem q_1119 : Cond.castable "java/lang/ArithmeticException" "java/lang/ArithmeticException" ∈ lwN := mN 1119 (by decide +kernel) rfl
theorem q_1121 : Cond.methodLink RL 121 yX4_meanWet ∈ lwA := mA 1121 (by decide +kernel) rfl
theorem q_1122 : Cond.instanceMethod yX4_meanWet ∈ lwA := mA 1122 (by decide +kernel) rfl
theorem q_1123 : Cond.selects yX4_meanWet.cls yX4_meanWet yX4_meanWet ∈ lwA := mA 1123 (by decide +kernel) rfl
theorem q_1124 : Cond.code yX4_meanWet cX4_meanWet 4 (some .double) ∈ lwA := mA 1124 (by decide +kernel) rfl
theorem q_1132 : Cond.methodLink RL 127 yX4_readShare ∈ lwA := mA 1132 (by decide +kernel) rfl
theorem q_1133 : Cond.instanceMethod yX4_readShare ∈ lwA := mA 1133 (by decide +kernel) rfl
theorem q_1134 : Cond.selects yX4_readShare.cls yX4_readShare yX4_readShare ∈ lwA := mA 1134 (by decide +kernel) rfl
theorem q_1135 : Cond.code yX4_readShare cX4_readShare 2 (some .float) ∈ lwA := mA 1135 (by decide +kernel) rfl
theorem q_1145 : Cond.methodLink RL 131 yX4_append ∈ lwA := mA 1145 (by decide +kernel) rfl
theorem q_1146 : Cond.instanceMethod yX4_append ∈ lwA := mA 1146 (by decide +kernel) rfl
theorem q_1147 : Cond.selects yX4_append.cls yX4_append yX4_append ∈ lwA := mA 1147 (by decide +kernel) rfl
theorem q_1148 : Cond.code yX4_append cX4_append 5 (some .int) ∈ lwA := mA 1148 (by decide +kernel) rfl
theorem q_1154 : Cond.methodLink RL 134 yX4_read ∈ lwA := mA 1154 (by decide +kernel) rfl
theorem q_1155 : Cond.instanceMethod yX4_read ∈ lwA := mA 1155 (by decide +kernel) rfl
theorem q_1156 : Cond.selects yX4_read.cls yX4_read yX4_read ∈ lwA := mA 1156 (by decide +kernel) rfl
theorem q_1157 : Cond.code yX4_read cX4_read 3 (some .int) ∈ lwA := mA 1157 (by decide +kernel) rfl
theorem q_1224 : Cond.methodLink RL 137 yX4_errorPosition ∈ lwA := mA 1224 (by decide +kernel) rfl
theorem q_1225 : Cond.instanceMethod yX4_errorPosition ∈ lwA := mA 1225 (by decide +kernel) rfl
theorem q_1226 : Cond.selects yX4_errorPosition.cls yX4_errorPosition yX4_errorPosition ∈ lwA := mA 1226 (by decide +kernel) rfl
theorem q_1227 : Cond.code yX4_errorPosition cX4_errorPosition 1 (some .int) ∈ lwA := mA 1227 (by decide +kernel) rfl
theorem q_1232 : Cond.methodLink RL 140 yX4_refusedItem ∈ lwA := mA 1232 (by decide +kernel) rfl
theorem q_1233 : Cond.instanceMethod yX4_refusedItem ∈ lwA := mA 1233 (by decide +kernel) rfl
theorem q_1234 : Cond.selects yX4_refusedItem.cls yX4_refusedItem yX4_refusedItem ∈ lwA := mA 1234 (by decide +kernel) rfl
theorem q_1235 : Cond.code yX4_refusedItem cX4_refusedItem 1 (some .int) ∈ lwA := mA 1235 (by decide +kernel) rfl
theorem q_1240 : Cond.methodLink RL 143 yX4_undo ∈ lwA := mA 1240 (by decide +kernel) rfl
theorem q_1241 : Cond.instanceMethod yX4_undo ∈ lwA := mA 1241 (by decide +kernel) rfl
theorem q_1242 : Cond.selects yX4_undo.cls yX4_undo yX4_undo ∈ lwA := mA 1242 (by decide +kernel) rfl
theorem q_1243 : Cond.code yX4_undo cX4_undo 1 (some .int) ∈ lwA := mA 1243 (by decide +kernel) rfl
theorem q_1248 : Cond.methodLink RL 146 yX4_restore ∈ lwA := mA 1248 (by decide +kernel) rfl
theorem q_1249 : Cond.instanceMethod yX4_restore ∈ lwA := mA 1249 (by decide +kernel) rfl
theorem q_1250 : Cond.selects yX4_restore.cls yX4_restore yX4_restore ∈ lwA := mA 1250 (by decide +kernel) rfl
theorem q_1251 : Cond.code yX4_restore cX4_restore 1 (some .int) ∈ lwA := mA 1251 (by decide +kernel) rfl
theorem dL_letter_0 : decode cL_letter 0 = .ok (.aload_n 2, 1) := by decide +kernel
theorem dL_letter_1 : decode cL_letter 1 = .ok (.iconst 0, 1) := by decide +kernel
theorem dL_letter_2 : decode cL_letter 2 = .ok (.aload_n 0, 1) := by decide +kernel
theorem dL_letter_3 : decode cL_letter 3 = .ok (.iload_n 1, 1) := by decide +kernel
theorem dL_letter_4 : decode cL_letter 4 = .ok (.invokevirtual 7, 3) := by decide +kernel
theorem dL_letter_7 : decode cL_letter 7 = .ok (.i2l, 1) := by decide +kernel
theorem dL_letter_8 : decode cL_letter 8 = .ok (.lastore, 1) := by decide +kernel
theorem dL_letter_9 : decode cL_letter 9 = .ok (.goto 9, 3) := by decide +kernel
theorem dL_letter_12 : decode cL_letter 12 = .ok (.astore_n 3, 1) := by decide +kernel
theorem dL_letter_13 : decode cL_letter 13 = .ok (.iconst 1, 1) := by decide +kernel
theorem dL_letter_14 : decode cL_letter 14 = .ok (.ireturn, 1) := by decide +kernel
theorem dL_letter_15 : decode cL_letter 15 = .ok (.astore_n 3, 1) := by decide +kernel
theorem dL_letter_16 : decode cL_letter 16 = .ok (.iconst 2, 1) := by decide +kernel
theorem dL_letter_17 : decode cL_letter 17 = .ok (.ireturn, 1) := by decide +kernel
theorem dL_letter_18 : decode cL_letter 18 = .ok (.iconst 0, 1) := by decide +kernel
theorem dL_letter_19 : decode cL_letter 19 = .ok (.ireturn, 1) := by decide +kernel
theorem h9_L_letter : yL_letter.cls ≠ "java/lang/invoke/MethodHandle" ∧ yL_letter.cls ≠ "java/lang/invoke/VarHandle" ∧ (parseMethodDescriptor yL_letter.desc).map (fun d => d.parameters.length) = some 3 := by decide +kernel
set_option maxHeartbeats 4000000 in
set_option maxRecDepth 100000 in
theorem c_L_letter (l : Launch) (D : va_G) (cy : Nat → ClassId) (a0 : Nat) (x1 : Int32) (ao : Nat) (w w1 : FW) (v0 : Int64) (rx : Int32 ⊕ Nat) (hF : F_X4_letter a0 x1 w = some (rx, w1)) (hk0 : w.1 a0 = 5) (hes : ∀ e, rx = .inr e → e ∈ [1, 4]) : fWSpec l D cy yL_letter cL_letter 4 [(0, 9, 12, 13), (0, 9, 15, 15)] { frames := 8, cells := 1, slots := 6, locals := 142 } [.ref a0, .int x1, .ref ao] w w1 ao (arrV (cy 5) 1 (fun _ => .long v0)) (wO rx (arrV (cy 5) 1 (fun _ => .long v0)) (fun v => arrV (cy 5) 1 (fun _ => .long v.toInt64))) (wK [1, 4] rx) := by
  have hM := fun (D : va_G) (cy : Nat → ClassId) => c_X4_letter l D cy a0 x1 w _ hF
  refine fw_begin (by decide +kernel) (Nat.le_of_ble_eq_true rfl) (fun X h hC hEn ho0 ho1 => ?_)
  have hst := fW_st hC hEn
  replace hM := hM D cy
  rcases rx with v | e
  · show gAt X 0 0 4 w h (gE1 ao (some (.inl (arrV (cy 5) 1 (fun _ => .long v0))))) [(0, .ref a0), (1, .int x1), (2, .ref ao)] [] 0
    refine g_aload_n hC dL_letter_0 rfl 2 rfl ?_
    refine g_iconst (v := 0) hC dL_letter_1 (by decide) ?_
    refine g_aload_n hC dL_letter_2 rfl 0 rfl ?_
    refine g_iload_n hC dL_letter_3 rfl 1 rfl ?_
    refine g_callVR hC hst [.int x1] (rv := some (.int v)) hM q_629 q_132 q_626 q_627 q_628 h9_X4_letter (T := TX4) (N := 15) (ci := 4) rfl hk0 ⟨Nat.le_of_ble_eq_true rfl, Nat.le_of_ble_eq_true rfl⟩ ⟨Nat.le_of_ble_eq_true rfl, Nat.le_of_ble_eq_true rfl⟩ (Nat.le_of_ble_eq_true rfl) rfl dL_letter_4 (fun h1 hh1 hs1 => ?_)
    refine g_cs 1 6 (Nat.zero_add _).symm (Nat.zero_add _).symm ?_
    refine g_i2l hC dL_letter_7 ?_
    refine g_lastE hC (gE1_b _ _) dL_letter_8 ?_
    refine g_nm h1 (gE1 ao (some (.inl (arrV (cy 5) 1 (fun _ => .long v.toInt64))))) _ _ rfl (gE1_up _ _ _).symm rfl rfl ?_
    refine g_goto hC 18 dL_letter_9 (by decide) ?_
    refine g_iconst (v := 0) hC dL_letter_18 (by decide) ?_
    exact g_iretW hC hEn hs1 (gE1_b _ _) dL_letter_19
  · have he := hes e rfl
    simp only [List.mem_cons, List.not_mem_nil, or_false] at he
    rcases he with rfl | rfl
    · show gAt X 0 0 4 w h (gE1 ao (some (.inl (arrV (cy 5) 1 (fun _ => .long v0))))) [(0, .ref a0), (1, .int x1), (2, .ref ao)] [] 0
      refine g_aload_n hC dL_letter_0 rfl 2 rfl ?_
      refine g_iconst (v := 0) hC dL_letter_1 (by decide) ?_
      refine g_aload_n hC dL_letter_2 rfl 0 rfl ?_
      refine g_iload_n hC dL_letter_3 rfl 1 rfl ?_
      refine g_callVT hC hst [.int x1] (ex := 1) hM q_629 q_132 q_626 q_627 q_628 h9_X4_letter (T := TX4) (N := 15) (ci := 4) rfl hk0 ⟨Nat.le_of_ble_eq_true rfl, Nat.le_of_ble_eq_true rfl⟩ ⟨Nat.le_of_ble_eq_true rfl, Nat.le_of_ble_eq_true rfl⟩ (Nat.le_of_ble_eq_true rfl) rfl dL_letter_4 (fun h1 hh1 hs1 => ?_)
      show gXt X (0 + 1) (0 + 6) 4 w1 h1 (gE1 ao (some (.inl (arrV (cy 5) 1 (fun _ => .long v0))))) [(0, .ref a0), (1, .int x1), (2, .ref ao)] 1 4
      refine g_catch hC hEn [] ⟨0, 9, 12, 13⟩ [⟨0, 9, 15, 15⟩] rfl (fun z hz => absurd hz List.not_mem_nil) (by decide) (by decide) q_624 q_475 (fun q9 => ?_)
      refine g_cs 1 6 (Nat.zero_add _).symm (Nat.zero_add _).symm ?_
      refine g_astore_n (L' := [(3, .ref q9), (0, .ref a0), (1, .int x1), (2, .ref ao)]) hC dL_letter_12 rfl (by decide) rfl ?_
      refine g_iconst (v := 1) hC dL_letter_13 (by decide) ?_
      exact g_iretW hC hEn hs1 (gE1_b _ _) dL_letter_14
    · show gAt X 0 0 4 w h (gE1 ao (some (.inl (arrV (cy 5) 1 (fun _ => .long v0))))) [(0, .ref a0), (1, .int x1), (2, .ref ao)] [] 0
      refine g_aload_n hC dL_letter_0 rfl 2 rfl ?_
      refine g_iconst (v := 0) hC dL_letter_1 (by decide) ?_
      refine g_aload_n hC dL_letter_2 rfl 0 rfl ?_
      refine g_iload_n hC dL_letter_3 rfl 1 rfl ?_
      refine g_callVT hC hst [.int x1] (ex := 4) hM q_629 q_132 q_626 q_627 q_628 h9_X4_letter (T := TX4) (N := 15) (ci := 4) rfl hk0 ⟨Nat.le_of_ble_eq_true rfl, Nat.le_of_ble_eq_true rfl⟩ ⟨Nat.le_of_ble_eq_true rfl, Nat.le_of_ble_eq_true rfl⟩ (Nat.le_of_ble_eq_true rfl) rfl dL_letter_4 (fun h1 hh1 hs1 => ?_)
      show gXt X (0 + 1) (0 + 6) 4 w1 h1 (gE1 ao (some (.inl (arrV (cy 5) 1 (fun _ => .long v0))))) [(0, .ref a0), (1, .int x1), (2, .ref ao)] 4 4
      have hpass : ∀ z ∈ ([⟨0, 9, 12, 13⟩] : List ExceptionTableEntry), z.catchType ≠ 0 ∧ ∃ nm : String, Cond.classLink RL z.catchType nm ∈ lwA ∧ (exN 4, nm) ∈ ncL := by
        intro z hz
        simp only [List.mem_cons, List.not_mem_nil, or_false] at hz
        subst hz
        exact ⟨by decide, _, q_624, by decide +kernel⟩
      refine g_catch hC hEn [⟨0, 9, 12, 13⟩] ⟨0, 9, 15, 15⟩ [] rfl hpass (by decide) (by decide) q_625 q_491 (fun q9 => ?_)
      refine g_cs 1 6 (Nat.zero_add _).symm (Nat.zero_add _).symm ?_
      refine g_astore_n (L' := [(3, .ref q9), (0, .ref a0), (1, .int x1), (2, .ref ao)]) hC dL_letter_15 rfl (by decide) rfl ?_
      refine g_iconst (v := 2) hC dL_letter_16 (by decide) ?_
      exact g_iretW hC hEn hs1 (gE1_b _ _) dL_letter_17
theorem dL_unletter_0 : decode cL_unletter 0 = .ok (.aload_n 1, 1) := by decide +kernel
theorem dL_unletter_1 : decode cL_unletter 1 = .ok (.iconst 0, 1) := by decide +kernel
theorem dL_unletter_2 : decode cL_unletter 2 = .ok (.aload_n 0, 1) := by decide +kernel
theorem dL_unletter_3 : decode cL_unletter 3 = .ok (.invokevirtual 17, 3) := by decide +kernel
theorem dL_unletter_6 : decode cL_unletter 6 = .ok (.i2l, 1) := by decide +kernel
theorem dL_unletter_7 : decode cL_unletter 7 = .ok (.lastore, 1) := by decide +kernel
theorem dL_unletter_8 : decode cL_unletter 8 = .ok (.goto 6, 3) := by decide +kernel
theorem dL_unletter_11 : decode cL_unletter 11 = .ok (.astore_n 2, 1) := by decide +kernel
theorem dL_unletter_12 : decode cL_unletter 12 = .ok (.iconst 1, 1) := by decide +kernel
theorem dL_unletter_13 : decode cL_unletter 13 = .ok (.ireturn, 1) := by decide +kernel
theorem dL_unletter_14 : decode cL_unletter 14 = .ok (.iconst 0, 1) := by decide +kernel
theorem dL_unletter_15 : decode cL_unletter 15 = .ok (.ireturn, 1) := by decide +kernel
theorem h9_L_unletter : yL_unletter.cls ≠ "java/lang/invoke/MethodHandle" ∧ yL_unletter.cls ≠ "java/lang/invoke/VarHandle" ∧ (parseMethodDescriptor yL_unletter.desc).map (fun d => d.parameters.length) = some 2 := by decide +kernel
set_option maxHeartbeats 4000000 in
set_option maxRecDepth 100000 in
theorem c_L_unletter (l : Launch) (D : va_G) (cy : Nat → ClassId) (a0 : Nat) (ao : Nat) (w w1 : FW) (v0 : Int64) (rx : Int32 ⊕ Nat) (hF : F_X4_unletter a0 w = some (rx, w1)) (hk0 : w.1 a0 = 5) (hes : ∀ e, rx = .inr e → e ∈ [4]) : fWSpec l D cy yL_unletter cL_unletter 3 [(0, 8, 11, 15)] { frames := 8, cells := 1, slots := 6, locals := 141 } [.ref a0, .ref ao] w w1 ao (arrV (cy 5) 1 (fun _ => .long v0)) (wO rx (arrV (cy 5) 1 (fun _ => .long v0)) (fun v => arrV (cy 5) 1 (fun _ => .long v.toInt64))) (wK [4] rx) := by
  have hM := fun (D : va_G) (cy : Nat → ClassId) => c_X4_unletter l D cy a0 w _ hF
  refine fw_begin (by decide +kernel) (Nat.le_of_ble_eq_true rfl) (fun X h hC hEn ho0 ho1 => ?_)
  have hst := fW_st hC hEn
  replace hM := hM D cy
  rcases rx with v | e
  · show gAt X 0 0 3 w h (gE1 ao (some (.inl (arrV (cy 5) 1 (fun _ => .long v0))))) [(0, .ref a0), (1, .ref ao)] [] 0
    refine g_aload_n hC dL_unletter_0 rfl 1 rfl ?_
    refine g_iconst (v := 0) hC dL_unletter_1 (by decide) ?_
    refine g_aload_n hC dL_unletter_2 rfl 0 rfl ?_
    refine g_callVR hC hst [] (rv := some (.int v)) hM q_652 q_132 q_649 q_650 q_651 h9_X4_unletter (T := TX4) (N := 15) (ci := 4) rfl hk0 ⟨Nat.le_of_ble_eq_true rfl, Nat.le_of_ble_eq_true rfl⟩ ⟨Nat.le_of_ble_eq_true rfl, Nat.le_of_ble_eq_true rfl⟩ (Nat.le_of_ble_eq_true rfl) rfl dL_unletter_3 (fun h1 hh1 hs1 => ?_)
    refine g_cs 1 6 (Nat.zero_add _).symm (Nat.zero_add _).symm ?_
    refine g_i2l hC dL_unletter_6 ?_
    refine g_lastE hC (gE1_b _ _) dL_unletter_7 ?_
    refine g_nm h1 (gE1 ao (some (.inl (arrV (cy 5) 1 (fun _ => .long v.toInt64))))) _ _ rfl (gE1_up _ _ _).symm rfl rfl ?_
    refine g_goto hC 14 dL_unletter_8 (by decide) ?_
    refine g_iconst (v := 0) hC dL_unletter_14 (by decide) ?_
    exact g_iretW hC hEn hs1 (gE1_b _ _) dL_unletter_15
  · have he := hes e rfl
    simp only [List.mem_cons, List.not_mem_nil, or_false] at he
    subst he
    show gAt X 0 0 3 w h (gE1 ao (some (.inl (arrV (cy 5) 1 (fun _ => .long v0))))) [(0, .ref a0), (1, .ref ao)] [] 0
    refine g_aload_n hC dL_unletter_0 rfl 1 rfl ?_
    refine g_iconst (v := 0) hC dL_unletter_1 (by decide) ?_
    refine g_aload_n hC dL_unletter_2 rfl 0 rfl ?_
    refine g_callVT hC hst [] (ex := 4) hM q_652 q_132 q_649 q_650 q_651 h9_X4_unletter (T := TX4) (N := 15) (ci := 4) rfl hk0 ⟨Nat.le_of_ble_eq_true rfl, Nat.le_of_ble_eq_true rfl⟩ ⟨Nat.le_of_ble_eq_true rfl, Nat.le_of_ble_eq_true rfl⟩ (Nat.le_of_ble_eq_true rfl) rfl dL_unletter_3 (fun h1 hh1 hs1 => ?_)
    show gXt X (0 + 1) (0 + 6) 3 w1 h1 (gE1 ao (some (.inl (arrV (cy 5) 1 (fun _ => .long v0))))) [(0, .ref a0), (1, .ref ao)] 4 3
    refine g_catch hC hEn [] ⟨0, 8, 11, 15⟩ [] rfl (fun z hz => absurd hz List.not_mem_nil) (by decide) (by decide) q_625 q_491 (fun q9 => ?_)
    refine g_cs 1 6 (Nat.zero_add _).symm (Nat.zero_add _).symm ?_
    refine g_astore_n (L' := [(2, .ref q9), (0, .ref a0), (1, .ref ao)]) hC dL_unletter_11 rfl (by decide) rfl ?_
    refine g_iconst (v := 1) hC dL_unletter_12 (by decide) ?_
    exact g_iretW hC hEn hs1 (gE1_b _ _) dL_unletter_13
theorem dL_print_0 : decode cL_print 0 = .ok (.aload 4, 2) := by decide +kernel
theorem dL_print_2 : decode cL_print 2 = .ok (.iconst 0, 1) := by decide +kernel
theorem dL_print_3 : decode cL_print 3 = .ok (.aload_n 0, 1) := by decide +kernel
theorem dL_print_4 : decode cL_print 4 = .ok (.iload_n 1, 1) := by decide +kernel
theorem dL_print_5 : decode cL_print 5 = .ok (.iload_n 2, 1) := by decide +kernel
theorem dL_print_6 : decode cL_print 6 = .ok (.iload_n 3, 1) := by decide +kernel
theorem dL_print_7 : decode cL_print 7 = .ok (.invokevirtual 21, 3) := by decide +kernel
theorem dL_print_10 : decode cL_print 10 = .ok (.i2l, 1) := by decide +kernel
theorem dL_print_11 : decode cL_print 11 = .ok (.lastore, 1) := by decide +kernel
theorem dL_print_12 : decode cL_print 12 = .ok (.goto 15, 3) := by decide +kernel
theorem dL_print_15 : decode cL_print 15 = .ok (.astore 5, 2) := by decide +kernel
theorem dL_print_17 : decode cL_print 17 = .ok (.iconst 1, 1) := by decide +kernel
theorem dL_print_18 : decode cL_print 18 = .ok (.ireturn, 1) := by decide +kernel
theorem dL_print_19 : decode cL_print 19 = .ok (.astore 5, 2) := by decide +kernel
theorem dL_print_21 : decode cL_print 21 = .ok (.iconst 2, 1) := by decide +kernel
theorem dL_print_22 : decode cL_print 22 = .ok (.ireturn, 1) := by decide +kernel
theorem dL_print_23 : decode cL_print 23 = .ok (.astore 5, 2) := by decide +kernel
theorem dL_print_25 : decode cL_print 25 = .ok (.iconst 3, 1) := by decide +kernel
theorem dL_print_26 : decode cL_print 26 = .ok (.ireturn, 1) := by decide +kernel
theorem dL_print_27 : decode cL_print 27 = .ok (.iconst 0, 1) := by decide +kernel
theorem dL_print_28 : decode cL_print 28 = .ok (.ireturn, 1) := by decide +kernel
theorem h9_L_print : yL_print.cls ≠ "java/lang/invoke/MethodHandle" ∧ yL_print.cls ≠ "java/lang/invoke/VarHandle" ∧ (parseMethodDescriptor yL_print.desc).map (fun d => d.parameters.length) = some 5 := by decide +kernel
set_option maxHeartbeats 4000000 in
set_option maxRecDepth 100000 in
theorem c_L_print (l : Launch) (D : va_G) (cy : Nat → ClassId) (a0 : Nat) (x1 : Int32) (x2 : Int32) (x3 : Int32) (ao : Nat) (w w1 : FW) (v0 : Int64) (rx : Int32 ⊕ Nat) (hF : F_X4_print a0 x1 x2 x3 w = some (rx, w1)) (hk0 : w.1 a0 = 5) (hes : ∀ e, rx = .inr e → e ∈ [2, 1, 4]) : fWSpec l D cy yL_print cL_print 6 [(0, 12, 15, 25), (0, 12, 19, 13), (0, 12, 23, 15)] { frames := 8, cells := 1, slots := 6, locals := 144 } [.ref a0, .int x1, .int x2, .int x3, .ref ao] w w1 ao (arrV (cy 5) 1 (fun _ => .long v0)) (wO rx (arrV (cy 5) 1 (fun _ => .long v0)) (fun v => arrV (cy 5) 1 (fun _ => .long v.toInt64))) (wK [2, 1, 4] rx) := by
  have hM := fun (D : va_G) (cy : Nat → ClassId) => c_X4_print l D cy a0 x1 x2 x3 w _ hF
  refine fw_begin (by decide +kernel) (Nat.le_of_ble_eq_true rfl) (fun X h hC hEn ho0 ho1 => ?_)
  have hst := fW_st hC hEn
  replace hM := hM D cy
  rcases rx with v | e
  · show gAt X 0 0 6 w h (gE1 ao (some (.inl (arrV (cy 5) 1 (fun _ => .long v0))))) [(0, .ref a0), (1, .int x1), (2, .int x2), (3, .int x3), (4, .ref ao)] [] 0
    refine g_aload hC dL_print_0 4 rfl ?_
    refine g_iconst (v := 0) hC dL_print_2 (by decide) ?_
    refine g_aload_n hC dL_print_3 rfl 0 rfl ?_
    refine g_iload_n hC dL_print_4 rfl 1 rfl ?_
    refine g_iload_n hC dL_print_5 rfl 2 rfl ?_
    refine g_iload_n hC dL_print_6 rfl 3 rfl ?_
    refine g_callVR hC hst [.int x1, .int x2, .int x3] (rv := some (.int v)) hM q_684 q_132 q_681 q_682 q_683 h9_X4_print (T := TX4) (N := 15) (ci := 4) rfl hk0 ⟨Nat.le_of_ble_eq_true rfl, Nat.le_of_ble_eq_true rfl⟩ ⟨Nat.le_of_ble_eq_true rfl, Nat.le_of_ble_eq_true rfl⟩ (Nat.le_of_ble_eq_true rfl) rfl dL_print_7 (fun h1 hh1 hs1 => ?_)
    refine g_cs 1 6 (Nat.zero_add _).symm (Nat.zero_add _).symm ?_
    refine g_i2l hC dL_print_10 ?_
    refine g_lastE hC (gE1_b _ _) dL_print_11 ?_
    refine g_nm h1 (gE1 ao (some (.inl (arrV (cy 5) 1 (fun _ => .long v.toInt64))))) _ _ rfl (gE1_up _ _ _).symm rfl rfl ?_
    refine g_goto hC 27 dL_print_12 (by decide) ?_
    refine g_iconst (v := 0) hC dL_print_27 (by decide) ?_
    exact g_iretW hC hEn hs1 (gE1_b _ _) dL_print_28
  · have he := hes e rfl
    simp only [List.mem_cons, List.not_mem_nil, or_false] at he
    rcases he with rfl | rfl | rfl
    · show gAt X 0 0 6 w h (gE1 ao (some (.inl (arrV (cy 5) 1 (fun _ => .long v0))))) [(0, .ref a0), (1, .int x1), (2, .int x2), (3, .int x3), (4, .ref ao)] [] 0
      refine g_aload hC dL_print_0 4 rfl ?_
      refine g_iconst (v := 0) hC dL_print_2 (by decide) ?_
      refine g_aload_n hC dL_print_3 rfl 0 rfl ?_
      refine g_iload_n hC dL_print_4 rfl 1 rfl ?_
      refine g_iload_n hC dL_print_5 rfl 2 rfl ?_
      refine g_iload_n hC dL_print_6 rfl 3 rfl ?_
      refine g_callVT hC hst [.int x1, .int x2, .int x3] (ex := 2) hM q_684 q_132 q_681 q_682 q_683 h9_X4_print (T := TX4) (N := 15) (ci := 4) rfl hk0 ⟨Nat.le_of_ble_eq_true rfl, Nat.le_of_ble_eq_true rfl⟩ ⟨Nat.le_of_ble_eq_true rfl, Nat.le_of_ble_eq_true rfl⟩ (Nat.le_of_ble_eq_true rfl) rfl dL_print_7 (fun h1 hh1 hs1 => ?_)
      show gXt X (0 + 1) (0 + 6) 6 w1 h1 (gE1 ao (some (.inl (arrV (cy 5) 1 (fun _ => .long v0))))) [(0, .ref a0), (1, .int x1), (2, .int x2), (3, .int x3), (4, .ref ao)] 2 7
      refine g_catch hC hEn [] ⟨0, 12, 15, 25⟩ [⟨0, 12, 19, 13⟩, ⟨0, 12, 23, 15⟩] rfl (fun z hz => absurd hz List.not_mem_nil) (by decide) (by decide) q_660 q_403 (fun q9 => ?_)
      refine g_cs 1 6 (Nat.zero_add _).symm (Nat.zero_add _).symm ?_
      refine g_astore (L' := [(5, .ref q9), (0, .ref a0), (1, .int x1), (2, .int x2), (3, .int x3), (4, .ref ao)]) hC dL_print_15 (by decide) rfl ?_
      refine g_iconst (v := 1) hC dL_print_17 (by decide) ?_
      exact g_iretW hC hEn hs1 (gE1_b _ _) dL_print_18
    · show gAt X 0 0 6 w h (gE1 ao (some (.inl (arrV (cy 5) 1 (fun _ => .long v0))))) [(0, .ref a0), (1, .int x1), (2, .int x2), (3, .int x3), (4, .ref ao)] [] 0
      refine g_aload hC dL_print_0 4 rfl ?_
      refine g_iconst (v := 0) hC dL_print_2 (by decide) ?_
      refine g_aload_n hC dL_print_3 rfl 0 rfl ?_
      refine g_iload_n hC dL_print_4 rfl 1 rfl ?_
      refine g_iload_n hC dL_print_5 rfl 2 rfl ?_
      refine g_iload_n hC dL_print_6 rfl 3 rfl ?_
      refine g_callVT hC hst [.int x1, .int x2, .int x3] (ex := 1) hM q_684 q_132 q_681 q_682 q_683 h9_X4_print (T := TX4) (N := 15) (ci := 4) rfl hk0 ⟨Nat.le_of_ble_eq_true rfl, Nat.le_of_ble_eq_true rfl⟩ ⟨Nat.le_of_ble_eq_true rfl, Nat.le_of_ble_eq_true rfl⟩ (Nat.le_of_ble_eq_true rfl) rfl dL_print_7 (fun h1 hh1 hs1 => ?_)
      show gXt X (0 + 1) (0 + 6) 6 w1 h1 (gE1 ao (some (.inl (arrV (cy 5) 1 (fun _ => .long v0))))) [(0, .ref a0), (1, .int x1), (2, .int x2), (3, .int x3), (4, .ref ao)] 1 7
      have hpass : ∀ z ∈ ([⟨0, 12, 15, 25⟩] : List ExceptionTableEntry), z.catchType ≠ 0 ∧ ∃ nm : String, Cond.classLink RL z.catchType nm ∈ lwA ∧ (exN 1, nm) ∈ ncL := by
        intro z hz
        simp only [List.mem_cons, List.not_mem_nil, or_false] at hz
        subst hz
        exact ⟨by decide, _, q_660, by decide +kernel⟩
      refine g_catch hC hEn [⟨0, 12, 15, 25⟩] ⟨0, 12, 19, 13⟩ [⟨0, 12, 23, 15⟩] rfl hpass (by decide) (by decide) q_624 q_475 (fun q9 => ?_)
      refine g_cs 1 6 (Nat.zero_add _).symm (Nat.zero_add _).symm ?_
      refine g_astore (L' := [(5, .ref q9), (0, .ref a0), (1, .int x1), (2, .int x2), (3, .int x3), (4, .ref ao)]) hC dL_print_19 (by decide) rfl ?_
      refine g_iconst (v := 2) hC dL_print_21 (by decide) ?_
      exact g_iretW hC hEn hs1 (gE1_b _ _) dL_print_22
    · show gAt X 0 0 6 w h (gE1 ao (some (.inl (arrV (cy 5) 1 (fun _ => .long v0))))) [(0, .ref a0), (1, .int x1), (2, .int x2), (3, .int x3), (4, .ref ao)] [] 0
      refine g_aload hC dL_print_0 4 rfl ?_
      refine g_iconst (v := 0) hC dL_print_2 (by decide) ?_
      refine g_aload_n hC dL_print_3 rfl 0 rfl ?_
      refine g_iload_n hC dL_print_4 rfl 1 rfl ?_
      refine g_iload_n hC dL_print_5 rfl 2 rfl ?_
      refine g_iload_n hC dL_print_6 rfl 3 rfl ?_
      refine g_callVT hC hst [.int x1, .int x2, .int x3] (ex := 4) hM q_684 q_132 q_681 q_682 q_683 h9_X4_print (T := TX4) (N := 15) (ci := 4) rfl hk0 ⟨Nat.le_of_ble_eq_true rfl, Nat.le_of_ble_eq_true rfl⟩ ⟨Nat.le_of_ble_eq_true rfl, Nat.le_of_ble_eq_true rfl⟩ (Nat.le_of_ble_eq_true rfl) rfl dL_print_7 (fun h1 hh1 hs1 => ?_)
      show gXt X (0 + 1) (0 + 6) 6 w1 h1 (gE1 ao (some (.inl (arrV (cy 5) 1 (fun _ => .long v0))))) [(0, .ref a0), (1, .int x1), (2, .int x2), (3, .int x3), (4, .ref ao)] 4 7
      have hpass : ∀ z ∈ ([⟨0, 12, 15, 25⟩, ⟨0, 12, 19, 13⟩] : List ExceptionTableEntry), z.catchType ≠ 0 ∧ ∃ nm : String, Cond.classLink RL z.catchType nm ∈ lwA ∧ (exN 4, nm) ∈ ncL := by
        intro z hz
        simp only [List.mem_cons, List.not_mem_nil, or_false] at hz
        rcases hz with rfl | rfl
        · exact ⟨by decide, _, q_660, by decide +kernel⟩
        · exact ⟨by decide, _, q_624, by decide +kernel⟩
      refine g_catch hC hEn [⟨0, 12, 15, 25⟩, ⟨0, 12, 19, 13⟩] ⟨0, 12, 23, 15⟩ [] rfl hpass (by decide) (by decide) q_625 q_491 (fun q9 => ?_)
      refine g_cs 1 6 (Nat.zero_add _).symm (Nat.zero_add _).symm ?_
      refine g_astore (L' := [(5, .ref q9), (0, .ref a0), (1, .int x1), (2, .int x2), (3, .int x3), (4, .ref ao)]) hC dL_print_23 (by decide) rfl ?_
      refine g_iconst (v := 3) hC dL_print_25 (by decide) ?_
      exact g_iretW hC hEn hs1 (gE1_b _ _) dL_print_26
theorem dL_throwAway_0 : decode cL_throwAway 0 = .ok (.aload_n 2, 1) := by decide +kernel
theorem dL_throwAway_1 : decode cL_throwAway 1 = .ok (.iconst 0, 1) := by decide +kernel
theorem dL_throwAway_2 : decode cL_throwAway 2 = .ok (.aload_n 0, 1) := by decide +kernel
theorem dL_throwAway_3 : decode cL_throwAway 3 = .ok (.iload_n 1, 1) := by decide +kernel
theorem dL_throwAway_4 : decode cL_throwAway 4 = .ok (.invokevirtual 27, 3) := by decide +kernel
theorem dL_throwAway_7 : decode cL_throwAway 7 = .ok (.i2l, 1) := by decide +kernel
theorem dL_throwAway_8 : decode cL_throwAway 8 = .ok (.lastore, 1) := by decide +kernel
theorem dL_throwAway_9 : decode cL_throwAway 9 = .ok (.goto 6, 3) := by decide +kernel
theorem dL_throwAway_12 : decode cL_throwAway 12 = .ok (.astore_n 3, 1) := by decide +kernel
theorem dL_throwAway_13 : decode cL_throwAway 13 = .ok (.iconst 1, 1) := by decide +kernel
theorem dL_throwAway_14 : decode cL_throwAway 14 = .ok (.ireturn, 1) := by decide +kernel
theorem dL_throwAway_15 : decode cL_throwAway 15 = .ok (.iconst 0, 1) := by decide +kernel
theorem dL_throwAway_16 : decode cL_throwAway 16 = .ok (.ireturn, 1) := by decide +kernel
theorem h9_L_throwAway : yL_throwAway.cls ≠ "java/lang/invoke/MethodHandle" ∧ yL_throwAway.cls ≠ "java/lang/invoke/VarHandle" ∧ (parseMethodDescriptor yL_throwAway.desc).map (fun d => d.parameters.length) = some 3 := by decide +kernel
set_option maxHeartbeats 4000000 in
set_option maxRecDepth 100000 in
theorem c_L_throwAway (l : Launch) (D : va_G) (cy : Nat → ClassId) (a0 : Nat) (x1 : Int32) (ao : Nat) (w w1 : FW) (v0 : Int64) (rx : Int32 ⊕ Nat) (hF : F_X4_throwAway a0 x1 w = some (rx, w1)) (hk0 : w.1 a0 = 5) (hes : ∀ e, rx = .inr e → e ∈ [2]) : fWSpec l D cy yL_throwAway cL_throwAway 4 [(0, 9, 12, 25)] { frames := 8, cells := 1, slots := 6, locals := 142 } [.ref a0, .int x1, .ref ao] w w1 ao (arrV (cy 5) 1 (fun _ => .long v0)) (wO rx (arrV (cy 5) 1 (fun _ => .long v0)) (fun v => arrV (cy 5) 1 (fun _ => .long v.toInt64))) (wK [2] rx) := by
  have hM := fun (D : va_G) (cy : Nat → ClassId) => c_X4_throwAway l D cy a0 x1 w _ hF
  refine fw_begin (by decide +kernel) (Nat.le_of_ble_eq_true rfl) (fun X h hC hEn ho0 ho1 => ?_)
  have hst := fW_st hC hEn
  replace hM := hM D cy
  rcases rx with v | e
  · show gAt X 0 0 4 w h (gE1 ao (some (.inl (arrV (cy 5) 1 (fun _ => .long v0))))) [(0, .ref a0), (1, .int x1), (2, .ref ao)] [] 0
    refine g_aload_n hC dL_throwAway_0 rfl 2 rfl ?_
    refine g_iconst (v := 0) hC dL_throwAway_1 (by decide) ?_
    refine g_aload_n hC dL_throwAway_2 rfl 0 rfl ?_
    refine g_iload_n hC dL_throwAway_3 rfl 1 rfl ?_
    refine g_callVR hC hst [.int x1] (rv := some (.int v)) hM q_711 q_132 q_708 q_709 q_710 h9_X4_throwAway (T := TX4) (N := 15) (ci := 4) rfl hk0 ⟨Nat.le_of_ble_eq_true rfl, Nat.le_of_ble_eq_true rfl⟩ ⟨Nat.le_of_ble_eq_true rfl, Nat.le_of_ble_eq_true rfl⟩ (Nat.le_of_ble_eq_true rfl) rfl dL_throwAway_4 (fun h1 hh1 hs1 => ?_)
    refine g_cs 1 6 (Nat.zero_add _).symm (Nat.zero_add _).symm ?_
    refine g_i2l hC dL_throwAway_7 ?_
    refine g_lastE hC (gE1_b _ _) dL_throwAway_8 ?_
    refine g_nm h1 (gE1 ao (some (.inl (arrV (cy 5) 1 (fun _ => .long v.toInt64))))) _ _ rfl (gE1_up _ _ _).symm rfl rfl ?_
    refine g_goto hC 15 dL_throwAway_9 (by decide) ?_
    refine g_iconst (v := 0) hC dL_throwAway_15 (by decide) ?_
    exact g_iretW hC hEn hs1 (gE1_b _ _) dL_throwAway_16
  · have he := hes e rfl
    simp only [List.mem_cons, List.not_mem_nil, or_false] at he
    subst he
    show gAt X 0 0 4 w h (gE1 ao (some (.inl (arrV (cy 5) 1 (fun _ => .long v0))))) [(0, .ref a0), (1, .int x1), (2, .ref ao)] [] 0
    refine g_aload_n hC dL_throwAway_0 rfl 2 rfl ?_
    refine g_iconst (v := 0) hC dL_throwAway_1 (by decide) ?_
    refine g_aload_n hC dL_throwAway_2 rfl 0 rfl ?_
    refine g_iload_n hC dL_throwAway_3 rfl 1 rfl ?_
    refine g_callVT hC hst [.int x1] (ex := 2) hM q_711 q_132 q_708 q_709 q_710 h9_X4_throwAway (T := TX4) (N := 15) (ci := 4) rfl hk0 ⟨Nat.le_of_ble_eq_true rfl, Nat.le_of_ble_eq_true rfl⟩ ⟨Nat.le_of_ble_eq_true rfl, Nat.le_of_ble_eq_true rfl⟩ (Nat.le_of_ble_eq_true rfl) rfl dL_throwAway_4 (fun h1 hh1 hs1 => ?_)
    show gXt X (0 + 1) (0 + 6) 4 w1 h1 (gE1 ao (some (.inl (arrV (cy 5) 1 (fun _ => .long v0))))) [(0, .ref a0), (1, .int x1), (2, .ref ao)] 2 4
    refine g_catch hC hEn [] ⟨0, 9, 12, 25⟩ [] rfl (fun z hz => absurd hz List.not_mem_nil) (by decide) (by decide) q_660 q_403 (fun q9 => ?_)
    refine g_cs 1 6 (Nat.zero_add _).symm (Nat.zero_add _).symm ?_
    refine g_astore_n (L' := [(3, .ref q9), (0, .ref a0), (1, .int x1), (2, .ref ao)]) hC dL_throwAway_12 rfl (by decide) rfl ?_
    refine g_iconst (v := 1) hC dL_throwAway_13 (by decide) ?_
    exact g_iretW hC hEn hs1 (gE1_b _ _) dL_throwAway_14
theorem dL_mood_0 : decode cL_mood 0 = .ok (.aload_n 3, 1) := by decide +kernel
theorem dL_mood_1 : decode cL_mood 1 = .ok (.iconst 0, 1) := by decide +kernel
theorem dL_mood_2 : decode cL_mood 2 = .ok (.aload_n 0, 1) := by decide +kernel
theorem dL_mood_3 : decode cL_mood 3 = .ok (.iload_n 1, 1) := by decide +kernel
theorem dL_mood_4 : decode cL_mood 4 = .ok (.iload_n 2, 1) := by decide +kernel
theorem dL_mood_5 : decode cL_mood 5 = .ok (.invokevirtual 31, 3) := by decide +kernel
theorem dL_mood_8 : decode cL_mood 8 = .ok (.i2l, 1) := by decide +kernel
theorem dL_mood_9 : decode cL_mood 9 = .ok (.lastore, 1) := by decide +kernel
theorem dL_mood_10 : decode cL_mood 10 = .ok (.goto 15, 3) := by decide +kernel
theorem dL_mood_13 : decode cL_mood 13 = .ok (.astore 4, 2) := by decide +kernel
theorem dL_mood_15 : decode cL_mood 15 = .ok (.iconst 1, 1) := by decide +kernel
theorem dL_mood_16 : decode cL_mood 16 = .ok (.ireturn, 1) := by decide +kernel
theorem dL_mood_17 : decode cL_mood 17 = .ok (.astore 4, 2) := by decide +kernel
theorem dL_mood_19 : decode cL_mood 19 = .ok (.iconst 2, 1) := by decide +kernel
theorem dL_mood_20 : decode cL_mood 20 = .ok (.ireturn, 1) := by decide +kernel
theorem dL_mood_21 : decode cL_mood 21 = .ok (.astore 4, 2) := by decide +kernel
theorem dL_mood_23 : decode cL_mood 23 = .ok (.iconst 3, 1) := by decide +kernel
theorem dL_mood_24 : decode cL_mood 24 = .ok (.ireturn, 1) := by decide +kernel
theorem dL_mood_25 : decode cL_mood 25 = .ok (.iconst 0, 1) := by decide +kernel
theorem dL_mood_26 : decode cL_mood 26 = .ok (.ireturn, 1) := by decide +kernel
theorem h9_L_mood : yL_mood.cls ≠ "java/lang/invoke/MethodHandle" ∧ yL_mood.cls ≠ "java/lang/invoke/VarHandle" ∧ (parseMethodDescriptor yL_mood.desc).map (fun d => d.parameters.length) = some 4 := by decide +kernel
set_option maxHeartbeats 4000000 in
set_option maxRecDepth 100000 in
theorem c_L_mood (l : Launch) (D : va_G) (cy : Nat → ClassId) (a0 : Nat) (x1 : Int32) (x2 : Int32) (ao : Nat) (w w1 : FW) (v0 : Int64) (rx : Int32 ⊕ Nat) (hF : F_X4_mood a0 x1 x2 w = some (rx, w1)) (hk0 : w.1 a0 = 5) (hes : ∀ e, rx = .inr e → e ∈ [2, 1, 4]) : fWSpec l D cy yL_mood cL_mood 5 [(0, 10, 13, 25), (0, 10, 17, 13), (0, 10, 21, 15)] { frames := 8, cells := 1, slots := 6, locals := 144 } [.ref a0, .int x1, .int x2, .ref ao] w w1 ao (arrV (cy 5) 1 (fun _ => .long v0)) (wO rx (arrV (cy 5) 1 (fun _ => .long v0)) (fun v => arrV (cy 5) 1 (fun _ => .long v.toInt64))) (wK [2, 1, 4] rx) := by
  have hM := fun (D : va_G) (cy : Nat → ClassId) => c_X4_mood l D cy a0 x1 x2 w _ hF
  refine fw_begin (by decide +kernel) (Nat.le_of_ble_eq_true rfl) (fun X h hC hEn ho0 ho1 => ?_)
  have hst := fW_st hC hEn
  replace hM := hM D cy
  rcases rx with v | e
  · show gAt X 0 0 5 w h (gE1 ao (some (.inl (arrV (cy 5) 1 (fun _ => .long v0))))) [(0, .ref a0), (1, .int x1), (2, .int x2), (3, .ref ao)] [] 0
    refine g_aload_n hC dL_mood_0 rfl 3 rfl ?_
    refine g_iconst (v := 0) hC dL_mood_1 (by decide) ?_
    refine g_aload_n hC dL_mood_2 rfl 0 rfl ?_
    refine g_iload_n hC dL_mood_3 rfl 1 rfl ?_
    refine g_iload_n hC dL_mood_4 rfl 2 rfl ?_
    refine g_callVR hC hst [.int x1, .int x2] (rv := some (.int v)) hM q_730 q_132 q_727 q_728 q_729 h9_X4_mood (T := TX4) (N := 15) (ci := 4) rfl hk0 ⟨Nat.le_of_ble_eq_true rfl, Nat.le_of_ble_eq_true rfl⟩ ⟨Nat.le_of_ble_eq_true rfl, Nat.le_of_ble_eq_true rfl⟩ (Nat.le_of_ble_eq_true rfl) rfl dL_mood_5 (fun h1 hh1 hs1 => ?_)
    refine g_cs 1 6 (Nat.zero_add _).symm (Nat.zero_add _).symm ?_
    refine g_i2l hC dL_mood_8 ?_
    refine g_lastE hC (gE1_b _ _) dL_mood_9 ?_
    refine g_nm h1 (gE1 ao (some (.inl (arrV (cy 5) 1 (fun _ => .long v.toInt64))))) _ _ rfl (gE1_up _ _ _).symm rfl rfl ?_
    refine g_goto hC 25 dL_mood_10 (by decide) ?_
    refine g_iconst (v := 0) hC dL_mood_25 (by decide) ?_
    exact g_iretW hC hEn hs1 (gE1_b _ _) dL_mood_26
  · have he := hes e rfl
    simp only [List.mem_cons, List.not_mem_nil, or_false] at he
    rcases he with rfl | rfl | rfl
    · show gAt X 0 0 5 w h (gE1 ao (some (.inl (arrV (cy 5) 1 (fun _ => .long v0))))) [(0, .ref a0), (1, .int x1), (2, .int x2), (3, .ref ao)] [] 0
      refine g_aload_n hC dL_mood_0 rfl 3 rfl ?_
      refine g_iconst (v := 0) hC dL_mood_1 (by decide) ?_
      refine g_aload_n hC dL_mood_2 rfl 0 rfl ?_
      refine g_iload_n hC dL_mood_3 rfl 1 rfl ?_
      refine g_iload_n hC dL_mood_4 rfl 2 rfl ?_
      refine g_callVT hC hst [.int x1, .int x2] (ex := 2) hM q_730 q_132 q_727 q_728 q_729 h9_X4_mood (T := TX4) (N := 15) (ci := 4) rfl hk0 ⟨Nat.le_of_ble_eq_true rfl, Nat.le_of_ble_eq_true rfl⟩ ⟨Nat.le_of_ble_eq_true rfl, Nat.le_of_ble_eq_true rfl⟩ (Nat.le_of_ble_eq_true rfl) rfl dL_mood_5 (fun h1 hh1 hs1 => ?_)
      show gXt X (0 + 1) (0 + 6) 5 w1 h1 (gE1 ao (some (.inl (arrV (cy 5) 1 (fun _ => .long v0))))) [(0, .ref a0), (1, .int x1), (2, .int x2), (3, .ref ao)] 2 5
      refine g_catch hC hEn [] ⟨0, 10, 13, 25⟩ [⟨0, 10, 17, 13⟩, ⟨0, 10, 21, 15⟩] rfl (fun z hz => absurd hz List.not_mem_nil) (by decide) (by decide) q_660 q_403 (fun q9 => ?_)
      refine g_cs 1 6 (Nat.zero_add _).symm (Nat.zero_add _).symm ?_
      refine g_astore (L' := [(4, .ref q9), (0, .ref a0), (1, .int x1), (2, .int x2), (3, .ref ao)]) hC dL_mood_13 (by decide) rfl ?_
      refine g_iconst (v := 1) hC dL_mood_15 (by decide) ?_
      exact g_iretW hC hEn hs1 (gE1_b _ _) dL_mood_16
    · show gAt X 0 0 5 w h (gE1 ao (some (.inl (arrV (cy 5) 1 (fun _ => .long v0))))) [(0, .ref a0), (1, .int x1), (2, .int x2), (3, .ref ao)] [] 0
      refine g_aload_n hC dL_mood_0 rfl 3 rfl ?_
      refine g_iconst (v := 0) hC dL_mood_1 (by decide) ?_
      refine g_aload_n hC dL_mood_2 rfl 0 rfl ?_
      refine g_iload_n hC dL_mood_3 rfl 1 rfl ?_
      refine g_iload_n hC dL_mood_4 rfl 2 rfl ?_
      refine g_callVT hC hst [.int x1, .int x2] (ex := 1) hM q_730 q_132 q_727 q_728 q_729 h9_X4_mood (T := TX4) (N := 15) (ci := 4) rfl hk0 ⟨Nat.le_of_ble_eq_true rfl, Nat.le_of_ble_eq_true rfl⟩ ⟨Nat.le_of_ble_eq_true rfl, Nat.le_of_ble_eq_true rfl⟩ (Nat.le_of_ble_eq_true rfl) rfl dL_mood_5 (fun h1 hh1 hs1 => ?_)
      show gXt X (0 + 1) (0 + 6) 5 w1 h1 (gE1 ao (some (.inl (arrV (cy 5) 1 (fun _ => .long v0))))) [(0, .ref a0), (1, .int x1), (2, .int x2), (3, .ref ao)] 1 5
      have hpass : ∀ z ∈ ([⟨0, 10, 13, 25⟩] : List ExceptionTableEntry), z.catchType ≠ 0 ∧ ∃ nm : String, Cond.classLink RL z.catchType nm ∈ lwA ∧ (exN 1, nm) ∈ ncL := by
        intro z hz
        simp only [List.mem_cons, List.not_mem_nil, or_false] at hz
        subst hz
        exact ⟨by decide, _, q_660, by decide +kernel⟩
      refine g_catch hC hEn [⟨0, 10, 13, 25⟩] ⟨0, 10, 17, 13⟩ [⟨0, 10, 21, 15⟩] rfl hpass (by decide) (by decide) q_624 q_475 (fun q9 => ?_)
      refine g_cs 1 6 (Nat.zero_add _).symm (Nat.zero_add _).symm ?_
      refine g_astore (L' := [(4, .ref q9), (0, .ref a0), (1, .int x1), (2, .int x2), (3, .ref ao)]) hC dL_mood_17 (by decide) rfl ?_
      refine g_iconst (v := 2) hC dL_mood_19 (by decide) ?_
      exact g_iretW hC hEn hs1 (gE1_b _ _) dL_mood_20
    · show gAt X 0 0 5 w h (gE1 ao (some (.inl (arrV (cy 5) 1 (fun _ => .long v0))))) [(0, .ref a0), (1, .int x1), (2, .int x2), (3, .ref ao)] [] 0
      refine g_aload_n hC dL_mood_0 rfl 3 rfl ?_
      refine g_iconst (v := 0) hC dL_mood_1 (by decide) ?_
      refine g_aload_n hC dL_mood_2 rfl 0 rfl ?_
      refine g_iload_n hC dL_mood_3 rfl 1 rfl ?_
      refine g_iload_n hC dL_mood_4 rfl 2 rfl ?_
      refine g_callVT hC hst [.int x1, .int x2] (ex := 4) hM q_730 q_132 q_727 q_728 q_729 h9_X4_mood (T := TX4) (N := 15) (ci := 4) rfl hk0 ⟨Nat.le_of_ble_eq_true rfl, Nat.le_of_ble_eq_true rfl⟩ ⟨Nat.le_of_ble_eq_true rfl, Nat.le_of_ble_eq_true rfl⟩ (Nat.le_of_ble_eq_true rfl) rfl dL_mood_5 (fun h1 hh1 hs1 => ?_)
      show gXt X (0 + 1) (0 + 6) 5 w1 h1 (gE1 ao (some (.inl (arrV (cy 5) 1 (fun _ => .long v0))))) [(0, .ref a0), (1, .int x1), (2, .int x2), (3, .ref ao)] 4 5
      have hpass : ∀ z ∈ ([⟨0, 10, 13, 25⟩, ⟨0, 10, 17, 13⟩] : List ExceptionTableEntry), z.catchType ≠ 0 ∧ ∃ nm : String, Cond.classLink RL z.catchType nm ∈ lwA ∧ (exN 4, nm) ∈ ncL := by
        intro z hz
        simp only [List.mem_cons, List.not_mem_nil, or_false] at hz
        rcases hz with rfl | rfl
        · exact ⟨by decide, _, q_660, by decide +kernel⟩
        · exact ⟨by decide, _, q_624, by decide +kernel⟩
      refine g_catch hC hEn [⟨0, 10, 13, 25⟩, ⟨0, 10, 17, 13⟩] ⟨0, 10, 21, 15⟩ [] rfl hpass (by decide) (by decide) q_625 q_491 (fun q9 => ?_)
      refine g_cs 1 6 (Nat.zero_add _).symm (Nat.zero_add _).symm ?_
      refine g_astore (L' := [(4, .ref q9), (0, .ref a0), (1, .int x1), (2, .int x2), (3, .ref ao)]) hC dL_mood_21 (by decide) rfl ?_
      refine g_iconst (v := 3) hC dL_mood_23 (by decide) ?_
      exact g_iretW hC hEn hs1 (gE1_b _ _) dL_mood_24
theorem dL_pier_0 : decode cL_pier 0 = .ok (.aload_n 3, 1) := by decide +kernel
theorem dL_pier_1 : decode cL_pier 1 = .ok (.iconst 0, 1) := by decide +kernel
theorem dL_pier_2 : decode cL_pier 2 = .ok (.aload_n 0, 1) := by decide +kernel
theorem dL_pier_3 : decode cL_pier 3 = .ok (.iload_n 1, 1) := by decide +kernel
theorem dL_pier_4 : decode cL_pier 4 = .ok (.iload_n 2, 1) := by decide +kernel
theorem dL_pier_5 : decode cL_pier 5 = .ok (.invokevirtual 35, 3) := by decide +kernel
theorem dL_pier_8 : decode cL_pier 8 = .ok (.i2l, 1) := by decide +kernel
theorem dL_pier_9 : decode cL_pier 9 = .ok (.lastore, 1) := by decide +kernel
theorem dL_pier_10 : decode cL_pier 10 = .ok (.goto 11, 3) := by decide +kernel
theorem dL_pier_13 : decode cL_pier 13 = .ok (.astore 4, 2) := by decide +kernel
theorem dL_pier_15 : decode cL_pier 15 = .ok (.iconst 1, 1) := by decide +kernel
theorem dL_pier_16 : decode cL_pier 16 = .ok (.ireturn, 1) := by decide +kernel
theorem dL_pier_17 : decode cL_pier 17 = .ok (.astore 4, 2) := by decide +kernel
theorem dL_pier_19 : decode cL_pier 19 = .ok (.iconst 2, 1) := by decide +kernel
theorem dL_pier_20 : decode cL_pier 20 = .ok (.ireturn, 1) := by decide +kernel
theorem dL_pier_21 : decode cL_pier 21 = .ok (.iconst 0, 1) := by decide +kernel
theorem dL_pier_22 : decode cL_pier 22 = .ok (.ireturn, 1) := by decide +kernel
theorem h9_L_pier : yL_pier.cls ≠ "java/lang/invoke/MethodHandle" ∧ yL_pier.cls ≠ "java/lang/invoke/VarHandle" ∧ (parseMethodDescriptor yL_pier.desc).map (fun d => d.parameters.length) = some 4 := by decide +kernel
set_option maxHeartbeats 4000000 in
set_option maxRecDepth 100000 in
theorem c_L_pier (l : Launch) (D : va_G) (cy : Nat → ClassId) (a0 : Nat) (x1 : Int32) (x2 : Int32) (ao : Nat) (w w1 : FW) (v0 : Int64) (rx : Int32 ⊕ Nat) (hF : F_X4_pier a0 x1 x2 w = some (rx, w1)) (hk0 : w.1 a0 = 5) (hes : ∀ e, rx = .inr e → e ∈ [2, 4]) : fWSpec l D cy yL_pier cL_pier 5 [(0, 10, 13, 25), (0, 10, 17, 15)] { frames := 8, cells := 1, slots := 6, locals := 143 } [.ref a0, .int x1, .int x2, .ref ao] w w1 ao (arrV (cy 5) 1 (fun _ => .long v0)) (wO rx (arrV (cy 5) 1 (fun _ => .long v0)) (fun v => arrV (cy 5) 1 (fun _ => .long v.toInt64))) (wK [2, 4] rx) := by
  have hM := fun (D : va_G) (cy : Nat → ClassId) => c_X4_pier l D cy a0 x1 x2 w _ hF
  refine fw_begin (by decide +kernel) (Nat.le_of_ble_eq_true rfl) (fun X h hC hEn ho0 ho1 => ?_)
  have hst := fW_st hC hEn
  replace hM := hM D cy
  rcases rx with v | e
  · show gAt X 0 0 5 w h (gE1 ao (some (.inl (arrV (cy 5) 1 (fun _ => .long v0))))) [(0, .ref a0), (1, .int x1), (2, .int x2), (3, .ref ao)] [] 0
    refine g_aload_n hC dL_pier_0 rfl 3 rfl ?_
    refine g_iconst (v := 0) hC dL_pier_1 (by decide) ?_
    refine g_aload_n hC dL_pier_2 rfl 0 rfl ?_
    refine g_iload_n hC dL_pier_3 rfl 1 rfl ?_
    refine g_iload_n hC dL_pier_4 rfl 2 rfl ?_
    refine g_callVR hC hst [.int x1, .int x2] (rv := some (.int v)) hM q_749 q_132 q_746 q_747 q_748 h9_X4_pier (T := TX4) (N := 15) (ci := 4) rfl hk0 ⟨Nat.le_of_ble_eq_true rfl, Nat.le_of_ble_eq_true rfl⟩ ⟨Nat.le_of_ble_eq_true rfl, Nat.le_of_ble_eq_true rfl⟩ (Nat.le_of_ble_eq_true rfl) rfl dL_pier_5 (fun h1 hh1 hs1 => ?_)
    refine g_cs 1 6 (Nat.zero_add _).symm (Nat.zero_add _).symm ?_
    refine g_i2l hC dL_pier_8 ?_
    refine g_lastE hC (gE1_b _ _) dL_pier_9 ?_
    refine g_nm h1 (gE1 ao (some (.inl (arrV (cy 5) 1 (fun _ => .long v.toInt64))))) _ _ rfl (gE1_up _ _ _).symm rfl rfl ?_
    refine g_goto hC 21 dL_pier_10 (by decide) ?_
    refine g_iconst (v := 0) hC dL_pier_21 (by decide) ?_
    exact g_iretW hC hEn hs1 (gE1_b _ _) dL_pier_22
  · have he := hes e rfl
    simp only [List.mem_cons, List.not_mem_nil, or_false] at he
    rcases he with rfl | rfl
    · show gAt X 0 0 5 w h (gE1 ao (some (.inl (arrV (cy 5) 1 (fun _ => .long v0))))) [(0, .ref a0), (1, .int x1), (2, .int x2), (3, .ref ao)] [] 0
      refine g_aload_n hC dL_pier_0 rfl 3 rfl ?_
      refine g_iconst (v := 0) hC dL_pier_1 (by decide) ?_
      refine g_aload_n hC dL_pier_2 rfl 0 rfl ?_
      refine g_iload_n hC dL_pier_3 rfl 1 rfl ?_
      refine g_iload_n hC dL_pier_4 rfl 2 rfl ?_
      refine g_callVT hC hst [.int x1, .int x2] (ex := 2) hM q_749 q_132 q_746 q_747 q_748 h9_X4_pier (T := TX4) (N := 15) (ci := 4) rfl hk0 ⟨Nat.le_of_ble_eq_true rfl, Nat.le_of_ble_eq_true rfl⟩ ⟨Nat.le_of_ble_eq_true rfl, Nat.le_of_ble_eq_true rfl⟩ (Nat.le_of_ble_eq_true rfl) rfl dL_pier_5 (fun h1 hh1 hs1 => ?_)
      show gXt X (0 + 1) (0 + 6) 5 w1 h1 (gE1 ao (some (.inl (arrV (cy 5) 1 (fun _ => .long v0))))) [(0, .ref a0), (1, .int x1), (2, .int x2), (3, .ref ao)] 2 5
      refine g_catch hC hEn [] ⟨0, 10, 13, 25⟩ [⟨0, 10, 17, 15⟩] rfl (fun z hz => absurd hz List.not_mem_nil) (by decide) (by decide) q_660 q_403 (fun q9 => ?_)
      refine g_cs 1 6 (Nat.zero_add _).symm (Nat.zero_add _).symm ?_
      refine g_astore (L' := [(4, .ref q9), (0, .ref a0), (1, .int x1), (2, .int x2), (3, .ref ao)]) hC dL_pier_13 (by decide) rfl ?_
      refine g_iconst (v := 1) hC dL_pier_15 (by decide) ?_
      exact g_iretW hC hEn hs1 (gE1_b _ _) dL_pier_16
    · show gAt X 0 0 5 w h (gE1 ao (some (.inl (arrV (cy 5) 1 (fun _ => .long v0))))) [(0, .ref a0), (1, .int x1), (2, .int x2), (3, .ref ao)] [] 0
      refine g_aload_n hC dL_pier_0 rfl 3 rfl ?_
      refine g_iconst (v := 0) hC dL_pier_1 (by decide) ?_
      refine g_aload_n hC dL_pier_2 rfl 0 rfl ?_
      refine g_iload_n hC dL_pier_3 rfl 1 rfl ?_
      refine g_iload_n hC dL_pier_4 rfl 2 rfl ?_
      refine g_callVT hC hst [.int x1, .int x2] (ex := 4) hM q_749 q_132 q_746 q_747 q_748 h9_X4_pier (T := TX4) (N := 15) (ci := 4) rfl hk0 ⟨Nat.le_of_ble_eq_true rfl, Nat.le_of_ble_eq_true rfl⟩ ⟨Nat.le_of_ble_eq_true rfl, Nat.le_of_ble_eq_true rfl⟩ (Nat.le_of_ble_eq_true rfl) rfl dL_pier_5 (fun h1 hh1 hs1 => ?_)
      show gXt X (0 + 1) (0 + 6) 5 w1 h1 (gE1 ao (some (.inl (arrV (cy 5) 1 (fun _ => .long v0))))) [(0, .ref a0), (1, .int x1), (2, .int x2), (3, .ref ao)] 4 5
      have hpass : ∀ z ∈ ([⟨0, 10, 13, 25⟩] : List ExceptionTableEntry), z.catchType ≠ 0 ∧ ∃ nm : String, Cond.classLink RL z.catchType nm ∈ lwA ∧ (exN 4, nm) ∈ ncL := by
        intro z hz
        simp only [List.mem_cons, List.not_mem_nil, or_false] at hz
        subst hz
        exact ⟨by decide, _, q_660, by decide +kernel⟩
      refine g_catch hC hEn [⟨0, 10, 13, 25⟩] ⟨0, 10, 17, 15⟩ [] rfl hpass (by decide) (by decide) q_625 q_491 (fun q9 => ?_)
      refine g_cs 1 6 (Nat.zero_add _).symm (Nat.zero_add _).symm ?_
      refine g_astore (L' := [(4, .ref q9), (0, .ref a0), (1, .int x1), (2, .int x2), (3, .ref ao)]) hC dL_pier_17 (by decide) rfl ?_
      refine g_iconst (v := 2) hC dL_pier_19 (by decide) ?_
      exact g_iretW hC hEn hs1 (gE1_b _ _) dL_pier_20
theorem dL_ticketOf_0 : decode cL_ticketOf 0 = .ok (.aload_n 3, 1) := by decide +kernel
theorem dL_ticketOf_1 : decode cL_ticketOf 1 = .ok (.iconst 0, 1) := by decide +kernel
theorem dL_ticketOf_2 : decode cL_ticketOf 2 = .ok (.aload_n 0, 1) := by decide +kernel
theorem dL_ticketOf_3 : decode cL_ticketOf 3 = .ok (.iload_n 1, 1) := by decide +kernel
theorem dL_ticketOf_4 : decode cL_ticketOf 4 = .ok (.iload_n 2, 1) := by decide +kernel
theorem dL_ticketOf_5 : decode cL_ticketOf 5 = .ok (.invokevirtual 39, 3) := by decide +kernel
theorem dL_ticketOf_8 : decode cL_ticketOf 8 = .ok (.i2l, 1) := by decide +kernel
theorem dL_ticketOf_9 : decode cL_ticketOf 9 = .ok (.lastore, 1) := by decide +kernel
theorem dL_ticketOf_10 : decode cL_ticketOf 10 = .ok (.goto 11, 3) := by decide +kernel
theorem dL_ticketOf_13 : decode cL_ticketOf 13 = .ok (.astore 4, 2) := by decide +kernel
theorem dL_ticketOf_15 : decode cL_ticketOf 15 = .ok (.iconst 1, 1) := by decide +kernel
theorem dL_ticketOf_16 : decode cL_ticketOf 16 = .ok (.ireturn, 1) := by decide +kernel
theorem dL_ticketOf_17 : decode cL_ticketOf 17 = .ok (.astore 4, 2) := by decide +kernel
theorem dL_ticketOf_19 : decode cL_ticketOf 19 = .ok (.iconst 2, 1) := by decide +kernel
theorem dL_ticketOf_20 : decode cL_ticketOf 20 = .ok (.ireturn, 1) := by decide +kernel
theorem dL_ticketOf_21 : decode cL_ticketOf 21 = .ok (.iconst 0, 1) := by decide +kernel
theorem dL_ticketOf_22 : decode cL_ticketOf 22 = .ok (.ireturn, 1) := by decide +kernel
theorem h9_L_ticketOf : yL_ticketOf.cls ≠ "java/lang/invoke/MethodHandle" ∧ yL_ticketOf.cls ≠ "java/lang/invoke/VarHandle" ∧ (parseMethodDescriptor yL_ticketOf.desc).map (fun d => d.parameters.length) = some 4 := by decide +kernel
set_option maxHeartbeats 4000000 in
set_option maxRecDepth 100000 in
theorem c_L_ticketOf (l : Launch) (D : va_G) (cy : Nat → ClassId) (a0 : Nat) (x1 : Int32) (x2 : Int32) (ao : Nat) (w : FW) (v0 : Int64) (rx : Int32 ⊕ Nat) (hF : F_X4_ticketOf a0 x1 x2 w = some rx) (hk0 : w.1 a0 = 5) (hes : ∀ e, rx = .inr e → e ∈ [2, 1]) : fWSpec l D cy yL_ticketOf cL_ticketOf 5 [(0, 10, 13, 25), (0, 10, 17, 13)] { frames := 8, cells := 2, slots := 12, locals := 144 } [.ref a0, .int x1, .int x2, .ref ao] w w ao (arrV (cy 5) 1 (fun _ => .long v0)) (wO rx (arrV (cy 5) 1 (fun _ => .long v0)) (fun v => arrV (cy 5) 1 (fun _ => .long v.toInt64))) (wK [2, 1] rx) := by
  have hM := fun (D : va_G) (cy : Nat → ClassId) => c_X4_ticketOf l D cy a0 x1 x2 w _ hF
  refine fw_begin (by decide +kernel) (Nat.le_of_ble_eq_true rfl) (fun X h hC hEn ho0 ho1 => ?_)
  have hst := fW_st hC hEn
  replace hM := hM D cy
  rcases rx with v | e
  · show gAt X 0 0 5 w h (gE1 ao (some (.inl (arrV (cy 5) 1 (fun _ => .long v0))))) [(0, .ref a0), (1, .int x1), (2, .int x2), (3, .ref ao)] [] 0
    refine g_aload_n hC dL_ticketOf_0 rfl 3 rfl ?_
    refine g_iconst (v := 0) hC dL_ticketOf_1 (by decide) ?_
    refine g_aload_n hC dL_ticketOf_2 rfl 0 rfl ?_
    refine g_iload_n hC dL_ticketOf_3 rfl 1 rfl ?_
    refine g_iload_n hC dL_ticketOf_4 rfl 2 rfl ?_
    refine g_callVR hC hst [.int x1, .int x2] (rv := some (.int v)) hM q_764 q_132 q_761 q_762 q_763 h9_X4_ticketOf (T := TX4) (N := 15) (ci := 4) rfl hk0 ⟨Nat.le_of_ble_eq_true rfl, Nat.le_of_ble_eq_true rfl⟩ ⟨Nat.le_of_ble_eq_true rfl, Nat.le_of_ble_eq_true rfl⟩ (Nat.le_of_ble_eq_true rfl) rfl dL_ticketOf_5 (fun h1 hh1 hs1 => ?_)
    refine g_cs 2 12 (Nat.zero_add _).symm (Nat.zero_add _).symm ?_
    refine g_i2l hC dL_ticketOf_8 ?_
    refine g_lastE hC (gE1_b _ _) dL_ticketOf_9 ?_
    refine g_nm h1 (gE1 ao (some (.inl (arrV (cy 5) 1 (fun _ => .long v.toInt64))))) _ _ rfl (gE1_up _ _ _).symm rfl rfl ?_
    refine g_goto hC 21 dL_ticketOf_10 (by decide) ?_
    refine g_iconst (v := 0) hC dL_ticketOf_21 (by decide) ?_
    exact g_iretW hC hEn (fSm.rf w) (gE1_b _ _) dL_ticketOf_22
  · have he := hes e rfl
    simp only [List.mem_cons, List.not_mem_nil, or_false] at he
    rcases he with rfl | rfl
    · show gAt X 0 0 5 w h (gE1 ao (some (.inl (arrV (cy 5) 1 (fun _ => .long v0))))) [(0, .ref a0), (1, .int x1), (2, .int x2), (3, .ref ao)] [] 0
      refine g_aload_n hC dL_ticketOf_0 rfl 3 rfl ?_
      refine g_iconst (v := 0) hC dL_ticketOf_1 (by decide) ?_
      refine g_aload_n hC dL_ticketOf_2 rfl 0 rfl ?_
      refine g_iload_n hC dL_ticketOf_3 rfl 1 rfl ?_
      refine g_iload_n hC dL_ticketOf_4 rfl 2 rfl ?_
      refine g_callVT hC hst [.int x1, .int x2] (ex := 2) hM q_764 q_132 q_761 q_762 q_763 h9_X4_ticketOf (T := TX4) (N := 15) (ci := 4) rfl hk0 ⟨Nat.le_of_ble_eq_true rfl, Nat.le_of_ble_eq_true rfl⟩ ⟨Nat.le_of_ble_eq_true rfl, Nat.le_of_ble_eq_true rfl⟩ (Nat.le_of_ble_eq_true rfl) rfl dL_ticketOf_5 (fun h1 hh1 hs1 => ?_)
      show gXt X (0 + 2) (0 + 12) 5 w h1 (gE1 ao (some (.inl (arrV (cy 5) 1 (fun _ => .long v0))))) [(0, .ref a0), (1, .int x1), (2, .int x2), (3, .ref ao)] 2 5
      refine g_catch hC hEn [] ⟨0, 10, 13, 25⟩ [⟨0, 10, 17, 13⟩] rfl (fun z hz => absurd hz List.not_mem_nil) (by decide) (by decide) q_660 q_403 (fun q9 => ?_)
      refine g_cs 2 12 (Nat.zero_add _).symm (Nat.zero_add _).symm ?_
      refine g_astore (L' := [(4, .ref q9), (0, .ref a0), (1, .int x1), (2, .int x2), (3, .ref ao)]) hC dL_ticketOf_13 (by decide) rfl ?_
      refine g_iconst (v := 1) hC dL_ticketOf_15 (by decide) ?_
      exact g_iretW hC hEn (fSm.rf w) (gE1_b _ _) dL_ticketOf_16
    · show gAt X 0 0 5 w h (gE1 ao (some (.inl (arrV (cy 5) 1 (fun _ => .long v0))))) [(0, .ref a0), (1, .int x1), (2, .int x2), (3, .ref ao)] [] 0
      refine g_aload_n hC dL_ticketOf_0 rfl 3 rfl ?_
      refine g_iconst (v := 0) hC dL_ticketOf_1 (by decide) ?_
      refine g_aload_n hC dL_ticketOf_2 rfl 0 rfl ?_
      refine g_iload_n hC dL_ticketOf_3 rfl 1 rfl ?_
      refine g_iload_n hC dL_ticketOf_4 rfl 2 rfl ?_
      refine g_callVT hC hst [.int x1, .int x2] (ex := 1) hM q_764 q_132 q_761 q_762 q_763 h9_X4_ticketOf (T := TX4) (N := 15) (ci := 4) rfl hk0 ⟨Nat.le_of_ble_eq_true rfl, Nat.le_of_ble_eq_true rfl⟩ ⟨Nat.le_of_ble_eq_true rfl, Nat.le_of_ble_eq_true rfl⟩ (Nat.le_of_ble_eq_true rfl) rfl dL_ticketOf_5 (fun h1 hh1 hs1 => ?_)
      show gXt X (0 + 2) (0 + 12) 5 w h1 (gE1 ao (some (.inl (arrV (cy 5) 1 (fun _ => .long v0))))) [(0, .ref a0), (1, .int x1), (2, .int x2), (3, .ref ao)] 1 5
      have hpass : ∀ z ∈ ([⟨0, 10, 13, 25⟩] : List ExceptionTableEntry), z.catchType ≠ 0 ∧ ∃ nm : String, Cond.classLink RL z.catchType nm ∈ lwA ∧ (exN 1, nm) ∈ ncL := by
        intro z hz
        simp only [List.mem_cons, List.not_mem_nil, or_false] at hz
        subst hz
        exact ⟨by decide, _, q_660, by decide +kernel⟩
      refine g_catch hC hEn [⟨0, 10, 13, 25⟩] ⟨0, 10, 17, 13⟩ [] rfl hpass (by decide) (by decide) q_624 q_475 (fun q9 => ?_)
      refine g_cs 2 12 (Nat.zero_add _).symm (Nat.zero_add _).symm ?_
      refine g_astore (L' := [(4, .ref q9), (0, .ref a0), (1, .int x1), (2, .int x2), (3, .ref ao)]) hC dL_ticketOf_17 (by decide) rfl ?_
      refine g_iconst (v := 2) hC dL_ticketOf_19 (by decide) ?_
      exact g_iretW hC hEn (fSm.rf w) (gE1_b _ _) dL_ticketOf_20
theorem dL_wordAt_0 : decode cL_wordAt 0 = .ok (.aload_n 3, 1) := by decide +kernel
theorem dL_wordAt_1 : decode cL_wordAt 1 = .ok (.iconst 0, 1) := by decide +kernel
theorem dL_wordAt_2 : decode cL_wordAt 2 = .ok (.aload_n 0, 1) := by decide +kernel
theorem dL_wordAt_3 : decode cL_wordAt 3 = .ok (.iload_n 1, 1) := by decide +kernel
theorem dL_wordAt_4 : decode cL_wordAt 4 = .ok (.iload_n 2, 1) := by decide +kernel
theorem dL_wordAt_5 : decode cL_wordAt 5 = .ok (.invokevirtual 42, 3) := by decide +kernel
theorem dL_wordAt_8 : decode cL_wordAt 8 = .ok (.i2l, 1) := by decide +kernel
theorem dL_wordAt_9 : decode cL_wordAt 9 = .ok (.lastore, 1) := by decide +kernel
theorem dL_wordAt_10 : decode cL_wordAt 10 = .ok (.goto 11, 3) := by decide +kernel
theorem dL_wordAt_13 : decode cL_wordAt 13 = .ok (.astore 4, 2) := by decide +kernel
theorem dL_wordAt_15 : decode cL_wordAt 15 = .ok (.iconst 1, 1) := by decide +kernel
theorem dL_wordAt_16 : decode cL_wordAt 16 = .ok (.ireturn, 1) := by decide +kernel
theorem dL_wordAt_17 : decode cL_wordAt 17 = .ok (.astore 4, 2) := by decide +kernel
theorem dL_wordAt_19 : decode cL_wordAt 19 = .ok (.iconst 2, 1) := by decide +kernel
theorem dL_wordAt_20 : decode cL_wordAt 20 = .ok (.ireturn, 1) := by decide +kernel
theorem dL_wordAt_21 : decode cL_wordAt 21 = .ok (.iconst 0, 1) := by decide +kernel
theorem dL_wordAt_22 : decode cL_wordAt 22 = .ok (.ireturn, 1) := by decide +kernel
theorem h9_L_wordAt : yL_wordAt.cls ≠ "java/lang/invoke/MethodHandle" ∧ yL_wordAt.cls ≠ "java/lang/invoke/VarHandle" ∧ (parseMethodDescriptor yL_wordAt.desc).map (fun d => d.parameters.length) = some 4 := by decide +kernel
set_option maxHeartbeats 4000000 in
set_option maxRecDepth 100000 in
theorem c_L_wordAt (l : Launch) (D : va_G) (cy : Nat → ClassId) (a0 : Nat) (x1 : Int32) (x2 : Int32) (ao : Nat) (w : FW) (v0 : Int64) (rx : Int32 ⊕ Nat) (hF : F_X4_wordAt a0 x1 x2 w = some rx) (hk0 : w.1 a0 = 5) (hes : ∀ e, rx = .inr e → e ∈ [2, 5]) : fWSpec l D cy yL_wordAt cL_wordAt 5 [(0, 10, 13, 25), (0, 10, 17, 46)] { frames := 8, cells := 2, slots := 12, locals := 144 } [.ref a0, .int x1, .int x2, .ref ao] w w ao (arrV (cy 5) 1 (fun _ => .long v0)) (wO rx (arrV (cy 5) 1 (fun _ => .long v0)) (fun v => arrV (cy 5) 1 (fun _ => .long v.toInt64))) (wK [2, 5] rx) := by
  have hM := fun (D : va_G) (cy : Nat → ClassId) => c_X4_wordAt l D cy a0 x1 x2 w _ hF
  refine fw_begin (by decide +kernel) (Nat.le_of_ble_eq_true rfl) (fun X h hC hEn ho0 ho1 => ?_)
  have hst := fW_st hC hEn
  replace hM := hM D cy
  rcases rx with v | e
  · show gAt X 0 0 5 w h (gE1 ao (some (.inl (arrV (cy 5) 1 (fun _ => .long v0))))) [(0, .ref a0), (1, .int x1), (2, .int x2), (3, .ref ao)] [] 0
    refine g_aload_n hC dL_wordAt_0 rfl 3 rfl ?_
    refine g_iconst (v := 0) hC dL_wordAt_1 (by decide) ?_
    refine g_aload_n hC dL_wordAt_2 rfl 0 rfl ?_
    refine g_iload_n hC dL_wordAt_3 rfl 1 rfl ?_
    refine g_iload_n hC dL_wordAt_4 rfl 2 rfl ?_
    refine g_callVR hC hst [.int x1, .int x2] (rv := some (.int v)) hM q_778 q_132 q_775 q_776 q_777 h9_X4_wordAt (T := TX4) (N := 15) (ci := 4) rfl hk0 ⟨Nat.le_of_ble_eq_true rfl, Nat.le_of_ble_eq_true rfl⟩ ⟨Nat.le_of_ble_eq_true rfl, Nat.le_of_ble_eq_true rfl⟩ (Nat.le_of_ble_eq_true rfl) rfl dL_wordAt_5 (fun h1 hh1 hs1 => ?_)
    refine g_cs 2 12 (Nat.zero_add _).symm (Nat.zero_add _).symm ?_
    refine g_i2l hC dL_wordAt_8 ?_
    refine g_lastE hC (gE1_b _ _) dL_wordAt_9 ?_
    refine g_nm h1 (gE1 ao (some (.inl (arrV (cy 5) 1 (fun _ => .long v.toInt64))))) _ _ rfl (gE1_up _ _ _).symm rfl rfl ?_
    refine g_goto hC 21 dL_wordAt_10 (by decide) ?_
    refine g_iconst (v := 0) hC dL_wordAt_21 (by decide) ?_
    exact g_iretW hC hEn (fSm.rf w) (gE1_b _ _) dL_wordAt_22
  · have he := hes e rfl
    simp only [List.mem_cons, List.not_mem_nil, or_false] at he
    rcases he with rfl | rfl
    · show gAt X 0 0 5 w h (gE1 ao (some (.inl (arrV (cy 5) 1 (fun _ => .long v0))))) [(0, .ref a0), (1, .int x1), (2, .int x2), (3, .ref ao)] [] 0
      refine g_aload_n hC dL_wordAt_0 rfl 3 rfl ?_
      refine g_iconst (v := 0) hC dL_wordAt_1 (by decide) ?_
      refine g_aload_n hC dL_wordAt_2 rfl 0 rfl ?_
      refine g_iload_n hC dL_wordAt_3 rfl 1 rfl ?_
      refine g_iload_n hC dL_wordAt_4 rfl 2 rfl ?_
      refine g_callVT hC hst [.int x1, .int x2] (ex := 2) hM q_778 q_132 q_775 q_776 q_777 h9_X4_wordAt (T := TX4) (N := 15) (ci := 4) rfl hk0 ⟨Nat.le_of_ble_eq_true rfl, Nat.le_of_ble_eq_true rfl⟩ ⟨Nat.le_of_ble_eq_true rfl, Nat.le_of_ble_eq_true rfl⟩ (Nat.le_of_ble_eq_true rfl) rfl dL_wordAt_5 (fun h1 hh1 hs1 => ?_)
      show gXt X (0 + 2) (0 + 12) 5 w h1 (gE1 ao (some (.inl (arrV (cy 5) 1 (fun _ => .long v0))))) [(0, .ref a0), (1, .int x1), (2, .int x2), (3, .ref ao)] 2 5
      refine g_catch hC hEn [] ⟨0, 10, 13, 25⟩ [⟨0, 10, 17, 46⟩] rfl (fun z hz => absurd hz List.not_mem_nil) (by decide) (by decide) q_660 q_403 (fun q9 => ?_)
      refine g_cs 2 12 (Nat.zero_add _).symm (Nat.zero_add _).symm ?_
      refine g_astore (L' := [(4, .ref q9), (0, .ref a0), (1, .int x1), (2, .int x2), (3, .ref ao)]) hC dL_wordAt_13 (by decide) rfl ?_
      refine g_iconst (v := 1) hC dL_wordAt_15 (by decide) ?_
      exact g_iretW hC hEn (fSm.rf w) (gE1_b _ _) dL_wordAt_16
    · show gAt X 0 0 5 w h (gE1 ao (some (.inl (arrV (cy 5) 1 (fun _ => .long v0))))) [(0, .ref a0), (1, .int x1), (2, .int x2), (3, .ref ao)] [] 0
      refine g_aload_n hC dL_wordAt_0 rfl 3 rfl ?_
      refine g_iconst (v := 0) hC dL_wordAt_1 (by decide) ?_
      refine g_aload_n hC dL_wordAt_2 rfl 0 rfl ?_
      refine g_iload_n hC dL_wordAt_3 rfl 1 rfl ?_
      refine g_iload_n hC dL_wordAt_4 rfl 2 rfl ?_
      refine g_callVT hC hst [.int x1, .int x2] (ex := 5) hM q_778 q_132 q_775 q_776 q_777 h9_X4_wordAt (T := TX4) (N := 15) (ci := 4) rfl hk0 ⟨Nat.le_of_ble_eq_true rfl, Nat.le_of_ble_eq_true rfl⟩ ⟨Nat.le_of_ble_eq_true rfl, Nat.le_of_ble_eq_true rfl⟩ (Nat.le_of_ble_eq_true rfl) rfl dL_wordAt_5 (fun h1 hh1 hs1 => ?_)
      show gXt X (0 + 2) (0 + 12) 5 w h1 (gE1 ao (some (.inl (arrV (cy 5) 1 (fun _ => .long v0))))) [(0, .ref a0), (1, .int x1), (2, .int x2), (3, .ref ao)] 5 5
      have hpass : ∀ z ∈ ([⟨0, 10, 13, 25⟩] : List ExceptionTableEntry), z.catchType ≠ 0 ∧ ∃ nm : String, Cond.classLink RL z.catchType nm ∈ lwA ∧ (exN 5, nm) ∈ ncL := by
        intro z hz
        simp only [List.mem_cons, List.not_mem_nil, or_false] at hz
        subst hz
        exact ⟨by decide, _, q_660, by decide +kernel⟩
      refine g_catch hC hEn [⟨0, 10, 13, 25⟩] ⟨0, 10, 17, 46⟩ [] rfl hpass (by decide) (by decide) q_774 q_782 (fun q9 => ?_)
      refine g_cs 2 12 (Nat.zero_add _).symm (Nat.zero_add _).symm ?_
      refine g_astore (L' := [(4, .ref q9), (0, .ref a0), (1, .int x1), (2, .int x2), (3, .ref ao)]) hC dL_wordAt_17 (by decide) rfl ?_
      refine g_iconst (v := 2) hC dL_wordAt_19 (by decide) ?_
      exact g_iretW hC hEn (fSm.rf w) (gE1_b _ _) dL_wordAt_20
theorem dL_punch_0 : decode cL_punch 0 = .ok (.aload 4, 2) := by decide +kernel
theorem dL_punch_2 : decode cL_punch 2 = .ok (.iconst 0, 1) := by decide +kernel
theorem dL_punch_3 : decode cL_punch 3 = .ok (.aload_n 0, 1) := by decide +kernel
theorem dL_punch_4 : decode cL_punch 4 = .ok (.iload_n 1, 1) := by decide +kernel
theorem dL_punch_5 : decode cL_punch 5 = .ok (.iload_n 2, 1) := by decide +kernel
theorem dL_punch_6 : decode cL_punch 6 = .ok (.iload_n 3, 1) := by decide +kernel
theorem dL_punch_7 : decode cL_punch 7 = .ok (.invokevirtual 48, 3) := by decide +kernel
theorem dL_punch_10 : decode cL_punch 10 = .ok (.i2l, 1) := by decide +kernel
theorem dL_punch_11 : decode cL_punch 11 = .ok (.lastore, 1) := by decide +kernel
theorem dL_punch_12 : decode cL_punch 12 = .ok (.goto 11, 3) := by decide +kernel
theorem dL_punch_15 : decode cL_punch 15 = .ok (.astore 5, 2) := by decide +kernel
theorem dL_punch_17 : decode cL_punch 17 = .ok (.iconst 1, 1) := by decide +kernel
theorem dL_punch_18 : decode cL_punch 18 = .ok (.ireturn, 1) := by decide +kernel
theorem dL_punch_19 : decode cL_punch 19 = .ok (.astore 5, 2) := by decide +kernel
theorem dL_punch_21 : decode cL_punch 21 = .ok (.iconst 2, 1) := by decide +kernel
theorem dL_punch_22 : decode cL_punch 22 = .ok (.ireturn, 1) := by decide +kernel
theorem dL_punch_23 : decode cL_punch 23 = .ok (.iconst 0, 1) := by decide +kernel
theorem dL_punch_24 : decode cL_punch 24 = .ok (.ireturn, 1) := by decide +kernel
theorem h9_L_punch : yL_punch.cls ≠ "java/lang/invoke/MethodHandle" ∧ yL_punch.cls ≠ "java/lang/invoke/VarHandle" ∧ (parseMethodDescriptor yL_punch.desc).map (fun d => d.parameters.length) = some 5 := by decide +kernel
set_option maxHeartbeats 4000000 in
set_option maxRecDepth 100000 in
theorem c_L_punch (l : Launch) (D : va_G) (cy : Nat → ClassId) (a0 : Nat) (x1 : Int32) (x2 : Int32) (x3 : Int32) (ao : Nat) (w w1 : FW) (v0 : Int64) (rx : Int32 ⊕ Nat) (hF : F_X4_punch a0 x1 x2 x3 w = some (rx, w1)) (hk0 : w.1 a0 = 5) (hes : ∀ e, rx = .inr e → e ∈ [2, 4]) : fWSpec l D cy yL_punch cL_punch 6 [(0, 12, 15, 25), (0, 12, 19, 15)] { frames := 8, cells := 2, slots := 12, locals := 145 } [.ref a0, .int x1, .int x2, .int x3, .ref ao] w w1 ao (arrV (cy 5) 1 (fun _ => .long v0)) (wO rx (arrV (cy 5) 1 (fun _ => .long v0)) (fun v => arrV (cy 5) 1 (fun _ => .long v.toInt64))) (wK [2, 4] rx) := by
  have hM := fun (D : va_G) (cy : Nat → ClassId) => c_X4_punch l D cy a0 x1 x2 x3 w _ hF
  refine fw_begin (by decide +kernel) (Nat.le_of_ble_eq_true rfl) (fun X h hC hEn ho0 ho1 => ?_)
  have hst := fW_st hC hEn
  replace hM := hM D cy
  rcases rx with v | e
  · show gAt X 0 0 6 w h (gE1 ao (some (.inl (arrV (cy 5) 1 (fun _ => .long v0))))) [(0, .ref a0), (1, .int x1), (2, .int x2), (3, .int x3), (4, .ref ao)] [] 0
    refine g_aload hC dL_punch_0 4 rfl ?_
    refine g_iconst (v := 0) hC dL_punch_2 (by decide) ?_
    refine g_aload_n hC dL_punch_3 rfl 0 rfl ?_
    refine g_iload_n hC dL_punch_4 rfl 1 rfl ?_
    refine g_iload_n hC dL_punch_5 rfl 2 rfl ?_
    refine g_iload_n hC dL_punch_6 rfl 3 rfl ?_
    refine g_callVR hC hst [.int x1, .int x2, .int x3] (rv := some (.int v)) hM q_803 q_132 q_800 q_801 q_802 h9_X4_punch (T := TX4) (N := 15) (ci := 4) rfl hk0 ⟨Nat.le_of_ble_eq_true rfl, Nat.le_of_ble_eq_true rfl⟩ ⟨Nat.le_of_ble_eq_true rfl, Nat.le_of_ble_eq_true rfl⟩ (Nat.le_of_ble_eq_true rfl) rfl dL_punch_7 (fun h1 hh1 hs1 => ?_)
    refine g_cs 2 12 (Nat.zero_add _).symm (Nat.zero_add _).symm ?_
    refine g_i2l hC dL_punch_10 ?_
    refine g_lastE hC (gE1_b _ _) dL_punch_11 ?_
    refine g_nm h1 (gE1 ao (some (.inl (arrV (cy 5) 1 (fun _ => .long v.toInt64))))) _ _ rfl (gE1_up _ _ _).symm rfl rfl ?_
    refine g_goto hC 23 dL_punch_12 (by decide) ?_
    refine g_iconst (v := 0) hC dL_punch_23 (by decide) ?_
    exact g_iretW hC hEn hs1 (gE1_b _ _) dL_punch_24
  · have he := hes e rfl
    simp only [List.mem_cons, List.not_mem_nil, or_false] at he
    rcases he with rfl | rfl
    · show gAt X 0 0 6 w h (gE1 ao (some (.inl (arrV (cy 5) 1 (fun _ => .long v0))))) [(0, .ref a0), (1, .int x1), (2, .int x2), (3, .int x3), (4, .ref ao)] [] 0
      refine g_aload hC dL_punch_0 4 rfl ?_
      refine g_iconst (v := 0) hC dL_punch_2 (by decide) ?_
      refine g_aload_n hC dL_punch_3 rfl 0 rfl ?_
      refine g_iload_n hC dL_punch_4 rfl 1 rfl ?_
      refine g_iload_n hC dL_punch_5 rfl 2 rfl ?_
      refine g_iload_n hC dL_punch_6 rfl 3 rfl ?_
      refine g_callVT hC hst [.int x1, .int x2, .int x3] (ex := 2) hM q_803 q_132 q_800 q_801 q_802 h9_X4_punch (T := TX4) (N := 15) (ci := 4) rfl hk0 ⟨Nat.le_of_ble_eq_true rfl, Nat.le_of_ble_eq_true rfl⟩ ⟨Nat.le_of_ble_eq_true rfl, Nat.le_of_ble_eq_true rfl⟩ (Nat.le_of_ble_eq_true rfl) rfl dL_punch_7 (fun h1 hh1 hs1 => ?_)
      show gXt X (0 + 2) (0 + 12) 6 w1 h1 (gE1 ao (some (.inl (arrV (cy 5) 1 (fun _ => .long v0))))) [(0, .ref a0), (1, .int x1), (2, .int x2), (3, .int x3), (4, .ref ao)] 2 7
      refine g_catch hC hEn [] ⟨0, 12, 15, 25⟩ [⟨0, 12, 19, 15⟩] rfl (fun z hz => absurd hz List.not_mem_nil) (by decide) (by decide) q_660 q_403 (fun q9 => ?_)
      refine g_cs 2 12 (Nat.zero_add _).symm (Nat.zero_add _).symm ?_
      refine g_astore (L' := [(5, .ref q9), (0, .ref a0), (1, .int x1), (2, .int x2), (3, .int x3), (4, .ref ao)]) hC dL_punch_15 (by decide) rfl ?_
      refine g_iconst (v := 1) hC dL_punch_17 (by decide) ?_
      exact g_iretW hC hEn hs1 (gE1_b _ _) dL_punch_18
    · show gAt X 0 0 6 w h (gE1 ao (some (.inl (arrV (cy 5) 1 (fun _ => .long v0))))) [(0, .ref a0), (1, .int x1), (2, .int x2), (3, .int x3), (4, .ref ao)] [] 0
      refine g_aload hC dL_punch_0 4 rfl ?_
      refine g_iconst (v := 0) hC dL_punch_2 (by decide) ?_
      refine g_aload_n hC dL_punch_3 rfl 0 rfl ?_
      refine g_iload_n hC dL_punch_4 rfl 1 rfl ?_
      refine g_iload_n hC dL_punch_5 rfl 2 rfl ?_
      refine g_iload_n hC dL_punch_6 rfl 3 rfl ?_
      refine g_callVT hC hst [.int x1, .int x2, .int x3] (ex := 4) hM q_803 q_132 q_800 q_801 q_802 h9_X4_punch (T := TX4) (N := 15) (ci := 4) rfl hk0 ⟨Nat.le_of_ble_eq_true rfl, Nat.le_of_ble_eq_true rfl⟩ ⟨Nat.le_of_ble_eq_true rfl, Nat.le_of_ble_eq_true rfl⟩ (Nat.le_of_ble_eq_true rfl) rfl dL_punch_7 (fun h1 hh1 hs1 => ?_)
      show gXt X (0 + 2) (0 + 12) 6 w1 h1 (gE1 ao (some (.inl (arrV (cy 5) 1 (fun _ => .long v0))))) [(0, .ref a0), (1, .int x1), (2, .int x2), (3, .int x3), (4, .ref ao)] 4 7
      have hpass : ∀ z ∈ ([⟨0, 12, 15, 25⟩] : List ExceptionTableEntry), z.catchType ≠ 0 ∧ ∃ nm : String, Cond.classLink RL z.catchType nm ∈ lwA ∧ (exN 4, nm) ∈ ncL := by
        intro z hz
        simp only [List.mem_cons, List.not_mem_nil, or_false] at hz
        subst hz
        exact ⟨by decide, _, q_660, by decide +kernel⟩
      refine g_catch hC hEn [⟨0, 12, 15, 25⟩] ⟨0, 12, 19, 15⟩ [] rfl hpass (by decide) (by decide) q_625 q_491 (fun q9 => ?_)
      refine g_cs 2 12 (Nat.zero_add _).symm (Nat.zero_add _).symm ?_
      refine g_astore (L' := [(5, .ref q9), (0, .ref a0), (1, .int x1), (2, .int x2), (3, .int x3), (4, .ref ao)]) hC dL_punch_19 (by decide) rfl ?_
      refine g_iconst (v := 2) hC dL_punch_21 (by decide) ?_
      exact g_iretW hC hEn hs1 (gE1_b _ _) dL_punch_22
theorem dL_wet_0 : decode cL_wet 0 = .ok (.aload 4, 2) := by decide +kernel
theorem dL_wet_2 : decode cL_wet 2 = .ok (.iconst 0, 1) := by decide +kernel
theorem dL_wet_3 : decode cL_wet 3 = .ok (.aload_n 0, 1) := by decide +kernel
theorem dL_wet_4 : decode cL_wet 4 = .ok (.iload_n 1, 1) := by decide +kernel
theorem dL_wet_5 : decode cL_wet 5 = .ok (.iload_n 2, 1) := by decide +kernel
theorem dL_wet_6 : decode cL_wet 6 = .ok (.iload_n 3, 1) := by decide +kernel
theorem dL_wet_7 : decode cL_wet 7 = .ok (.invokevirtual 52, 3) := by decide +kernel
theorem dL_wet_10 : decode cL_wet 10 = .ok (.i2l, 1) := by decide +kernel
theorem dL_wet_11 : decode cL_wet 11 = .ok (.lastore, 1) := by decide +kernel
theorem dL_wet_12 : decode cL_wet 12 = .ok (.goto 11, 3) := by decide +kernel
theorem dL_wet_15 : decode cL_wet 15 = .ok (.astore 5, 2) := by decide +kernel
theorem dL_wet_17 : decode cL_wet 17 = .ok (.iconst 1, 1) := by decide +kernel
theorem dL_wet_18 : decode cL_wet 18 = .ok (.ireturn, 1) := by decide +kernel
theorem dL_wet_19 : decode cL_wet 19 = .ok (.astore 5, 2) := by decide +kernel
theorem dL_wet_21 : decode cL_wet 21 = .ok (.iconst 2, 1) := by decide +kernel
theorem dL_wet_22 : decode cL_wet 22 = .ok (.ireturn, 1) := by decide +kernel
theorem dL_wet_23 : decode cL_wet 23 = .ok (.iconst 0, 1) := by decide +kernel
theorem dL_wet_24 : decode cL_wet 24 = .ok (.ireturn, 1) := by decide +kernel
theorem h9_L_wet : yL_wet.cls ≠ "java/lang/invoke/MethodHandle" ∧ yL_wet.cls ≠ "java/lang/invoke/VarHandle" ∧ (parseMethodDescriptor yL_wet.desc).map (fun d => d.parameters.length) = some 5 := by decide +kernel
set_option maxHeartbeats 4000000 in
set_option maxRecDepth 100000 in
theorem c_L_wet (l : Launch) (D : va_G) (cy : Nat → ClassId) (a0 : Nat) (x1 : Int32) (x2 : Int32) (x3 : Int32) (ao : Nat) (w w1 : FW) (v0 : Int64) (rx : Int32 ⊕ Nat) (hF : F_X4_wet a0 x1 x2 x3 w = some (rx, w1)) (hk0 : w.1 a0 = 5) (hes : ∀ e, rx = .inr e → e ∈ [2, 1]) : fWSpec l D cy yL_wet cL_wet 6 [(0, 12, 15, 25), (0, 12, 19, 13)] { frames := 8, cells := 2, slots := 12, locals := 144 } [.ref a0, .int x1, .int x2, .int x3, .ref ao] w w1 ao (arrV (cy 5) 1 (fun _ => .long v0)) (wO rx (arrV (cy 5) 1 (fun _ => .long v0)) (fun v => arrV (cy 5) 1 (fun _ => .long v.toInt64))) (wK [2, 1] rx) := by
  have hM := fun (D : va_G) (cy : Nat → ClassId) => c_X4_wet l D cy a0 x1 x2 x3 w _ hF
  refine fw_begin (by decide +kernel) (Nat.le_of_ble_eq_true rfl) (fun X h hC hEn ho0 ho1 => ?_)
  have hst := fW_st hC hEn
  replace hM := hM D cy
  rcases rx with v | e
  · show gAt X 0 0 6 w h (gE1 ao (some (.inl (arrV (cy 5) 1 (fun _ => .long v0))))) [(0, .ref a0), (1, .int x1), (2, .int x2), (3, .int x3), (4, .ref ao)] [] 0
    refine g_aload hC dL_wet_0 4 rfl ?_
    refine g_iconst (v := 0) hC dL_wet_2 (by decide) ?_
    refine g_aload_n hC dL_wet_3 rfl 0 rfl ?_
    refine g_iload_n hC dL_wet_4 rfl 1 rfl ?_
    refine g_iload_n hC dL_wet_5 rfl 2 rfl ?_
    refine g_iload_n hC dL_wet_6 rfl 3 rfl ?_
    refine g_callVR hC hst [.int x1, .int x2, .int x3] (rv := some (.int v)) hM q_822 q_132 q_819 q_820 q_821 h9_X4_wet (T := TX4) (N := 15) (ci := 4) rfl hk0 ⟨Nat.le_of_ble_eq_true rfl, Nat.le_of_ble_eq_true rfl⟩ ⟨Nat.le_of_ble_eq_true rfl, Nat.le_of_ble_eq_true rfl⟩ (Nat.le_of_ble_eq_true rfl) rfl dL_wet_7 (fun h1 hh1 hs1 => ?_)
    refine g_cs 2 12 (Nat.zero_add _).symm (Nat.zero_add _).symm ?_
    refine g_i2l hC dL_wet_10 ?_
    refine g_lastE hC (gE1_b _ _) dL_wet_11 ?_
    refine g_nm h1 (gE1 ao (some (.inl (arrV (cy 5) 1 (fun _ => .long v.toInt64))))) _ _ rfl (gE1_up _ _ _).symm rfl rfl ?_
    refine g_goto hC 23 dL_wet_12 (by decide) ?_
    refine g_iconst (v := 0) hC dL_wet_23 (by decide) ?_
    exact g_iretW hC hEn hs1 (gE1_b _ _) dL_wet_24
  · have he := hes e rfl
    simp only [List.mem_cons, List.not_mem_nil, or_false] at he
    rcases he with rfl | rfl
    · show gAt X 0 0 6 w h (gE1 ao (some (.inl (arrV (cy 5) 1 (fun _ => .long v0))))) [(0, .ref a0), (1, .int x1), (2, .int x2), (3, .int x3), (4, .ref ao)] [] 0
      refine g_aload hC dL_wet_0 4 rfl ?_
      refine g_iconst (v := 0) hC dL_wet_2 (by decide) ?_
      refine g_aload_n hC dL_wet_3 rfl 0 rfl ?_
      refine g_iload_n hC dL_wet_4 rfl 1 rfl ?_
      refine g_iload_n hC dL_wet_5 rfl 2 rfl ?_
      refine g_iload_n hC dL_wet_6 rfl 3 rfl ?_
      refine g_callVT hC hst [.int x1, .int x2, .int x3] (ex := 2) hM q_822 q_132 q_819 q_820 q_821 h9_X4_wet (T := TX4) (N := 15) (ci := 4) rfl hk0 ⟨Nat.le_of_ble_eq_true rfl, Nat.le_of_ble_eq_true rfl⟩ ⟨Nat.le_of_ble_eq_true rfl, Nat.le_of_ble_eq_true rfl⟩ (Nat.le_of_ble_eq_true rfl) rfl dL_wet_7 (fun h1 hh1 hs1 => ?_)
      show gXt X (0 + 2) (0 + 12) 6 w1 h1 (gE1 ao (some (.inl (arrV (cy 5) 1 (fun _ => .long v0))))) [(0, .ref a0), (1, .int x1), (2, .int x2), (3, .int x3), (4, .ref ao)] 2 7
      refine g_catch hC hEn [] ⟨0, 12, 15, 25⟩ [⟨0, 12, 19, 13⟩] rfl (fun z hz => absurd hz List.not_mem_nil) (by decide) (by decide) q_660 q_403 (fun q9 => ?_)
      refine g_cs 2 12 (Nat.zero_add _).symm (Nat.zero_add _).symm ?_
      refine g_astore (L' := [(5, .ref q9), (0, .ref a0), (1, .int x1), (2, .int x2), (3, .int x3), (4, .ref ao)]) hC dL_wet_15 (by decide) rfl ?_
      refine g_iconst (v := 1) hC dL_wet_17 (by decide) ?_
      exact g_iretW hC hEn hs1 (gE1_b _ _) dL_wet_18
    · show gAt X 0 0 6 w h (gE1 ao (some (.inl (arrV (cy 5) 1 (fun _ => .long v0))))) [(0, .ref a0), (1, .int x1), (2, .int x2), (3, .int x3), (4, .ref ao)] [] 0
      refine g_aload hC dL_wet_0 4 rfl ?_
      refine g_iconst (v := 0) hC dL_wet_2 (by decide) ?_
      refine g_aload_n hC dL_wet_3 rfl 0 rfl ?_
      refine g_iload_n hC dL_wet_4 rfl 1 rfl ?_
      refine g_iload_n hC dL_wet_5 rfl 2 rfl ?_
      refine g_iload_n hC dL_wet_6 rfl 3 rfl ?_
      refine g_callVT hC hst [.int x1, .int x2, .int x3] (ex := 1) hM q_822 q_132 q_819 q_820 q_821 h9_X4_wet (T := TX4) (N := 15) (ci := 4) rfl hk0 ⟨Nat.le_of_ble_eq_true rfl, Nat.le_of_ble_eq_true rfl⟩ ⟨Nat.le_of_ble_eq_true rfl, Nat.le_of_ble_eq_true rfl⟩ (Nat.le_of_ble_eq_true rfl) rfl dL_wet_7 (fun h1 hh1 hs1 => ?_)
      show gXt X (0 + 2) (0 + 12) 6 w1 h1 (gE1 ao (some (.inl (arrV (cy 5) 1 (fun _ => .long v0))))) [(0, .ref a0), (1, .int x1), (2, .int x2), (3, .int x3), (4, .ref ao)] 1 7
      have hpass : ∀ z ∈ ([⟨0, 12, 15, 25⟩] : List ExceptionTableEntry), z.catchType ≠ 0 ∧ ∃ nm : String, Cond.classLink RL z.catchType nm ∈ lwA ∧ (exN 1, nm) ∈ ncL := by
        intro z hz
        simp only [List.mem_cons, List.not_mem_nil, or_false] at hz
        subst hz
        exact ⟨by decide, _, q_660, by decide +kernel⟩
      refine g_catch hC hEn [⟨0, 12, 15, 25⟩] ⟨0, 12, 19, 13⟩ [] rfl hpass (by decide) (by decide) q_624 q_475 (fun q9 => ?_)
      refine g_cs 2 12 (Nat.zero_add _).symm (Nat.zero_add _).symm ?_
      refine g_astore (L' := [(5, .ref q9), (0, .ref a0), (1, .int x1), (2, .int x2), (3, .int x3), (4, .ref ao)]) hC dL_wet_19 (by decide) rfl ?_
      refine g_iconst (v := 2) hC dL_wet_21 (by decide) ?_
      exact g_iretW hC hEn hs1 (gE1_b _ _) dL_wet_22
theorem dL_tear_0 : decode cL_tear 0 = .ok (.aload_n 2, 1) := by decide +kernel
theorem dL_tear_1 : decode cL_tear 1 = .ok (.iconst 0, 1) := by decide +kernel
theorem dL_tear_2 : decode cL_tear 2 = .ok (.aload_n 0, 1) := by decide +kernel
theorem dL_tear_3 : decode cL_tear 3 = .ok (.iload_n 1, 1) := by decide +kernel
theorem dL_tear_4 : decode cL_tear 4 = .ok (.invokevirtual 55, 3) := by decide +kernel
theorem dL_tear_7 : decode cL_tear 7 = .ok (.i2l, 1) := by decide +kernel
theorem dL_tear_8 : decode cL_tear 8 = .ok (.lastore, 1) := by decide +kernel
theorem dL_tear_9 : decode cL_tear 9 = .ok (.goto 9, 3) := by decide +kernel
theorem dL_tear_12 : decode cL_tear 12 = .ok (.astore_n 3, 1) := by decide +kernel
theorem dL_tear_13 : decode cL_tear 13 = .ok (.iconst 1, 1) := by decide +kernel
theorem dL_tear_14 : decode cL_tear 14 = .ok (.ireturn, 1) := by decide +kernel
theorem dL_tear_15 : decode cL_tear 15 = .ok (.astore_n 3, 1) := by decide +kernel
theorem dL_tear_16 : decode cL_tear 16 = .ok (.iconst 2, 1) := by decide +kernel
theorem dL_tear_17 : decode cL_tear 17 = .ok (.ireturn, 1) := by decide +kernel
theorem dL_tear_18 : decode cL_tear 18 = .ok (.iconst 0, 1) := by decide +kernel
theorem dL_tear_19 : decode cL_tear 19 = .ok (.ireturn, 1) := by decide +kernel
theorem h9_L_tear : yL_tear.cls ≠ "java/lang/invoke/MethodHandle" ∧ yL_tear.cls ≠ "java/lang/invoke/VarHandle" ∧ (parseMethodDescriptor yL_tear.desc).map (fun d => d.parameters.length) = some 3 := by decide +kernel
set_option maxHeartbeats 4000000 in
set_option maxRecDepth 100000 in
theorem c_L_tear (l : Launch) (D : va_G) (cy : Nat → ClassId) (a0 : Nat) (x1 : Int32) (ao : Nat) (w w1 : FW) (v0 : Int64) (rx : Int32 ⊕ Nat) (hF : F_X4_tear a0 x1 w = some (rx, w1)) (hk0 : w.1 a0 = 5) (hes : ∀ e, rx = .inr e → e ∈ [2, 4]) : fWSpec l D cy yL_tear cL_tear 4 [(0, 9, 12, 25), (0, 9, 15, 15)] { frames := 8, cells := 1, slots := 6, locals := 142 } [.ref a0, .int x1, .ref ao] w w1 ao (arrV (cy 5) 1 (fun _ => .long v0)) (wO rx (arrV (cy 5) 1 (fun _ => .long v0)) (fun v => arrV (cy 5) 1 (fun _ => .long v.toInt64))) (wK [2, 4] rx) := by
  have hM := fun (D : va_G) (cy : Nat → ClassId) => c_X4_tear l D cy a0 x1 w _ hF
  refine fw_begin (by decide +kernel) (Nat.le_of_ble_eq_true rfl) (fun X h hC hEn ho0 ho1 => ?_)
  have hst := fW_st hC hEn
  replace hM := hM D cy
  rcases rx with v | e
  · show gAt X 0 0 4 w h (gE1 ao (some (.inl (arrV (cy 5) 1 (fun _ => .long v0))))) [(0, .ref a0), (1, .int x1), (2, .ref ao)] [] 0
    refine g_aload_n hC dL_tear_0 rfl 2 rfl ?_
    refine g_iconst (v := 0) hC dL_tear_1 (by decide) ?_
    refine g_aload_n hC dL_tear_2 rfl 0 rfl ?_
    refine g_iload_n hC dL_tear_3 rfl 1 rfl ?_
    refine g_callVR hC hst [.int x1] (rv := some (.int v)) hM q_845 q_132 q_842 q_843 q_844 h9_X4_tear (T := TX4) (N := 15) (ci := 4) rfl hk0 ⟨Nat.le_of_ble_eq_true rfl, Nat.le_of_ble_eq_true rfl⟩ ⟨Nat.le_of_ble_eq_true rfl, Nat.le_of_ble_eq_true rfl⟩ (Nat.le_of_ble_eq_true rfl) rfl dL_tear_4 (fun h1 hh1 hs1 => ?_)
    refine g_cs 1 6 (Nat.zero_add _).symm (Nat.zero_add _).symm ?_
    refine g_i2l hC dL_tear_7 ?_
    refine g_lastE hC (gE1_b _ _) dL_tear_8 ?_
    refine g_nm h1 (gE1 ao (some (.inl (arrV (cy 5) 1 (fun _ => .long v.toInt64))))) _ _ rfl (gE1_up _ _ _).symm rfl rfl ?_
    refine g_goto hC 18 dL_tear_9 (by decide) ?_
    refine g_iconst (v := 0) hC dL_tear_18 (by decide) ?_
    exact g_iretW hC hEn hs1 (gE1_b _ _) dL_tear_19
  · have he := hes e rfl
    simp only [List.mem_cons, List.not_mem_nil, or_false] at he
    rcases he with rfl | rfl
    · show gAt X 0 0 4 w h (gE1 ao (some (.inl (arrV (cy 5) 1 (fun _ => .long v0))))) [(0, .ref a0), (1, .int x1), (2, .ref ao)] [] 0
      refine g_aload_n hC dL_tear_0 rfl 2 rfl ?_
      refine g_iconst (v := 0) hC dL_tear_1 (by decide) ?_
      refine g_aload_n hC dL_tear_2 rfl 0 rfl ?_
      refine g_iload_n hC dL_tear_3 rfl 1 rfl ?_
      refine g_callVT hC hst [.int x1] (ex := 2) hM q_845 q_132 q_842 q_843 q_844 h9_X4_tear (T := TX4) (N := 15) (ci := 4) rfl hk0 ⟨Nat.le_of_ble_eq_true rfl, Nat.le_of_ble_eq_true rfl⟩ ⟨Nat.le_of_ble_eq_true rfl, Nat.le_of_ble_eq_true rfl⟩ (Nat.le_of_ble_eq_true rfl) rfl dL_tear_4 (fun h1 hh1 hs1 => ?_)
      show gXt X (0 + 1) (0 + 6) 4 w1 h1 (gE1 ao (some (.inl (arrV (cy 5) 1 (fun _ => .long v0))))) [(0, .ref a0), (1, .int x1), (2, .ref ao)] 2 4
      refine g_catch hC hEn [] ⟨0, 9, 12, 25⟩ [⟨0, 9, 15, 15⟩] rfl (fun z hz => absurd hz List.not_mem_nil) (by decide) (by decide) q_660 q_403 (fun q9 => ?_)
      refine g_cs 1 6 (Nat.zero_add _).symm (Nat.zero_add _).symm ?_
      refine g_astore_n (L' := [(3, .ref q9), (0, .ref a0), (1, .int x1), (2, .ref ao)]) hC dL_tear_12 rfl (by decide) rfl ?_
      refine g_iconst (v := 1) hC dL_tear_13 (by decide) ?_
      exact g_iretW hC hEn hs1 (gE1_b _ _) dL_tear_14
    · show gAt X 0 0 4 w h (gE1 ao (some (.inl (arrV (cy 5) 1 (fun _ => .long v0))))) [(0, .ref a0), (1, .int x1), (2, .ref ao)] [] 0
      refine g_aload_n hC dL_tear_0 rfl 2 rfl ?_
      refine g_iconst (v := 0) hC dL_tear_1 (by decide) ?_
      refine g_aload_n hC dL_tear_2 rfl 0 rfl ?_
      refine g_iload_n hC dL_tear_3 rfl 1 rfl ?_
      refine g_callVT hC hst [.int x1] (ex := 4) hM q_845 q_132 q_842 q_843 q_844 h9_X4_tear (T := TX4) (N := 15) (ci := 4) rfl hk0 ⟨Nat.le_of_ble_eq_true rfl, Nat.le_of_ble_eq_true rfl⟩ ⟨Nat.le_of_ble_eq_true rfl, Nat.le_of_ble_eq_true rfl⟩ (Nat.le_of_ble_eq_true rfl) rfl dL_tear_4 (fun h1 hh1 hs1 => ?_)
      show gXt X (0 + 1) (0 + 6) 4 w1 h1 (gE1 ao (some (.inl (arrV (cy 5) 1 (fun _ => .long v0))))) [(0, .ref a0), (1, .int x1), (2, .ref ao)] 4 4
      have hpass : ∀ z ∈ ([⟨0, 9, 12, 25⟩] : List ExceptionTableEntry), z.catchType ≠ 0 ∧ ∃ nm : String, Cond.classLink RL z.catchType nm ∈ lwA ∧ (exN 4, nm) ∈ ncL := by
        intro z hz
        simp only [List.mem_cons, List.not_mem_nil, or_false] at hz
        subst hz
        exact ⟨by decide, _, q_660, by decide +kernel⟩
      refine g_catch hC hEn [⟨0, 9, 12, 25⟩] ⟨0, 9, 15, 15⟩ [] rfl hpass (by decide) (by decide) q_625 q_491 (fun q9 => ?_)
      refine g_cs 1 6 (Nat.zero_add _).symm (Nat.zero_add _).symm ?_
      refine g_astore_n (L' := [(3, .ref q9), (0, .ref a0), (1, .int x1), (2, .ref ao)]) hC dL_tear_15 rfl (by decide) rfl ?_
      refine g_iconst (v := 2) hC dL_tear_16 (by decide) ?_
      exact g_iretW hC hEn hs1 (gE1_b _ _) dL_tear_17
theorem dL_lose_0 : decode cL_lose 0 = .ok (.aload_n 3, 1) := by decide +kernel
theorem dL_lose_1 : decode cL_lose 1 = .ok (.iconst 0, 1) := by decide +kernel
theorem dL_lose_2 : decode cL_lose 2 = .ok (.aload_n 0, 1) := by decide +kernel
theorem dL_lose_3 : decode cL_lose 3 = .ok (.iload_n 1, 1) := by decide +kernel
theorem dL_lose_4 : decode cL_lose 4 = .ok (.iload_n 2, 1) := by decide +kernel
theorem dL_lose_5 : decode cL_lose 5 = .ok (.invokevirtual 58, 3) := by decide +kernel
theorem dL_lose_8 : decode cL_lose 8 = .ok (.i2l, 1) := by decide +kernel
theorem dL_lose_9 : decode cL_lose 9 = .ok (.lastore, 1) := by decide +kernel
theorem dL_lose_10 : decode cL_lose 10 = .ok (.goto 11, 3) := by decide +kernel
theorem dL_lose_13 : decode cL_lose 13 = .ok (.astore 4, 2) := by decide +kernel
theorem dL_lose_15 : decode cL_lose 15 = .ok (.iconst 1, 1) := by decide +kernel
theorem dL_lose_16 : decode cL_lose 16 = .ok (.ireturn, 1) := by decide +kernel
theorem dL_lose_17 : decode cL_lose 17 = .ok (.astore 4, 2) := by decide +kernel
theorem dL_lose_19 : decode cL_lose 19 = .ok (.iconst 2, 1) := by decide +kernel
theorem dL_lose_20 : decode cL_lose 20 = .ok (.ireturn, 1) := by decide +kernel
theorem dL_lose_21 : decode cL_lose 21 = .ok (.iconst 0, 1) := by decide +kernel
theorem dL_lose_22 : decode cL_lose 22 = .ok (.ireturn, 1) := by decide +kernel
theorem h9_L_lose : yL_lose.cls ≠ "java/lang/invoke/MethodHandle" ∧ yL_lose.cls ≠ "java/lang/invoke/VarHandle" ∧ (parseMethodDescriptor yL_lose.desc).map (fun d => d.parameters.length) = some 4 := by decide +kernel
set_option maxHeartbeats 4000000 in
set_option maxRecDepth 100000 in
theorem c_L_lose (l : Launch) (D : va_G) (cy : Nat → ClassId) (a0 : Nat) (x1 : Int32) (x2 : Int32) (ao : Nat) (w w1 : FW) (v0 : Int64) (rx : Int32 ⊕ Nat) (hF : F_X4_lose a0 x1 x2 w = some (rx, w1)) (hk0 : w.1 a0 = 5) (hes : ∀ e, rx = .inr e → e ∈ [2, 4]) : fWSpec l D cy yL_lose cL_lose 5 [(0, 10, 13, 25), (0, 10, 17, 15)] { frames := 8, cells := 1, slots := 6, locals := 143 } [.ref a0, .int x1, .int x2, .ref ao] w w1 ao (arrV (cy 5) 1 (fun _ => .long v0)) (wO rx (arrV (cy 5) 1 (fun _ => .long v0)) (fun v => arrV (cy 5) 1 (fun _ => .long v.toInt64))) (wK [2, 4] rx) := by
  have hM := fun (D : va_G) (cy : Nat → ClassId) => c_X4_lose l D cy a0 x1 x2 w _ hF
  refine fw_begin (by decide +kernel) (Nat.le_of_ble_eq_true rfl) (fun X h hC hEn ho0 ho1 => ?_)
  have hst := fW_st hC hEn
  replace hM := hM D cy
  rcases rx with v | e
  · show gAt X 0 0 5 w h (gE1 ao (some (.inl (arrV (cy 5) 1 (fun _ => .long v0))))) [(0, .ref a0), (1, .int x1), (2, .int x2), (3, .ref ao)] [] 0
    refine g_aload_n hC dL_lose_0 rfl 3 rfl ?_
    refine g_iconst (v := 0) hC dL_lose_1 (by decide) ?_
    refine g_aload_n hC dL_lose_2 rfl 0 rfl ?_
    refine g_iload_n hC dL_lose_3 rfl 1 rfl ?_
    refine g_iload_n hC dL_lose_4 rfl 2 rfl ?_
    refine g_callVR hC hst [.int x1, .int x2] (rv := some (.int v)) hM q_860 q_132 q_857 q_858 q_859 h9_X4_lose (T := TX4) (N := 15) (ci := 4) rfl hk0 ⟨Nat.le_of_ble_eq_true rfl, Nat.le_of_ble_eq_true rfl⟩ ⟨Nat.le_of_ble_eq_true rfl, Nat.le_of_ble_eq_true rfl⟩ (Nat.le_of_ble_eq_true rfl) rfl dL_lose_5 (fun h1 hh1 hs1 => ?_)
    refine g_cs 1 6 (Nat.zero_add _).symm (Nat.zero_add _).symm ?_
    refine g_i2l hC dL_lose_8 ?_
    refine g_lastE hC (gE1_b _ _) dL_lose_9 ?_
    refine g_nm h1 (gE1 ao (some (.inl (arrV (cy 5) 1 (fun _ => .long v.toInt64))))) _ _ rfl (gE1_up _ _ _).symm rfl rfl ?_
    refine g_goto hC 21 dL_lose_10 (by decide) ?_
    refine g_iconst (v := 0) hC dL_lose_21 (by decide) ?_
    exact g_iretW hC hEn hs1 (gE1_b _ _) dL_lose_22
  · have he := hes e rfl
    simp only [List.mem_cons, List.not_mem_nil, or_false] at he
    rcases he with rfl | rfl
    · show gAt X 0 0 5 w h (gE1 ao (some (.inl (arrV (cy 5) 1 (fun _ => .long v0))))) [(0, .ref a0), (1, .int x1), (2, .int x2), (3, .ref ao)] [] 0
      refine g_aload_n hC dL_lose_0 rfl 3 rfl ?_
      refine g_iconst (v := 0) hC dL_lose_1 (by decide) ?_
      refine g_aload_n hC dL_lose_2 rfl 0 rfl ?_
      refine g_iload_n hC dL_lose_3 rfl 1 rfl ?_
      refine g_iload_n hC dL_lose_4 rfl 2 rfl ?_
      refine g_callVT hC hst [.int x1, .int x2] (ex := 2) hM q_860 q_132 q_857 q_858 q_859 h9_X4_lose (T := TX4) (N := 15) (ci := 4) rfl hk0 ⟨Nat.le_of_ble_eq_true rfl, Nat.le_of_ble_eq_true rfl⟩ ⟨Nat.le_of_ble_eq_true rfl, Nat.le_of_ble_eq_true rfl⟩ (Nat.le_of_ble_eq_true rfl) rfl dL_lose_5 (fun h1 hh1 hs1 => ?_)
      show gXt X (0 + 1) (0 + 6) 5 w1 h1 (gE1 ao (some (.inl (arrV (cy 5) 1 (fun _ => .long v0))))) [(0, .ref a0), (1, .int x1), (2, .int x2), (3, .ref ao)] 2 5
      refine g_catch hC hEn [] ⟨0, 10, 13, 25⟩ [⟨0, 10, 17, 15⟩] rfl (fun z hz => absurd hz List.not_mem_nil) (by decide) (by decide) q_660 q_403 (fun q9 => ?_)
      refine g_cs 1 6 (Nat.zero_add _).symm (Nat.zero_add _).symm ?_
      refine g_astore (L' := [(4, .ref q9), (0, .ref a0), (1, .int x1), (2, .int x2), (3, .ref ao)]) hC dL_lose_13 (by decide) rfl ?_
      refine g_iconst (v := 1) hC dL_lose_15 (by decide) ?_
      exact g_iretW hC hEn hs1 (gE1_b _ _) dL_lose_16
    · show gAt X 0 0 5 w h (gE1 ao (some (.inl (arrV (cy 5) 1 (fun _ => .long v0))))) [(0, .ref a0), (1, .int x1), (2, .int x2), (3, .ref ao)] [] 0
      refine g_aload_n hC dL_lose_0 rfl 3 rfl ?_
      refine g_iconst (v := 0) hC dL_lose_1 (by decide) ?_
      refine g_aload_n hC dL_lose_2 rfl 0 rfl ?_
      refine g_iload_n hC dL_lose_3 rfl 1 rfl ?_
      refine g_iload_n hC dL_lose_4 rfl 2 rfl ?_
      refine g_callVT hC hst [.int x1, .int x2] (ex := 4) hM q_860 q_132 q_857 q_858 q_859 h9_X4_lose (T := TX4) (N := 15) (ci := 4) rfl hk0 ⟨Nat.le_of_ble_eq_true rfl, Nat.le_of_ble_eq_true rfl⟩ ⟨Nat.le_of_ble_eq_true rfl, Nat.le_of_ble_eq_true rfl⟩ (Nat.le_of_ble_eq_true rfl) rfl dL_lose_5 (fun h1 hh1 hs1 => ?_)
      show gXt X (0 + 1) (0 + 6) 5 w1 h1 (gE1 ao (some (.inl (arrV (cy 5) 1 (fun _ => .long v0))))) [(0, .ref a0), (1, .int x1), (2, .int x2), (3, .ref ao)] 4 5
      have hpass : ∀ z ∈ ([⟨0, 10, 13, 25⟩] : List ExceptionTableEntry), z.catchType ≠ 0 ∧ ∃ nm : String, Cond.classLink RL z.catchType nm ∈ lwA ∧ (exN 4, nm) ∈ ncL := by
        intro z hz
        simp only [List.mem_cons, List.not_mem_nil, or_false] at hz
        subst hz
        exact ⟨by decide, _, q_660, by decide +kernel⟩
      refine g_catch hC hEn [⟨0, 10, 13, 25⟩] ⟨0, 10, 17, 15⟩ [] rfl hpass (by decide) (by decide) q_625 q_491 (fun q9 => ?_)
      refine g_cs 1 6 (Nat.zero_add _).symm (Nat.zero_add _).symm ?_
      refine g_astore (L' := [(4, .ref q9), (0, .ref a0), (1, .int x1), (2, .int x2), (3, .ref ao)]) hC dL_lose_17 (by decide) rfl ?_
      refine g_iconst (v := 2) hC dL_lose_19 (by decide) ?_
      exact g_iretW hC hEn hs1 (gE1_b _ _) dL_lose_20
theorem dL_find_0 : decode cL_find 0 = .ok (.aload_n 3, 1) := by decide +kernel
theorem dL_find_1 : decode cL_find 1 = .ok (.iconst 0, 1) := by decide +kernel
theorem dL_find_2 : decode cL_find 2 = .ok (.aload_n 0, 1) := by decide +kernel
theorem dL_find_3 : decode cL_find 3 = .ok (.iload_n 1, 1) := by decide +kernel
theorem dL_find_4 : decode cL_find 4 = .ok (.iload_n 2, 1) := by decide +kernel
theorem dL_find_5 : decode cL_find 5 = .ok (.invokevirtual 61, 3) := by decide +kernel
theorem dL_find_8 : decode cL_find 8 = .ok (.i2l, 1) := by decide +kernel
theorem dL_find_9 : decode cL_find 9 = .ok (.lastore, 1) := by decide +kernel
theorem dL_find_10 : decode cL_find 10 = .ok (.goto 11, 3) := by decide +kernel
theorem dL_find_13 : decode cL_find 13 = .ok (.astore 4, 2) := by decide +kernel
theorem dL_find_15 : decode cL_find 15 = .ok (.iconst 1, 1) := by decide +kernel
theorem dL_find_16 : decode cL_find 16 = .ok (.ireturn, 1) := by decide +kernel
theorem dL_find_17 : decode cL_find 17 = .ok (.astore 4, 2) := by decide +kernel
theorem dL_find_19 : decode cL_find 19 = .ok (.iconst 2, 1) := by decide +kernel
theorem dL_find_20 : decode cL_find 20 = .ok (.ireturn, 1) := by decide +kernel
theorem dL_find_21 : decode cL_find 21 = .ok (.iconst 0, 1) := by decide +kernel
theorem dL_find_22 : decode cL_find 22 = .ok (.ireturn, 1) := by decide +kernel
theorem h9_L_find : yL_find.cls ≠ "java/lang/invoke/MethodHandle" ∧ yL_find.cls ≠ "java/lang/invoke/VarHandle" ∧ (parseMethodDescriptor yL_find.desc).map (fun d => d.parameters.length) = some 4 := by decide +kernel
set_option maxHeartbeats 4000000 in
set_option maxRecDepth 100000 in
theorem c_L_find (l : Launch) (D : va_G) (cy : Nat → ClassId) (a0 : Nat) (x1 : Int32) (x2 : Int32) (ao : Nat) (w w1 : FW) (v0 : Int64) (rx : Int32 ⊕ Nat) (hF : F_X4_find a0 x1 x2 w = some (rx, w1)) (hk0 : w.1 a0 = 5) (hes : ∀ e, rx = .inr e → e ∈ [2, 4]) : fWSpec l D cy yL_find cL_find 5 [(0, 10, 13, 25), (0, 10, 17, 15)] { frames := 8, cells := 1, slots := 6, locals := 143 } [.ref a0, .int x1, .int x2, .ref ao] w w1 ao (arrV (cy 5) 1 (fun _ => .long v0)) (wO rx (arrV (cy 5) 1 (fun _ => .long v0)) (fun v => arrV (cy 5) 1 (fun _ => .long v.toInt64))) (wK [2, 4] rx) := by
  have hM := fun (D : va_G) (cy : Nat → ClassId) => c_X4_find l D cy a0 x1 x2 w _ hF
  refine fw_begin (by decide +kernel) (Nat.le_of_ble_eq_true rfl) (fun X h hC hEn ho0 ho1 => ?_)
  have hst := fW_st hC hEn
  replace hM := hM D cy
  rcases rx with v | e
  · show gAt X 0 0 5 w h (gE1 ao (some (.inl (arrV (cy 5) 1 (fun _ => .long v0))))) [(0, .ref a0), (1, .int x1), (2, .int x2), (3, .ref ao)] [] 0
    refine g_aload_n hC dL_find_0 rfl 3 rfl ?_
    refine g_iconst (v := 0) hC dL_find_1 (by decide) ?_
    refine g_aload_n hC dL_find_2 rfl 0 rfl ?_
    refine g_iload_n hC dL_find_3 rfl 1 rfl ?_
    refine g_iload_n hC dL_find_4 rfl 2 rfl ?_
    refine g_callVR hC hst [.int x1, .int x2] (rv := some (.int v)) hM q_875 q_132 q_872 q_873 q_874 h9_X4_find (T := TX4) (N := 15) (ci := 4) rfl hk0 ⟨Nat.le_of_ble_eq_true rfl, Nat.le_of_ble_eq_true rfl⟩ ⟨Nat.le_of_ble_eq_true rfl, Nat.le_of_ble_eq_true rfl⟩ (Nat.le_of_ble_eq_true rfl) rfl dL_find_5 (fun h1 hh1 hs1 => ?_)
    refine g_cs 1 6 (Nat.zero_add _).symm (Nat.zero_add _).symm ?_
    refine g_i2l hC dL_find_8 ?_
    refine g_lastE hC (gE1_b _ _) dL_find_9 ?_
    refine g_nm h1 (gE1 ao (some (.inl (arrV (cy 5) 1 (fun _ => .long v.toInt64))))) _ _ rfl (gE1_up _ _ _).symm rfl rfl ?_
    refine g_goto hC 21 dL_find_10 (by decide) ?_
    refine g_iconst (v := 0) hC dL_find_21 (by decide) ?_
    exact g_iretW hC hEn hs1 (gE1_b _ _) dL_find_22
  · have he := hes e rfl
    simp only [List.mem_cons, List.not_mem_nil, or_false] at he
    rcases he with rfl | rfl
    · show gAt X 0 0 5 w h (gE1 ao (some (.inl (arrV (cy 5) 1 (fun _ => .long v0))))) [(0, .ref a0), (1, .int x1), (2, .int x2), (3, .ref ao)] [] 0
      refine g_aload_n hC dL_find_0 rfl 3 rfl ?_
      refine g_iconst (v := 0) hC dL_find_1 (by decide) ?_
      refine g_aload_n hC dL_find_2 rfl 0 rfl ?_
      refine g_iload_n hC dL_find_3 rfl 1 rfl ?_
      refine g_iload_n hC dL_find_4 rfl 2 rfl ?_
      refine g_callVT hC hst [.int x1, .int x2] (ex := 2) hM q_875 q_132 q_872 q_873 q_874 h9_X4_find (T := TX4) (N := 15) (ci := 4) rfl hk0 ⟨Nat.le_of_ble_eq_true rfl, Nat.le_of_ble_eq_true rfl⟩ ⟨Nat.le_of_ble_eq_true rfl, Nat.le_of_ble_eq_true rfl⟩ (Nat.le_of_ble_eq_true rfl) rfl dL_find_5 (fun h1 hh1 hs1 => ?_)
      show gXt X (0 + 1) (0 + 6) 5 w1 h1 (gE1 ao (some (.inl (arrV (cy 5) 1 (fun _ => .long v0))))) [(0, .ref a0), (1, .int x1), (2, .int x2), (3, .ref ao)] 2 5
      refine g_catch hC hEn [] ⟨0, 10, 13, 25⟩ [⟨0, 10, 17, 15⟩] rfl (fun z hz => absurd hz List.not_mem_nil) (by decide) (by decide) q_660 q_403 (fun q9 => ?_)
      refine g_cs 1 6 (Nat.zero_add _).symm (Nat.zero_add _).symm ?_
      refine g_astore (L' := [(4, .ref q9), (0, .ref a0), (1, .int x1), (2, .int x2), (3, .ref ao)]) hC dL_find_13 (by decide) rfl ?_
      refine g_iconst (v := 1) hC dL_find_15 (by decide) ?_
      exact g_iretW hC hEn hs1 (gE1_b _ _) dL_find_16
    · show gAt X 0 0 5 w h (gE1 ao (some (.inl (arrV (cy 5) 1 (fun _ => .long v0))))) [(0, .ref a0), (1, .int x1), (2, .int x2), (3, .ref ao)] [] 0
      refine g_aload_n hC dL_find_0 rfl 3 rfl ?_
      refine g_iconst (v := 0) hC dL_find_1 (by decide) ?_
      refine g_aload_n hC dL_find_2 rfl 0 rfl ?_
      refine g_iload_n hC dL_find_3 rfl 1 rfl ?_
      refine g_iload_n hC dL_find_4 rfl 2 rfl ?_
      refine g_callVT hC hst [.int x1, .int x2] (ex := 4) hM q_875 q_132 q_872 q_873 q_874 h9_X4_find (T := TX4) (N := 15) (ci := 4) rfl hk0 ⟨Nat.le_of_ble_eq_true rfl, Nat.le_of_ble_eq_true rfl⟩ ⟨Nat.le_of_ble_eq_true rfl, Nat.le_of_ble_eq_true rfl⟩ (Nat.le_of_ble_eq_true rfl) rfl dL_find_5 (fun h1 hh1 hs1 => ?_)
      show gXt X (0 + 1) (0 + 6) 5 w1 h1 (gE1 ao (some (.inl (arrV (cy 5) 1 (fun _ => .long v0))))) [(0, .ref a0), (1, .int x1), (2, .int x2), (3, .ref ao)] 4 5
      have hpass : ∀ z ∈ ([⟨0, 10, 13, 25⟩] : List ExceptionTableEntry), z.catchType ≠ 0 ∧ ∃ nm : String, Cond.classLink RL z.catchType nm ∈ lwA ∧ (exN 4, nm) ∈ ncL := by
        intro z hz
        simp only [List.mem_cons, List.not_mem_nil, or_false] at hz
        subst hz
        exact ⟨by decide, _, q_660, by decide +kernel⟩
      refine g_catch hC hEn [⟨0, 10, 13, 25⟩] ⟨0, 10, 17, 15⟩ [] rfl hpass (by decide) (by decide) q_625 q_491 (fun q9 => ?_)
      refine g_cs 1 6 (Nat.zero_add _).symm (Nat.zero_add _).symm ?_
      refine g_astore (L' := [(4, .ref q9), (0, .ref a0), (1, .int x1), (2, .int x2), (3, .ref ao)]) hC dL_find_17 (by decide) rfl ?_
      refine g_iconst (v := 2) hC dL_find_19 (by decide) ?_
      exact g_iretW hC hEn hs1 (gE1_b _ _) dL_find_20
theorem dL_halfOf_0 : decode cL_halfOf 0 = .ok (.aload 4, 2) := by decide +kernel
theorem dL_halfOf_2 : decode cL_halfOf 2 = .ok (.iconst 0, 1) := by decide +kernel
theorem dL_halfOf_3 : decode cL_halfOf 3 = .ok (.aload_n 0, 1) := by decide +kernel
theorem dL_halfOf_4 : decode cL_halfOf 4 = .ok (.iload_n 1, 1) := by decide +kernel
theorem dL_halfOf_5 : decode cL_halfOf 5 = .ok (.iload_n 2, 1) := by decide +kernel
theorem dL_halfOf_6 : decode cL_halfOf 6 = .ok (.iload_n 3, 1) := by decide +kernel
theorem dL_halfOf_7 : decode cL_halfOf 7 = .ok (.invokevirtual 64, 3) := by decide +kernel
theorem dL_halfOf_10 : decode cL_halfOf 10 = .ok (.i2l, 1) := by decide +kernel
theorem dL_halfOf_11 : decode cL_halfOf 11 = .ok (.lastore, 1) := by decide +kernel
theorem dL_halfOf_12 : decode cL_halfOf 12 = .ok (.goto 11, 3) := by decide +kernel
theorem dL_halfOf_15 : decode cL_halfOf 15 = .ok (.astore 5, 2) := by decide +kernel
theorem dL_halfOf_17 : decode cL_halfOf 17 = .ok (.iconst 1, 1) := by decide +kernel
theorem dL_halfOf_18 : decode cL_halfOf 18 = .ok (.ireturn, 1) := by decide +kernel
theorem dL_halfOf_19 : decode cL_halfOf 19 = .ok (.astore 5, 2) := by decide +kernel
theorem dL_halfOf_21 : decode cL_halfOf 21 = .ok (.iconst 2, 1) := by decide +kernel
theorem dL_halfOf_22 : decode cL_halfOf 22 = .ok (.ireturn, 1) := by decide +kernel
theorem dL_halfOf_23 : decode cL_halfOf 23 = .ok (.iconst 0, 1) := by decide +kernel
theorem dL_halfOf_24 : decode cL_halfOf 24 = .ok (.ireturn, 1) := by decide +kernel
theorem h9_L_halfOf : yL_halfOf.cls ≠ "java/lang/invoke/MethodHandle" ∧ yL_halfOf.cls ≠ "java/lang/invoke/VarHandle" ∧ (parseMethodDescriptor yL_halfOf.desc).map (fun d => d.parameters.length) = some 5 := by decide +kernel
set_option maxHeartbeats 4000000 in
set_option maxRecDepth 100000 in
theorem c_L_halfOf (l : Launch) (D : va_G) (cy : Nat → ClassId) (a0 : Nat) (x1 : Int32) (x2 : Int32) (x3 : Int32) (ao : Nat) (w : FW) (v0 : Int64) (rx : Int32 ⊕ Nat) (hF : F_X4_halfOf a0 x1 x2 x3 w = some rx) (hk0 : w.1 a0 = 5) (hes : ∀ e, rx = .inr e → e ∈ [2, 1]) : fWSpec l D cy yL_halfOf cL_halfOf 6 [(0, 12, 15, 25), (0, 12, 19, 13)] { frames := 8, cells := 2, slots := 12, locals := 161 } [.ref a0, .int x1, .int x2, .int x3, .ref ao] w w ao (arrV (cy 5) 1 (fun _ => .long v0)) (wO rx (arrV (cy 5) 1 (fun _ => .long v0)) (fun v => arrV (cy 5) 1 (fun _ => .long v.toInt64))) (wK [2, 1] rx) := by
  have hM := fun (D : va_G) (cy : Nat → ClassId) => c_X4_halfOf l D cy a0 x1 x2 x3 w _ hF
  refine fw_begin (by decide +kernel) (Nat.le_of_ble_eq_true rfl) (fun X h hC hEn ho0 ho1 => ?_)
  have hst := fW_st hC hEn
  replace hM := hM D cy
  rcases rx with v | e
  · show gAt X 0 0 6 w h (gE1 ao (some (.inl (arrV (cy 5) 1 (fun _ => .long v0))))) [(0, .ref a0), (1, .int x1), (2, .int x2), (3, .int x3), (4, .ref ao)] [] 0
    refine g_aload hC dL_halfOf_0 4 rfl ?_
    refine g_iconst (v := 0) hC dL_halfOf_2 (by decide) ?_
    refine g_aload_n hC dL_halfOf_3 rfl 0 rfl ?_
    refine g_iload_n hC dL_halfOf_4 rfl 1 rfl ?_
    refine g_iload_n hC dL_halfOf_5 rfl 2 rfl ?_
    refine g_iload_n hC dL_halfOf_6 rfl 3 rfl ?_
    refine g_callVR hC hst [.int x1, .int x2, .int x3] (rv := some (.int v)) hM q_882 q_132 q_879 q_880 q_881 h9_X4_halfOf (T := TX4) (N := 15) (ci := 4) rfl hk0 ⟨Nat.le_of_ble_eq_true rfl, Nat.le_of_ble_eq_true rfl⟩ ⟨Nat.le_of_ble_eq_true rfl, Nat.le_of_ble_eq_true rfl⟩ (Nat.le_of_ble_eq_true rfl) rfl dL_halfOf_7 (fun h1 hh1 hs1 => ?_)
    refine g_cs 2 12 (Nat.zero_add _).symm (Nat.zero_add _).symm ?_
    refine g_i2l hC dL_halfOf_10 ?_
    refine g_lastE hC (gE1_b _ _) dL_halfOf_11 ?_
    refine g_nm h1 (gE1 ao (some (.inl (arrV (cy 5) 1 (fun _ => .long v.toInt64))))) _ _ rfl (gE1_up _ _ _).symm rfl rfl ?_
    refine g_goto hC 23 dL_halfOf_12 (by decide) ?_
    refine g_iconst (v := 0) hC dL_halfOf_23 (by decide) ?_
    exact g_iretW hC hEn (fSm.rf w) (gE1_b _ _) dL_halfOf_24
  · have he := hes e rfl
    simp only [List.mem_cons, List.not_mem_nil, or_false] at he
    rcases he with rfl | rfl
    · show gAt X 0 0 6 w h (gE1 ao (some (.inl (arrV (cy 5) 1 (fun _ => .long v0))))) [(0, .ref a0), (1, .int x1), (2, .int x2), (3, .int x3), (4, .ref ao)] [] 0
      refine g_aload hC dL_halfOf_0 4 rfl ?_
      refine g_iconst (v := 0) hC dL_halfOf_2 (by decide) ?_
      refine g_aload_n hC dL_halfOf_3 rfl 0 rfl ?_
      refine g_iload_n hC dL_halfOf_4 rfl 1 rfl ?_
      refine g_iload_n hC dL_halfOf_5 rfl 2 rfl ?_
      refine g_iload_n hC dL_halfOf_6 rfl 3 rfl ?_
      refine g_callVT hC hst [.int x1, .int x2, .int x3] (ex := 2) hM q_882 q_132 q_879 q_880 q_881 h9_X4_halfOf (T := TX4) (N := 15) (ci := 4) rfl hk0 ⟨Nat.le_of_ble_eq_true rfl, Nat.le_of_ble_eq_true rfl⟩ ⟨Nat.le_of_ble_eq_true rfl, Nat.le_of_ble_eq_true rfl⟩ (Nat.le_of_ble_eq_true rfl) rfl dL_halfOf_7 (fun h1 hh1 hs1 => ?_)
      show gXt X (0 + 2) (0 + 12) 6 w h1 (gE1 ao (some (.inl (arrV (cy 5) 1 (fun _ => .long v0))))) [(0, .ref a0), (1, .int x1), (2, .int x2), (3, .int x3), (4, .ref ao)] 2 7
      refine g_catch hC hEn [] ⟨0, 12, 15, 25⟩ [⟨0, 12, 19, 13⟩] rfl (fun z hz => absurd hz List.not_mem_nil) (by decide) (by decide) q_660 q_403 (fun q9 => ?_)
      refine g_cs 2 12 (Nat.zero_add _).symm (Nat.zero_add _).symm ?_
      refine g_astore (L' := [(5, .ref q9), (0, .ref a0), (1, .int x1), (2, .int x2), (3, .int x3), (4, .ref ao)]) hC dL_halfOf_15 (by decide) rfl ?_
      refine g_iconst (v := 1) hC dL_halfOf_17 (by decide) ?_
      exact g_iretW hC hEn (fSm.rf w) (gE1_b _ _) dL_halfOf_18
    · show gAt X 0 0 6 w h (gE1 ao (some (.inl (arrV (cy 5) 1 (fun _ => .long v0))))) [(0, .ref a0), (1, .int x1), (2, .int x2), (3, .int x3), (4, .ref ao)] [] 0
      refine g_aload hC dL_halfOf_0 4 rfl ?_
      refine g_iconst (v := 0) hC dL_halfOf_2 (by decide) ?_
      refine g_aload_n hC dL_halfOf_3 rfl 0 rfl ?_
      refine g_iload_n hC dL_halfOf_4 rfl 1 rfl ?_
      refine g_iload_n hC dL_halfOf_5 rfl 2 rfl ?_
      refine g_iload_n hC dL_halfOf_6 rfl 3 rfl ?_
      refine g_callVT hC hst [.int x1, .int x2, .int x3] (ex := 1) hM q_882 q_132 q_879 q_880 q_881 h9_X4_halfOf (T := TX4) (N := 15) (ci := 4) rfl hk0 ⟨Nat.le_of_ble_eq_true rfl, Nat.le_of_ble_eq_true rfl⟩ ⟨Nat.le_of_ble_eq_true rfl, Nat.le_of_ble_eq_true rfl⟩ (Nat.le_of_ble_eq_true rfl) rfl dL_halfOf_7 (fun h1 hh1 hs1 => ?_)
      show gXt X (0 + 2) (0 + 12) 6 w h1 (gE1 ao (some (.inl (arrV (cy 5) 1 (fun _ => .long v0))))) [(0, .ref a0), (1, .int x1), (2, .int x2), (3, .int x3), (4, .ref ao)] 1 7
      have hpass : ∀ z ∈ ([⟨0, 12, 15, 25⟩] : List ExceptionTableEntry), z.catchType ≠ 0 ∧ ∃ nm : String, Cond.classLink RL z.catchType nm ∈ lwA ∧ (exN 1, nm) ∈ ncL := by
        intro z hz
        simp only [List.mem_cons, List.not_mem_nil, or_false] at hz
        subst hz
        exact ⟨by decide, _, q_660, by decide +kernel⟩
      refine g_catch hC hEn [⟨0, 12, 15, 25⟩] ⟨0, 12, 19, 13⟩ [] rfl hpass (by decide) (by decide) q_624 q_475 (fun q9 => ?_)
      refine g_cs 2 12 (Nat.zero_add _).symm (Nat.zero_add _).symm ?_
      refine g_astore (L' := [(5, .ref q9), (0, .ref a0), (1, .int x1), (2, .int x2), (3, .int x3), (4, .ref ao)]) hC dL_halfOf_19 (by decide) rfl ?_
      refine g_iconst (v := 2) hC dL_halfOf_21 (by decide) ?_
      exact g_iretW hC hEn (fSm.rf w) (gE1_b _ _) dL_halfOf_22
theorem dL_readAt_0 : decode cL_readAt 0 = .ok (.aload 4, 2) := by decide +kernel
theorem dL_readAt_2 : decode cL_readAt 2 = .ok (.iconst 0, 1) := by decide +kernel
theorem dL_readAt_3 : decode cL_readAt 3 = .ok (.aload_n 0, 1) := by decide +kernel
theorem dL_readAt_4 : decode cL_readAt 4 = .ok (.iload_n 1, 1) := by decide +kernel
theorem dL_readAt_5 : decode cL_readAt 5 = .ok (.iload_n 2, 1) := by decide +kernel
theorem dL_readAt_6 : decode cL_readAt 6 = .ok (.iload_n 3, 1) := by decide +kernel
theorem dL_readAt_7 : decode cL_readAt 7 = .ok (.invokevirtual 67, 3) := by decide +kernel
theorem dL_readAt_10 : decode cL_readAt 10 = .ok (.i2l, 1) := by decide +kernel
theorem dL_readAt_11 : decode cL_readAt 11 = .ok (.lastore, 1) := by decide +kernel
theorem dL_readAt_12 : decode cL_readAt 12 = .ok (.goto 11, 3) := by decide +kernel
theorem dL_readAt_15 : decode cL_readAt 15 = .ok (.astore 5, 2) := by decide +kernel
theorem dL_readAt_17 : decode cL_readAt 17 = .ok (.iconst 1, 1) := by decide +kernel
theorem dL_readAt_18 : decode cL_readAt 18 = .ok (.ireturn, 1) := by decide +kernel
theorem dL_readAt_19 : decode cL_readAt 19 = .ok (.astore 5, 2) := by decide +kernel
theorem dL_readAt_21 : decode cL_readAt 21 = .ok (.iconst 2, 1) := by decide +kernel
theorem dL_readAt_22 : decode cL_readAt 22 = .ok (.ireturn, 1) := by decide +kernel
theorem dL_readAt_23 : decode cL_readAt 23 = .ok (.iconst 0, 1) := by decide +kernel
theorem dL_readAt_24 : decode cL_readAt 24 = .ok (.ireturn, 1) := by decide +kernel
theorem h9_L_readAt : yL_readAt.cls ≠ "java/lang/invoke/MethodHandle" ∧ yL_readAt.cls ≠ "java/lang/invoke/VarHandle" ∧ (parseMethodDescriptor yL_readAt.desc).map (fun d => d.parameters.length) = some 5 := by decide +kernel
set_option maxHeartbeats 4000000 in
set_option maxRecDepth 100000 in
theorem c_L_readAt (l : Launch) (D : va_G) (cy : Nat → ClassId) (a0 : Nat) (x1 : Int32) (x2 : Int32) (x3 : Int32) (ao : Nat) (w : FW) (v0 : Int64) (rx : Int32 ⊕ Nat) (hF : F_X4_readAt a0 x1 x2 x3 w = some rx) (hk0 : w.1 a0 = 5) (hes : ∀ e, rx = .inr e → e ∈ [2, 5]) : fWSpec l D cy yL_readAt cL_readAt 6 [(0, 12, 15, 25), (0, 12, 19, 46)] { frames := 8, cells := 3, slots := 18, locals := 156 } [.ref a0, .int x1, .int x2, .int x3, .ref ao] w w ao (arrV (cy 5) 1 (fun _ => .long v0)) (wO rx (arrV (cy 5) 1 (fun _ => .long v0)) (fun v => arrV (cy 5) 1 (fun _ => .long v.toInt64))) (wK [2, 5] rx) := by
  have hM := fun (D : va_G) (cy : Nat → ClassId) => c_X4_readAt l D cy a0 x1 x2 x3 w _ hF
  refine fw_begin (by decide +kernel) (Nat.le_of_ble_eq_true rfl) (fun X h hC hEn ho0 ho1 => ?_)
  have hst := fW_st hC hEn
  replace hM := hM D cy
  rcases rx with v | e
  · show gAt X 0 0 6 w h (gE1 ao (some (.inl (arrV (cy 5) 1 (fun _ => .long v0))))) [(0, .ref a0), (1, .int x1), (2, .int x2), (3, .int x3), (4, .ref ao)] [] 0
    refine g_aload hC dL_readAt_0 4 rfl ?_
    refine g_iconst (v := 0) hC dL_readAt_2 (by decide) ?_
    refine g_aload_n hC dL_readAt_3 rfl 0 rfl ?_
    refine g_iload_n hC dL_readAt_4 rfl 1 rfl ?_
    refine g_iload_n hC dL_readAt_5 rfl 2 rfl ?_
    refine g_iload_n hC dL_readAt_6 rfl 3 rfl ?_
    refine g_callVR hC hst [.int x1, .int x2, .int x3] (rv := some (.int v)) hM q_894 q_132 q_891 q_892 q_893 h9_X4_readAt (T := TX4) (N := 15) (ci := 4) rfl hk0 ⟨Nat.le_of_ble_eq_true rfl, Nat.le_of_ble_eq_true rfl⟩ ⟨Nat.le_of_ble_eq_true rfl, Nat.le_of_ble_eq_true rfl⟩ (Nat.le_of_ble_eq_true rfl) rfl dL_readAt_7 (fun h1 hh1 hs1 => ?_)
    refine g_cs 3 18 (Nat.zero_add _).symm (Nat.zero_add _).symm ?_
    refine g_i2l hC dL_readAt_10 ?_
    refine g_lastE hC (gE1_b _ _) dL_readAt_11 ?_
    refine g_nm h1 (gE1 ao (some (.inl (arrV (cy 5) 1 (fun _ => .long v.toInt64))))) _ _ rfl (gE1_up _ _ _).symm rfl rfl ?_
    refine g_goto hC 23 dL_readAt_12 (by decide) ?_
    refine g_iconst (v := 0) hC dL_readAt_23 (by decide) ?_
    exact g_iretW hC hEn (fSm.rf w) (gE1_b _ _) dL_readAt_24
  · have he := hes e rfl
    simp only [List.mem_cons, List.not_mem_nil, or_false] at he
    rcases he with rfl | rfl
    · show gAt X 0 0 6 w h (gE1 ao (some (.inl (arrV (cy 5) 1 (fun _ => .long v0))))) [(0, .ref a0), (1, .int x1), (2, .int x2), (3, .int x3), (4, .ref ao)] [] 0
      refine g_aload hC dL_readAt_0 4 rfl ?_
      refine g_iconst (v := 0) hC dL_readAt_2 (by decide) ?_
      refine g_aload_n hC dL_readAt_3 rfl 0 rfl ?_
      refine g_iload_n hC dL_readAt_4 rfl 1 rfl ?_
      refine g_iload_n hC dL_readAt_5 rfl 2 rfl ?_
      refine g_iload_n hC dL_readAt_6 rfl 3 rfl ?_
      refine g_callVT hC hst [.int x1, .int x2, .int x3] (ex := 2) hM q_894 q_132 q_891 q_892 q_893 h9_X4_readAt (T := TX4) (N := 15) (ci := 4) rfl hk0 ⟨Nat.le_of_ble_eq_true rfl, Nat.le_of_ble_eq_true rfl⟩ ⟨Nat.le_of_ble_eq_true rfl, Nat.le_of_ble_eq_true rfl⟩ (Nat.le_of_ble_eq_true rfl) rfl dL_readAt_7 (fun h1 hh1 hs1 => ?_)
      show gXt X (0 + 3) (0 + 18) 6 w h1 (gE1 ao (some (.inl (arrV (cy 5) 1 (fun _ => .long v0))))) [(0, .ref a0), (1, .int x1), (2, .int x2), (3, .int x3), (4, .ref ao)] 2 7
      refine g_catch hC hEn [] ⟨0, 12, 15, 25⟩ [⟨0, 12, 19, 46⟩] rfl (fun z hz => absurd hz List.not_mem_nil) (by decide) (by decide) q_660 q_403 (fun q9 => ?_)
      refine g_cs 3 18 (Nat.zero_add _).symm (Nat.zero_add _).symm ?_
      refine g_astore (L' := [(5, .ref q9), (0, .ref a0), (1, .int x1), (2, .int x2), (3, .int x3), (4, .ref ao)]) hC dL_readAt_15 (by decide) rfl ?_
      refine g_iconst (v := 1) hC dL_readAt_17 (by decide) ?_
      exact g_iretW hC hEn (fSm.rf w) (gE1_b _ _) dL_readAt_18
    · show gAt X 0 0 6 w h (gE1 ao (some (.inl (arrV (cy 5) 1 (fun _ => .long v0))))) [(0, .ref a0), (1, .int x1), (2, .int x2), (3, .int x3), (4, .ref ao)] [] 0
      refine g_aload hC dL_readAt_0 4 rfl ?_
      refine g_iconst (v := 0) hC dL_readAt_2 (by decide) ?_
      refine g_aload_n hC dL_readAt_3 rfl 0 rfl ?_
      refine g_iload_n hC dL_readAt_4 rfl 1 rfl ?_
      refine g_iload_n hC dL_readAt_5 rfl 2 rfl ?_
      refine g_iload_n hC dL_readAt_6 rfl 3 rfl ?_
      refine g_callVT hC hst [.int x1, .int x2, .int x3] (ex := 5) hM q_894 q_132 q_891 q_892 q_893 h9_X4_readAt (T := TX4) (N := 15) (ci := 4) rfl hk0 ⟨Nat.le_of_ble_eq_true rfl, Nat.le_of_ble_eq_true rfl⟩ ⟨Nat.le_of_ble_eq_true rfl, Nat.le_of_ble_eq_true rfl⟩ (Nat.le_of_ble_eq_true rfl) rfl dL_readAt_7 (fun h1 hh1 hs1 => ?_)
      show gXt X (0 + 3) (0 + 18) 6 w h1 (gE1 ao (some (.inl (arrV (cy 5) 1 (fun _ => .long v0))))) [(0, .ref a0), (1, .int x1), (2, .int x2), (3, .int x3), (4, .ref ao)] 5 7
      have hpass : ∀ z ∈ ([⟨0, 12, 15, 25⟩] : List ExceptionTableEntry), z.catchType ≠ 0 ∧ ∃ nm : String, Cond.classLink RL z.catchType nm ∈ lwA ∧ (exN 5, nm) ∈ ncL := by
        intro z hz
        simp only [List.mem_cons, List.not_mem_nil, or_false] at hz
        subst hz
        exact ⟨by decide, _, q_660, by decide +kernel⟩
      refine g_catch hC hEn [⟨0, 12, 15, 25⟩] ⟨0, 12, 19, 46⟩ [] rfl hpass (by decide) (by decide) q_774 q_782 (fun q9 => ?_)
      refine g_cs 3 18 (Nat.zero_add _).symm (Nat.zero_add _).symm ?_
      refine g_astore (L' := [(5, .ref q9), (0, .ref a0), (1, .int x1), (2, .int x2), (3, .int x3), (4, .ref ao)]) hC dL_readAt_19 (by decide) rfl ?_
      refine g_iconst (v := 2) hC dL_readAt_21 (by decide) ?_
      exact g_iretW hC hEn (fSm.rf w) (gE1_b _ _) dL_readAt_22
theorem dL_doAgree_0 : decode cL_doAgree 0 = .ok (.aload_n 3, 1) := by decide +kernel
theorem dL_doAgree_1 : decode cL_doAgree 1 = .ok (.iconst 0, 1) := by decide +kernel
theorem dL_doAgree_2 : decode cL_doAgree 2 = .ok (.aload_n 0, 1) := by decide +kernel
theorem dL_doAgree_3 : decode cL_doAgree 3 = .ok (.iload_n 1, 1) := by decide +kernel
theorem dL_doAgree_4 : decode cL_doAgree 4 = .ok (.iload_n 2, 1) := by decide +kernel
theorem dL_doAgree_5 : decode cL_doAgree 5 = .ok (.invokevirtual 71, 3) := by decide +kernel
theorem dL_doAgree_8 : decode cL_doAgree 8 = .ok (.ifCond .eq 7, 3) := by decide +kernel
theorem dL_doAgree_11 : decode cL_doAgree 11 = .ok (.lconst 1, 1) := by decide +kernel
theorem dL_doAgree_12 : decode cL_doAgree 12 = .ok (.goto 4, 3) := by decide +kernel
theorem dL_doAgree_15 : decode cL_doAgree 15 = .ok (.lconst 0, 1) := by decide +kernel
theorem dL_doAgree_16 : decode cL_doAgree 16 = .ok (.lastore, 1) := by decide +kernel
theorem dL_doAgree_17 : decode cL_doAgree 17 = .ok (.goto 7, 3) := by decide +kernel
theorem dL_doAgree_20 : decode cL_doAgree 20 = .ok (.astore 4, 2) := by decide +kernel
theorem dL_doAgree_22 : decode cL_doAgree 22 = .ok (.iconst 1, 1) := by decide +kernel
theorem dL_doAgree_23 : decode cL_doAgree 23 = .ok (.ireturn, 1) := by decide +kernel
theorem dL_doAgree_24 : decode cL_doAgree 24 = .ok (.iconst 0, 1) := by decide +kernel
theorem dL_doAgree_25 : decode cL_doAgree 25 = .ok (.ireturn, 1) := by decide +kernel
theorem h9_L_doAgree : yL_doAgree.cls ≠ "java/lang/invoke/MethodHandle" ∧ yL_doAgree.cls ≠ "java/lang/invoke/VarHandle" ∧ (parseMethodDescriptor yL_doAgree.desc).map (fun d => d.parameters.length) = some 4 := by decide +kernel
set_option maxHeartbeats 4000000 in
set_option maxRecDepth 100000 in
theorem c_L_doAgree (l : Launch) (D : va_G) (cy : Nat → ClassId) (a0 : Nat) (x1 : Int32) (x2 : Int32) (ao : Nat) (w : FW) (v0 : Int64) (rx : Int32 ⊕ Nat) (hF : F_X4_doAgree a0 x1 x2 w = some rx) (hk0 : w.1 a0 = 5) (hes : ∀ e, rx = .inr e → e ∈ [2]) : fWSpec l D cy yL_doAgree cL_doAgree 5 [(0, 17, 20, 25)] { frames := 8, cells := 1, slots := 6, locals := 176 } [.ref a0, .int x1, .int x2, .ref ao] w w ao (arrV (cy 5) 1 (fun _ => .long v0)) (wO rx (arrV (cy 5) 1 (fun _ => .long v0)) (fun v => arrV (cy 5) 1 (fun _ => .long (if v = 0 then 0 else 1)))) (wK [2] rx) := by
  have hM := fun (D : va_G) (cy : Nat → ClassId) => c_X4_doAgree l D cy a0 x1 x2 w _ hF
  refine fw_begin (by decide +kernel) (Nat.le_of_ble_eq_true rfl) (fun X h hC hEn ho0 ho1 => ?_)
  have hst := fW_st hC hEn
  replace hM := hM D cy
  rcases rx with v | e
  · show gAt X 0 0 5 w h (gE1 ao (some (.inl (arrV (cy 5) 1 (fun _ => .long v0))))) [(0, .ref a0), (1, .int x1), (2, .int x2), (3, .ref ao)] [] 0
    refine g_aload_n hC dL_doAgree_0 rfl 3 rfl ?_
    refine g_iconst (v := 0) hC dL_doAgree_1 (by decide) ?_
    refine g_aload_n hC dL_doAgree_2 rfl 0 rfl ?_
    refine g_iload_n hC dL_doAgree_3 rfl 1 rfl ?_
    refine g_iload_n hC dL_doAgree_4 rfl 2 rfl ?_
    refine g_callVR hC hst [.int x1, .int x2] (rv := some (.int v)) hM q_906 q_132 q_903 q_904 q_905 h9_X4_doAgree (T := TX4) (N := 15) (ci := 4) rfl hk0 ⟨Nat.le_of_ble_eq_true rfl, Nat.le_of_ble_eq_true rfl⟩ ⟨Nat.le_of_ble_eq_true rfl, Nat.le_of_ble_eq_true rfl⟩ (Nat.le_of_ble_eq_true rfl) rfl dL_doAgree_5 (fun h1 hh1 hs1 => ?_)
    refine g_cs 1 6 (Nat.zero_add _).symm (Nat.zero_add _).symm ?_
    refine g_if_eq hC 15 dL_doAgree_8 (by decide) (fun c9 => ?_) (fun c9 => ?_)
    · refine g_lconst (v := 0) hC dL_doAgree_15 (by decide) ?_
      rw [show (0 : Int64) = (if v = 0 then 0 else 1) from (if_pos c9).symm]
      refine g_lastE hC (gE1_b _ _) dL_doAgree_16 ?_
      refine g_nm h1 (gE1 ao (some (.inl (arrV (cy 5) 1 (fun _ => .long (if v = 0 then 0 else 1)))))) _ _ rfl (gE1_up _ _ _).symm rfl rfl ?_
      refine g_goto hC 24 dL_doAgree_17 (by decide) ?_
      refine g_iconst (v := 0) hC dL_doAgree_24 (by decide) ?_
      exact g_iretW hC hEn (fSm.rf w) (gE1_b _ _) dL_doAgree_25
    · refine g_lconst (v := 1) hC dL_doAgree_11 (by decide) ?_
      refine g_goto hC 16 dL_doAgree_12 (by decide) ?_
      rw [show (1 : Int64) = (if v = 0 then 0 else 1) from (if_neg c9).symm]
      refine g_lastE hC (gE1_b _ _) dL_doAgree_16 ?_
      refine g_nm h1 (gE1 ao (some (.inl (arrV (cy 5) 1 (fun _ => .long (if v = 0 then 0 else 1)))))) _ _ rfl (gE1_up _ _ _).symm rfl rfl ?_
      refine g_goto hC 24 dL_doAgree_17 (by decide) ?_
      refine g_iconst (v := 0) hC dL_doAgree_24 (by decide) ?_
      exact g_iretW hC hEn (fSm.rf w) (gE1_b _ _) dL_doAgree_25
  · have he := hes e rfl
    simp only [List.mem_cons, List.not_mem_nil, or_false] at he
    subst he
    show gAt X 0 0 5 w h (gE1 ao (some (.inl (arrV (cy 5) 1 (fun _ => .long v0))))) [(0, .ref a0), (1, .int x1), (2, .int x2), (3, .ref ao)] [] 0
    refine g_aload_n hC dL_doAgree_0 rfl 3 rfl ?_
    refine g_iconst (v := 0) hC dL_doAgree_1 (by decide) ?_
    refine g_aload_n hC dL_doAgree_2 rfl 0 rfl ?_
    refine g_iload_n hC dL_doAgree_3 rfl 1 rfl ?_
    refine g_iload_n hC dL_doAgree_4 rfl 2 rfl ?_
    refine g_callVT hC hst [.int x1, .int x2] (ex := 2) hM q_906 q_132 q_903 q_904 q_905 h9_X4_doAgree (T := TX4) (N := 15) (ci := 4) rfl hk0 ⟨Nat.le_of_ble_eq_true rfl, Nat.le_of_ble_eq_true rfl⟩ ⟨Nat.le_of_ble_eq_true rfl, Nat.le_of_ble_eq_true rfl⟩ (Nat.le_of_ble_eq_true rfl) rfl dL_doAgree_5 (fun h1 hh1 hs1 => ?_)
    show gXt X (0 + 1) (0 + 6) 5 w h1 (gE1 ao (some (.inl (arrV (cy 5) 1 (fun _ => .long v0))))) [(0, .ref a0), (1, .int x1), (2, .int x2), (3, .ref ao)] 2 5
    refine g_catch hC hEn [] ⟨0, 17, 20, 25⟩ [] rfl (fun z hz => absurd hz List.not_mem_nil) (by decide) (by decide) q_660 q_403 (fun q9 => ?_)
    refine g_cs 1 6 (Nat.zero_add _).symm (Nat.zero_add _).symm ?_
    refine g_astore (L' := [(4, .ref q9), (0, .ref a0), (1, .int x1), (2, .int x2), (3, .ref ao)]) hC dL_doAgree_20 (by decide) rfl ?_
    refine g_iconst (v := 1) hC dL_doAgree_22 (by decide) ?_
    exact g_iretW hC hEn (fSm.rf w) (gE1_b _ _) dL_doAgree_23
theorem dL_moodFor_0 : decode cL_moodFor 0 = .ok (.aload_n 3, 1) := by decide +kernel
theorem dL_moodFor_1 : decode cL_moodFor 1 = .ok (.iconst 0, 1) := by decide +kernel
theorem dL_moodFor_2 : decode cL_moodFor 2 = .ok (.aload_n 0, 1) := by decide +kernel
theorem dL_moodFor_3 : decode cL_moodFor 3 = .ok (.iload_n 1, 1) := by decide +kernel
theorem dL_moodFor_4 : decode cL_moodFor 4 = .ok (.iload_n 2, 1) := by decide +kernel
theorem dL_moodFor_5 : decode cL_moodFor 5 = .ok (.invokevirtual 75, 3) := by decide +kernel
theorem dL_moodFor_8 : decode cL_moodFor 8 = .ok (.i2l, 1) := by decide +kernel
theorem dL_moodFor_9 : decode cL_moodFor 9 = .ok (.lastore, 1) := by decide +kernel
theorem dL_moodFor_10 : decode cL_moodFor 10 = .ok (.goto 11, 3) := by decide +kernel
theorem dL_moodFor_13 : decode cL_moodFor 13 = .ok (.astore 4, 2) := by decide +kernel
theorem dL_moodFor_15 : decode cL_moodFor 15 = .ok (.iconst 1, 1) := by decide +kernel
theorem dL_moodFor_16 : decode cL_moodFor 16 = .ok (.ireturn, 1) := by decide +kernel
theorem dL_moodFor_17 : decode cL_moodFor 17 = .ok (.astore 4, 2) := by decide +kernel
theorem dL_moodFor_19 : decode cL_moodFor 19 = .ok (.iconst 2, 1) := by decide +kernel
theorem dL_moodFor_20 : decode cL_moodFor 20 = .ok (.ireturn, 1) := by decide +kernel
theorem dL_moodFor_21 : decode cL_moodFor 21 = .ok (.iconst 0, 1) := by decide +kernel
theorem dL_moodFor_22 : decode cL_moodFor 22 = .ok (.ireturn, 1) := by decide +kernel
theorem h9_L_moodFor : yL_moodFor.cls ≠ "java/lang/invoke/MethodHandle" ∧ yL_moodFor.cls ≠ "java/lang/invoke/VarHandle" ∧ (parseMethodDescriptor yL_moodFor.desc).map (fun d => d.parameters.length) = some 4 := by decide +kernel
set_option maxHeartbeats 4000000 in
set_option maxRecDepth 100000 in
theorem c_L_moodFor (l : Launch) (D : va_G) (cy : Nat → ClassId) (a0 : Nat) (x1 : Int32) (x2 : Int32) (ao : Nat) (w : FW) (v0 : Int64) (rx : Int32 ⊕ Nat) (hF : F_X4_moodFor a0 x1 x2 w = some rx) (hk0 : w.1 a0 = 5) (hes : ∀ e, rx = .inr e → e ∈ [2, 5]) : fWSpec l D cy yL_moodFor cL_moodFor 5 [(0, 10, 13, 25), (0, 10, 17, 46)] { frames := 8, cells := 3, slots := 18, locals := 161 } [.ref a0, .int x1, .int x2, .ref ao] w w ao (arrV (cy 5) 1 (fun _ => .long v0)) (wO rx (arrV (cy 5) 1 (fun _ => .long v0)) (fun v => arrV (cy 5) 1 (fun _ => .long v.toInt64))) (wK [2, 5] rx) := by
  have hM := fun (D : va_G) (cy : Nat → ClassId) => c_X4_moodFor l D cy a0 x1 x2 w _ hF
  refine fw_begin (by decide +kernel) (Nat.le_of_ble_eq_true rfl) (fun X h hC hEn ho0 ho1 => ?_)
  have hst := fW_st hC hEn
  replace hM := hM D cy
  rcases rx with v | e
  · show gAt X 0 0 5 w h (gE1 ao (some (.inl (arrV (cy 5) 1 (fun _ => .long v0))))) [(0, .ref a0), (1, .int x1), (2, .int x2), (3, .ref ao)] [] 0
    refine g_aload_n hC dL_moodFor_0 rfl 3 rfl ?_
    refine g_iconst (v := 0) hC dL_moodFor_1 (by decide) ?_
    refine g_aload_n hC dL_moodFor_2 rfl 0 rfl ?_
    refine g_iload_n hC dL_moodFor_3 rfl 1 rfl ?_
    refine g_iload_n hC dL_moodFor_4 rfl 2 rfl ?_
    refine g_callVR hC hst [.int x1, .int x2] (rv := some (.int v)) hM q_913 q_132 q_910 q_911 q_912 h9_X4_moodFor (T := TX4) (N := 15) (ci := 4) rfl hk0 ⟨Nat.le_of_ble_eq_true rfl, Nat.le_of_ble_eq_true rfl⟩ ⟨Nat.le_of_ble_eq_true rfl, Nat.le_of_ble_eq_true rfl⟩ (Nat.le_of_ble_eq_true rfl) rfl dL_moodFor_5 (fun h1 hh1 hs1 => ?_)
    refine g_cs 3 18 (Nat.zero_add _).symm (Nat.zero_add _).symm ?_
    refine g_i2l hC dL_moodFor_8 ?_
    refine g_lastE hC (gE1_b _ _) dL_moodFor_9 ?_
    refine g_nm h1 (gE1 ao (some (.inl (arrV (cy 5) 1 (fun _ => .long v.toInt64))))) _ _ rfl (gE1_up _ _ _).symm rfl rfl ?_
    refine g_goto hC 21 dL_moodFor_10 (by decide) ?_
    refine g_iconst (v := 0) hC dL_moodFor_21 (by decide) ?_
    exact g_iretW hC hEn (fSm.rf w) (gE1_b _ _) dL_moodFor_22
  · have he := hes e rfl
    simp only [List.mem_cons, List.not_mem_nil, or_false] at he
    rcases he with rfl | rfl
    · show gAt X 0 0 5 w h (gE1 ao (some (.inl (arrV (cy 5) 1 (fun _ => .long v0))))) [(0, .ref a0), (1, .int x1), (2, .int x2), (3, .ref ao)] [] 0
      refine g_aload_n hC dL_moodFor_0 rfl 3 rfl ?_
      refine g_iconst (v := 0) hC dL_moodFor_1 (by decide) ?_
      refine g_aload_n hC dL_moodFor_2 rfl 0 rfl ?_
      refine g_iload_n hC dL_moodFor_3 rfl 1 rfl ?_
      refine g_iload_n hC dL_moodFor_4 rfl 2 rfl ?_
      refine g_callVT hC hst [.int x1, .int x2] (ex := 2) hM q_913 q_132 q_910 q_911 q_912 h9_X4_moodFor (T := TX4) (N := 15) (ci := 4) rfl hk0 ⟨Nat.le_of_ble_eq_true rfl, Nat.le_of_ble_eq_true rfl⟩ ⟨Nat.le_of_ble_eq_true rfl, Nat.le_of_ble_eq_true rfl⟩ (Nat.le_of_ble_eq_true rfl) rfl dL_moodFor_5 (fun h1 hh1 hs1 => ?_)
      show gXt X (0 + 3) (0 + 18) 5 w h1 (gE1 ao (some (.inl (arrV (cy 5) 1 (fun _ => .long v0))))) [(0, .ref a0), (1, .int x1), (2, .int x2), (3, .ref ao)] 2 5
      refine g_catch hC hEn [] ⟨0, 10, 13, 25⟩ [⟨0, 10, 17, 46⟩] rfl (fun z hz => absurd hz List.not_mem_nil) (by decide) (by decide) q_660 q_403 (fun q9 => ?_)
      refine g_cs 3 18 (Nat.zero_add _).symm (Nat.zero_add _).symm ?_
      refine g_astore (L' := [(4, .ref q9), (0, .ref a0), (1, .int x1), (2, .int x2), (3, .ref ao)]) hC dL_moodFor_13 (by decide) rfl ?_
      refine g_iconst (v := 1) hC dL_moodFor_15 (by decide) ?_
      exact g_iretW hC hEn (fSm.rf w) (gE1_b _ _) dL_moodFor_16
    · show gAt X 0 0 5 w h (gE1 ao (some (.inl (arrV (cy 5) 1 (fun _ => .long v0))))) [(0, .ref a0), (1, .int x1), (2, .int x2), (3, .ref ao)] [] 0
      refine g_aload_n hC dL_moodFor_0 rfl 3 rfl ?_
      refine g_iconst (v := 0) hC dL_moodFor_1 (by decide) ?_
      refine g_aload_n hC dL_moodFor_2 rfl 0 rfl ?_
      refine g_iload_n hC dL_moodFor_3 rfl 1 rfl ?_
      refine g_iload_n hC dL_moodFor_4 rfl 2 rfl ?_
      refine g_callVT hC hst [.int x1, .int x2] (ex := 5) hM q_913 q_132 q_910 q_911 q_912 h9_X4_moodFor (T := TX4) (N := 15) (ci := 4) rfl hk0 ⟨Nat.le_of_ble_eq_true rfl, Nat.le_of_ble_eq_true rfl⟩ ⟨Nat.le_of_ble_eq_true rfl, Nat.le_of_ble_eq_true rfl⟩ (Nat.le_of_ble_eq_true rfl) rfl dL_moodFor_5 (fun h1 hh1 hs1 => ?_)
      show gXt X (0 + 3) (0 + 18) 5 w h1 (gE1 ao (some (.inl (arrV (cy 5) 1 (fun _ => .long v0))))) [(0, .ref a0), (1, .int x1), (2, .int x2), (3, .ref ao)] 5 5
      have hpass : ∀ z ∈ ([⟨0, 10, 13, 25⟩] : List ExceptionTableEntry), z.catchType ≠ 0 ∧ ∃ nm : String, Cond.classLink RL z.catchType nm ∈ lwA ∧ (exN 5, nm) ∈ ncL := by
        intro z hz
        simp only [List.mem_cons, List.not_mem_nil, or_false] at hz
        subst hz
        exact ⟨by decide, _, q_660, by decide +kernel⟩
      refine g_catch hC hEn [⟨0, 10, 13, 25⟩] ⟨0, 10, 17, 46⟩ [] rfl hpass (by decide) (by decide) q_774 q_782 (fun q9 => ?_)
      refine g_cs 3 18 (Nat.zero_add _).symm (Nat.zero_add _).symm ?_
      refine g_astore (L' := [(4, .ref q9), (0, .ref a0), (1, .int x1), (2, .int x2), (3, .ref ao)]) hC dL_moodFor_17 (by decide) rfl ?_
      refine g_iconst (v := 2) hC dL_moodFor_19 (by decide) ?_
      exact g_iretW hC hEn (fSm.rf w) (gE1_b _ _) dL_moodFor_20
theorem dL_would_0 : decode cL_would 0 = .ok (.aload 4, 2) := by decide +kernel
theorem dL_would_2 : decode cL_would 2 = .ok (.iconst 0, 1) := by decide +kernel
theorem dL_would_3 : decode cL_would 3 = .ok (.aload_n 0, 1) := by decide +kernel
theorem dL_would_4 : decode cL_would 4 = .ok (.iload_n 1, 1) := by decide +kernel
theorem dL_would_5 : decode cL_would 5 = .ok (.iload_n 2, 1) := by decide +kernel
theorem dL_would_6 : decode cL_would 6 = .ok (.iload_n 3, 1) := by decide +kernel
theorem dL_would_7 : decode cL_would 7 = .ok (.invokevirtual 78, 3) := by decide +kernel
theorem dL_would_10 : decode cL_would 10 = .ok (.i2l, 1) := by decide +kernel
theorem dL_would_11 : decode cL_would 11 = .ok (.lastore, 1) := by decide +kernel
theorem dL_would_12 : decode cL_would 12 = .ok (.goto 15, 3) := by decide +kernel
theorem dL_would_15 : decode cL_would 15 = .ok (.astore 5, 2) := by decide +kernel
theorem dL_would_17 : decode cL_would 17 = .ok (.iconst 1, 1) := by decide +kernel
theorem dL_would_18 : decode cL_would 18 = .ok (.ireturn, 1) := by decide +kernel
theorem dL_would_19 : decode cL_would 19 = .ok (.astore 5, 2) := by decide +kernel
theorem dL_would_21 : decode cL_would 21 = .ok (.iconst 2, 1) := by decide +kernel
theorem dL_would_22 : decode cL_would 22 = .ok (.ireturn, 1) := by decide +kernel
theorem dL_would_23 : decode cL_would 23 = .ok (.astore 5, 2) := by decide +kernel
theorem dL_would_25 : decode cL_would 25 = .ok (.iconst 3, 1) := by decide +kernel
theorem dL_would_26 : decode cL_would 26 = .ok (.ireturn, 1) := by decide +kernel
theorem dL_would_27 : decode cL_would 27 = .ok (.iconst 0, 1) := by decide +kernel
theorem dL_would_28 : decode cL_would 28 = .ok (.ireturn, 1) := by decide +kernel
theorem h9_L_would : yL_would.cls ≠ "java/lang/invoke/MethodHandle" ∧ yL_would.cls ≠ "java/lang/invoke/VarHandle" ∧ (parseMethodDescriptor yL_would.desc).map (fun d => d.parameters.length) = some 5 := by decide +kernel
set_option maxHeartbeats 4000000 in
set_option maxRecDepth 100000 in
theorem c_L_would (l : Launch) (D : va_G) (cy : Nat → ClassId) (a0 : Nat) (x1 : Int32) (x2 : Int32) (x3 : Int32) (ao : Nat) (w : FW) (v0 : Int64) (rx : Int32 ⊕ Nat) (hF : F_X4_would a0 x1 x2 x3 w = some rx) (hk0 : w.1 a0 = 5) (hes : ∀ e, rx = .inr e → e ∈ [2, 1, 5]) : fWSpec l D cy yL_would cL_would 6 [(0, 12, 15, 25), (0, 12, 19, 13), (0, 12, 23, 46)] { frames := 8, cells := 2, slots := 12, locals := 161 } [.ref a0, .int x1, .int x2, .int x3, .ref ao] w w ao (arrV (cy 5) 1 (fun _ => .long v0)) (wO rx (arrV (cy 5) 1 (fun _ => .long v0)) (fun v => arrV (cy 5) 1 (fun _ => .long v.toInt64))) (wK [2, 1, 5] rx) := by
  have hM := fun (D : va_G) (cy : Nat → ClassId) => c_X4_would l D cy a0 x1 x2 x3 w _ hF
  refine fw_begin (by decide +kernel) (Nat.le_of_ble_eq_true rfl) (fun X h hC hEn ho0 ho1 => ?_)
  have hst := fW_st hC hEn
  replace hM := hM D cy
  rcases rx with v | e
  · show gAt X 0 0 6 w h (gE1 ao (some (.inl (arrV (cy 5) 1 (fun _ => .long v0))))) [(0, .ref a0), (1, .int x1), (2, .int x2), (3, .int x3), (4, .ref ao)] [] 0
    refine g_aload hC dL_would_0 4 rfl ?_
    refine g_iconst (v := 0) hC dL_would_2 (by decide) ?_
    refine g_aload_n hC dL_would_3 rfl 0 rfl ?_
    refine g_iload_n hC dL_would_4 rfl 1 rfl ?_
    refine g_iload_n hC dL_would_5 rfl 2 rfl ?_
    refine g_iload_n hC dL_would_6 rfl 3 rfl ?_
    refine g_callVR hC hst [.int x1, .int x2, .int x3] (rv := some (.int v)) hM q_921 q_132 q_918 q_919 q_920 h9_X4_would (T := TX4) (N := 15) (ci := 4) rfl hk0 ⟨Nat.le_of_ble_eq_true rfl, Nat.le_of_ble_eq_true rfl⟩ ⟨Nat.le_of_ble_eq_true rfl, Nat.le_of_ble_eq_true rfl⟩ (Nat.le_of_ble_eq_true rfl) rfl dL_would_7 (fun h1 hh1 hs1 => ?_)
    refine g_cs 2 12 (Nat.zero_add _).symm (Nat.zero_add _).symm ?_
    refine g_i2l hC dL_would_10 ?_
    refine g_lastE hC (gE1_b _ _) dL_would_11 ?_
    refine g_nm h1 (gE1 ao (some (.inl (arrV (cy 5) 1 (fun _ => .long v.toInt64))))) _ _ rfl (gE1_up _ _ _).symm rfl rfl ?_
    refine g_goto hC 27 dL_would_12 (by decide) ?_
    refine g_iconst (v := 0) hC dL_would_27 (by decide) ?_
    exact g_iretW hC hEn (fSm.rf w) (gE1_b _ _) dL_would_28
  · have he := hes e rfl
    simp only [List.mem_cons, List.not_mem_nil, or_false] at he
    rcases he with rfl | rfl | rfl
    · show gAt X 0 0 6 w h (gE1 ao (some (.inl (arrV (cy 5) 1 (fun _ => .long v0))))) [(0, .ref a0), (1, .int x1), (2, .int x2), (3, .int x3), (4, .ref ao)] [] 0
      refine g_aload hC dL_would_0 4 rfl ?_
      refine g_iconst (v := 0) hC dL_would_2 (by decide) ?_
      refine g_aload_n hC dL_would_3 rfl 0 rfl ?_
      refine g_iload_n hC dL_would_4 rfl 1 rfl ?_
      refine g_iload_n hC dL_would_5 rfl 2 rfl ?_
      refine g_iload_n hC dL_would_6 rfl 3 rfl ?_
      refine g_callVT hC hst [.int x1, .int x2, .int x3] (ex := 2) hM q_921 q_132 q_918 q_919 q_920 h9_X4_would (T := TX4) (N := 15) (ci := 4) rfl hk0 ⟨Nat.le_of_ble_eq_true rfl, Nat.le_of_ble_eq_true rfl⟩ ⟨Nat.le_of_ble_eq_true rfl, Nat.le_of_ble_eq_true rfl⟩ (Nat.le_of_ble_eq_true rfl) rfl dL_would_7 (fun h1 hh1 hs1 => ?_)
      show gXt X (0 + 2) (0 + 12) 6 w h1 (gE1 ao (some (.inl (arrV (cy 5) 1 (fun _ => .long v0))))) [(0, .ref a0), (1, .int x1), (2, .int x2), (3, .int x3), (4, .ref ao)] 2 7
      refine g_catch hC hEn [] ⟨0, 12, 15, 25⟩ [⟨0, 12, 19, 13⟩, ⟨0, 12, 23, 46⟩] rfl (fun z hz => absurd hz List.not_mem_nil) (by decide) (by decide) q_660 q_403 (fun q9 => ?_)
      refine g_cs 2 12 (Nat.zero_add _).symm (Nat.zero_add _).symm ?_
      refine g_astore (L' := [(5, .ref q9), (0, .ref a0), (1, .int x1), (2, .int x2), (3, .int x3), (4, .ref ao)]) hC dL_would_15 (by decide) rfl ?_
      refine g_iconst (v := 1) hC dL_would_17 (by decide) ?_
      exact g_iretW hC hEn (fSm.rf w) (gE1_b _ _) dL_would_18
    · show gAt X 0 0 6 w h (gE1 ao (some (.inl (arrV (cy 5) 1 (fun _ => .long v0))))) [(0, .ref a0), (1, .int x1), (2, .int x2), (3, .int x3), (4, .ref ao)] [] 0
      refine g_aload hC dL_would_0 4 rfl ?_
      refine g_iconst (v := 0) hC dL_would_2 (by decide) ?_
      refine g_aload_n hC dL_would_3 rfl 0 rfl ?_
      refine g_iload_n hC dL_would_4 rfl 1 rfl ?_
      refine g_iload_n hC dL_would_5 rfl 2 rfl ?_
      refine g_iload_n hC dL_would_6 rfl 3 rfl ?_
      refine g_callVT hC hst [.int x1, .int x2, .int x3] (ex := 1) hM q_921 q_132 q_918 q_919 q_920 h9_X4_would (T := TX4) (N := 15) (ci := 4) rfl hk0 ⟨Nat.le_of_ble_eq_true rfl, Nat.le_of_ble_eq_true rfl⟩ ⟨Nat.le_of_ble_eq_true rfl, Nat.le_of_ble_eq_true rfl⟩ (Nat.le_of_ble_eq_true rfl) rfl dL_would_7 (fun h1 hh1 hs1 => ?_)
      show gXt X (0 + 2) (0 + 12) 6 w h1 (gE1 ao (some (.inl (arrV (cy 5) 1 (fun _ => .long v0))))) [(0, .ref a0), (1, .int x1), (2, .int x2), (3, .int x3), (4, .ref ao)] 1 7
      have hpass : ∀ z ∈ ([⟨0, 12, 15, 25⟩] : List ExceptionTableEntry), z.catchType ≠ 0 ∧ ∃ nm : String, Cond.classLink RL z.catchType nm ∈ lwA ∧ (exN 1, nm) ∈ ncL := by
        intro z hz
        simp only [List.mem_cons, List.not_mem_nil, or_false] at hz
        subst hz
        exact ⟨by decide, _, q_660, by decide +kernel⟩
      refine g_catch hC hEn [⟨0, 12, 15, 25⟩] ⟨0, 12, 19, 13⟩ [⟨0, 12, 23, 46⟩] rfl hpass (by decide) (by decide) q_624 q_475 (fun q9 => ?_)
      refine g_cs 2 12 (Nat.zero_add _).symm (Nat.zero_add _).symm ?_
      refine g_astore (L' := [(5, .ref q9), (0, .ref a0), (1, .int x1), (2, .int x2), (3, .int x3), (4, .ref ao)]) hC dL_would_19 (by decide) rfl ?_
      refine g_iconst (v := 2) hC dL_would_21 (by decide) ?_
      exact g_iretW hC hEn (fSm.rf w) (gE1_b _ _) dL_would_22
    · show gAt X 0 0 6 w h (gE1 ao (some (.inl (arrV (cy 5) 1 (fun _ => .long v0))))) [(0, .ref a0), (1, .int x1), (2, .int x2), (3, .int x3), (4, .ref ao)] [] 0
      refine g_aload hC dL_would_0 4 rfl ?_
      refine g_iconst (v := 0) hC dL_would_2 (by decide) ?_
      refine g_aload_n hC dL_would_3 rfl 0 rfl ?_
      refine g_iload_n hC dL_would_4 rfl 1 rfl ?_
      refine g_iload_n hC dL_would_5 rfl 2 rfl ?_
      refine g_iload_n hC dL_would_6 rfl 3 rfl ?_
      refine g_callVT hC hst [.int x1, .int x2, .int x3] (ex := 5) hM q_921 q_132 q_918 q_919 q_920 h9_X4_would (T := TX4) (N := 15) (ci := 4) rfl hk0 ⟨Nat.le_of_ble_eq_true rfl, Nat.le_of_ble_eq_true rfl⟩ ⟨Nat.le_of_ble_eq_true rfl, Nat.le_of_ble_eq_true rfl⟩ (Nat.le_of_ble_eq_true rfl) rfl dL_would_7 (fun h1 hh1 hs1 => ?_)
      show gXt X (0 + 2) (0 + 12) 6 w h1 (gE1 ao (some (.inl (arrV (cy 5) 1 (fun _ => .long v0))))) [(0, .ref a0), (1, .int x1), (2, .int x2), (3, .int x3), (4, .ref ao)] 5 7
      have hpass : ∀ z ∈ ([⟨0, 12, 15, 25⟩, ⟨0, 12, 19, 13⟩] : List ExceptionTableEntry), z.catchType ≠ 0 ∧ ∃ nm : String, Cond.classLink RL z.catchType nm ∈ lwA ∧ (exN 5, nm) ∈ ncL := by
        intro z hz
        simp only [List.mem_cons, List.not_mem_nil, or_false] at hz
        rcases hz with rfl | rfl
        · exact ⟨by decide, _, q_660, by decide +kernel⟩
        · exact ⟨by decide, _, q_624, by decide +kernel⟩
      refine g_catch hC hEn [⟨0, 12, 15, 25⟩, ⟨0, 12, 19, 13⟩] ⟨0, 12, 23, 46⟩ [] rfl hpass (by decide) (by decide) q_774 q_782 (fun q9 => ?_)
      refine g_cs 2 12 (Nat.zero_add _).symm (Nat.zero_add _).symm ?_
      refine g_astore (L' := [(5, .ref q9), (0, .ref a0), (1, .int x1), (2, .int x2), (3, .int x3), (4, .ref ao)]) hC dL_would_23 (by decide) rfl ?_
      refine g_iconst (v := 3) hC dL_would_25 (by decide) ?_
      exact g_iretW hC hEn (fSm.rf w) (gE1_b _ _) dL_would_26
theorem dL_likely_0 : decode cL_likely 0 = .ok (.aload_n 3, 1) := by decide +kernel
theorem dL_likely_1 : decode cL_likely 1 = .ok (.iconst 0, 1) := by decide +kernel
theorem dL_likely_2 : decode cL_likely 2 = .ok (.aload_n 0, 1) := by decide +kernel
theorem dL_likely_3 : decode cL_likely 3 = .ok (.iload_n 1, 1) := by decide +kernel
theorem dL_likely_4 : decode cL_likely 4 = .ok (.iload_n 2, 1) := by decide +kernel
theorem dL_likely_5 : decode cL_likely 5 = .ok (.invokevirtual 81, 3) := by decide +kernel
theorem dL_likely_8 : decode cL_likely 8 = .ok (.i2l, 1) := by decide +kernel
theorem dL_likely_9 : decode cL_likely 9 = .ok (.lastore, 1) := by decide +kernel
theorem dL_likely_10 : decode cL_likely 10 = .ok (.goto 11, 3) := by decide +kernel
theorem dL_likely_13 : decode cL_likely 13 = .ok (.astore 4, 2) := by decide +kernel
theorem dL_likely_15 : decode cL_likely 15 = .ok (.iconst 1, 1) := by decide +kernel
theorem dL_likely_16 : decode cL_likely 16 = .ok (.ireturn, 1) := by decide +kernel
theorem dL_likely_17 : decode cL_likely 17 = .ok (.astore 4, 2) := by decide +kernel
theorem dL_likely_19 : decode cL_likely 19 = .ok (.iconst 2, 1) := by decide +kernel
theorem dL_likely_20 : decode cL_likely 20 = .ok (.ireturn, 1) := by decide +kernel
theorem dL_likely_21 : decode cL_likely 21 = .ok (.iconst 0, 1) := by decide +kernel
theorem dL_likely_22 : decode cL_likely 22 = .ok (.ireturn, 1) := by decide +kernel
theorem h9_L_likely : yL_likely.cls ≠ "java/lang/invoke/MethodHandle" ∧ yL_likely.cls ≠ "java/lang/invoke/VarHandle" ∧ (parseMethodDescriptor yL_likely.desc).map (fun d => d.parameters.length) = some 4 := by decide +kernel
set_option maxHeartbeats 4000000 in
set_option maxRecDepth 100000 in
theorem c_L_likely (l : Launch) (D : va_G) (cy : Nat → ClassId) (a0 : Nat) (x1 : Int32) (x2 : Int32) (ao : Nat) (w : FW) (v0 : Int64) (rx : Int32 ⊕ Nat) (hF : F_X4_likely a0 x1 x2 w = some rx) (hk0 : w.1 a0 = 5) (hes : ∀ e, rx = .inr e → e ∈ [2, 5]) : fWSpec l D cy yL_likely cL_likely 5 [(0, 10, 13, 25), (0, 10, 17, 46)] { frames := 8, cells := 2, slots := 12, locals := 184 } [.ref a0, .int x1, .int x2, .ref ao] w w ao (arrV (cy 5) 1 (fun _ => .long v0)) (wO rx (arrV (cy 5) 1 (fun _ => .long v0)) (fun v => arrV (cy 5) 1 (fun _ => .long v.toInt64))) (wK [2, 5] rx) := by
  have hM := fun (D : va_G) (cy : Nat → ClassId) => c_X4_likely l D cy a0 x1 x2 w _ hF
  refine fw_begin (by decide +kernel) (Nat.le_of_ble_eq_true rfl) (fun X h hC hEn ho0 ho1 => ?_)
  have hst := fW_st hC hEn
  replace hM := hM D cy
  rcases rx with v | e
  · show gAt X 0 0 5 w h (gE1 ao (some (.inl (arrV (cy 5) 1 (fun _ => .long v0))))) [(0, .ref a0), (1, .int x1), (2, .int x2), (3, .ref ao)] [] 0
    refine g_aload_n hC dL_likely_0 rfl 3 rfl ?_
    refine g_iconst (v := 0) hC dL_likely_1 (by decide) ?_
    refine g_aload_n hC dL_likely_2 rfl 0 rfl ?_
    refine g_iload_n hC dL_likely_3 rfl 1 rfl ?_
    refine g_iload_n hC dL_likely_4 rfl 2 rfl ?_
    refine g_callVR hC hst [.int x1, .int x2] (rv := some (.int v)) hM q_930 q_132 q_927 q_928 q_929 h9_X4_likely (T := TX4) (N := 15) (ci := 4) rfl hk0 ⟨Nat.le_of_ble_eq_true rfl, Nat.le_of_ble_eq_true rfl⟩ ⟨Nat.le_of_ble_eq_true rfl, Nat.le_of_ble_eq_true rfl⟩ (Nat.le_of_ble_eq_true rfl) rfl dL_likely_5 (fun h1 hh1 hs1 => ?_)
    refine g_cs 2 12 (Nat.zero_add _).symm (Nat.zero_add _).symm ?_
    refine g_i2l hC dL_likely_8 ?_
    refine g_lastE hC (gE1_b _ _) dL_likely_9 ?_
    refine g_nm h1 (gE1 ao (some (.inl (arrV (cy 5) 1 (fun _ => .long v.toInt64))))) _ _ rfl (gE1_up _ _ _).symm rfl rfl ?_
    refine g_goto hC 21 dL_likely_10 (by decide) ?_
    refine g_iconst (v := 0) hC dL_likely_21 (by decide) ?_
    exact g_iretW hC hEn (fSm.rf w) (gE1_b _ _) dL_likely_22
  · have he := hes e rfl
    simp only [List.mem_cons, List.not_mem_nil, or_false] at he
    rcases he with rfl | rfl
    · show gAt X 0 0 5 w h (gE1 ao (some (.inl (arrV (cy 5) 1 (fun _ => .long v0))))) [(0, .ref a0), (1, .int x1), (2, .int x2), (3, .ref ao)] [] 0
      refine g_aload_n hC dL_likely_0 rfl 3 rfl ?_
      refine g_iconst (v := 0) hC dL_likely_1 (by decide) ?_
      refine g_aload_n hC dL_likely_2 rfl 0 rfl ?_
      refine g_iload_n hC dL_likely_3 rfl 1 rfl ?_
      refine g_iload_n hC dL_likely_4 rfl 2 rfl ?_
      refine g_callVT hC hst [.int x1, .int x2] (ex := 2) hM q_930 q_132 q_927 q_928 q_929 h9_X4_likely (T := TX4) (N := 15) (ci := 4) rfl hk0 ⟨Nat.le_of_ble_eq_true rfl, Nat.le_of_ble_eq_true rfl⟩ ⟨Nat.le_of_ble_eq_true rfl, Nat.le_of_ble_eq_true rfl⟩ (Nat.le_of_ble_eq_true rfl) rfl dL_likely_5 (fun h1 hh1 hs1 => ?_)
      show gXt X (0 + 2) (0 + 12) 5 w h1 (gE1 ao (some (.inl (arrV (cy 5) 1 (fun _ => .long v0))))) [(0, .ref a0), (1, .int x1), (2, .int x2), (3, .ref ao)] 2 5
      refine g_catch hC hEn [] ⟨0, 10, 13, 25⟩ [⟨0, 10, 17, 46⟩] rfl (fun z hz => absurd hz List.not_mem_nil) (by decide) (by decide) q_660 q_403 (fun q9 => ?_)
      refine g_cs 2 12 (Nat.zero_add _).symm (Nat.zero_add _).symm ?_
      refine g_astore (L' := [(4, .ref q9), (0, .ref a0), (1, .int x1), (2, .int x2), (3, .ref ao)]) hC dL_likely_13 (by decide) rfl ?_
      refine g_iconst (v := 1) hC dL_likely_15 (by decide) ?_
      exact g_iretW hC hEn (fSm.rf w) (gE1_b _ _) dL_likely_16
    · show gAt X 0 0 5 w h (gE1 ao (some (.inl (arrV (cy 5) 1 (fun _ => .long v0))))) [(0, .ref a0), (1, .int x1), (2, .int x2), (3, .ref ao)] [] 0
      refine g_aload_n hC dL_likely_0 rfl 3 rfl ?_
      refine g_iconst (v := 0) hC dL_likely_1 (by decide) ?_
      refine g_aload_n hC dL_likely_2 rfl 0 rfl ?_
      refine g_iload_n hC dL_likely_3 rfl 1 rfl ?_
      refine g_iload_n hC dL_likely_4 rfl 2 rfl ?_
      refine g_callVT hC hst [.int x1, .int x2] (ex := 5) hM q_930 q_132 q_927 q_928 q_929 h9_X4_likely (T := TX4) (N := 15) (ci := 4) rfl hk0 ⟨Nat.le_of_ble_eq_true rfl, Nat.le_of_ble_eq_true rfl⟩ ⟨Nat.le_of_ble_eq_true rfl, Nat.le_of_ble_eq_true rfl⟩ (Nat.le_of_ble_eq_true rfl) rfl dL_likely_5 (fun h1 hh1 hs1 => ?_)
      show gXt X (0 + 2) (0 + 12) 5 w h1 (gE1 ao (some (.inl (arrV (cy 5) 1 (fun _ => .long v0))))) [(0, .ref a0), (1, .int x1), (2, .int x2), (3, .ref ao)] 5 5
      have hpass : ∀ z ∈ ([⟨0, 10, 13, 25⟩] : List ExceptionTableEntry), z.catchType ≠ 0 ∧ ∃ nm : String, Cond.classLink RL z.catchType nm ∈ lwA ∧ (exN 5, nm) ∈ ncL := by
        intro z hz
        simp only [List.mem_cons, List.not_mem_nil, or_false] at hz
        subst hz
        exact ⟨by decide, _, q_660, by decide +kernel⟩
      refine g_catch hC hEn [⟨0, 10, 13, 25⟩] ⟨0, 10, 17, 46⟩ [] rfl hpass (by decide) (by decide) q_774 q_782 (fun q9 => ?_)
      refine g_cs 2 12 (Nat.zero_add _).symm (Nat.zero_add _).symm ?_
      refine g_astore (L' := [(4, .ref q9), (0, .ref a0), (1, .int x1), (2, .int x2), (3, .ref ao)]) hC dL_likely_17 (by decide) rfl ?_
      refine g_iconst (v := 2) hC dL_likely_19 (by decide) ?_
      exact g_iretW hC hEn (fSm.rf w) (gE1_b _ _) dL_likely_20
