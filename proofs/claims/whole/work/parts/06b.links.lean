theorem fl_Top_293 : ax_FL "AlarmGroups" 293 6 3 := ⟨_, rfl, by decide, ax_at 315 (by decide +kernel) rfl⟩
theorem fl_Ranks_18 : ax_FL "AlarmGroups$Ranks" 18 6 4 := ⟨_, rfl, by decide, ax_at 316 (by decide +kernel) rfl⟩
theorem mv_Ranks_48 : ax_MS "AlarmGroups$Ranks" 48 mt_Arrays_fill 2 := ⟨ok_Arrays_fill, by unfold ax_pn; decide +kernel, ax_at 961 (by decide +kernel) rfl, ax_at 962 (by decide +kernel) rfl⟩
theorem fp_Ranks_54 : ax_FP "AlarmGroups$Ranks" 54 6 3 false (.int) := ⟨_, rfl, by decide, ax_at 314 (by decide +kernel) rfl, rfl, by decide +kernel, fun h => absurd h (by decide)⟩
theorem fl_Ranks_54 : ax_FL "AlarmGroups$Ranks" 54 6 3 := ⟨_, rfl, by decide, ax_at 314 (by decide +kernel) rfl⟩
theorem mv_Ranks_57 : ax_MV "AlarmGroups$Ranks" 57 mt_Lines_fileOf 1 := ⟨ok_Lines_fileOf, by unfold ax_pn; decide +kernel, ax_at 964 (by decide +kernel) rfl, ax_at 504 (by decide +kernel) rfl, ax_at 505 (by decide +kernel) rfl⟩
theorem mv_Ranks_63 : ax_MSN "AlarmGroups$Ranks" 63 mt_Top_isFile 1 := ⟨ok_Top_isFile, by unfold ax_pn; decide +kernel, List.mem_filter.mpr ⟨List.mem_of_getElem? (i := 965) (by decide +kernel), rfl⟩, ax_at 465 (by decide +kernel) rfl⟩
theorem fl_Ranks_15 : ax_FL "AlarmGroups$Ranks" 15 6 1 := ⟨_, rfl, by decide, ax_at 309 (by decide +kernel) rfl⟩
theorem fl_Top_296 : ax_FL "AlarmGroups" 296 6 1 := ⟨_, rfl, by decide, ax_at 310 (by decide +kernel) rfl⟩
theorem mv_Top_299 : ax_MV "AlarmGroups" 299 mt_Top_isBuild 1 := ⟨ok_Top_isBuild, by unfold ax_pn; decide +kernel, ax_at 974 (by decide +kernel) rfl, ax_at 976 (by decide +kernel) rfl, ax_in (by decide +kernel) rfl⟩
theorem mv_Top_302 : ax_MV "AlarmGroups" 302 mt_Top_setOf 2 := ⟨ok_Top_setOf, by unfold ax_pn; decide +kernel, ax_at 978 (by decide +kernel) rfl, ax_at 980 (by decide +kernel) rfl, ax_in (by decide +kernel) rfl⟩
theorem kl_Top_306 : Jvm.Cond.constantLong "AlarmGroups" 306 (-1) ∈ ax_tbl := ax_at 982 (by decide +kernel) rfl
theorem fl_Top_59 : ax_FL "AlarmGroups" 59 11 7 := ⟨_, rfl, by decide, ax_at 394 (by decide +kernel) rfl⟩
theorem fl_Top_18 : ax_FL "AlarmGroups" 18 11 1 := ⟨_, rfl, by decide, ax_at 388 (by decide +kernel) rfl⟩
theorem mv_Top_314 : ax_MV "AlarmGroups" 314 mt_Lists_write 3 := ⟨ok_Lists_write, by unfold ax_pn; decide +kernel, ax_at 991 (by decide +kernel) rfl, ax_at 992 (by decide +kernel) rfl, ax_at 993 (by decide +kernel) rfl⟩
theorem mv_Lists_15 : ax_MV "AlarmGroups$Lists" 15 mt_Row_clear 0 := ⟨ok_Row_clear, by unfold ax_pn; decide +kernel, ax_at 995 (by decide +kernel) rfl, ax_at 713 (by decide +kernel) rfl, ax_at 714 (by decide +kernel) rfl⟩
theorem fl_Lists_20 : ax_FL "AlarmGroups$Lists" 20 6 2 := ⟨_, rfl, by decide, ax_at 312 (by decide +kernel) rfl⟩
theorem fl_Lists_26 : ax_FL "AlarmGroups$Lists" 26 6 0 := ⟨_, rfl, by decide, ax_at 307 (by decide +kernel) rfl⟩
theorem fl_Lists_29 : ax_FL "AlarmGroups$Lists" 29 0 1 := ⟨_, rfl, by decide, ax_at 147 (by decide +kernel) rfl⟩
theorem mv_Lists_34 : ax_MS "AlarmGroups$Lists" 34 mt_Lists_writeNumber 3 := ⟨ok_Lists_writeNumber, by unfold ax_pn; decide +kernel, ax_at 996 (by decide +kernel) rfl, ax_at 997 (by decide +kernel) rfl⟩
theorem fl_Lists_38 : ax_FL "AlarmGroups$Lists" 38 0 0 := ⟨_, rfl, by decide, ax_at 143 (by decide +kernel) rfl⟩
theorem fl_Lists_41 : ax_FL "AlarmGroups$Lists" 41 0 3 := ⟨_, rfl, by decide, ax_at 153 (by decide +kernel) rfl⟩
theorem fl_Lists_44 : ax_FL "AlarmGroups$Lists" 44 0 4 := ⟨_, rfl, by decide, ax_at 157 (by decide +kernel) rfl⟩
theorem mv_Lists_47 : ax_MV "AlarmGroups$Lists" 47 mt_Row_add 1 := ⟨ok_Row_add, by unfold ax_pn; decide +kernel, ax_at 999 (by decide +kernel) rfl, ax_at 445 (by decide +kernel) rfl, ax_at 446 (by decide +kernel) rfl⟩
theorem mv_Lists_53 : ax_MV "AlarmGroups$Lists" 53 mt_String_charAt 1 := ⟨ok_String_charAt, by unfold ax_pn; decide +kernel, ax_at 1001 (by decide +kernel) rfl, ax_at 781 (by decide +kernel) rfl, ax_at 782 (by decide +kernel) rfl⟩
theorem mv_Top_318 : ax_MV "AlarmGroups" 318 mt_Row_addPart 3 := ⟨ok_Row_addPart, by unfold ax_pn; decide +kernel, ax_at 1010 (by decide +kernel) rfl, ax_at 718 (by decide +kernel) rfl, ax_at 719 (by decide +kernel) rfl⟩
theorem mv_Top_322 : ax_MV "AlarmGroups" 322 mt_Lists_countTold 2 := ⟨ok_Lists_countTold, by unfold ax_pn; decide +kernel, ax_at 1015 (by decide +kernel) rfl, ax_at 1016 (by decide +kernel) rfl, ax_at 1017 (by decide +kernel) rfl⟩
theorem fp_Lists_59 : ax_FP "AlarmGroups$Lists" 59 3 1 false (.int) := ⟨_, rfl, by decide, ax_at 335 (by decide +kernel) rfl, rfl, by decide +kernel, fun h => absurd h (by decide)⟩
theorem fl_Lists_59 : ax_FL "AlarmGroups$Lists" 59 3 1 := ⟨_, rfl, by decide, ax_at 335 (by decide +kernel) rfl⟩
theorem mv_Lists_62 : ax_MV "AlarmGroups$Lists" 62 mt_Row_size 0 := ⟨ok_Row_size, by unfold ax_pn; decide +kernel, ax_at 1019 (by decide +kernel) rfl, ax_at 449 (by decide +kernel) rfl, ax_at 450 (by decide +kernel) rfl⟩
theorem mv_Lists_65 : ax_MV "AlarmGroups$Lists" 65 mt_Lists_readOne 1 := ⟨ok_Lists_readOne, by unfold ax_pn; decide +kernel, ax_at 1020 (by decide +kernel) rfl, ax_at 1022 (by decide +kernel) rfl, ax_in (by decide +kernel) rfl⟩
theorem fl_Lists_11 : ax_FL "AlarmGroups$Lists" 11 3 0 := ⟨_, rfl, by decide, ax_at 334 (by decide +kernel) rfl⟩
theorem mv_Lists_69 : ax_MV "AlarmGroups$Lists" 69 mt_Alarms_isToldSo 4 := ⟨ok_Alarms_isToldSo, by unfold ax_pn; decide +kernel, ax_at 1030 (by decide +kernel) rfl, ax_at 1031 (by decide +kernel) rfl, ax_at 1032 (by decide +kernel) rfl⟩
theorem mv_Lists_73 : ax_MV "AlarmGroups$Lists" 73 mt_Lists_readNumber 2 := ⟨ok_Lists_readNumber, by unfold ax_pn; decide +kernel, ax_at 1024 (by decide +kernel) rfl, ax_at 1026 (by decide +kernel) rfl, ax_in (by decide +kernel) rfl⟩
theorem mv_Lists_77 : ax_MV "AlarmGroups$Lists" 77 mt_Row_at 1 := ⟨ok_Row_at, by unfold ax_pn; decide +kernel, ax_at 1028 (by decide +kernel) rfl, ax_at 614 (by decide +kernel) rfl, ax_at 615 (by decide +kernel) rfl⟩
theorem mv_Lists_81 : ax_MS "AlarmGroups$Lists" 81 mt_Tokens_isDigit 1 := ⟨ok_Tokens_isDigit, by unfold ax_pn; decide +kernel, ax_at 1029 (by decide +kernel) rfl, ax_at 736 (by decide +kernel) rfl⟩
theorem mv_Alarms_48 : ax_MV "AlarmGroups$Alarms" 48 mt_Alarms_find 2 := ⟨ok_Alarms_find, by unfold ax_pn; decide +kernel, ax_at 1034 (by decide +kernel) rfl, ax_at 576 (by decide +kernel) rfl, ax_at 577 (by decide +kernel) rfl⟩
theorem oi_Mod_1 : Cond.methodLink "AlarmGroupsModel" 1 objectInit ∈ ax_tbl := ax_at 1044 (by decide +kernel) rfl
theorem fp_Mod_7 : ax_FP "AlarmGroupsModel" 7 12 0 true (.array .int) := ⟨_, rfl, by decide, ax_at 1045 (by decide +kernel) rfl, rfl, by decide +kernel, fun _ => rfl⟩
theorem fp_Mod_13 : ax_FP "AlarmGroupsModel" 13 12 4 true (.array .int) := ⟨_, rfl, by decide, ax_at 1049 (by decide +kernel) rfl, rfl, by decide +kernel, fun _ => rfl⟩
theorem fp_Mod_16 : ax_FP "AlarmGroupsModel" 16 12 5 true (.array .int) := ⟨_, rfl, by decide, ax_at 1050 (by decide +kernel) rfl, rfl, by decide +kernel, fun _ => rfl⟩
theorem fp_Mod_19 : ax_FP "AlarmGroupsModel" 19 12 6 true (.array .int) := ⟨_, rfl, by decide, ax_at 1051 (by decide +kernel) rfl, rfl, by decide +kernel, fun _ => rfl⟩
theorem fp_Mod_22 : ax_FP "AlarmGroupsModel" 22 12 8 true (.array .int) := ⟨_, rfl, by decide, ax_at 1053 (by decide +kernel) rfl, rfl, by decide +kernel, fun _ => rfl⟩
theorem fp_Mod_25 : ax_FP "AlarmGroupsModel" 25 12 9 true (.array .int) := ⟨_, rfl, by decide, ax_at 1054 (by decide +kernel) rfl, rfl, by decide +kernel, fun _ => rfl⟩
theorem fp_Mod_28 : ax_FP "AlarmGroupsModel" 28 12 10 true (.array .int) := ⟨_, rfl, by decide, ax_at 1055 (by decide +kernel) rfl, rfl, by decide +kernel, fun _ => rfl⟩
theorem fp_Mod_31 : ax_FP "AlarmGroupsModel" 31 12 11 true (.array .int) := ⟨_, rfl, by decide, ax_at 1056 (by decide +kernel) rfl, rfl, by decide +kernel, fun _ => rfl⟩
theorem fp_Mod_34 : ax_FP "AlarmGroupsModel" 34 12 12 true (.array .int) := ⟨_, rfl, by decide, ax_at 1057 (by decide +kernel) rfl, rfl, by decide +kernel, fun _ => rfl⟩
theorem fp_Mod_37 : ax_FP "AlarmGroupsModel" 37 12 13 true (.array .int) := ⟨_, rfl, by decide, ax_at 1058 (by decide +kernel) rfl, rfl, by decide +kernel, fun _ => rfl⟩
theorem fp_Mod_40 : ax_FP "AlarmGroupsModel" 40 12 14 true (.array .int) := ⟨_, rfl, by decide, ax_at 1059 (by decide +kernel) rfl, rfl, by decide +kernel, fun _ => rfl⟩
theorem fp_Mod_43 : ax_FP "AlarmGroupsModel" 43 12 16 true (.array .int) := ⟨_, rfl, by decide, ax_at 1061 (by decide +kernel) rfl, rfl, by decide +kernel, fun _ => rfl⟩
theorem fp_Mod_46 : ax_FP "AlarmGroupsModel" 46 12 17 true (.array .int) := ⟨_, rfl, by decide, ax_at 1062 (by decide +kernel) rfl, rfl, by decide +kernel, fun _ => rfl⟩
theorem fp_Mod_49 : ax_FP "AlarmGroupsModel" 49 12 18 true (.array .int) := ⟨_, rfl, by decide, ax_at 1063 (by decide +kernel) rfl, rfl, by decide +kernel, fun _ => rfl⟩
theorem fp_Mod_52 : ax_FP "AlarmGroupsModel" 52 12 19 true (.array .int) := ⟨_, rfl, by decide, ax_at 1064 (by decide +kernel) rfl, rfl, by decide +kernel, fun _ => rfl⟩
theorem fp_Mod_55 : ax_FP "AlarmGroupsModel" 55 12 20 true (.array .int) := ⟨_, rfl, by decide, ax_at 1065 (by decide +kernel) rfl, rfl, by decide +kernel, fun _ => rfl⟩
theorem fp_Mod_58 : ax_FP "AlarmGroupsModel" 58 12 21 true (.array .int) := ⟨_, rfl, by decide, ax_at 1066 (by decide +kernel) rfl, rfl, by decide +kernel, fun _ => rfl⟩
theorem fp_Mod_61 : ax_FP "AlarmGroupsModel" 61 12 22 true (.array .int) := ⟨_, rfl, by decide, ax_at 1067 (by decide +kernel) rfl, rfl, by decide +kernel, fun _ => rfl⟩
theorem fp_Mod_64 : ax_FP "AlarmGroupsModel" 64 12 24 true (.array .int) := ⟨_, rfl, by decide, ax_at 1069 (by decide +kernel) rfl, rfl, by decide +kernel, fun _ => rfl⟩
theorem fp_Mod_67 : ax_FP "AlarmGroupsModel" 67 12 25 true (.array .int) := ⟨_, rfl, by decide, ax_at 1070 (by decide +kernel) rfl, rfl, by decide +kernel, fun _ => rfl⟩
theorem fp_Mod_70 : ax_FP "AlarmGroupsModel" 70 12 27 true (.array .int) := ⟨_, rfl, by decide, ax_at 1072 (by decide +kernel) rfl, rfl, by decide +kernel, fun _ => rfl⟩
theorem fp_Mod_73 : ax_FP "AlarmGroupsModel" 73 12 28 true (.array .int) := ⟨_, rfl, by decide, ax_at 1073 (by decide +kernel) rfl, rfl, by decide +kernel, fun _ => rfl⟩
theorem fp_Mod_76 : ax_FP "AlarmGroupsModel" 76 12 31 true (.array .int) := ⟨_, rfl, by decide, ax_at 1076 (by decide +kernel) rfl, rfl, by decide +kernel, fun _ => rfl⟩
theorem fp_Mod_79 : ax_FP "AlarmGroupsModel" 79 12 32 true (.array .int) := ⟨_, rfl, by decide, ax_at 1077 (by decide +kernel) rfl, rfl, by decide +kernel, fun _ => rfl⟩
theorem fp_Mod_82 : ax_FP "AlarmGroupsModel" 82 12 33 true (.array .int) := ⟨_, rfl, by decide, ax_at 1078 (by decide +kernel) rfl, rfl, by decide +kernel, fun _ => rfl⟩
theorem fp_Mod_85 : ax_FP "AlarmGroupsModel" 85 12 34 true (.array .int) := ⟨_, rfl, by decide, ax_at 1079 (by decide +kernel) rfl, rfl, by decide +kernel, fun _ => rfl⟩
theorem fp_Mod_88 : ax_FP "AlarmGroupsModel" 88 12 35 true (.array .long) := ⟨_, rfl, by decide, ax_at 1080 (by decide +kernel) rfl, rfl, by decide +kernel, fun _ => rfl⟩
theorem fp_Mod_92 : ax_FP "AlarmGroupsModel" 92 12 36 true (.array .int) := ⟨_, rfl, by decide, ax_at 1081 (by decide +kernel) rfl, rfl, by decide +kernel, fun _ => rfl⟩
theorem fp_Mod_95 : ax_FP "AlarmGroupsModel" 95 12 37 true (.array .int) := ⟨_, rfl, by decide, ax_at 1082 (by decide +kernel) rfl, rfl, by decide +kernel, fun _ => rfl⟩
theorem fp_Mod_98 : ax_FP "AlarmGroupsModel" 98 12 43 true (.array .int) := ⟨_, rfl, by decide, ax_at 1088 (by decide +kernel) rfl, rfl, by decide +kernel, fun _ => rfl⟩
theorem fp_Mod_101 : ax_FP "AlarmGroupsModel" 101 12 44 true (.array .int) := ⟨_, rfl, by decide, ax_at 1089 (by decide +kernel) rfl, rfl, by decide +kernel, fun _ => rfl⟩
theorem fp_Mod_104 : ax_FP "AlarmGroupsModel" 104 12 46 true (.array .int) := ⟨_, rfl, by decide, ax_at 1091 (by decide +kernel) rfl, rfl, by decide +kernel, fun _ => rfl⟩
theorem fp_Mod_107 : ax_FP "AlarmGroupsModel" 107 12 47 true (.array .int) := ⟨_, rfl, by decide, ax_at 1092 (by decide +kernel) rfl, rfl, by decide +kernel, fun _ => rfl⟩
theorem fp_Mod_110 : ax_FP "AlarmGroupsModel" 110 12 48 true (.array .int) := ⟨_, rfl, by decide, ax_at 1093 (by decide +kernel) rfl, rfl, by decide +kernel, fun _ => rfl⟩
theorem fp_Mod_113 : ax_FP "AlarmGroupsModel" 113 12 49 true (.array .boolean) := ⟨_, rfl, by decide, ax_at 1094 (by decide +kernel) rfl, rfl, by decide +kernel, fun _ => rfl⟩
theorem fp_Mod_117 : ax_FP "AlarmGroupsModel" 117 12 50 true (.array .int) := ⟨_, rfl, by decide, ax_at 1095 (by decide +kernel) rfl, rfl, by decide +kernel, fun _ => rfl⟩
theorem fp_Mod_120 : ax_FP "AlarmGroupsModel" 120 12 52 true (.array .int) := ⟨_, rfl, by decide, ax_at 1097 (by decide +kernel) rfl, rfl, by decide +kernel, fun _ => rfl⟩
theorem fp_Mod_123 : ax_FP "AlarmGroupsModel" 123 12 54 true (.array .int) := ⟨_, rfl, by decide, ax_at 1099 (by decide +kernel) rfl, rfl, by decide +kernel, fun _ => rfl⟩
theorem fp_Mod_126 : ax_FP "AlarmGroupsModel" 126 12 55 true (.array .int) := ⟨_, rfl, by decide, ax_at 1100 (by decide +kernel) rfl, rfl, by decide +kernel, fun _ => rfl⟩
theorem fp_Mod_129 : ax_FP "AlarmGroupsModel" 129 12 57 true (.array .int) := ⟨_, rfl, by decide, ax_at 1102 (by decide +kernel) rfl, rfl, by decide +kernel, fun _ => rfl⟩
theorem kl_Mod_132 : Jvm.Cond.constantLong "AlarmGroupsModel" 132 8 ∈ ax_tbl := ax_at 1225 (by decide +kernel) rfl
theorem mv_Mod_134 : ax_MS "AlarmGroupsModel" 134 mt_Mod_in 3 := ⟨ok_Mod_in, by unfold ax_pn; decide +kernel, ax_at 1226 (by decide +kernel) rfl, ax_at 1227 (by decide +kernel) rfl⟩
theorem fl_Mod_138 : ax_FL "AlarmGroupsModel" 138 12 1 := ⟨_, rfl, by decide, ax_at 1046 (by decide +kernel) rfl⟩
theorem fl_Mod_7 : ax_FL "AlarmGroupsModel" 7 12 0 := ⟨_, rfl, by decide, ax_at 1045 (by decide +kernel) rfl⟩
theorem kl_Mod_142 : Jvm.Cond.constantLong "AlarmGroupsModel" 142 255 ∈ ax_tbl := ax_at 1229 (by decide +kernel) rfl
theorem fp_Mod_138 : ax_FP "AlarmGroupsModel" 138 12 1 false (.int) := ⟨_, rfl, by decide, ax_at 1046 (by decide +kernel) rfl, rfl, by decide +kernel, fun h => absurd h (by decide)⟩
theorem kl_Mod_144 : Jvm.Cond.constantLong "AlarmGroupsModel" 144 5 ∈ ax_tbl := ax_at 1238 (by decide +kernel) rfl
theorem fl_Mod_146 : ax_FL "AlarmGroupsModel" 146 12 7 := ⟨_, rfl, by decide, ax_at 1052 (by decide +kernel) rfl⟩
theorem fl_Mod_22 : ax_FL "AlarmGroupsModel" 22 12 8 := ⟨_, rfl, by decide, ax_at 1053 (by decide +kernel) rfl⟩
theorem fl_Mod_25 : ax_FL "AlarmGroupsModel" 25 12 9 := ⟨_, rfl, by decide, ax_at 1054 (by decide +kernel) rfl⟩
theorem fp_Mod_146 : ax_FP "AlarmGroupsModel" 146 12 7 false (.int) := ⟨_, rfl, by decide, ax_at 1052 (by decide +kernel) rfl, rfl, by decide +kernel, fun h => absurd h (by decide)⟩
theorem fl_Mod_152 : ax_FL "AlarmGroupsModel" 152 12 2 := ⟨_, rfl, by decide, ax_at 1047 (by decide +kernel) rfl⟩
theorem fl_Mod_40 : ax_FL "AlarmGroupsModel" 40 12 14 := ⟨_, rfl, by decide, ax_at 1059 (by decide +kernel) rfl⟩
theorem mv_Mod_155 : ax_MV "AlarmGroupsModel" 155 mt_Mod_trendOf 1 := ⟨ok_Mod_trendOf, by unfold ax_pn; decide +kernel, ax_at 1243 (by decide +kernel) rfl, ax_at 1245 (by decide +kernel) rfl, ax_in (by decide +kernel) rfl⟩
theorem fl_Mod_28 : ax_FL "AlarmGroupsModel" 28 12 10 := ⟨_, rfl, by decide, ax_at 1055 (by decide +kernel) rfl⟩
theorem mv_Mod_159 : ax_MV "AlarmGroupsModel" 159 mt_Mod_match 1 := ⟨ok_Mod_match, by unfold ax_pn; decide +kernel, ax_at 1271 (by decide +kernel) rfl, ax_at 1273 (by decide +kernel) rfl, ax_in (by decide +kernel) rfl⟩
theorem mv_Mod_163 : ax_MV "AlarmGroupsModel" 163 mt_Mod_carryAlarms 0 := ⟨ok_Mod_carryAlarms, by unfold ax_pn; decide +kernel, ax_at 1275 (by decide +kernel) rfl, ax_at 1277 (by decide +kernel) rfl, ax_in (by decide +kernel) rfl⟩
theorem fl_Mod_166 : ax_FL "AlarmGroupsModel" 166 12 30 := ⟨_, rfl, by decide, ax_at 1075 (by decide +kernel) rfl⟩
theorem fl_Mod_88 : ax_FL "AlarmGroupsModel" 88 12 35 := ⟨_, rfl, by decide, ax_at 1080 (by decide +kernel) rfl⟩
theorem fl_Mod_149 : ax_FL "AlarmGroupsModel" 149 12 3 := ⟨_, rfl, by decide, ax_at 1048 (by decide +kernel) rfl⟩
theorem fl_Mod_19 : ax_FL "AlarmGroupsModel" 19 12 6 := ⟨_, rfl, by decide, ax_at 1051 (by decide +kernel) rfl⟩
theorem fp_Mod_149 : ax_FP "AlarmGroupsModel" 149 12 3 false (.int) := ⟨_, rfl, by decide, ax_at 1048 (by decide +kernel) rfl, rfl, by decide +kernel, fun h => absurd h (by decide)⟩
theorem fl_Mod_13 : ax_FL "AlarmGroupsModel" 13 12 4 := ⟨_, rfl, by decide, ax_at 1049 (by decide +kernel) rfl⟩
theorem fl_Mod_16 : ax_FL "AlarmGroupsModel" 16 12 5 := ⟨_, rfl, by decide, ax_at 1050 (by decide +kernel) rfl⟩
theorem fp_Mod_152 : ax_FP "AlarmGroupsModel" 152 12 2 false (.int) := ⟨_, rfl, by decide, ax_at 1047 (by decide +kernel) rfl, rfl, by decide +kernel, fun h => absurd h (by decide)⟩
theorem fl_Mod_182 : ax_FL "AlarmGroupsModel" 182 12 26 := ⟨_, rfl, by decide, ax_at 1071 (by decide +kernel) rfl⟩
theorem mv_Mod_185 : ax_MV "AlarmGroupsModel" 185 mt_Mod_knownBy 1 := ⟨ok_Mod_knownBy, by unfold ax_pn; decide +kernel, ax_at 1247 (by decide +kernel) rfl, ax_at 1249 (by decide +kernel) rfl, ax_in (by decide +kernel) rfl⟩
theorem fl_Mod_169 : ax_FL "AlarmGroupsModel" 169 12 15 := ⟨_, rfl, by decide, ax_at 1060 (by decide +kernel) rfl⟩
theorem mv_Mod_188 : ax_MV "AlarmGroupsModel" 188 mt_Mod_isClosed 2 := ⟨ok_Mod_isClosed, by unfold ax_pn; decide +kernel, ax_at 1251 (by decide +kernel) rfl, ax_at 1253 (by decide +kernel) rfl, ax_in (by decide +kernel) rfl⟩
theorem mv_Mod_192 : ax_MV "AlarmGroupsModel" 192 mt_Mod_silencedBy 1 := ⟨ok_Mod_silencedBy, by unfold ax_pn; decide +kernel, ax_at 1255 (by decide +kernel) rfl, ax_at 1257 (by decide +kernel) rfl, ax_in (by decide +kernel) rfl⟩
theorem mv_Mod_208 : ax_MV "AlarmGroupsModel" 208 mt_Mod_isOpen 1 := ⟨ok_Mod_isOpen, by unfold ax_pn; decide +kernel, ax_at 1267 (by decide +kernel) rfl, ax_at 1269 (by decide +kernel) rfl, ax_in (by decide +kernel) rfl⟩
theorem fl_Mod_58 : ax_FL "AlarmGroupsModel" 58 12 21 := ⟨_, rfl, by decide, ax_at 1066 (by decide +kernel) rfl⟩
theorem fl_Mod_198 : ax_FL "AlarmGroupsModel" 198 12 23 := ⟨_, rfl, by decide, ax_at 1068 (by decide +kernel) rfl⟩
theorem fl_Mod_64 : ax_FL "AlarmGroupsModel" 64 12 24 := ⟨_, rfl, by decide, ax_at 1069 (by decide +kernel) rfl⟩
theorem fl_Mod_67 : ax_FL "AlarmGroupsModel" 67 12 25 := ⟨_, rfl, by decide, ax_at 1070 (by decide +kernel) rfl⟩
theorem fl_Mod_49 : ax_FL "AlarmGroupsModel" 49 12 18 := ⟨_, rfl, by decide, ax_at 1063 (by decide +kernel) rfl⟩
theorem mv_Mod_219 : ax_MV "AlarmGroupsModel" 219 mt_Mod_holds 1 := ⟨ok_Mod_holds, by unfold ax_pn; decide +kernel, ax_at 1259 (by decide +kernel) rfl, ax_at 1261 (by decide +kernel) rfl, ax_in (by decide +kernel) rfl⟩
theorem fl_Mod_43 : ax_FL "AlarmGroupsModel" 43 12 16 := ⟨_, rfl, by decide, ax_at 1061 (by decide +kernel) rfl⟩
theorem mv_Mod_222 : ax_MV "AlarmGroupsModel" 222 mt_Mod_hasLine 2 := ⟨ok_Mod_hasLine, by unfold ax_pn; decide +kernel, ax_at 1263 (by decide +kernel) rfl, ax_at 1265 (by decide +kernel) rfl, ax_in (by decide +kernel) rfl⟩
theorem fl_Mod_79 : ax_FL "AlarmGroupsModel" 79 12 32 := ⟨_, rfl, by decide, ax_at 1077 (by decide +kernel) rfl⟩
theorem fl_Mod_46 : ax_FL "AlarmGroupsModel" 46 12 17 := ⟨_, rfl, by decide, ax_at 1062 (by decide +kernel) rfl⟩
theorem fl_Mod_76 : ax_FL "AlarmGroupsModel" 76 12 31 := ⟨_, rfl, by decide, ax_at 1076 (by decide +kernel) rfl⟩
theorem fl_Mod_82 : ax_FL "AlarmGroupsModel" 82 12 33 := ⟨_, rfl, by decide, ax_at 1078 (by decide +kernel) rfl⟩
theorem fl_Mod_85 : ax_FL "AlarmGroupsModel" 85 12 34 := ⟨_, rfl, by decide, ax_at 1079 (by decide +kernel) rfl⟩
theorem fl_Mod_31 : ax_FL "AlarmGroupsModel" 31 12 11 := ⟨_, rfl, by decide, ax_at 1056 (by decide +kernel) rfl⟩
theorem fl_Mod_34 : ax_FL "AlarmGroupsModel" 34 12 12 := ⟨_, rfl, by decide, ax_at 1057 (by decide +kernel) rfl⟩
theorem fl_Mod_37 : ax_FL "AlarmGroupsModel" 37 12 13 := ⟨_, rfl, by decide, ax_at 1058 (by decide +kernel) rfl⟩
theorem fl_Mod_61 : ax_FL "AlarmGroupsModel" 61 12 22 := ⟨_, rfl, by decide, ax_at 1067 (by decide +kernel) rfl⟩
theorem kl_Mod_172 : Jvm.Cond.constantLong "AlarmGroupsModel" 172 9 ∈ ax_tbl := ax_at 1287 (by decide +kernel) rfl
theorem kl_Mod_174 : Jvm.Cond.constantLong "AlarmGroupsModel" 174 65535 ∈ ax_tbl := ax_at 1288 (by decide +kernel) rfl
theorem kl_Mod_176 : Jvm.Cond.constantLong "AlarmGroupsModel" 176 1000 ∈ ax_tbl := ax_at 1289 (by decide +kernel) rfl
theorem fp_Mod_169 : ax_FP "AlarmGroupsModel" 169 12 15 false (.int) := ⟨_, rfl, by decide, ax_at 1060 (by decide +kernel) rfl, rfl, by decide +kernel, fun h => absurd h (by decide)⟩
theorem fl_Mod_52 : ax_FL "AlarmGroupsModel" 52 12 19 := ⟨_, rfl, by decide, ax_at 1064 (by decide +kernel) rfl⟩
theorem fl_Mod_55 : ax_FL "AlarmGroupsModel" 55 12 20 := ⟨_, rfl, by decide, ax_at 1065 (by decide +kernel) rfl⟩
theorem mv_Mod_178 : ax_MV "AlarmGroupsModel" 178 mt_Mod_isAlarm 1 := ⟨ok_Mod_isAlarm, by unfold ax_pn; decide +kernel, ax_at 1294 (by decide +kernel) rfl, ax_at 1296 (by decide +kernel) rfl, ax_in (by decide +kernel) rfl⟩
theorem mv_Mod_195 : ax_MV "AlarmGroupsModel" 195 mt_Mod_ownerOf 1 := ⟨ok_Mod_ownerOf, by unfold ax_pn; decide +kernel, ax_at 1298 (by decide +kernel) rfl, ax_at 1300 (by decide +kernel) rfl, ax_in (by decide +kernel) rfl⟩
theorem fl_Mod_306 : ax_FL "AlarmGroupsModel" 306 12 45 := ⟨_, rfl, by decide, ax_at 1090 (by decide +kernel) rfl⟩
theorem mv_Mod_322 : ax_MV "AlarmGroupsModel" 322 mt_Mod_doFit 2 := ⟨ok_Mod_doFit, by unfold ax_pn; decide +kernel, ax_at 1302 (by decide +kernel) rfl, ax_at 1304 (by decide +kernel) rfl, ax_in (by decide +kernel) rfl⟩
theorem fl_Mod_110 : ax_FL "AlarmGroupsModel" 110 12 48 := ⟨_, rfl, by decide, ax_at 1093 (by decide +kernel) rfl⟩
theorem fl_Mod_107 : ax_FL "AlarmGroupsModel" 107 12 47 := ⟨_, rfl, by decide, ax_at 1092 (by decide +kernel) rfl⟩
theorem fl_Mod_101 : ax_FL "AlarmGroupsModel" 101 12 44 := ⟨_, rfl, by decide, ax_at 1089 (by decide +kernel) rfl⟩
theorem fl_Mod_113 : ax_FL "AlarmGroupsModel" 113 12 49 := ⟨_, rfl, by decide, ax_at 1094 (by decide +kernel) rfl⟩
theorem mv_Mod_312 : ax_MV "AlarmGroupsModel" 312 mt_Mod_isFit 6 := ⟨ok_Mod_isFit, by unfold ax_pn; decide +kernel, ax_at 1306 (by decide +kernel) rfl, ax_at 1308 (by decide +kernel) rfl, ax_in (by decide +kernel) rfl⟩
theorem mv_Mod_316 : ax_MV "AlarmGroupsModel" 316 mt_Mod_isAny 2 := ⟨ok_Mod_isAny, by unfold ax_pn; decide +kernel, ax_at 1310 (by decide +kernel) rfl, ax_at 1312 (by decide +kernel) rfl, ax_in (by decide +kernel) rfl⟩
theorem mv_Mod_319 : ax_MV "AlarmGroupsModel" 319 mt_Mod_pathAt 2 := ⟨ok_Mod_pathAt, by unfold ax_pn; decide +kernel, ax_at 1318 (by decide +kernel) rfl, ax_at 1320 (by decide +kernel) rfl, ax_in (by decide +kernel) rfl⟩
theorem mv_Mod_309 : ax_MV "AlarmGroupsModel" 309 mt_Mod_patternAt 2 := ⟨ok_Mod_patternAt, by unfold ax_pn; decide +kernel, ax_at 1314 (by decide +kernel) rfl, ax_at 1316 (by decide +kernel) rfl, ax_in (by decide +kernel) rfl⟩
theorem fl_Mod_104 : ax_FL "AlarmGroupsModel" 104 12 46 := ⟨_, rfl, by decide, ax_at 1091 (by decide +kernel) rfl⟩
theorem fl_Mod_98 : ax_FL "AlarmGroupsModel" 98 12 43 := ⟨_, rfl, by decide, ax_at 1088 (by decide +kernel) rfl⟩
theorem kl_Mod_201 : Jvm.Cond.constantLong "AlarmGroupsModel" 201 15 ∈ ax_tbl := ax_at 1330 (by decide +kernel) rfl
theorem fp_Mod_198 : ax_FP "AlarmGroupsModel" 198 12 23 false (.int) := ⟨_, rfl, by decide, ax_at 1068 (by decide +kernel) rfl, rfl, by decide +kernel, fun h => absurd h (by decide)⟩
theorem fp_Mod_182 : ax_FP "AlarmGroupsModel" 182 12 26 false (.int) := ⟨_, rfl, by decide, ax_at 1071 (by decide +kernel) rfl, rfl, by decide +kernel, fun h => absurd h (by decide)⟩
theorem kl_Mod_203 : Jvm.Cond.constantLong "AlarmGroupsModel" 203 (-1) ∈ ax_tbl := ax_at 1339 (by decide +kernel) rfl
theorem mv_Mod_216 : ax_MV "AlarmGroupsModel" 216 mt_Mod_groupAll 0 := ⟨ok_Mod_groupAll, by unfold ax_pn; decide +kernel, ax_at 1348 (by decide +kernel) rfl, ax_at 1350 (by decide +kernel) rfl, ax_in (by decide +kernel) rfl⟩
theorem fl_Mod_205 : ax_FL "AlarmGroupsModel" 205 12 29 := ⟨_, rfl, by decide, ax_at 1074 (by decide +kernel) rfl⟩
theorem fp_Mod_205 : ax_FP "AlarmGroupsModel" 205 12 29 false (.int) := ⟨_, rfl, by decide, ax_at 1074 (by decide +kernel) rfl, rfl, by decide +kernel, fun h => absurd h (by decide)⟩
theorem fl_Mod_70 : ax_FL "AlarmGroupsModel" 70 12 27 := ⟨_, rfl, by decide, ax_at 1072 (by decide +kernel) rfl⟩
theorem mv_Mod_211 : ax_MV "AlarmGroupsModel" 211 mt_Mod_gather 2 := ⟨ok_Mod_gather, by unfold ax_pn; decide +kernel, ax_at 1352 (by decide +kernel) rfl, ax_at 1354 (by decide +kernel) rfl, ax_in (by decide +kernel) rfl⟩
theorem kl_Mod_215 : Jvm.Cond.constant "AlarmGroupsModel" 215 65535 ∈ ax_tbl := ax_at 1356 (by decide +kernel) rfl
theorem fl_Mod_73 : ax_FL "AlarmGroupsModel" 73 12 28 := ⟨_, rfl, by decide, ax_at 1073 (by decide +kernel) rfl⟩
theorem fp_Mod_225 : ax_FP "AlarmGroupsModel" 225 12 40 false (.int) := ⟨_, rfl, by decide, ax_at 1085 (by decide +kernel) rfl, rfl, by decide +kernel, fun h => absurd h (by decide)⟩
theorem fp_Mod_250 : ax_FP "AlarmGroupsModel" 250 12 42 false (.boolean) := ⟨_, rfl, by decide, ax_at 1087 (by decide +kernel) rfl, rfl, by decide +kernel, fun h => absurd h (by decide)⟩
theorem mv_Mod_254 : ax_MV "AlarmGroupsModel" 254 mt_Mod_next 0 := ⟨ok_Mod_next, by unfold ax_pn; decide +kernel, ax_at 1365 (by decide +kernel) rfl, ax_at 1367 (by decide +kernel) rfl, ax_in (by decide +kernel) rfl⟩
theorem kl_Mod_285 : Jvm.Cond.constantLong "AlarmGroupsModel" 285 20715845733 ∈ ax_tbl := ax_at 1377 (by decide +kernel) rfl
theorem mv_Mod_263 : ax_MV "AlarmGroupsModel" 263 mt_Mod_isWord 1 := ⟨ok_Mod_isWord, by unfold ax_pn; decide +kernel, ax_at 1378 (by decide +kernel) rfl, ax_at 1380 (by decide +kernel) rfl, ax_in (by decide +kernel) rfl⟩
theorem mv_Mod_257 : ax_MV "AlarmGroupsModel" 257 mt_Mod_want 1 := ⟨ok_Mod_want, by unfold ax_pn; decide +kernel, ax_at 1382 (by decide +kernel) rfl, ax_at 1384 (by decide +kernel) rfl, ax_in (by decide +kernel) rfl⟩
theorem fl_Mod_250 : ax_FL "AlarmGroupsModel" 250 12 42 := ⟨_, rfl, by decide, ax_at 1087 (by decide +kernel) rfl⟩
theorem mv_Mod_287 : ax_MV "AlarmGroupsModel" 287 mt_Mod_readWhere 1 := ⟨ok_Mod_readWhere, by unfold ax_pn; decide +kernel, ax_at 1386 (by decide +kernel) rfl, ax_at 1388 (by decide +kernel) rfl, ax_in (by decide +kernel) rfl⟩
theorem mv_Mod_290 : ax_MV "AlarmGroupsModel" 290 mt_Mod_readRest 1 := ⟨ok_Mod_readRest, by unfold ax_pn; decide +kernel, ax_at 1399 (by decide +kernel) rfl, ax_at 1401 (by decide +kernel) rfl, ax_in (by decide +kernel) rfl⟩
theorem fl_Mod_239 : ax_FL "AlarmGroupsModel" 239 12 38 := ⟨_, rfl, by decide, ax_at 1083 (by decide +kernel) rfl⟩
theorem fl_Mod_232 : ax_FL "AlarmGroupsModel" 232 12 39 := ⟨_, rfl, by decide, ax_at 1084 (by decide +kernel) rfl⟩
theorem fp_Mod_166 : ax_FP "AlarmGroupsModel" 166 12 30 false (.int) := ⟨_, rfl, by decide, ax_at 1075 (by decide +kernel) rfl, rfl, by decide +kernel, fun h => absurd h (by decide)⟩
theorem fl_Mod_225 : ax_FL "AlarmGroupsModel" 225 12 40 := ⟨_, rfl, by decide, ax_at 1085 (by decide +kernel) rfl⟩
theorem mv_Mod_228 : ax_MV "AlarmGroupsModel" 228 mt_Mod_isAt 3 := ⟨ok_Mod_isAt, by unfold ax_pn; decide +kernel, ax_at 1369 (by decide +kernel) rfl, ax_at 1371 (by decide +kernel) rfl, ax_in (by decide +kernel) rfl⟩
theorem fp_Mod_232 : ax_FP "AlarmGroupsModel" 232 12 39 false (.int) := ⟨_, rfl, by decide, ax_at 1084 (by decide +kernel) rfl, rfl, by decide +kernel, fun h => absurd h (by decide)⟩
theorem fp_Mod_235 : ax_FP "AlarmGroupsModel" 235 12 41 false (.long) := ⟨_, rfl, by decide, ax_at 1086 (by decide +kernel) rfl, rfl, by decide +kernel, fun h => absurd h (by decide)⟩
theorem fp_Mod_239 : ax_FP "AlarmGroupsModel" 239 12 38 false (.int) := ⟨_, rfl, by decide, ax_at 1083 (by decide +kernel) rfl, rfl, by decide +kernel, fun h => absurd h (by decide)⟩
theorem fl_Mod_235 : ax_FL "AlarmGroupsModel" 235 12 41 := ⟨_, rfl, by decide, ax_at 1086 (by decide +kernel) rfl⟩
theorem kl_Mod_242 : Jvm.Cond.constantLong "AlarmGroupsModel" 242 32 ∈ ax_tbl := ax_at 1373 (by decide +kernel) rfl
theorem kl_Mod_244 : Jvm.Cond.constantLong "AlarmGroupsModel" 244 96 ∈ ax_tbl := ax_at 1374 (by decide +kernel) rfl
theorem kl_Mod_246 : Jvm.Cond.constantLong "AlarmGroupsModel" 246 10 ∈ ax_tbl := ax_at 1375 (by decide +kernel) rfl
theorem kl_Mod_248 : Jvm.Cond.constantLong "AlarmGroupsModel" 248 48 ∈ ax_tbl := ax_at 1376 (by decide +kernel) rfl
theorem kl_Mod_261 : Jvm.Cond.constantLong "AlarmGroupsModel" 261 402885 ∈ ax_tbl := ax_at 1390 (by decide +kernel) rfl
theorem mv_Mod_267 : ax_MV "AlarmGroupsModel" 267 mt_Mod_number 2 := ⟨ok_Mod_number, by unfold ax_pn; decide +kernel, ax_at 1391 (by decide +kernel) rfl, ax_at 1393 (by decide +kernel) rfl, ax_in (by decide +kernel) rfl⟩
theorem kl_Mod_271 : Jvm.Cond.constantLong "AlarmGroupsModel" 271 12892339 ∈ ax_tbl := ax_at 1395 (by decide +kernel) rfl
theorem kl_Mod_273 : Jvm.Cond.constantLong "AlarmGroupsModel" 273 655 ∈ ax_tbl := ax_at 1396 (by decide +kernel) rfl
theorem kl_Mod_275 : Jvm.Cond.constantLong "AlarmGroupsModel" 275 206213 ∈ ax_tbl := ax_at 1397 (by decide +kernel) rfl
theorem kl_Mod_277 : Jvm.Cond.constantLong "AlarmGroupsModel" 277 1420 ∈ ax_tbl := ax_at 1398 (by decide +kernel) rfl
theorem fl_Mod_92 : ax_FL "AlarmGroupsModel" 92 12 36 := ⟨_, rfl, by decide, ax_at 1081 (by decide +kernel) rfl⟩
theorem kl_Mod_279 : Jvm.Cond.constantLong "AlarmGroupsModel" 279 370116 ∈ ax_tbl := ax_at 1403 (by decide +kernel) rfl
theorem kl_Mod_281 : Jvm.Cond.constantLong "AlarmGroupsModel" 281 22499628 ∈ ax_tbl := ax_at 1404 (by decide +kernel) rfl
theorem kl_Mod_283 : Jvm.Cond.constantLong "AlarmGroupsModel" 283 2318456421 ∈ ax_tbl := ax_at 1405 (by decide +kernel) rfl
theorem fl_Mod_95 : ax_FL "AlarmGroupsModel" 95 12 37 := ⟨_, rfl, by decide, ax_at 1082 (by decide +kernel) rfl⟩
theorem mv_Mod_293 : ax_MV "AlarmGroupsModel" 293 mt_Mod_isSilence 1 := ⟨ok_Mod_isSilence, by unfold ax_pn; decide +kernel, ax_at 1410 (by decide +kernel) rfl, ax_at 1412 (by decide +kernel) rfl, ax_in (by decide +kernel) rfl⟩
theorem kl_Mod_296 : Jvm.Cond.constantLong "AlarmGroupsModel" 296 (-2) ∈ ax_tbl := ax_at 1418 (by decide +kernel) rfl
theorem mv_Mod_302 : ax_MV "AlarmGroupsModel" 302 mt_Mod_faultOf 1 := ⟨ok_Mod_faultOf, by unfold ax_pn; decide +kernel, ax_at 1431 (by decide +kernel) rfl, ax_at 1433 (by decide +kernel) rfl, ax_in (by decide +kernel) rfl⟩
theorem kl_Mod_298 : Jvm.Cond.constantLong "AlarmGroupsModel" 298 97 ∈ ax_tbl := ax_at 1435 (by decide +kernel) rfl
theorem kl_Mod_300 : Jvm.Cond.constantLong "AlarmGroupsModel" 300 122 ∈ ax_tbl := ax_at 1436 (by decide +kernel) rfl
theorem fp_Mod_306 : ax_FP "AlarmGroupsModel" 306 12 45 false (.int) := ⟨_, rfl, by decide, ax_at 1090 (by decide +kernel) rfl, rfl, by decide +kernel, fun h => absurd h (by decide)⟩
theorem mv_Mod_332 : ax_MV "AlarmGroupsModel" 332 mt_Mod_arrange 1 := ⟨ok_Mod_arrange, by unfold ax_pn; decide +kernel, ax_at 1449 (by decide +kernel) rfl, ax_at 1451 (by decide +kernel) rfl, ax_in (by decide +kernel) rfl⟩
theorem fl_Mod_325 : ax_FL "AlarmGroupsModel" 325 12 51 := ⟨_, rfl, by decide, ax_at 1096 (by decide +kernel) rfl⟩
theorem fl_Mod_117 : ax_FL "AlarmGroupsModel" 117 12 50 := ⟨_, rfl, by decide, ax_at 1095 (by decide +kernel) rfl⟩
theorem fp_Mod_325 : ax_FP "AlarmGroupsModel" 325 12 51 false (.int) := ⟨_, rfl, by decide, ax_at 1096 (by decide +kernel) rfl, rfl, by decide +kernel, fun h => absurd h (by decide)⟩
theorem mv_Mod_328 : ax_MV "AlarmGroupsModel" 328 mt_Mod_goesBefore 3 := ⟨ok_Mod_goesBefore, by unfold ax_pn; decide +kernel, ax_at 1453 (by decide +kernel) rfl, ax_at 1455 (by decide +kernel) rfl, ax_in (by decide +kernel) rfl⟩
theorem kl_Mod_335 : Jvm.Cond.constantLong "AlarmGroupsModel" 335 50 ∈ ax_tbl := ax_at 1461 (by decide +kernel) rfl
theorem fp_Mod_337 : ax_FP "AlarmGroupsModel" 337 12 53 false (.int) := ⟨_, rfl, by decide, ax_at 1098 (by decide +kernel) rfl, rfl, by decide +kernel, fun h => absurd h (by decide)⟩
theorem fl_Mod_123 : ax_FL "AlarmGroupsModel" 123 12 54 := ⟨_, rfl, by decide, ax_at 1099 (by decide +kernel) rfl⟩
theorem fl_Mod_337 : ax_FL "AlarmGroupsModel" 337 12 53 := ⟨_, rfl, by decide, ax_at 1098 (by decide +kernel) rfl⟩
theorem fl_Mod_120 : ax_FL "AlarmGroupsModel" 120 12 52 := ⟨_, rfl, by decide, ax_at 1097 (by decide +kernel) rfl⟩
theorem kl_Mod_340 : Jvm.Cond.constantLong "AlarmGroupsModel" 340 2 ∈ ax_tbl := ax_at 1470 (by decide +kernel) rfl
theorem mv_Mod_342 : ax_MV "AlarmGroupsModel" 342 mt_Mod_isOf 2 := ⟨ok_Mod_isOf, by unfold ax_pn; decide +kernel, ax_at 1471 (by decide +kernel) rfl, ax_at 1473 (by decide +kernel) rfl, ax_in (by decide +kernel) rfl⟩
theorem kl_Mod_345 : Jvm.Cond.constantLong "AlarmGroupsModel" 345 3 ∈ ax_tbl := ax_at 1479 (by decide +kernel) rfl
theorem fp_Mod_347 : ax_FP "AlarmGroupsModel" 347 12 56 false (.int) := ⟨_, rfl, by decide, ax_at 1101 (by decide +kernel) rfl, rfl, by decide +kernel, fun h => absurd h (by decide)⟩
theorem mv_Mod_353 : ax_MV "AlarmGroupsModel" 353 mt_Mod_sayNumber 1 := ⟨ok_Mod_sayNumber, by unfold ax_pn; decide +kernel, ax_at 1484 (by decide +kernel) rfl, ax_at 1486 (by decide +kernel) rfl, ax_in (by decide +kernel) rfl⟩
theorem mv_Mod_350 : ax_MV "AlarmGroupsModel" 350 mt_Mod_say 1 := ⟨ok_Mod_say, by unfold ax_pn; decide +kernel, ax_at 1488 (by decide +kernel) rfl, ax_at 1490 (by decide +kernel) rfl, ax_in (by decide +kernel) rfl⟩
theorem fl_Mod_347 : ax_FL "AlarmGroupsModel" 347 12 56 := ⟨_, rfl, by decide, ax_at 1101 (by decide +kernel) rfl⟩
theorem fl_Mod_126 : ax_FL "AlarmGroupsModel" 126 12 55 := ⟨_, rfl, by decide, ax_at 1100 (by decide +kernel) rfl⟩
theorem fl_Mod_129 : ax_FL "AlarmGroupsModel" 129 12 57 := ⟨_, rfl, by decide, ax_at 1102 (by decide +kernel) rfl⟩
theorem mv_Mod_356 : ax_MV "AlarmGroupsModel" 356 mt_Mod_isTold 0 := ⟨ok_Mod_isTold, by unfold ax_pn; decide +kernel, ax_at 1504 (by decide +kernel) rfl, ax_at 1506 (by decide +kernel) rfl, ax_in (by decide +kernel) rfl⟩
theorem cl_Law_7 : Cond.classLink "AlarmGroupsLaw" 7 "AlarmGroups" ∈ ax_tbl := ax_at 88 (by decide +kernel) rfl
theorem mv_Law_9 : ax_MI "AlarmGroupsLaw" 9 mt_Top_init 0 := ⟨ok_Top_init, by unfold ax_pn; decide +kernel, ax_at 90 (by decide +kernel) rfl, ax_at 91 (by decide +kernel) rfl, rfl, rfl⟩
theorem cl_Law_10 : Cond.classLink "AlarmGroupsLaw" 10 "AlarmGroupsModel" ∈ ax_tbl := ax_at 1039 (by decide +kernel) rfl
theorem mv_Law_12 : ax_MI "AlarmGroupsLaw" 12 mt_Mod_init 0 := ⟨ok_Mod_init, by unfold ax_pn; decide +kernel, ax_at 1041 (by decide +kernel) rfl, ax_at 1042 (by decide +kernel) rfl, rfl, rfl⟩
theorem kl_Law_13 : Jvm.Cond.constantLong "AlarmGroupsLaw" 13 4294967295 ∈ ax_tbl := ax_at 1512 (by decide +kernel) rfl
theorem mv_Law_15 : ax_MV "AlarmGroupsLaw" 15 mt_Top_feed 2 := ⟨ok_Top_feed, by unfold ax_pn; decide +kernel, ax_at 436 (by decide +kernel) rfl, ax_at 437 (by decide +kernel) rfl, ax_at 438 (by decide +kernel) rfl⟩
theorem mv_Law_19 : ax_MV "AlarmGroupsLaw" 19 mt_Mod_feed 2 := ⟨ok_Mod_feed, by unfold ax_pn; decide +kernel, ax_at 1221 (by decide +kernel) rfl, ax_at 1222 (by decide +kernel) rfl, ax_at 1223 (by decide +kernel) rfl⟩
theorem mv_Law_20 : ax_MV "AlarmGroupsLaw" 20 mt_Top_cut 1 := ⟨ok_Top_cut, by unfold ax_pn; decide +kernel, ax_at 452 (by decide +kernel) rfl, ax_at 453 (by decide +kernel) rfl, ax_at 454 (by decide +kernel) rfl⟩
theorem mv_Law_24 : ax_MV "AlarmGroupsLaw" 24 mt_Mod_cut 1 := ⟨ok_Mod_cut, by unfold ax_pn; decide +kernel, ax_at 1230 (by decide +kernel) rfl, ax_at 1231 (by decide +kernel) rfl, ax_at 1232 (by decide +kernel) rfl⟩
theorem mv_Law_25 : ax_MV "AlarmGroupsLaw" 25 mt_Top_line 2 := ⟨ok_Top_line, by unfold ax_pn; decide +kernel, ax_at 460 (by decide +kernel) rfl, ax_at 461 (by decide +kernel) rfl, ax_at 462 (by decide +kernel) rfl⟩
theorem mv_Law_29 : ax_MV "AlarmGroupsLaw" 29 mt_Mod_line 2 := ⟨ok_Mod_line, by unfold ax_pn; decide +kernel, ax_at 1234 (by decide +kernel) rfl, ax_at 1235 (by decide +kernel) rfl, ax_at 1236 (by decide +kernel) rfl⟩
theorem mv_Law_30 : ax_MV "AlarmGroupsLaw" 30 mt_Top_build 0 := ⟨ok_Top_build, by unfold ax_pn; decide +kernel, ax_at 471 (by decide +kernel) rfl, ax_at 472 (by decide +kernel) rfl, ax_at 473 (by decide +kernel) rfl⟩
theorem mv_Law_34 : ax_MV "AlarmGroupsLaw" 34 mt_Mod_build 0 := ⟨ok_Mod_build, by unfold ax_pn; decide +kernel, ax_at 1239 (by decide +kernel) rfl, ax_at 1240 (by decide +kernel) rfl, ax_at 1241 (by decide +kernel) rfl⟩
theorem mv_Law_35 : ax_MV "AlarmGroupsLaw" 35 mt_Top_partner 1 := ⟨ok_Top_partner, by unfold ax_pn; decide +kernel, ax_at 559 (by decide +kernel) rfl, ax_at 560 (by decide +kernel) rfl, ax_at 561 (by decide +kernel) rfl⟩
theorem mv_Law_38 : ax_MV "AlarmGroupsLaw" 38 mt_Mod_partner 1 := ⟨ok_Mod_partner, by unfold ax_pn; decide +kernel, ax_at 1279 (by decide +kernel) rfl, ax_at 1280 (by decide +kernel) rfl, ax_at 1281 (by decide +kernel) rfl⟩
theorem mv_Law_39 : ax_MV "AlarmGroupsLaw" 39 mt_Top_alarm 5 := ⟨ok_Top_alarm, by unfold ax_pn; decide +kernel, ax_at 567 (by decide +kernel) rfl, ax_at 568 (by decide +kernel) rfl, ax_at 569 (by decide +kernel) rfl⟩
theorem mv_Law_43 : ax_MV "AlarmGroupsLaw" 43 mt_Mod_alarm 5 := ⟨ok_Mod_alarm, by unfold ax_pn; decide +kernel, ax_at 1283 (by decide +kernel) rfl, ax_at 1284 (by decide +kernel) rfl, ax_at 1285 (by decide +kernel) rfl⟩
theorem mv_Law_44 : ax_MV "AlarmGroupsLaw" 44 mt_Top_of 2 := ⟨ok_Top_of, by unfold ax_pn; decide +kernel, ax_at 591 (by decide +kernel) rfl, ax_at 592 (by decide +kernel) rfl, ax_at 593 (by decide +kernel) rfl⟩
theorem mv_Law_47 : ax_MV "AlarmGroupsLaw" 47 mt_Mod_of 2 := ⟨ok_Mod_of, by unfold ax_pn; decide +kernel, ax_at 1290 (by decide +kernel) rfl, ax_at 1291 (by decide +kernel) rfl, ax_at 1292 (by decide +kernel) rfl⟩
theorem mv_Law_48 : ax_MV "AlarmGroupsLaw" 48 mt_Top_why 2 := ⟨ok_Top_why, by unfold ax_pn; decide +kernel, ax_at 632 (by decide +kernel) rfl, ax_at 633 (by decide +kernel) rfl, ax_at 634 (by decide +kernel) rfl⟩
theorem mv_Law_51 : ax_MV "AlarmGroupsLaw" 51 mt_Mod_why 2 := ⟨ok_Mod_why, by unfold ax_pn; decide +kernel, ax_at 1322 (by decide +kernel) rfl, ax_at 1323 (by decide +kernel) rfl, ax_at 1324 (by decide +kernel) rfl⟩
theorem mv_Law_52 : ax_MV "AlarmGroupsLaw" 52 mt_Top_rule 2 := ⟨ok_Top_rule, by unfold ax_pn; decide +kernel, ax_at 645 (by decide +kernel) rfl, ax_at 646 (by decide +kernel) rfl, ax_at 647 (by decide +kernel) rfl⟩
theorem mv_Law_55 : ax_MV "AlarmGroupsLaw" 55 mt_Mod_rule 2 := ⟨ok_Mod_rule, by unfold ax_pn; decide +kernel, ax_at 1326 (by decide +kernel) rfl, ax_at 1327 (by decide +kernel) rfl, ax_at 1328 (by decide +kernel) rfl⟩
theorem mv_Law_56 : ax_MV "AlarmGroupsLaw" 56 mt_Top_prove 2 := ⟨ok_Top_prove, by unfold ax_pn; decide +kernel, ax_at 656 (by decide +kernel) rfl, ax_at 657 (by decide +kernel) rfl, ax_at 658 (by decide +kernel) rfl⟩
theorem mv_Law_60 : ax_MV "AlarmGroupsLaw" 60 mt_Mod_prove 2 := ⟨ok_Mod_prove, by unfold ax_pn; decide +kernel, ax_at 1331 (by decide +kernel) rfl, ax_at 1332 (by decide +kernel) rfl, ax_at 1333 (by decide +kernel) rfl⟩
theorem mv_Law_61 : ax_MV "AlarmGroupsLaw" 61 mt_Top_known 1 := ⟨ok_Top_known, by unfold ax_pn; decide +kernel, ax_at 664 (by decide +kernel) rfl, ax_at 665 (by decide +kernel) rfl, ax_at 666 (by decide +kernel) rfl⟩
theorem mv_Law_64 : ax_MV "AlarmGroupsLaw" 64 mt_Mod_known 1 := ⟨ok_Mod_known, by unfold ax_pn; decide +kernel, ax_at 1335 (by decide +kernel) rfl, ax_at 1336 (by decide +kernel) rfl, ax_at 1337 (by decide +kernel) rfl⟩
theorem mv_Law_65 : ax_MV "AlarmGroupsLaw" 65 mt_Top_closes 2 := ⟨ok_Top_closes, by unfold ax_pn; decide +kernel, ax_at 668 (by decide +kernel) rfl, ax_at 669 (by decide +kernel) rfl, ax_at 670 (by decide +kernel) rfl⟩
theorem mv_Law_68 : ax_MV "AlarmGroupsLaw" 68 mt_Mod_closes 2 := ⟨ok_Mod_closes, by unfold ax_pn; decide +kernel, ax_at 1340 (by decide +kernel) rfl, ax_at 1341 (by decide +kernel) rfl, ax_at 1342 (by decide +kernel) rfl⟩
theorem mv_Law_69 : ax_MV "AlarmGroupsLaw" 69 mt_Top_groups 0 := ⟨ok_Top_groups, by unfold ax_pn; decide +kernel, ax_at 672 (by decide +kernel) rfl, ax_at 673 (by decide +kernel) rfl, ax_at 674 (by decide +kernel) rfl⟩
theorem mv_Law_72 : ax_MV "AlarmGroupsLaw" 72 mt_Mod_groups 0 := ⟨ok_Mod_groups, by unfold ax_pn; decide +kernel, ax_at 1344 (by decide +kernel) rfl, ax_at 1345 (by decide +kernel) rfl, ax_at 1346 (by decide +kernel) rfl⟩
theorem mv_Law_73 : ax_MV "AlarmGroupsLaw" 73 mt_Top_group 2 := ⟨ok_Top_group, by unfold ax_pn; decide +kernel, ax_at 696 (by decide +kernel) rfl, ax_at 697 (by decide +kernel) rfl, ax_at 698 (by decide +kernel) rfl⟩
theorem mv_Law_76 : ax_MV "AlarmGroupsLaw" 76 mt_Mod_group 2 := ⟨ok_Mod_group, by unfold ax_pn; decide +kernel, ax_at 1357 (by decide +kernel) rfl, ax_at 1358 (by decide +kernel) rfl, ax_at 1359 (by decide +kernel) rfl⟩
theorem mv_Law_77 : ax_MV "AlarmGroupsLaw" 77 mt_Top_silence 0 := ⟨ok_Top_silence, by unfold ax_pn; decide +kernel, ax_at 700 (by decide +kernel) rfl, ax_at 701 (by decide +kernel) rfl, ax_at 702 (by decide +kernel) rfl⟩
theorem mv_Law_80 : ax_MV "AlarmGroupsLaw" 80 mt_Mod_silence 0 := ⟨ok_Mod_silence, by unfold ax_pn; decide +kernel, ax_at 1361 (by decide +kernel) rfl, ax_at 1362 (by decide +kernel) rfl, ax_at 1363 (by decide +kernel) rfl⟩
theorem mv_Law_81 : ax_MV "AlarmGroupsLaw" 81 mt_Top_silent 2 := ⟨ok_Top_silent, by unfold ax_pn; decide +kernel, ax_at 872 (by decide +kernel) rfl, ax_at 873 (by decide +kernel) rfl, ax_at 874 (by decide +kernel) rfl⟩
theorem mv_Law_84 : ax_MV "AlarmGroupsLaw" 84 mt_Mod_silent 2 := ⟨ok_Mod_silent, by unfold ax_pn; decide +kernel, ax_at 1406 (by decide +kernel) rfl, ax_at 1407 (by decide +kernel) rfl, ax_at 1408 (by decide +kernel) rfl⟩
theorem mv_Law_85 : ax_MV "AlarmGroupsLaw" 85 mt_Top_held 1 := ⟨ok_Top_held, by unfold ax_pn; decide +kernel, ax_at 885 (by decide +kernel) rfl, ax_at 886 (by decide +kernel) rfl, ax_at 887 (by decide +kernel) rfl⟩
theorem mv_Law_89 : ax_MV "AlarmGroupsLaw" 89 mt_Mod_held 1 := ⟨ok_Mod_held, by unfold ax_pn; decide +kernel, ax_at 1414 (by decide +kernel) rfl, ax_at 1415 (by decide +kernel) rfl, ax_at 1416 (by decide +kernel) rfl⟩
theorem mv_Law_90 : ax_MV "AlarmGroupsLaw" 90 mt_Top_reason 2 := ⟨ok_Top_reason, by unfold ax_pn; decide +kernel, ax_at 895 (by decide +kernel) rfl, ax_at 896 (by decide +kernel) rfl, ax_at 897 (by decide +kernel) rfl⟩
theorem mv_Law_93 : ax_MV "AlarmGroupsLaw" 93 mt_Mod_reason 2 := ⟨ok_Mod_reason, by unfold ax_pn; decide +kernel, ax_at 1419 (by decide +kernel) rfl, ax_at 1420 (by decide +kernel) rfl, ax_at 1421 (by decide +kernel) rfl⟩
theorem mv_Law_94 : ax_MV "AlarmGroupsLaw" 94 mt_Top_lift 1 := ⟨ok_Top_lift, by unfold ax_pn; decide +kernel, ax_at 900 (by decide +kernel) rfl, ax_at 901 (by decide +kernel) rfl, ax_at 902 (by decide +kernel) rfl⟩
theorem mv_Law_97 : ax_MV "AlarmGroupsLaw" 97 mt_Mod_lift 1 := ⟨ok_Mod_lift, by unfold ax_pn; decide +kernel, ax_at 1423 (by decide +kernel) rfl, ax_at 1424 (by decide +kernel) rfl, ax_at 1425 (by decide +kernel) rfl⟩
theorem mv_Law_98 : ax_MV "AlarmGroupsLaw" 98 mt_Top_path 1 := ⟨ok_Top_path, by unfold ax_pn; decide +kernel, ax_at 909 (by decide +kernel) rfl, ax_at 910 (by decide +kernel) rfl, ax_at 911 (by decide +kernel) rfl⟩
theorem mv_Law_101 : ax_MV "AlarmGroupsLaw" 101 mt_Mod_path 1 := ⟨ok_Mod_path, by unfold ax_pn; decide +kernel, ax_at 1427 (by decide +kernel) rfl, ax_at 1428 (by decide +kernel) rfl, ax_at 1429 (by decide +kernel) rfl⟩
theorem mv_Law_102 : ax_MV "AlarmGroupsLaw" 102 mt_Top_pattern 1 := ⟨ok_Top_pattern, by unfold ax_pn; decide +kernel, ax_at 926 (by decide +kernel) rfl, ax_at 927 (by decide +kernel) rfl, ax_at 928 (by decide +kernel) rfl⟩
theorem mv_Law_105 : ax_MV "AlarmGroupsLaw" 105 mt_Mod_pattern 1 := ⟨ok_Mod_pattern, by unfold ax_pn; decide +kernel, ax_at 1437 (by decide +kernel) rfl, ax_at 1438 (by decide +kernel) rfl, ax_at 1439 (by decide +kernel) rfl⟩
theorem mv_Law_106 : ax_MV "AlarmGroupsLaw" 106 mt_Top_owner 1 := ⟨ok_Top_owner, by unfold ax_pn; decide +kernel, ax_at 934 (by decide +kernel) rfl, ax_at 935 (by decide +kernel) rfl, ax_at 936 (by decide +kernel) rfl⟩
theorem mv_Law_109 : ax_MV "AlarmGroupsLaw" 109 mt_Mod_owner 1 := ⟨ok_Mod_owner, by unfold ax_pn; decide +kernel, ax_at 1441 (by decide +kernel) rfl, ax_at 1442 (by decide +kernel) rfl, ax_at 1443 (by decide +kernel) rfl⟩
theorem mv_Law_110 : ax_MV "AlarmGroupsLaw" 110 mt_Top_rank 1 := ⟨ok_Top_rank, by unfold ax_pn; decide +kernel, ax_at 938 (by decide +kernel) rfl, ax_at 939 (by decide +kernel) rfl, ax_at 940 (by decide +kernel) rfl⟩
theorem mv_Law_113 : ax_MV "AlarmGroupsLaw" 113 mt_Mod_rank 1 := ⟨ok_Mod_rank, by unfold ax_pn; decide +kernel, ax_at 1445 (by decide +kernel) rfl, ax_at 1446 (by decide +kernel) rfl, ax_at 1447 (by decide +kernel) rfl⟩
theorem mv_Law_114 : ax_MV "AlarmGroupsLaw" 114 mt_Top_budget 2 := ⟨ok_Top_budget, by unfold ax_pn; decide +kernel, ax_at 953 (by decide +kernel) rfl, ax_at 954 (by decide +kernel) rfl, ax_at 955 (by decide +kernel) rfl⟩
theorem mv_Law_117 : ax_MV "AlarmGroupsLaw" 117 mt_Mod_budget 2 := ⟨ok_Mod_budget, by unfold ax_pn; decide +kernel, ax_at 1457 (by decide +kernel) rfl, ax_at 1458 (by decide +kernel) rfl, ax_at 1459 (by decide +kernel) rfl⟩
theorem mv_Law_118 : ax_MV "AlarmGroupsLaw" 118 mt_Top_chosen 1 := ⟨ok_Top_chosen, by unfold ax_pn; decide +kernel, ax_at 966 (by decide +kernel) rfl, ax_at 967 (by decide +kernel) rfl, ax_at 968 (by decide +kernel) rfl⟩
theorem mv_Law_121 : ax_MV "AlarmGroupsLaw" 121 mt_Mod_chosen 1 := ⟨ok_Mod_chosen, by unfold ax_pn; decide +kernel, ax_at 1462 (by decide +kernel) rfl, ax_at 1463 (by decide +kernel) rfl, ax_at 1464 (by decide +kernel) rfl⟩
theorem mv_Law_122 : ax_MV "AlarmGroupsLaw" 122 mt_Top_compare 4 := ⟨ok_Top_compare, by unfold ax_pn; decide +kernel, ax_at 970 (by decide +kernel) rfl, ax_at 971 (by decide +kernel) rfl, ax_at 972 (by decide +kernel) rfl⟩
theorem mv_Law_126 : ax_MV "AlarmGroupsLaw" 126 mt_Mod_compare 4 := ⟨ok_Mod_compare, by unfold ax_pn; decide +kernel, ax_at 1466 (by decide +kernel) rfl, ax_at 1467 (by decide +kernel) rfl, ax_at 1468 (by decide +kernel) rfl⟩
theorem mv_Law_127 : ax_MV "AlarmGroupsLaw" 127 mt_Top_trend 2 := ⟨ok_Top_trend, by unfold ax_pn; decide +kernel, ax_at 983 (by decide +kernel) rfl, ax_at 984 (by decide +kernel) rfl, ax_at 985 (by decide +kernel) rfl⟩
theorem mv_Law_130 : ax_MV "AlarmGroupsLaw" 130 mt_Mod_trend 2 := ⟨ok_Mod_trend, by unfold ax_pn; decide +kernel, ax_at 1475 (by decide +kernel) rfl, ax_at 1476 (by decide +kernel) rfl, ax_at 1477 (by decide +kernel) rfl⟩
theorem mv_Law_131 : ax_MV "AlarmGroupsLaw" 131 mt_Top_out 0 := ⟨ok_Top_out, by unfold ax_pn; decide +kernel, ax_at 987 (by decide +kernel) rfl, ax_at 988 (by decide +kernel) rfl, ax_at 989 (by decide +kernel) rfl⟩
theorem mv_Law_134 : ax_MV "AlarmGroupsLaw" 134 mt_Mod_out 0 := ⟨ok_Mod_out, by unfold ax_pn; decide +kernel, ax_at 1480 (by decide +kernel) rfl, ax_at 1481 (by decide +kernel) rfl, ax_at 1482 (by decide +kernel) rfl⟩
theorem mv_Law_135 : ax_MV "AlarmGroupsLaw" 135 mt_Top_outByte 1 := ⟨ok_Top_outByte, by unfold ax_pn; decide +kernel, ax_at 1002 (by decide +kernel) rfl, ax_at 1003 (by decide +kernel) rfl, ax_at 1004 (by decide +kernel) rfl⟩
theorem mv_Law_138 : ax_MV "AlarmGroupsLaw" 138 mt_Mod_outByte 1 := ⟨ok_Mod_outByte, by unfold ax_pn; decide +kernel, ax_at 1492 (by decide +kernel) rfl, ax_at 1493 (by decide +kernel) rfl, ax_at 1494 (by decide +kernel) rfl⟩
theorem mv_Law_139 : ax_MV "AlarmGroupsLaw" 139 mt_Top_back 2 := ⟨ok_Top_back, by unfold ax_pn; decide +kernel, ax_at 1006 (by decide +kernel) rfl, ax_at 1007 (by decide +kernel) rfl, ax_at 1008 (by decide +kernel) rfl⟩
theorem mv_Law_142 : ax_MV "AlarmGroupsLaw" 142 mt_Mod_back 2 := ⟨ok_Mod_back, by unfold ax_pn; decide +kernel, ax_at 1496 (by decide +kernel) rfl, ax_at 1497 (by decide +kernel) rfl, ax_at 1498 (by decide +kernel) rfl⟩
theorem mv_Law_143 : ax_MV "AlarmGroupsLaw" 143 mt_Top_read 0 := ⟨ok_Top_read, by unfold ax_pn; decide +kernel, ax_at 1011 (by decide +kernel) rfl, ax_at 1012 (by decide +kernel) rfl, ax_at 1013 (by decide +kernel) rfl⟩
theorem mv_Law_146 : ax_MV "AlarmGroupsLaw" 146 mt_Mod_read 0 := ⟨ok_Mod_read, by unfold ax_pn; decide +kernel, ax_at 1500 (by decide +kernel) rfl, ax_at 1501 (by decide +kernel) rfl, ax_at 1502 (by decide +kernel) rfl⟩
theorem mv_Law_147 : ax_MV "AlarmGroupsLaw" 147 mt_Top_count 1 := ⟨ok_Top_count, by unfold ax_pn; decide +kernel, ax_at 1035 (by decide +kernel) rfl, ax_at 1036 (by decide +kernel) rfl, ax_at 1037 (by decide +kernel) rfl⟩
theorem mv_Law_150 : ax_MV "AlarmGroupsLaw" 150 mt_Mod_count 1 := ⟨ok_Mod_count, by unfold ax_pn; decide +kernel, ax_at 1508 (by decide +kernel) rfl, ax_at 1509 (by decide +kernel) rfl, ax_at 1510 (by decide +kernel) rfl⟩
theorem is_Alarms : Cond.instantiable "AlarmGroups$Alarms" 7 ∈ ax_tbl := ax_at 137 (by decide +kernel) rfl
theorem in_Alarms : Cond.initialized "AlarmGroups$Alarms" ∈ ax_tbl := ax_at 72 (by decide +kernel) rfl
theorem is_Facts : Cond.instantiable "AlarmGroups$Facts" 8 ∈ ax_tbl := ax_at 181 (by decide +kernel) rfl
theorem in_Facts : Cond.initialized "AlarmGroups$Facts" ∈ ax_tbl := ax_at 73 (by decide +kernel) rfl
theorem is_Lines : Cond.instantiable "AlarmGroups$Lines" 4 ∈ ax_tbl := ax_at 344 (by decide +kernel) rfl
theorem in_Lines : Cond.initialized "AlarmGroups$Lines" ∈ ax_tbl := ax_at 79 (by decide +kernel) rfl
theorem is_Lists : Cond.instantiable "AlarmGroups$Lists" 2 ∈ ax_tbl := ax_at 329 (by decide +kernel) rfl
theorem in_Lists : Cond.initialized "AlarmGroups$Lists" ∈ ax_tbl := ax_at 78 (by decide +kernel) rfl
theorem is_Matching : Cond.instantiable "AlarmGroups$Matching" 5 ∈ ax_tbl := ax_at 114 (by decide +kernel) rfl
theorem in_Matching : Cond.initialized "AlarmGroups$Matching" ∈ ax_tbl := ax_at 71 (by decide +kernel) rfl
theorem is_Parts : Cond.instantiable "AlarmGroups$Parts" 3 ∈ ax_tbl := ax_at 370 (by decide +kernel) rfl
theorem in_Parts : Cond.initialized "AlarmGroups$Parts" ∈ ax_tbl := ax_at 80 (by decide +kernel) rfl
theorem is_Ranks : Cond.instantiable "AlarmGroups$Ranks" 5 ∈ ax_tbl := ax_at 301 (by decide +kernel) rfl
theorem in_Ranks : Cond.initialized "AlarmGroups$Ranks" ∈ ax_tbl := ax_at 77 (by decide +kernel) rfl
theorem is_Row : Cond.instantiable "AlarmGroups$Row" 2 ∈ ax_tbl := ax_at 97 (by decide +kernel) rfl
theorem in_Row : Cond.initialized "AlarmGroups$Row" ∈ ax_tbl := ax_at 69 (by decide +kernel) rfl
theorem is_Silence : Cond.instantiable "AlarmGroups$Silence" 6 ∈ ax_tbl := ax_at 251 (by decide +kernel) rfl
theorem in_Silence : Cond.initialized "AlarmGroups$Silence" ∈ ax_tbl := ax_at 76 (by decide +kernel) rfl
theorem is_Silences : Cond.instantiable "AlarmGroups$Silences" 3 ∈ ax_tbl := ax_at 217 (by decide +kernel) rfl
theorem in_Silences : Cond.initialized "AlarmGroups$Silences" ∈ ax_tbl := ax_at 74 (by decide +kernel) rfl
theorem is_Tokens : Cond.instantiable "AlarmGroups$Tokens" 6 ∈ ax_tbl := ax_at 225 (by decide +kernel) rfl
theorem in_Tokens : Cond.initialized "AlarmGroups$Tokens" ∈ ax_tbl := ax_at 75 (by decide +kernel) rfl
theorem is_Top : Cond.instantiable "AlarmGroups" 16 ∈ ax_tbl := ax_at 89 (by decide +kernel) rfl
theorem in_Top : Cond.initialized "AlarmGroups" ∈ ax_tbl := ax_at 68 (by decide +kernel) rfl
theorem is_Mod : Cond.instantiable "AlarmGroupsModel" 58 ∈ ax_tbl := ax_at 1040 (by decide +kernel) rfl
theorem in_Mod : Cond.initialized "AlarmGroupsModel" ∈ ax_tbl := ax_at 81 (by decide +kernel) rfl
theorem oi_2 : Cond.instanceMethod objectInit ∈ ax_tbl := ax_in (by decide +kernel) rfl
theorem oi_3 : Cond.code objectInit ⟨#[0xb1]⟩ 1 none ∈ ax_tbl := ax_in (by decide +kernel) rfl
theorem mm_max2 : Cond.static Lib.Math.max.name ∈ ax_tbl := ax_in (by decide +kernel) rfl
theorem mm_max3 : Cond.code Lib.Math.max.name Lib.Math.max.code 2 (some .int) ∈ ax_tbl := ax_in (by decide +kernel) rfl
theorem mm_min2 : Cond.static Lib.Math.min.name ∈ ax_tbl := ax_in (by decide +kernel) rfl
theorem mm_min3 : Cond.code Lib.Math.min.name Lib.Math.min.code 2 (some .int) ∈ ax_tbl := ax_in (by decide +kernel) rfl
theorem mm_ini : Cond.initialized "java/lang/Math" ∈ ax_tbl := ax_in (by decide +kernel) rfl
theorem ac_int : Cond.arrayClass .int ∈ ax_tbl := ax_in (by decide +kernel) rfl
theorem ac_byte : Cond.arrayClass .byte ∈ ax_tbl := ax_in (by decide +kernel) rfl
theorem ac_boolean : Cond.arrayClass .boolean ∈ ax_tbl := ax_in (by decide +kernel) rfl
theorem ac_long : Cond.arrayClass .long ∈ ax_tbl := ax_in (by decide +kernel) rfl
