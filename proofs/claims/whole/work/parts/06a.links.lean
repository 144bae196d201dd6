theorem oi_Top_1 : Cond.methodLink "AlarmGroups" 1 objectInit ∈ ax_tbl := ax_at 93 (by decide +kernel) rfl
theorem cl_Top_7 : Cond.classLink "AlarmGroups" 7 "AlarmGroups$Row" ∈ ax_tbl := ax_at 96 (by decide +kernel) rfl
theorem mv_Top_11 : ax_MI "AlarmGroups" 11 mt_Row_init 1 := ⟨ok_Row_init, by unfold ax_pn; decide +kernel, ax_at 98 (by decide +kernel) rfl, ax_at 99 (by decide +kernel) rfl, rfl, rfl⟩
theorem fp_Top_14 : ax_FP "AlarmGroups" 14 11 0 true (.object "AlarmGroups$Row") := ⟨_, rfl, by decide, ax_at 387 (by decide +kernel) rfl, rfl, by decide +kernel, fun _ => rfl⟩
theorem fp_Top_18 : ax_FP "AlarmGroups" 18 11 1 true (.object "AlarmGroups$Row") := ⟨_, rfl, by decide, ax_at 388 (by decide +kernel) rfl, rfl, by decide +kernel, fun _ => rfl⟩
theorem cl_Top_21 : Cond.classLink "AlarmGroups" 21 "AlarmGroups$Matching" ∈ ax_tbl := ax_at 113 (by decide +kernel) rfl
theorem mv_Top_23 : ax_MIN "AlarmGroups" 23 mt_Matching_init 0 := ⟨ok_Matching_init, by unfold ax_pn; decide +kernel, List.mem_filter.mpr ⟨List.mem_of_getElem? (i := 115) (by decide +kernel), rfl⟩, ax_at 116 (by decide +kernel) rfl, rfl, rfl⟩
theorem fp_Top_24 : ax_FP "AlarmGroups" 24 11 2 true (.object "AlarmGroups$Matching") := ⟨_, rfl, by decide, ax_at 389 (by decide +kernel) rfl, rfl, by decide +kernel, fun _ => rfl⟩
theorem cl_Top_28 : Cond.classLink "AlarmGroups" 28 "AlarmGroups$Alarms" ∈ ax_tbl := ax_at 136 (by decide +kernel) rfl
theorem mv_Top_30 : ax_MIN "AlarmGroups" 30 mt_Alarms_init 0 := ⟨ok_Alarms_init, by unfold ax_pn; decide +kernel, List.mem_filter.mpr ⟨List.mem_of_getElem? (i := 138) (by decide +kernel), rfl⟩, ax_at 139 (by decide +kernel) rfl, rfl, rfl⟩
theorem fp_Top_31 : ax_FP "AlarmGroups" 31 11 3 true (.object "AlarmGroups$Alarms") := ⟨_, rfl, by decide, ax_at 390 (by decide +kernel) rfl, rfl, by decide +kernel, fun _ => rfl⟩
theorem cl_Top_35 : Cond.classLink "AlarmGroups" 35 "AlarmGroups$Facts" ∈ ax_tbl := ax_at 180 (by decide +kernel) rfl
theorem mv_Top_37 : ax_MIN "AlarmGroups" 37 mt_Facts_init 0 := ⟨ok_Facts_init, by unfold ax_pn; decide +kernel, List.mem_filter.mpr ⟨List.mem_of_getElem? (i := 182) (by decide +kernel), rfl⟩, ax_at 183 (by decide +kernel) rfl, rfl, rfl⟩
theorem fp_Top_38 : ax_FP "AlarmGroups" 38 11 4 true (.object "AlarmGroups$Facts") := ⟨_, rfl, by decide, ax_at 391 (by decide +kernel) rfl, rfl, by decide +kernel, fun _ => rfl⟩
theorem cl_Top_42 : Cond.classLink "AlarmGroups" 42 "AlarmGroups$Silences" ∈ ax_tbl := ax_at 216 (by decide +kernel) rfl
theorem mv_Top_44 : ax_MI "AlarmGroups" 44 mt_Silences_init 0 := ⟨ok_Silences_init, by unfold ax_pn; decide +kernel, ax_at 218 (by decide +kernel) rfl, ax_at 219 (by decide +kernel) rfl, rfl, rfl⟩
theorem fp_Top_45 : ax_FP "AlarmGroups" 45 11 5 true (.object "AlarmGroups$Silences") := ⟨_, rfl, by decide, ax_at 392 (by decide +kernel) rfl, rfl, by decide +kernel, fun _ => rfl⟩
theorem cl_Top_49 : Cond.classLink "AlarmGroups" 49 "AlarmGroups$Ranks" ∈ ax_tbl := ax_at 300 (by decide +kernel) rfl
theorem mv_Top_51 : ax_MIN "AlarmGroups" 51 mt_Ranks_init 0 := ⟨ok_Ranks_init, by unfold ax_pn; decide +kernel, List.mem_filter.mpr ⟨List.mem_of_getElem? (i := 302) (by decide +kernel), rfl⟩, ax_at 303 (by decide +kernel) rfl, rfl, rfl⟩
theorem fp_Top_52 : ax_FP "AlarmGroups" 52 11 6 true (.object "AlarmGroups$Ranks") := ⟨_, rfl, by decide, ax_at 393 (by decide +kernel) rfl, rfl, by decide +kernel, fun _ => rfl⟩
theorem cl_Top_56 : Cond.classLink "AlarmGroups" 56 "AlarmGroups$Lists" ∈ ax_tbl := ax_at 328 (by decide +kernel) rfl
theorem mv_Top_58 : ax_MIN "AlarmGroups" 58 mt_Lists_init 0 := ⟨ok_Lists_init, by unfold ax_pn; decide +kernel, List.mem_filter.mpr ⟨List.mem_of_getElem? (i := 330) (by decide +kernel), rfl⟩, ax_at 331 (by decide +kernel) rfl, rfl, rfl⟩
theorem fp_Top_59 : ax_FP "AlarmGroups" 59 11 7 true (.object "AlarmGroups$Lists") := ⟨_, rfl, by decide, ax_at 394 (by decide +kernel) rfl, rfl, by decide +kernel, fun _ => rfl⟩
theorem cl_Top_63 : Cond.classLink "AlarmGroups" 63 "AlarmGroups$Parts" ∈ ax_tbl := ax_at 341 (by decide +kernel) rfl
theorem fp_Top_65 : ax_FP "AlarmGroups" 65 11 8 true (.array (.object "AlarmGroups$Parts")) := ⟨_, rfl, by decide, ax_at 395 (by decide +kernel) rfl, rfl, by decide +kernel, fun _ => rfl⟩
theorem fp_Top_69 : ax_FP "AlarmGroups" 69 11 9 true (.array (.object "AlarmGroups$Parts")) := ⟨_, rfl, by decide, ax_at 396 (by decide +kernel) rfl, rfl, by decide +kernel, fun _ => rfl⟩
theorem fp_Top_72 : ax_FP "AlarmGroups" 72 11 10 true (.array .int) := ⟨_, rfl, by decide, ax_at 397 (by decide +kernel) rfl, rfl, by decide +kernel, fun _ => rfl⟩
theorem fp_Top_76 : ax_FP "AlarmGroups" 76 11 11 true (.array .long) := ⟨_, rfl, by decide, ax_at 398 (by decide +kernel) rfl, rfl, by decide +kernel, fun _ => rfl⟩
theorem cl_Top_80 : Cond.classLink "AlarmGroups" 80 "AlarmGroups$Lines" ∈ ax_tbl := ax_at 343 (by decide +kernel) rfl
theorem mv_Top_82 : ax_MIN "AlarmGroups" 82 mt_Lines_init 0 := ⟨ok_Lines_init, by unfold ax_pn; decide +kernel, List.mem_filter.mpr ⟨List.mem_of_getElem? (i := 345) (by decide +kernel), rfl⟩, ax_at 346 (by decide +kernel) rfl, rfl, rfl⟩
theorem fp_Top_83 : ax_FP "AlarmGroups" 83 11 12 false (.object "AlarmGroups$Lines") := ⟨_, rfl, by decide, ax_at 399 (by decide +kernel) rfl, rfl, by decide +kernel, fun h => absurd h (by decide)⟩
theorem fp_Top_87 : ax_FP "AlarmGroups" 87 11 13 false (.object "AlarmGroups$Lines") := ⟨_, rfl, by decide, ax_at 400 (by decide +kernel) rfl, rfl, by decide +kernel, fun h => absurd h (by decide)⟩
theorem fl_Top_65 : ax_FL "AlarmGroups" 65 11 8 := ⟨_, rfl, by decide, ax_at 395 (by decide +kernel) rfl⟩
theorem mv_Top_90 : ax_MIN "AlarmGroups" 90 mt_Parts_init 0 := ⟨ok_Parts_init, by unfold ax_pn; decide +kernel, List.mem_filter.mpr ⟨List.mem_of_getElem? (i := 371) (by decide +kernel), rfl⟩, ax_at 372 (by decide +kernel) rfl, rfl, rfl⟩
theorem fl_Top_69 : ax_FL "AlarmGroups" 69 11 9 := ⟨_, rfl, by decide, ax_at 396 (by decide +kernel) rfl⟩
theorem oi_Row_3 : Cond.methodLink "AlarmGroups$Row" 3 objectInit ∈ ax_tbl := ax_at 101 (by decide +kernel) rfl
theorem mm_Row_9 : Cond.methodLink "AlarmGroups$Row" 9 Lib.Math.max.name ∈ ax_tbl := ax_at 102 (by decide +kernel) rfl
theorem fp_Row_15 : ax_FP "AlarmGroups$Row" 15 7 0 true (.array .byte) := ⟨_, rfl, by decide, ax_at 105 (by decide +kernel) rfl, rfl, by decide +kernel, fun _ => rfl⟩
theorem oi_Matching_3 : Cond.methodLink "AlarmGroups$Matching" 3 objectInit ∈ ax_tbl := ax_at 118 (by decide +kernel) rfl
theorem fp_Matching_9 : ax_FP "AlarmGroups$Matching" 9 4 0 true (.array .int) := ⟨_, rfl, by decide, ax_at 119 (by decide +kernel) rfl, rfl, by decide +kernel, fun _ => rfl⟩
theorem fp_Matching_15 : ax_FP "AlarmGroups$Matching" 15 4 1 true (.array .int) := ⟨_, rfl, by decide, ax_at 120 (by decide +kernel) rfl, rfl, by decide +kernel, fun _ => rfl⟩
theorem fp_Matching_18 : ax_FP "AlarmGroups$Matching" 18 4 2 true (.array .int) := ⟨_, rfl, by decide, ax_at 121 (by decide +kernel) rfl, rfl, by decide +kernel, fun _ => rfl⟩
theorem oi_Alarms_3 : Cond.methodLink "AlarmGroups$Alarms" 3 objectInit ∈ ax_tbl := ax_at 141 (by decide +kernel) rfl
theorem fp_Alarms_9 : ax_FP "AlarmGroups$Alarms" 9 0 0 true (.array .int) := ⟨_, rfl, by decide, ax_at 142 (by decide +kernel) rfl, rfl, by decide +kernel, fun _ => rfl⟩
theorem fp_Alarms_15 : ax_FP "AlarmGroups$Alarms" 15 0 1 true (.array .int) := ⟨_, rfl, by decide, ax_at 146 (by decide +kernel) rfl, rfl, by decide +kernel, fun _ => rfl⟩
theorem fp_Alarms_18 : ax_FP "AlarmGroups$Alarms" 18 0 2 true (.array .int) := ⟨_, rfl, by decide, ax_at 150 (by decide +kernel) rfl, rfl, by decide +kernel, fun _ => rfl⟩
theorem fp_Alarms_21 : ax_FP "AlarmGroups$Alarms" 21 0 3 true (.array .int) := ⟨_, rfl, by decide, ax_at 152 (by decide +kernel) rfl, rfl, by decide +kernel, fun _ => rfl⟩
theorem fp_Alarms_24 : ax_FP "AlarmGroups$Alarms" 24 0 4 true (.array .int) := ⟨_, rfl, by decide, ax_at 156 (by decide +kernel) rfl, rfl, by decide +kernel, fun _ => rfl⟩
theorem fp_Alarms_27 : ax_FP "AlarmGroups$Alarms" 27 0 5 true (.array .int) := ⟨_, rfl, by decide, ax_at 160 (by decide +kernel) rfl, rfl, by decide +kernel, fun _ => rfl⟩
theorem oi_Facts_3 : Cond.methodLink "AlarmGroups$Facts" 3 objectInit ∈ ax_tbl := ax_at 185 (by decide +kernel) rfl
theorem fp_Facts_9 : ax_FP "AlarmGroups$Facts" 9 1 0 true (.array .int) := ⟨_, rfl, by decide, ax_at 186 (by decide +kernel) rfl, rfl, by decide +kernel, fun _ => rfl⟩
theorem fp_Facts_15 : ax_FP "AlarmGroups$Facts" 15 1 1 true (.array .long) := ⟨_, rfl, by decide, ax_at 188 (by decide +kernel) rfl, rfl, by decide +kernel, fun _ => rfl⟩
theorem fp_Facts_19 : ax_FP "AlarmGroups$Facts" 19 1 4 true (.array .int) := ⟨_, rfl, by decide, ax_at 194 (by decide +kernel) rfl, rfl, by decide +kernel, fun _ => rfl⟩
theorem fp_Facts_22 : ax_FP "AlarmGroups$Facts" 22 1 5 true (.array .int) := ⟨_, rfl, by decide, ax_at 195 (by decide +kernel) rfl, rfl, by decide +kernel, fun _ => rfl⟩
theorem fp_Facts_25 : ax_FP "AlarmGroups$Facts" 25 1 6 true (.array .long) := ⟨_, rfl, by decide, ax_at 196 (by decide +kernel) rfl, rfl, by decide +kernel, fun _ => rfl⟩
theorem oi_Silences_3 : Cond.methodLink "AlarmGroups$Silences" 3 objectInit ∈ ax_tbl := ax_at 221 (by decide +kernel) rfl
theorem cl_Silences_9 : Cond.classLink "AlarmGroups$Silences" 9 "AlarmGroups$Silence" ∈ ax_tbl := ax_at 222 (by decide +kernel) rfl
theorem fp_Silences_11 : ax_FP "AlarmGroups$Silences" 11 9 0 true (.array (.object "AlarmGroups$Silence")) := ⟨_, rfl, by decide, ax_at 288 (by decide +kernel) rfl, rfl, by decide +kernel, fun _ => rfl⟩
theorem cl_Silences_17 : Cond.classLink "AlarmGroups$Silences" 17 "AlarmGroups$Tokens" ∈ ax_tbl := ax_at 224 (by decide +kernel) rfl
theorem mv_Silences_19 : ax_MIN "AlarmGroups$Silences" 19 mt_Tokens_init 0 := ⟨ok_Tokens_init, by unfold ax_pn; decide +kernel, List.mem_filter.mpr ⟨List.mem_of_getElem? (i := 226) (by decide +kernel), rfl⟩, ax_at 227 (by decide +kernel) rfl, rfl, rfl⟩
theorem fp_Silences_20 : ax_FP "AlarmGroups$Silences" 20 9 2 true (.object "AlarmGroups$Tokens") := ⟨_, rfl, by decide, ax_at 292 (by decide +kernel) rfl, rfl, by decide +kernel, fun _ => rfl⟩
theorem fl_Silences_11 : ax_FL "AlarmGroups$Silences" 11 9 0 := ⟨_, rfl, by decide, ax_at 288 (by decide +kernel) rfl⟩
theorem mv_Silences_24 : ax_MIN "AlarmGroups$Silences" 24 mt_Silence_init 0 := ⟨ok_Silence_init, by unfold ax_pn; decide +kernel, List.mem_filter.mpr ⟨List.mem_of_getElem? (i := 252) (by decide +kernel), rfl⟩, ax_at 253 (by decide +kernel) rfl, rfl, rfl⟩
theorem oi_Tokens_3 : Cond.methodLink "AlarmGroups$Tokens" 3 objectInit ∈ ax_tbl := ax_at 229 (by decide +kernel) rfl
theorem cl_Tokens_9 : Cond.classLink "AlarmGroups$Tokens" 9 "AlarmGroups$Row" ∈ ax_tbl := ax_at 230 (by decide +kernel) rfl
theorem mv_Tokens_11 : ax_MI "AlarmGroups$Tokens" 11 mt_Row_init 1 := ⟨ok_Row_init, by unfold ax_pn; decide +kernel, ax_at 231 (by decide +kernel) rfl, ax_at 99 (by decide +kernel) rfl, rfl, rfl⟩
theorem fp_Tokens_14 : ax_FP "AlarmGroups$Tokens" 14 10 0 true (.object "AlarmGroups$Row") := ⟨_, rfl, by decide, ax_at 232 (by decide +kernel) rfl, rfl, by decide +kernel, fun _ => rfl⟩
theorem fp_Tokens_20 : ax_FP "AlarmGroups$Tokens" 20 10 1 true (.array .int) := ⟨_, rfl, by decide, ax_at 233 (by decide +kernel) rfl, rfl, by decide +kernel, fun _ => rfl⟩
theorem fp_Tokens_24 : ax_FP "AlarmGroups$Tokens" 24 10 2 true (.array .int) := ⟨_, rfl, by decide, ax_at 234 (by decide +kernel) rfl, rfl, by decide +kernel, fun _ => rfl⟩
theorem fp_Tokens_27 : ax_FP "AlarmGroups$Tokens" 27 10 3 true (.array .int) := ⟨_, rfl, by decide, ax_at 235 (by decide +kernel) rfl, rfl, by decide +kernel, fun _ => rfl⟩
theorem oi_Silence_3 : Cond.methodLink "AlarmGroups$Silence" 3 objectInit ∈ ax_tbl := ax_at 255 (by decide +kernel) rfl
theorem cl_Silence_9 : Cond.classLink "AlarmGroups$Silence" 9 "AlarmGroups$Row" ∈ ax_tbl := ax_at 256 (by decide +kernel) rfl
theorem mv_Silence_11 : ax_MI "AlarmGroups$Silence" 11 mt_Row_init 1 := ⟨ok_Row_init, by unfold ax_pn; decide +kernel, ax_at 257 (by decide +kernel) rfl, ax_at 99 (by decide +kernel) rfl, rfl, rfl⟩
theorem fp_Silence_14 : ax_FP "AlarmGroups$Silence" 14 8 5 true (.object "AlarmGroups$Row") := ⟨_, rfl, by decide, ax_at 272 (by decide +kernel) rfl, rfl, by decide +kernel, fun _ => rfl⟩
theorem oi_Ranks_3 : Cond.methodLink "AlarmGroups$Ranks" 3 objectInit ∈ ax_tbl := ax_at 305 (by decide +kernel) rfl
theorem fp_Ranks_9 : ax_FP "AlarmGroups$Ranks" 9 6 0 true (.array .int) := ⟨_, rfl, by decide, ax_at 306 (by decide +kernel) rfl, rfl, by decide +kernel, fun _ => rfl⟩
theorem fp_Ranks_15 : ax_FP "AlarmGroups$Ranks" 15 6 1 true (.array .int) := ⟨_, rfl, by decide, ax_at 309 (by decide +kernel) rfl, rfl, by decide +kernel, fun _ => rfl⟩
theorem fp_Ranks_18 : ax_FP "AlarmGroups$Ranks" 18 6 4 true (.array .int) := ⟨_, rfl, by decide, ax_at 316 (by decide +kernel) rfl, rfl, by decide +kernel, fun _ => rfl⟩
theorem oi_Lists_3 : Cond.methodLink "AlarmGroups$Lists" 3 objectInit ∈ ax_tbl := ax_at 333 (by decide +kernel) rfl
theorem fp_Lists_11 : ax_FP "AlarmGroups$Lists" 11 3 0 true (.array .int) := ⟨_, rfl, by decide, ax_at 334 (by decide +kernel) rfl, rfl, by decide +kernel, fun _ => rfl⟩
theorem oi_Lines_3 : Cond.methodLink "AlarmGroups$Lines" 3 objectInit ∈ ax_tbl := ax_at 348 (by decide +kernel) rfl
theorem fp_Lines_9 : ax_FP "AlarmGroups$Lines" 9 2 0 true (.array .int) := ⟨_, rfl, by decide, ax_at 349 (by decide +kernel) rfl, rfl, by decide +kernel, fun _ => rfl⟩
theorem fp_Lines_15 : ax_FP "AlarmGroups$Lines" 15 2 1 true (.array .int) := ⟨_, rfl, by decide, ax_at 352 (by decide +kernel) rfl, rfl, by decide +kernel, fun _ => rfl⟩
theorem fp_Lines_18 : ax_FP "AlarmGroups$Lines" 18 2 2 true (.array .int) := ⟨_, rfl, by decide, ax_at 354 (by decide +kernel) rfl, rfl, by decide +kernel, fun _ => rfl⟩
theorem oi_Parts_3 : Cond.methodLink "AlarmGroups$Parts" 3 objectInit ∈ ax_tbl := ax_at 374 (by decide +kernel) rfl
theorem cl_Parts_9 : Cond.classLink "AlarmGroups$Parts" 9 "AlarmGroups$Row" ∈ ax_tbl := ax_at 375 (by decide +kernel) rfl
theorem mv_Parts_11 : ax_MI "AlarmGroups$Parts" 11 mt_Row_init 1 := ⟨ok_Row_init, by unfold ax_pn; decide +kernel, ax_at 376 (by decide +kernel) rfl, ax_at 99 (by decide +kernel) rfl, rfl, rfl⟩
theorem fp_Parts_14 : ax_FP "AlarmGroups$Parts" 14 5 0 true (.object "AlarmGroups$Row") := ⟨_, rfl, by decide, ax_at 377 (by decide +kernel) rfl, rfl, by decide +kernel, fun _ => rfl⟩
theorem fp_Parts_20 : ax_FP "AlarmGroups$Parts" 20 5 1 true (.array .int) := ⟨_, rfl, by decide, ax_at 378 (by decide +kernel) rfl, rfl, by decide +kernel, fun _ => rfl⟩
theorem fl_Top_14 : ax_FL "AlarmGroups" 14 11 0 := ⟨_, rfl, by decide, ax_at 387 (by decide +kernel) rfl⟩
theorem mv_Top_91 : ax_MV "AlarmGroups" 91 mt_Row_room 0 := ⟨ok_Row_room, by unfold ax_pn; decide +kernel, ax_at 440 (by decide +kernel) rfl, ax_at 441 (by decide +kernel) rfl, ax_at 442 (by decide +kernel) rfl⟩
theorem mv_Top_95 : ax_MV "AlarmGroups" 95 mt_Row_add 1 := ⟨ok_Row_add, by unfold ax_pn; decide +kernel, ax_at 444 (by decide +kernel) rfl, ax_at 445 (by decide +kernel) rfl, ax_at 446 (by decide +kernel) rfl⟩
theorem mv_Top_98 : ax_MV "AlarmGroups" 98 mt_Row_size 0 := ⟨ok_Row_size, by unfold ax_pn; decide +kernel, ax_at 448 (by decide +kernel) rfl, ax_at 449 (by decide +kernel) rfl, ax_at 450 (by decide +kernel) rfl⟩
theorem fl_Row_15 : ax_FL "AlarmGroups$Row" 15 7 0 := ⟨_, rfl, by decide, ax_at 105 (by decide +kernel) rfl⟩
theorem fl_Row_21 : ax_FL "AlarmGroups$Row" 21 7 1 := ⟨_, rfl, by decide, ax_at 106 (by decide +kernel) rfl⟩
theorem fp_Row_21 : ax_FP "AlarmGroups$Row" 21 7 1 false (.int) := ⟨_, rfl, by decide, ax_at 106 (by decide +kernel) rfl, rfl, by decide +kernel, fun h => absurd h (by decide)⟩
theorem mv_Top_101 : ax_MV "AlarmGroups" 101 mt_Row_keep 1 := ⟨ok_Row_keep, by unfold ax_pn; decide +kernel, ax_at 456 (by decide +kernel) rfl, ax_at 457 (by decide +kernel) rfl, ax_at 458 (by decide +kernel) rfl⟩
theorem mv_Top_104 : ax_MS "AlarmGroups" 104 mt_Top_isFile 1 := ⟨ok_Top_isFile, by unfold ax_pn; decide +kernel, ax_at 464 (by decide +kernel) rfl, ax_at 465 (by decide +kernel) rfl⟩
theorem fl_Top_83 : ax_FL "AlarmGroups" 83 11 12 := ⟨_, rfl, by decide, ax_at 399 (by decide +kernel) rfl⟩
theorem fl_Top_108 : ax_FL "AlarmGroups" 108 2 3 := ⟨_, rfl, by decide, ax_at 359 (by decide +kernel) rfl⟩
theorem mv_Top_111 : ax_MV "AlarmGroups" 111 mt_Lines_add 2 := ⟨ok_Lines_add, by unfold ax_pn; decide +kernel, ax_at 467 (by decide +kernel) rfl, ax_at 468 (by decide +kernel) rfl, ax_at 469 (by decide +kernel) rfl⟩
theorem fl_Lines_21 : ax_FL "AlarmGroups$Lines" 21 2 3 := ⟨_, rfl, by decide, ax_at 357 (by decide +kernel) rfl⟩
theorem fl_Lines_9 : ax_FL "AlarmGroups$Lines" 9 2 0 := ⟨_, rfl, by decide, ax_at 349 (by decide +kernel) rfl⟩
theorem fl_Lines_15 : ax_FL "AlarmGroups$Lines" 15 2 1 := ⟨_, rfl, by decide, ax_at 352 (by decide +kernel) rfl⟩
theorem fl_Lines_18 : ax_FL "AlarmGroups$Lines" 18 2 2 := ⟨_, rfl, by decide, ax_at 354 (by decide +kernel) rfl⟩
theorem fp_Lines_21 : ax_FP "AlarmGroups$Lines" 21 2 3 false (.int) := ⟨_, rfl, by decide, ax_at 357 (by decide +kernel) rfl, rfl, by decide +kernel, fun h => absurd h (by decide)⟩
theorem fl_Top_114 : ax_FL "AlarmGroups" 114 11 14 := ⟨_, rfl, by decide, ax_at 401 (by decide +kernel) rfl⟩
theorem mv_Top_117 : ax_MV "AlarmGroups" 117 mt_Top_keepTrends 1 := ⟨ok_Top_keepTrends, by unfold ax_pn; decide +kernel, ax_at 475 (by decide +kernel) rfl, ax_at 477 (by decide +kernel) rfl, ax_in (by decide +kernel) rfl⟩
theorem fl_Top_24 : ax_FL "AlarmGroups" 24 11 2 := ⟨_, rfl, by decide, ax_at 389 (by decide +kernel) rfl⟩
theorem fl_Top_87 : ax_FL "AlarmGroups" 87 11 13 := ⟨_, rfl, by decide, ax_at 400 (by decide +kernel) rfl⟩
theorem mv_Top_120 : ax_MV "AlarmGroups" 120 mt_Matching_match 2 := ⟨ok_Matching_match, by unfold ax_pn; decide +kernel, ax_at 519 (by decide +kernel) rfl, ax_at 520 (by decide +kernel) rfl, ax_at 521 (by decide +kernel) rfl⟩
theorem fl_Top_31 : ax_FL "AlarmGroups" 31 11 3 := ⟨_, rfl, by decide, ax_at 390 (by decide +kernel) rfl⟩
theorem mv_Top_124 : ax_MV "AlarmGroups" 124 mt_Alarms_carry 1 := ⟨ok_Alarms_carry, by unfold ax_pn; decide +kernel, ax_at 539 (by decide +kernel) rfl, ax_at 540 (by decide +kernel) rfl, ax_at 541 (by decide +kernel) rfl⟩
theorem fl_Top_45 : ax_FL "AlarmGroups" 45 11 5 := ⟨_, rfl, by decide, ax_at 392 (by decide +kernel) rfl⟩
theorem mv_Top_128 : ax_MV "AlarmGroups" 128 mt_Silences_carry 1 := ⟨ok_Silences_carry, by unfold ax_pn; decide +kernel, ax_at 547 (by decide +kernel) rfl, ax_at 548 (by decide +kernel) rfl, ax_at 549 (by decide +kernel) rfl⟩
theorem mv_Top_129 : ax_MV "AlarmGroups" 129 mt_Lines_clear 0 := ⟨ok_Lines_clear, by unfold ax_pn; decide +kernel, ax_at 555 (by decide +kernel) rfl, ax_at 556 (by decide +kernel) rfl, ax_at 557 (by decide +kernel) rfl⟩
theorem fp_Top_114 : ax_FP "AlarmGroups" 114 11 14 false (.int) := ⟨_, rfl, by decide, ax_at 401 (by decide +kernel) rfl, rfl, by decide +kernel, fun h => absurd h (by decide)⟩
theorem fl_Top_76 : ax_FL "AlarmGroups" 76 11 11 := ⟨_, rfl, by decide, ax_at 398 (by decide +kernel) rfl⟩
theorem mv_Top_208 : ax_MV "AlarmGroups" 208 mt_Top_setNow 1 := ⟨ok_Top_setNow, by unfold ax_pn; decide +kernel, ax_at 479 (by decide +kernel) rfl, ax_at 481 (by decide +kernel) rfl, ax_in (by decide +kernel) rfl⟩
theorem fl_Top_38 : ax_FL "AlarmGroups" 38 11 4 := ⟨_, rfl, by decide, ax_at 391 (by decide +kernel) rfl⟩
theorem mv_Top_165 : ax_MV "AlarmGroups" 165 mt_Facts_knownWith 1 := ⟨ok_Facts_knownWith, by unfold ax_pn; decide +kernel, ax_at 483 (by decide +kernel) rfl, ax_at 484 (by decide +kernel) rfl, ax_at 485 (by decide +kernel) rfl⟩
theorem fl_Top_145 : ax_FL "AlarmGroups" 145 0 6 := ⟨_, rfl, by decide, ax_at 164 (by decide +kernel) rfl⟩
theorem fl_Top_162 : ax_FL "AlarmGroups" 162 0 5 := ⟨_, rfl, by decide, ax_at 161 (by decide +kernel) rfl⟩
theorem mv_Top_334 : ax_MV "AlarmGroups" 334 mt_Top_belongs 3 := ⟨ok_Top_belongs, by unfold ax_pn; decide +kernel, ax_at 491 (by decide +kernel) rfl, ax_at 493 (by decide +kernel) rfl, ax_in (by decide +kernel) rfl⟩
theorem fl_Facts_32 : ax_FL "AlarmGroups$Facts" 32 1 7 := ⟨_, rfl, by decide, ax_at 197 (by decide +kernel) rfl⟩
theorem mv_Facts_35 : ax_MV "AlarmGroups$Facts" 35 mt_Facts_applied 1 := ⟨ok_Facts_applied, by unfold ax_pn; decide +kernel, ax_at 487 (by decide +kernel) rfl, ax_at 489 (by decide +kernel) rfl, ax_in (by decide +kernel) rfl⟩
theorem fl_Facts_28 : ax_FL "AlarmGroups$Facts" 28 1 3 := ⟨_, rfl, by decide, ax_at 192 (by decide +kernel) rfl⟩
theorem fl_Facts_19 : ax_FL "AlarmGroups$Facts" 19 1 4 := ⟨_, rfl, by decide, ax_at 194 (by decide +kernel) rfl⟩
theorem fl_Facts_22 : ax_FL "AlarmGroups$Facts" 22 1 5 := ⟨_, rfl, by decide, ax_at 195 (by decide +kernel) rfl⟩
theorem mv_Top_169 : ax_MV "AlarmGroups" 169 mt_Alarms_isClosed 2 := ⟨ok_Alarms_isClosed, by unfold ax_pn; decide +kernel, ax_at 495 (by decide +kernel) rfl, ax_at 496 (by decide +kernel) rfl, ax_at 497 (by decide +kernel) rfl⟩
theorem mv_Top_173 : ax_MV "AlarmGroups" 173 mt_Top_silencerOf 1 := ⟨ok_Top_silencerOf, by unfold ax_pn; decide +kernel, ax_at 499 (by decide +kernel) rfl, ax_at 501 (by decide +kernel) rfl, ax_in (by decide +kernel) rfl⟩
theorem fl_Alarms_18 : ax_FL "AlarmGroups$Alarms" 18 0 2 := ⟨_, rfl, by decide, ax_at 150 (by decide +kernel) rfl⟩
theorem fl_Top_153 : ax_FL "AlarmGroups" 153 0 0 := ⟨_, rfl, by decide, ax_at 145 (by decide +kernel) rfl⟩
theorem mv_Top_176 : ax_MV "AlarmGroups" 176 mt_Lines_fileOf 1 := ⟨ok_Lines_fileOf, by unfold ax_pn; decide +kernel, ax_at 503 (by decide +kernel) rfl, ax_at 504 (by decide +kernel) rfl, ax_at 505 (by decide +kernel) rfl⟩
theorem fl_Top_156 : ax_FL "AlarmGroups" 156 0 1 := ⟨_, rfl, by decide, ax_at 149 (by decide +kernel) rfl⟩
theorem mv_Top_330 : ax_MV "AlarmGroups" 330 mt_Silences_firstFor 4 := ⟨ok_Silences_firstFor, by unfold ax_pn; decide +kernel, ax_at 507 (by decide +kernel) rfl, ax_at 508 (by decide +kernel) rfl, ax_at 509 (by decide +kernel) rfl⟩
theorem fl_Silences_25 : ax_FL "AlarmGroups$Silences" 25 9 1 := ⟨_, rfl, by decide, ax_at 290 (by decide +kernel) rfl⟩
theorem fl_Silences_39 : ax_FL "AlarmGroups$Silences" 39 8 1 := ⟨_, rfl, by decide, ax_at 262 (by decide +kernel) rfl⟩
theorem mv_Silences_42 : ax_MV "AlarmGroups$Silences" 42 mt_Silence_holds 1 := ⟨ok_Silence_holds, by unfold ax_pn; decide +kernel, ax_at 511 (by decide +kernel) rfl, ax_at 512 (by decide +kernel) rfl, ax_at 513 (by decide +kernel) rfl⟩
theorem mv_Silences_46 : ax_MV "AlarmGroups$Silences" 46 mt_Silence_hasLine 2 := ⟨ok_Silence_hasLine, by unfold ax_pn; decide +kernel, ax_at 515 (by decide +kernel) rfl, ax_at 516 (by decide +kernel) rfl, ax_at 517 (by decide +kernel) rfl⟩
theorem fl_Silence_20 : ax_FL "AlarmGroups$Silence" 20 8 0 := ⟨_, rfl, by decide, ax_at 258 (by decide +kernel) rfl⟩
theorem fl_Silence_27 : ax_FL "AlarmGroups$Silence" 27 8 2 := ⟨_, rfl, by decide, ax_at 264 (by decide +kernel) rfl⟩
theorem fl_Silence_30 : ax_FL "AlarmGroups$Silence" 30 8 3 := ⟨_, rfl, by decide, ax_at 267 (by decide +kernel) rfl⟩
theorem fl_Silence_33 : ax_FL "AlarmGroups$Silence" 33 8 4 := ⟨_, rfl, by decide, ax_at 270 (by decide +kernel) rfl⟩
theorem fl_Matching_9 : ax_FL "AlarmGroups$Matching" 9 4 0 := ⟨_, rfl, by decide, ax_at 119 (by decide +kernel) rfl⟩
theorem mv_Matching_21 : ax_MS "AlarmGroups$Matching" 21 mt_Matching_collect 3 := ⟨ok_Matching_collect, by unfold ax_pn; decide +kernel, ax_at 523 (by decide +kernel) rfl, ax_at 524 (by decide +kernel) rfl⟩
theorem fp_Matching_25 : ax_FP "AlarmGroups$Matching" 25 4 3 false (.int) := ⟨_, rfl, by decide, ax_at 122 (by decide +kernel) rfl, rfl, by decide +kernel, fun h => absurd h (by decide)⟩
theorem fl_Matching_15 : ax_FL "AlarmGroups$Matching" 15 4 1 := ⟨_, rfl, by decide, ax_at 120 (by decide +kernel) rfl⟩
theorem fp_Matching_29 : ax_FP "AlarmGroups$Matching" 29 4 4 false (.int) := ⟨_, rfl, by decide, ax_at 123 (by decide +kernel) rfl, rfl, by decide +kernel, fun h => absurd h (by decide)⟩
theorem mv_Matching_32 : ax_MV "AlarmGroups$Matching" 32 mt_Matching_fillMost 2 := ⟨ok_Matching_fillMost, by unfold ax_pn; decide +kernel, ax_at 526 (by decide +kernel) rfl, ax_at 528 (by decide +kernel) rfl, ax_in (by decide +kernel) rfl⟩
theorem mv_Matching_36 : ax_MV "AlarmGroups$Matching" 36 mt_Matching_pair 2 := ⟨ok_Matching_pair, by unfold ax_pn; decide +kernel, ax_at 535 (by decide +kernel) rfl, ax_at 537 (by decide +kernel) rfl, ax_in (by decide +kernel) rfl⟩
theorem fl_Matching_39 : ax_FL "AlarmGroups$Matching" 39 2 3 := ⟨_, rfl, by decide, ax_at 358 (by decide +kernel) rfl⟩
theorem fl_Matching_44 : ax_FL "AlarmGroups$Matching" 44 2 0 := ⟨_, rfl, by decide, ax_at 350 (by decide +kernel) rfl⟩
theorem fl_Matching_25 : ax_FL "AlarmGroups$Matching" 25 4 3 := ⟨_, rfl, by decide, ax_at 122 (by decide +kernel) rfl⟩
theorem fl_Matching_29 : ax_FL "AlarmGroups$Matching" 29 4 4 := ⟨_, rfl, by decide, ax_at 123 (by decide +kernel) rfl⟩
theorem fl_Matching_18 : ax_FL "AlarmGroups$Matching" 18 4 2 := ⟨_, rfl, by decide, ax_at 121 (by decide +kernel) rfl⟩
theorem mv_Matching_50 : ax_MV "AlarmGroups$Matching" 50 mt_Matching_alike 4 := ⟨ok_Matching_alike, by unfold ax_pn; decide +kernel, ax_at 530 (by decide +kernel) rfl, ax_at 532 (by decide +kernel) rfl, ax_in (by decide +kernel) rfl⟩
theorem mm_Matching_54 : Cond.methodLink "AlarmGroups$Matching" 54 Lib.Math.max.name ∈ ax_tbl := ax_at 534 (by decide +kernel) rfl
theorem fl_Matching_47 : ax_FL "AlarmGroups$Matching" 47 2 1 := ⟨_, rfl, by decide, ax_at 353 (by decide +kernel) rfl⟩
theorem fl_Matching_60 : ax_FL "AlarmGroups$Matching" 60 2 2 := ⟨_, rfl, by decide, ax_at 356 (by decide +kernel) rfl⟩
theorem fl_Alarms_30 : ax_FL "AlarmGroups$Alarms" 30 0 6 := ⟨_, rfl, by decide, ax_at 162 (by decide +kernel) rfl⟩
theorem fl_Alarms_9 : ax_FL "AlarmGroups$Alarms" 9 0 0 := ⟨_, rfl, by decide, ax_at 142 (by decide +kernel) rfl⟩
theorem fl_Alarms_27 : ax_FL "AlarmGroups$Alarms" 27 0 5 := ⟨_, rfl, by decide, ax_at 160 (by decide +kernel) rfl⟩
theorem mv_Alarms_38 : ax_MV "AlarmGroups$Alarms" 38 mt_Lines_laterOf 1 := ⟨ok_Lines_laterOf, by unfold ax_pn; decide +kernel, ax_at 543 (by decide +kernel) rfl, ax_at 544 (by decide +kernel) rfl, ax_at 545 (by decide +kernel) rfl⟩
theorem fl_Silences_29 : ax_FL "AlarmGroups$Silences" 29 8 4 := ⟨_, rfl, by decide, ax_at 271 (by decide +kernel) rfl⟩
theorem mv_Silences_33 : ax_MV "AlarmGroups$Silences" 33 mt_Lines_laterSet 1 := ⟨ok_Lines_laterSet, by unfold ax_pn; decide +kernel, ax_at 551 (by decide +kernel) rfl, ax_at 552 (by decide +kernel) rfl, ax_at 553 (by decide +kernel) rfl⟩
theorem fp_Silences_29 : ax_FP "AlarmGroups$Silences" 29 8 4 false (.long) := ⟨_, rfl, by decide, ax_at 271 (by decide +kernel) rfl, rfl, by decide +kernel, fun h => absurd h (by decide)⟩
theorem mv_Top_132 : ax_MV "AlarmGroups" 132 mt_Lines_has 1 := ⟨ok_Lines_has, by unfold ax_pn; decide +kernel, ax_at 563 (by decide +kernel) rfl, ax_at 564 (by decide +kernel) rfl, ax_at 565 (by decide +kernel) rfl⟩
theorem fl_Top_135 : ax_FL "AlarmGroups" 135 2 2 := ⟨_, rfl, by decide, ax_at 355 (by decide +kernel) rfl⟩
theorem mv_Top_138 : ax_MS "AlarmGroups" 138 mt_Top_isSet 1 := ⟨ok_Top_isSet, by unfold ax_pn; decide +kernel, ax_at 571 (by decide +kernel) rfl, ax_at 572 (by decide +kernel) rfl⟩
theorem mv_Top_141 : ax_MV "AlarmGroups" 141 mt_Alarms_find 2 := ⟨ok_Alarms_find, by unfold ax_pn; decide +kernel, ax_at 575 (by decide +kernel) rfl, ax_at 576 (by decide +kernel) rfl, ax_at 577 (by decide +kernel) rfl⟩
theorem mv_Top_146 : ax_MV "AlarmGroups" 146 mt_Alarms_add 2 := ⟨ok_Alarms_add, by unfold ax_pn; decide +kernel, ax_at 579 (by decide +kernel) rfl, ax_at 580 (by decide +kernel) rfl, ax_at 581 (by decide +kernel) rfl⟩
theorem mv_Top_148 : ax_MV "AlarmGroups" 148 mt_Alarms_tell 4 := ⟨ok_Alarms_tell, by unfold ax_pn; decide +kernel, ax_at 583 (by decide +kernel) rfl, ax_at 584 (by decide +kernel) rfl, ax_at 585 (by decide +kernel) rfl⟩
theorem fl_Alarms_15 : ax_FL "AlarmGroups$Alarms" 15 0 1 := ⟨_, rfl, by decide, ax_at 146 (by decide +kernel) rfl⟩
theorem fp_Alarms_30 : ax_FP "AlarmGroups$Alarms" 30 0 6 false (.int) := ⟨_, rfl, by decide, ax_at 162 (by decide +kernel) rfl, rfl, by decide +kernel, fun h => absurd h (by decide)⟩
theorem mv_Alarms_34 : ax_MV "AlarmGroups$Alarms" 34 mt_Alarms_has 1 := ⟨ok_Alarms_has, by unfold ax_pn; decide +kernel, ax_at 587 (by decide +kernel) rfl, ax_at 588 (by decide +kernel) rfl, ax_at 589 (by decide +kernel) rfl⟩
theorem fl_Alarms_21 : ax_FL "AlarmGroups$Alarms" 21 0 3 := ⟨_, rfl, by decide, ax_at 152 (by decide +kernel) rfl⟩
theorem fl_Alarms_24 : ax_FL "AlarmGroups$Alarms" 24 0 4 := ⟨_, rfl, by decide, ax_at 156 (by decide +kernel) rfl⟩
theorem mv_Top_152 : ax_MV "AlarmGroups" 152 mt_Alarms_has 1 := ⟨ok_Alarms_has, by unfold ax_pn; decide +kernel, ax_at 595 (by decide +kernel) rfl, ax_at 588 (by decide +kernel) rfl, ax_at 589 (by decide +kernel) rfl⟩
theorem fl_Top_159 : ax_FL "AlarmGroups" 159 0 2 := ⟨_, rfl, by decide, ax_at 151 (by decide +kernel) rfl⟩
theorem mv_Top_179 : ax_MV "AlarmGroups" 179 mt_Top_ownerOf 1 := ⟨ok_Top_ownerOf, by unfold ax_pn; decide +kernel, ax_at 596 (by decide +kernel) rfl, ax_at 598 (by decide +kernel) rfl, ax_in (by decide +kernel) rfl⟩
theorem mv_Top_182 : ax_MV "AlarmGroups" 182 mt_Top_buildsOf 1 := ⟨ok_Top_buildsOf, by unfold ax_pn; decide +kernel, ax_at 628 (by decide +kernel) rfl, ax_at 630 (by decide +kernel) rfl, ax_in (by decide +kernel) rfl⟩
theorem fl_Top_185 : ax_FL "AlarmGroups" 185 0 3 := ⟨_, rfl, by decide, ax_at 155 (by decide +kernel) rfl⟩
theorem fl_Top_188 : ax_FL "AlarmGroups" 188 0 4 := ⟨_, rfl, by decide, ax_at 159 (by decide +kernel) rfl⟩
theorem fl_Top_326 : ax_FL "AlarmGroups" 326 11 15 := ⟨_, rfl, by decide, ax_at 402 (by decide +kernel) rfl⟩
theorem mv_Top_338 : ax_MV "AlarmGroups" 338 mt_Parts_fits 1 := ⟨ok_Parts_fits, by unfold ax_pn; decide +kernel, ax_at 600 (by decide +kernel) rfl, ax_at 601 (by decide +kernel) rfl, ax_at 602 (by decide +kernel) rfl⟩
theorem fl_Top_72 : ax_FL "AlarmGroups" 72 11 10 := ⟨_, rfl, by decide, ax_at 397 (by decide +kernel) rfl⟩
theorem fl_Parts_49 : ax_FL "AlarmGroups$Parts" 49 5 2 := ⟨_, rfl, by decide, ax_at 379 (by decide +kernel) rfl⟩
theorem mv_Parts_56 : ax_MV "AlarmGroups$Parts" 56 mt_Parts_isDoubleStar 1 := ⟨ok_Parts_isDoubleStar, by unfold ax_pn; decide +kernel, ax_at 604 (by decide +kernel) rfl, ax_at 606 (by decide +kernel) rfl, ax_in (by decide +kernel) rfl⟩
theorem mv_Parts_59 : ax_MS "AlarmGroups$Parts" 59 mt_Parts_fromLowest 2 := ⟨ok_Parts_fromLowest, by unfold ax_pn; decide +kernel, ax_at 617 (by decide +kernel) rfl, ax_at 618 (by decide +kernel) rfl⟩
theorem mv_Parts_63 : ax_MV "AlarmGroups$Parts" 63 mt_Parts_stepped 3 := ⟨ok_Parts_stepped, by unfold ax_pn; decide +kernel, ax_at 620 (by decide +kernel) rfl, ax_at 622 (by decide +kernel) rfl, ax_in (by decide +kernel) rfl⟩
theorem fl_Parts_20 : ax_FL "AlarmGroups$Parts" 20 5 1 := ⟨_, rfl, by decide, ax_at 378 (by decide +kernel) rfl⟩
theorem mv_Parts_53 : ax_MV "AlarmGroups$Parts" 53 mt_Parts_endOf 1 := ⟨ok_Parts_endOf, by unfold ax_pn; decide +kernel, ax_at 608 (by decide +kernel) rfl, ax_at 610 (by decide +kernel) rfl, ax_in (by decide +kernel) rfl⟩
theorem fl_Parts_14 : ax_FL "AlarmGroups$Parts" 14 5 0 := ⟨_, rfl, by decide, ax_at 377 (by decide +kernel) rfl⟩
theorem mv_Parts_28 : ax_MV "AlarmGroups$Parts" 28 mt_Row_at 1 := ⟨ok_Row_at, by unfold ax_pn; decide +kernel, ax_at 613 (by decide +kernel) rfl, ax_at 614 (by decide +kernel) rfl, ax_at 615 (by decide +kernel) rfl⟩
theorem mv_Parts_24 : ax_MV "AlarmGroups$Parts" 24 mt_Row_size 0 := ⟨ok_Row_size, by unfold ax_pn; decide +kernel, ax_at 612 (by decide +kernel) rfl, ax_at 449 (by decide +kernel) rfl, ax_at 450 (by decide +kernel) rfl⟩
theorem mv_Parts_67 : ax_MV "AlarmGroups$Parts" 67 mt_Parts_partFits 3 := ⟨ok_Parts_partFits, by unfold ax_pn; decide +kernel, ax_at 624 (by decide +kernel) rfl, ax_at 626 (by decide +kernel) rfl, ax_in (by decide +kernel) rfl⟩
theorem mv_Top_191 : ax_MS "AlarmGroups" 191 mt_Top_member 2 := ⟨ok_Top_member, by unfold ax_pn; decide +kernel, ax_at 636 (by decide +kernel) rfl, ax_at 637 (by decide +kernel) rfl⟩
theorem mv_Top_308 : ax_MS "AlarmGroups" 308 mt_Long_bitCount 1 := ⟨ok_Long_bitCount, by unfold ax_pn; decide +kernel, ax_at 639 (by decide +kernel) rfl, ax_at 640 (by decide +kernel) rfl⟩
theorem mv_Top_195 : ax_MS "AlarmGroups" 195 mt_Top_isFact 1 := ⟨ok_Top_isFact, by unfold ax_pn; decide +kernel, ax_at 649 (by decide +kernel) rfl, ax_at 650 (by decide +kernel) rfl⟩
theorem fl_Top_198 : ax_FL "AlarmGroups" 198 1 3 := ⟨_, rfl, by decide, ax_at 193 (by decide +kernel) rfl⟩
theorem mv_Top_201 : ax_MV "AlarmGroups" 201 mt_Facts_addRule 2 := ⟨ok_Facts_addRule, by unfold ax_pn; decide +kernel, ax_at 652 (by decide +kernel) rfl, ax_at 653 (by decide +kernel) rfl, ax_at 654 (by decide +kernel) rfl⟩
theorem fp_Facts_28 : ax_FP "AlarmGroups$Facts" 28 1 3 false (.int) := ⟨_, rfl, by decide, ax_at 192 (by decide +kernel) rfl, rfl, by decide +kernel, fun h => absurd h (by decide)⟩
theorem mv_Top_204 : ax_MV "AlarmGroups" 204 mt_Facts_setProved 2 := ⟨ok_Facts_setProved, by unfold ax_pn; decide +kernel, ax_at 660 (by decide +kernel) rfl, ax_at 661 (by decide +kernel) rfl, ax_at 662 (by decide +kernel) rfl⟩
theorem fp_Facts_32 : ax_FP "AlarmGroups$Facts" 32 1 7 false (.int) := ⟨_, rfl, by decide, ax_at 197 (by decide +kernel) rfl, rfl, by decide +kernel, fun h => absurd h (by decide)⟩
theorem mv_Top_212 : ax_MV "AlarmGroups" 212 mt_Facts_groupAll 2 := ⟨ok_Facts_groupAll, by unfold ax_pn; decide +kernel, ax_at 676 (by decide +kernel) rfl, ax_at 677 (by decide +kernel) rfl, ax_at 678 (by decide +kernel) rfl⟩
theorem fl_Top_216 : ax_FL "AlarmGroups" 216 1 2 := ⟨_, rfl, by decide, ax_at 191 (by decide +kernel) rfl⟩
theorem fp_Facts_39 : ax_FP "AlarmGroups$Facts" 39 1 2 false (.int) := ⟨_, rfl, by decide, ax_at 190 (by decide +kernel) rfl, rfl, by decide +kernel, fun h => absurd h (by decide)⟩
theorem fl_Facts_25 : ax_FL "AlarmGroups$Facts" 25 1 6 := ⟨_, rfl, by decide, ax_at 196 (by decide +kernel) rfl⟩
theorem mv_Facts_42 : ax_MV "AlarmGroups$Facts" 42 mt_Facts_knownWith 1 := ⟨ok_Facts_knownWith, by unfold ax_pn; decide +kernel, ax_at 680 (by decide +kernel) rfl, ax_at 484 (by decide +kernel) rfl, ax_at 485 (by decide +kernel) rfl⟩
theorem mv_Facts_45 : ax_MV "AlarmGroups$Facts" 45 mt_Alarms_closedOf 2 := ⟨ok_Alarms_closedOf, by unfold ax_pn; decide +kernel, ax_at 681 (by decide +kernel) rfl, ax_at 682 (by decide +kernel) rfl, ax_at 683 (by decide +kernel) rfl⟩
theorem mv_Facts_51 : ax_MV "AlarmGroups$Facts" 51 mt_Facts_bestTrial 1 := ⟨ok_Facts_bestTrial, by unfold ax_pn; decide +kernel, ax_at 686 (by decide +kernel) rfl, ax_at 688 (by decide +kernel) rfl, ax_in (by decide +kernel) rfl⟩
theorem mv_Facts_55 : ax_MV "AlarmGroups$Facts" 55 mt_Facts_addGroup 2 := ⟨ok_Facts_addGroup, by unfold ax_pn; decide +kernel, ax_at 691 (by decide +kernel) rfl, ax_at 693 (by decide +kernel) rfl, ax_in (by decide +kernel) rfl⟩
theorem kl_Facts_59 : Jvm.Cond.constantLong "AlarmGroups$Facts" 59 (-1) ∈ ax_tbl := ax_at 695 (by decide +kernel) rfl
theorem mv_Alarms_44 : ax_MV "AlarmGroups$Alarms" 44 mt_Alarms_isClosed 2 := ⟨ok_Alarms_isClosed, by unfold ax_pn; decide +kernel, ax_at 685 (by decide +kernel) rfl, ax_at 496 (by decide +kernel) rfl, ax_at 497 (by decide +kernel) rfl⟩
theorem mv_Facts_61 : ax_MS "AlarmGroups$Facts" 61 mt_Long_bitCount 1 := ⟨ok_Long_bitCount, by unfold ax_pn; decide +kernel, ax_at 690 (by decide +kernel) rfl, ax_at 640 (by decide +kernel) rfl⟩
theorem fl_Facts_39 : ax_FL "AlarmGroups$Facts" 39 1 2 := ⟨_, rfl, by decide, ax_at 190 (by decide +kernel) rfl⟩
theorem fl_Facts_9 : ax_FL "AlarmGroups$Facts" 9 1 0 := ⟨_, rfl, by decide, ax_at 186 (by decide +kernel) rfl⟩
theorem fl_Facts_15 : ax_FL "AlarmGroups$Facts" 15 1 1 := ⟨_, rfl, by decide, ax_at 188 (by decide +kernel) rfl⟩
theorem fl_Top_219 : ax_FL "AlarmGroups" 219 1 0 := ⟨_, rfl, by decide, ax_at 187 (by decide +kernel) rfl⟩
theorem fl_Top_222 : ax_FL "AlarmGroups" 222 1 1 := ⟨_, rfl, by decide, ax_at 189 (by decide +kernel) rfl⟩
theorem mv_Top_225 : ax_MV "AlarmGroups" 225 mt_Silences_take 3 := ⟨ok_Silences_take, by unfold ax_pn; decide +kernel, ax_at 704 (by decide +kernel) rfl, ax_at 705 (by decide +kernel) rfl, ax_at 706 (by decide +kernel) rfl⟩
theorem mv_Top_229 : ax_MV "AlarmGroups" 229 mt_Row_clear 0 := ⟨ok_Row_clear, by unfold ax_pn; decide +kernel, ax_at 871 (by decide +kernel) rfl, ax_at 713 (by decide +kernel) rfl, ax_at 714 (by decide +kernel) rfl⟩
theorem fl_Silences_20 : ax_FL "AlarmGroups$Silences" 20 9 2 := ⟨_, rfl, by decide, ax_at 292 (by decide +kernel) rfl⟩
theorem mv_Silences_53 : ax_MV "AlarmGroups$Silences" 53 mt_Tokens_split 1 := ⟨ok_Tokens_split, by unfold ax_pn; decide +kernel, ax_at 708 (by decide +kernel) rfl, ax_at 709 (by decide +kernel) rfl, ax_at 710 (by decide +kernel) rfl⟩
theorem mm_Silences_57 : Cond.methodLink "AlarmGroups$Silences" 57 Lib.Math.min.name ∈ ax_tbl := ax_at 749 (by decide +kernel) rfl
theorem mv_Silences_63 : ax_MV "AlarmGroups$Silences" 63 mt_Silences_takeOne 3 := ⟨ok_Silences_takeOne, by unfold ax_pn; decide +kernel, ax_at 752 (by decide +kernel) rfl, ax_at 754 (by decide +kernel) rfl, ax_in (by decide +kernel) rfl⟩
theorem mv_Silences_67 : ax_MV "AlarmGroups$Silences" 67 mt_Tokens_start 0 := ⟨ok_Tokens_start, by unfold ax_pn; decide +kernel, ax_at 866 (by decide +kernel) rfl, ax_at 867 (by decide +kernel) rfl, ax_at 868 (by decide +kernel) rfl⟩
theorem mv_Silences_71 : ax_MV "AlarmGroups$Silences" 71 mt_Tokens_standsAt 1 := ⟨ok_Tokens_standsAt, by unfold ax_pn; decide +kernel, ax_at 870 (by decide +kernel) rfl, ax_at 767 (by decide +kernel) rfl, ax_at 768 (by decide +kernel) rfl⟩
theorem fp_Silences_25 : ax_FP "AlarmGroups$Silences" 25 9 1 false (.int) := ⟨_, rfl, by decide, ax_at 290 (by decide +kernel) rfl, rfl, by decide +kernel, fun h => absurd h (by decide)⟩
theorem fl_Tokens_14 : ax_FL "AlarmGroups$Tokens" 14 10 0 := ⟨_, rfl, by decide, ax_at 232 (by decide +kernel) rfl⟩
theorem mv_Tokens_30 : ax_MV "AlarmGroups$Tokens" 30 mt_Row_clear 0 := ⟨ok_Row_clear, by unfold ax_pn; decide +kernel, ax_at 712 (by decide +kernel) rfl, ax_at 713 (by decide +kernel) rfl, ax_at 714 (by decide +kernel) rfl⟩
theorem mv_Tokens_33 : ax_MV "AlarmGroups$Tokens" 33 mt_Row_size 0 := ⟨ok_Row_size, by unfold ax_pn; decide +kernel, ax_at 716 (by decide +kernel) rfl, ax_at 449 (by decide +kernel) rfl, ax_at 450 (by decide +kernel) rfl⟩
theorem mv_Tokens_37 : ax_MV "AlarmGroups$Tokens" 37 mt_Row_addPart 3 := ⟨ok_Row_addPart, by unfold ax_pn; decide +kernel, ax_at 717 (by decide +kernel) rfl, ax_at 718 (by decide +kernel) rfl, ax_at 719 (by decide +kernel) rfl⟩
theorem fp_Tokens_41 : ax_FP "AlarmGroups$Tokens" 41 10 4 false (.int) := ⟨_, rfl, by decide, ax_at 236 (by decide +kernel) rfl, rfl, by decide +kernel, fun h => absurd h (by decide)⟩
theorem fp_Tokens_44 : ax_FP "AlarmGroups$Tokens" 44 10 5 false (.int) := ⟨_, rfl, by decide, ax_at 237 (by decide +kernel) rfl, rfl, by decide +kernel, fun h => absurd h (by decide)⟩
theorem mv_Tokens_47 : ax_MV "AlarmGroups$Tokens" 47 mt_Tokens_endOfRun 3 := ⟨ok_Tokens_endOfRun, by unfold ax_pn; decide +kernel, ax_at 723 (by decide +kernel) rfl, ax_at 725 (by decide +kernel) rfl, ax_in (by decide +kernel) rfl⟩
theorem mv_Tokens_51 : ax_MV "AlarmGroups$Tokens" 51 mt_Tokens_sortAt 1 := ⟨ok_Tokens_sortAt, by unfold ax_pn; decide +kernel, ax_at 728 (by decide +kernel) rfl, ax_at 730 (by decide +kernel) rfl, ax_in (by decide +kernel) rfl⟩
theorem mv_Tokens_55 : ax_MV "AlarmGroups$Tokens" 55 mt_Tokens_endAt 2 := ⟨ok_Tokens_endAt, by unfold ax_pn; decide +kernel, ax_at 738 (by decide +kernel) rfl, ax_at 740 (by decide +kernel) rfl, ax_in (by decide +kernel) rfl⟩
theorem fl_Tokens_20 : ax_FL "AlarmGroups$Tokens" 20 10 1 := ⟨_, rfl, by decide, ax_at 233 (by decide +kernel) rfl⟩
theorem fl_Tokens_24 : ax_FL "AlarmGroups$Tokens" 24 10 2 := ⟨_, rfl, by decide, ax_at 234 (by decide +kernel) rfl⟩
theorem fl_Tokens_27 : ax_FL "AlarmGroups$Tokens" 27 10 3 := ⟨_, rfl, by decide, ax_at 235 (by decide +kernel) rfl⟩
theorem mv_Row_25 : ax_MV "AlarmGroups$Row" 25 mt_Row_at 1 := ⟨ok_Row_at, by unfold ax_pn; decide +kernel, ax_at 721 (by decide +kernel) rfl, ax_at 614 (by decide +kernel) rfl, ax_at 615 (by decide +kernel) rfl⟩
theorem mv_Row_29 : ax_MV "AlarmGroups$Row" 29 mt_Row_add 1 := ⟨ok_Row_add, by unfold ax_pn; decide +kernel, ax_at 722 (by decide +kernel) rfl, ax_at 445 (by decide +kernel) rfl, ax_at 446 (by decide +kernel) rfl⟩
theorem mv_Tokens_59 : ax_MV "AlarmGroups$Tokens" 59 mt_Row_at 1 := ⟨ok_Row_at, by unfold ax_pn; decide +kernel, ax_at 727 (by decide +kernel) rfl, ax_at 614 (by decide +kernel) rfl, ax_at 615 (by decide +kernel) rfl⟩
theorem mv_Tokens_62 : ax_MS "AlarmGroups$Tokens" 62 mt_Tokens_isLetter 1 := ⟨ok_Tokens_isLetter, by unfold ax_pn; decide +kernel, ax_at 732 (by decide +kernel) rfl, ax_at 733 (by decide +kernel) rfl⟩
theorem mv_Tokens_66 : ax_MS "AlarmGroups$Tokens" 66 mt_Tokens_isDigit 1 := ⟨ok_Tokens_isDigit, by unfold ax_pn; decide +kernel, ax_at 735 (by decide +kernel) rfl, ax_at 736 (by decide +kernel) rfl⟩
theorem mv_Tokens_69 : ax_MV "AlarmGroups$Tokens" 69 mt_Tokens_endOfQuoted 1 := ⟨ok_Tokens_endOfQuoted, by unfold ax_pn; decide +kernel, ax_at 742 (by decide +kernel) rfl, ax_at 744 (by decide +kernel) rfl, ax_in (by decide +kernel) rfl⟩
theorem mv_Tokens_72 : ax_MS "AlarmGroups$Tokens" 72 mt_Tokens_isQuotable 1 := ⟨ok_Tokens_isQuotable, by unfold ax_pn; decide +kernel, ax_at 746 (by decide +kernel) rfl, ax_at 747 (by decide +kernel) rfl⟩
theorem mv_Silences_74 : ax_MV "AlarmGroups$Silences" 74 mt_Silence_reset 0 := ⟨ok_Silence_reset, by unfold ax_pn; decide +kernel, ax_at 756 (by decide +kernel) rfl, ax_at 757 (by decide +kernel) rfl, ax_at 758 (by decide +kernel) rfl⟩
theorem mv_Silences_79 : ax_MV "AlarmGroups$Silences" 79 mt_Tokens_takeWord 1 := ⟨ok_Tokens_takeWord, by unfold ax_pn; decide +kernel, ax_at 762 (by decide +kernel) rfl, ax_at 763 (by decide +kernel) rfl, ax_at 764 (by decide +kernel) rfl⟩
theorem mv_Silences_83 : ax_MV "AlarmGroups$Silences" 83 mt_Silences_takeWhere 2 := ⟨ok_Silences_takeWhere, by unfold ax_pn; decide +kernel, ax_at 822 (by decide +kernel) rfl, ax_at 824 (by decide +kernel) rfl, ax_in (by decide +kernel) rfl⟩
theorem mv_Silences_87 : ax_MV "AlarmGroups$Silences" 87 mt_Silences_takeKind 1 := ⟨ok_Silences_takeKind, by unfold ax_pn; decide +kernel, ax_at 842 (by decide +kernel) rfl, ax_at 844 (by decide +kernel) rfl, ax_in (by decide +kernel) rfl⟩
theorem mv_Silences_91 : ax_MV "AlarmGroups$Silences" 91 mt_Silences_takeUntil 2 := ⟨ok_Silences_takeUntil, by unfold ax_pn; decide +kernel, ax_at 847 (by decide +kernel) rfl, ax_at 849 (by decide +kernel) rfl, ax_in (by decide +kernel) rfl⟩
theorem mv_Silences_94 : ax_MV "AlarmGroups$Silences" 94 mt_Silences_takeReason 1 := ⟨ok_Silences_takeReason, by unfold ax_pn; decide +kernel, ax_at 853 (by decide +kernel) rfl, ax_at 855 (by decide +kernel) rfl, ax_in (by decide +kernel) rfl⟩
theorem mv_Silences_97 : ax_MV "AlarmGroups$Silences" 97 mt_Tokens_takeSemicolon 0 := ⟨ok_Tokens_takeSemicolon, by unfold ax_pn; decide +kernel, ax_at 862 (by decide +kernel) rfl, ax_at 863 (by decide +kernel) rfl, ax_at 864 (by decide +kernel) rfl⟩
theorem fp_Silence_20 : ax_FP "AlarmGroups$Silence" 20 8 0 false (.int) := ⟨_, rfl, by decide, ax_at 258 (by decide +kernel) rfl, rfl, by decide +kernel, fun h => absurd h (by decide)⟩
theorem fp_Silence_24 : ax_FP "AlarmGroups$Silence" 24 8 1 false (.int) := ⟨_, rfl, by decide, ax_at 261 (by decide +kernel) rfl, rfl, by decide +kernel, fun h => absurd h (by decide)⟩
theorem fp_Silence_27 : ax_FP "AlarmGroups$Silence" 27 8 2 false (.int) := ⟨_, rfl, by decide, ax_at 264 (by decide +kernel) rfl, rfl, by decide +kernel, fun h => absurd h (by decide)⟩
theorem fp_Silence_30 : ax_FP "AlarmGroups$Silence" 30 8 3 false (.int) := ⟨_, rfl, by decide, ax_at 267 (by decide +kernel) rfl, rfl, by decide +kernel, fun h => absurd h (by decide)⟩
theorem fp_Silence_33 : ax_FP "AlarmGroups$Silence" 33 8 4 false (.long) := ⟨_, rfl, by decide, ax_at 270 (by decide +kernel) rfl, rfl, by decide +kernel, fun h => absurd h (by decide)⟩
theorem fl_Silence_14 : ax_FL "AlarmGroups$Silence" 14 8 5 := ⟨_, rfl, by decide, ax_at 272 (by decide +kernel) rfl⟩
theorem mv_Silence_37 : ax_MV "AlarmGroups$Silence" 37 mt_Row_clear 0 := ⟨ok_Row_clear, by unfold ax_pn; decide +kernel, ax_at 760 (by decide +kernel) rfl, ax_at 713 (by decide +kernel) rfl, ax_at 714 (by decide +kernel) rfl⟩
theorem fl_Tokens_44 : ax_FL "AlarmGroups$Tokens" 44 10 5 := ⟨_, rfl, by decide, ax_at 237 (by decide +kernel) rfl⟩
theorem mv_Tokens_75 : ax_MV "AlarmGroups$Tokens" 75 mt_Tokens_standsAt 1 := ⟨ok_Tokens_standsAt, by unfold ax_pn; decide +kernel, ax_at 766 (by decide +kernel) rfl, ax_at 767 (by decide +kernel) rfl, ax_at 768 (by decide +kernel) rfl⟩
theorem mv_Tokens_81 : ax_MV "AlarmGroups$Tokens" 81 mt_String_length 0 := ⟨ok_String_length, by unfold ax_pn; decide +kernel, ax_at 770 (by decide +kernel) rfl, ax_at 771 (by decide +kernel) rfl, ax_at 772 (by decide +kernel) rfl⟩
theorem mv_Tokens_86 : ax_MV "AlarmGroups$Tokens" 86 mt_String_charAt 1 := ⟨ok_String_charAt, by unfold ax_pn; decide +kernel, ax_at 780 (by decide +kernel) rfl, ax_at 781 (by decide +kernel) rfl, ax_at 782 (by decide +kernel) rfl⟩
theorem mv_Tokens_78 : ax_MV "AlarmGroups$Tokens" 78 mt_Tokens_advance 0 := ⟨ok_Tokens_advance, by unfold ax_pn; decide +kernel, ax_at 818 (by decide +kernel) rfl, ax_at 820 (by decide +kernel) rfl, ax_in (by decide +kernel) rfl⟩
theorem fl_Tokens_41 : ax_FL "AlarmGroups$Tokens" 41 10 4 := ⟨_, rfl, by decide, ax_at 236 (by decide +kernel) rfl⟩
theorem fp_Silences_103 : ax_FP "AlarmGroups$Silences" 103 8 2 false (.int) := ⟨_, rfl, by decide, ax_at 265 (by decide +kernel) rfl, rfl, by decide +kernel, fun h => absurd h (by decide)⟩
theorem mv_Silences_108 : ax_MV "AlarmGroups$Silences" 108 mt_Tokens_takeNumber 2 := ⟨ok_Tokens_takeNumber, by unfold ax_pn; decide +kernel, ax_at 828 (by decide +kernel) rfl, ax_at 829 (by decide +kernel) rfl, ax_at 830 (by decide +kernel) rfl⟩
theorem fp_Silences_111 : ax_FP "AlarmGroups$Silences" 111 8 3 false (.int) := ⟨_, rfl, by decide, ax_at 268 (by decide +kernel) rfl, rfl, by decide +kernel, fun h => absurd h (by decide)⟩
theorem fl_Silences_111 : ax_FL "AlarmGroups$Silences" 111 8 3 := ⟨_, rfl, by decide, ax_at 268 (by decide +kernel) rfl⟩
theorem mv_Silences_115 : ax_MS "AlarmGroups$Silences" 115 mt_Silences_setLines 3 := ⟨ok_Silences_setLines, by unfold ax_pn; decide +kernel, ax_at 833 (by decide +kernel) rfl, ax_at 834 (by decide +kernel) rfl⟩
theorem mv_Silences_119 : ax_MV "AlarmGroups$Silences" 119 mt_Silences_takeSpan 2 := ⟨ok_Silences_takeSpan, by unfold ax_pn; decide +kernel, ax_at 837 (by decide +kernel) rfl, ax_at 839 (by decide +kernel) rfl, ax_in (by decide +kernel) rfl⟩
theorem fp_Silences_39 : ax_FP "AlarmGroups$Silences" 39 8 1 false (.int) := ⟨_, rfl, by decide, ax_at 262 (by decide +kernel) rfl, rfl, by decide +kernel, fun h => absurd h (by decide)⟩
theorem mm_Silences_127 : Cond.methodLink "AlarmGroups$Silences" 127 Lib.Math.max.name ∈ ax_tbl := ax_at 852 (by decide +kernel) rfl
theorem fp_Silences_130 : ax_FP "AlarmGroups$Silences" 130 8 0 false (.int) := ⟨_, rfl, by decide, ax_at 259 (by decide +kernel) rfl, rfl, by decide +kernel, fun h => absurd h (by decide)⟩
theorem fl_Silences_130 : ax_FL "AlarmGroups$Silences" 130 8 0 := ⟨_, rfl, by decide, ax_at 259 (by decide +kernel) rfl⟩
theorem fl_Silences_134 : ax_FL "AlarmGroups$Silences" 134 8 5 := ⟨_, rfl, by decide, ax_at 273 (by decide +kernel) rfl⟩
theorem mv_Silences_138 : ax_MV "AlarmGroups$Silences" 138 mt_Tokens_takeQuoted 1 := ⟨ok_Tokens_takeQuoted, by unfold ax_pn; decide +kernel, ax_at 858 (by decide +kernel) rfl, ax_at 859 (by decide +kernel) rfl, ax_at 860 (by decide +kernel) rfl⟩
theorem mv_Top_230 : ax_MV "AlarmGroups" 230 mt_Silences_has 1 := ⟨ok_Silences_has, by unfold ax_pn; decide +kernel, ax_at 876 (by decide +kernel) rfl, ax_at 877 (by decide +kernel) rfl, ax_at 878 (by decide +kernel) rfl⟩
theorem fl_Top_231 : ax_FL "AlarmGroups" 231 9 0 := ⟨_, rfl, by decide, ax_at 289 (by decide +kernel) rfl⟩
theorem fl_Top_235 : ax_FL "AlarmGroups" 235 8 0 := ⟨_, rfl, by decide, ax_at 260 (by decide +kernel) rfl⟩
theorem fl_Top_240 : ax_FL "AlarmGroups" 240 8 1 := ⟨_, rfl, by decide, ax_at 263 (by decide +kernel) rfl⟩
theorem fl_Top_242 : ax_FL "AlarmGroups" 242 8 2 := ⟨_, rfl, by decide, ax_at 266 (by decide +kernel) rfl⟩
theorem fl_Top_245 : ax_FL "AlarmGroups" 245 8 3 := ⟨_, rfl, by decide, ax_at 269 (by decide +kernel) rfl⟩
theorem mv_Top_248 : ax_MV "AlarmGroups" 248 mt_Silence_holds 1 := ⟨ok_Silence_holds, by unfold ax_pn; decide +kernel, ax_at 880 (by decide +kernel) rfl, ax_at 512 (by decide +kernel) rfl, ax_at 513 (by decide +kernel) rfl⟩
theorem mv_Top_251 : ax_MV "AlarmGroups" 251 mt_Top_silencedBy 1 := ⟨ok_Top_silencedBy, by unfold ax_pn; decide +kernel, ax_at 881 (by decide +kernel) rfl, ax_at 883 (by decide +kernel) rfl, ax_in (by decide +kernel) rfl⟩
theorem mv_Top_254 : ax_MV "AlarmGroups" 254 mt_Silence_linesOf 1 := ⟨ok_Silence_linesOf, by unfold ax_pn; decide +kernel, ax_at 889 (by decide +kernel) rfl, ax_at 890 (by decide +kernel) rfl, ax_at 891 (by decide +kernel) rfl⟩
theorem kl_Top_258 : Jvm.Cond.constantLong "AlarmGroups" 258 (-2) ∈ ax_tbl := ax_at 894 (by decide +kernel) rfl
theorem fl_Silence_40 : ax_FL "AlarmGroups$Silence" 40 2 3 := ⟨_, rfl, by decide, ax_at 360 (by decide +kernel) rfl⟩
theorem fl_Silence_45 : ax_FL "AlarmGroups$Silence" 45 2 0 := ⟨_, rfl, by decide, ax_at 351 (by decide +kernel) rfl⟩
theorem mv_Silence_48 : ax_MV "AlarmGroups$Silence" 48 mt_Silence_hasLine 2 := ⟨ok_Silence_hasLine, by unfold ax_pn; decide +kernel, ax_at 893 (by decide +kernel) rfl, ax_at 516 (by decide +kernel) rfl, ax_at 517 (by decide +kernel) rfl⟩
theorem fl_Top_260 : ax_FL "AlarmGroups" 260 8 5 := ⟨_, rfl, by decide, ax_at 274 (by decide +kernel) rfl⟩
theorem mv_Top_263 : ax_MV "AlarmGroups" 263 mt_Row_at 1 := ⟨ok_Row_at, by unfold ax_pn; decide +kernel, ax_at 899 (by decide +kernel) rfl, ax_at 614 (by decide +kernel) rfl, ax_at 615 (by decide +kernel) rfl⟩
theorem mv_Top_266 : ax_MV "AlarmGroups" 266 mt_Silences_remove 1 := ⟨ok_Silences_remove, by unfold ax_pn; decide +kernel, ax_at 904 (by decide +kernel) rfl, ax_at 905 (by decide +kernel) rfl, ax_at 906 (by decide +kernel) rfl⟩
theorem fl_Top_269 : ax_FL "AlarmGroups" 269 9 1 := ⟨_, rfl, by decide, ax_at 291 (by decide +kernel) rfl⟩
theorem mv_Silences_50 : ax_MV "AlarmGroups$Silences" 50 mt_Silences_has 1 := ⟨ok_Silences_has, by unfold ax_pn; decide +kernel, ax_at 908 (by decide +kernel) rfl, ax_at 877 (by decide +kernel) rfl, ax_at 878 (by decide +kernel) rfl⟩
theorem mv_Top_270 : ax_MS "AlarmGroups" 270 mt_Parts_check 2 := ⟨ok_Parts_check, by unfold ax_pn; decide +kernel, ax_at 913 (by decide +kernel) rfl, ax_at 914 (by decide +kernel) rfl⟩
theorem mv_Top_274 : ax_MV "AlarmGroups" 274 mt_Parts_set 1 := ⟨ok_Parts_set, by unfold ax_pn; decide +kernel, ax_at 920 (by decide +kernel) rfl, ax_at 921 (by decide +kernel) rfl, ax_at 922 (by decide +kernel) rfl⟩
theorem mv_Parts_32 : ax_MS "AlarmGroups$Parts" 32 mt_Parts_isPartByte 2 := ⟨ok_Parts_isPartByte, by unfold ax_pn; decide +kernel, ax_at 916 (by decide +kernel) rfl, ax_at 917 (by decide +kernel) rfl⟩
theorem mv_Parts_36 : ax_MS "AlarmGroups$Parts" 36 mt_Tokens_isLetter 1 := ⟨ok_Tokens_isLetter, by unfold ax_pn; decide +kernel, ax_at 919 (by decide +kernel) rfl, ax_at 733 (by decide +kernel) rfl⟩
theorem mv_Parts_42 : ax_MV "AlarmGroups$Parts" 42 mt_Row_clear 0 := ⟨ok_Row_clear, by unfold ax_pn; decide +kernel, ax_at 924 (by decide +kernel) rfl, ax_at 713 (by decide +kernel) rfl, ax_at 714 (by decide +kernel) rfl⟩
theorem mv_Parts_45 : ax_MV "AlarmGroups$Parts" 45 mt_Row_addPart 3 := ⟨ok_Row_addPart, by unfold ax_pn; decide +kernel, ax_at 925 (by decide +kernel) rfl, ax_at 718 (by decide +kernel) rfl, ax_at 719 (by decide +kernel) rfl⟩
theorem fp_Parts_49 : ax_FP "AlarmGroups$Parts" 49 5 2 false (.int) := ⟨_, rfl, by decide, ax_at 379 (by decide +kernel) rfl, rfl, by decide +kernel, fun h => absurd h (by decide)⟩
theorem mv_Top_278 : ax_MV "AlarmGroups" 278 mt_Top_addPattern 1 := ⟨ok_Top_addPattern, by unfold ax_pn; decide +kernel, ax_at 930 (by decide +kernel) rfl, ax_at 932 (by decide +kernel) rfl, ax_in (by decide +kernel) rfl⟩
theorem fp_Top_326 : ax_FP "AlarmGroups" 326 11 15 false (.int) := ⟨_, rfl, by decide, ax_at 402 (by decide +kernel) rfl, rfl, by decide +kernel, fun h => absurd h (by decide)⟩
theorem fl_Top_52 : ax_FL "AlarmGroups" 52 11 6 := ⟨_, rfl, by decide, ax_at 393 (by decide +kernel) rfl⟩
theorem mv_Top_281 : ax_MV "AlarmGroups" 281 mt_Ranks_order 3 := ⟨ok_Ranks_order, by unfold ax_pn; decide +kernel, ax_at 942 (by decide +kernel) rfl, ax_at 943 (by decide +kernel) rfl, ax_at 944 (by decide +kernel) rfl⟩
theorem fl_Top_285 : ax_FL "AlarmGroups" 285 6 2 := ⟨_, rfl, by decide, ax_at 313 (by decide +kernel) rfl⟩
theorem fl_Top_286 : ax_FL "AlarmGroups" 286 6 0 := ⟨_, rfl, by decide, ax_at 308 (by decide +kernel) rfl⟩
theorem fp_Ranks_21 : ax_FP "AlarmGroups$Ranks" 21 6 2 false (.int) := ⟨_, rfl, by decide, ax_at 311 (by decide +kernel) rfl, rfl, by decide +kernel, fun h => absurd h (by decide)⟩
theorem fl_Ranks_25 : ax_FL "AlarmGroups$Ranks" 25 0 6 := ⟨_, rfl, by decide, ax_at 163 (by decide +kernel) rfl⟩
theorem mv_Ranks_28 : ax_MV "AlarmGroups$Ranks" 28 mt_Ranks_insert 3 := ⟨ok_Ranks_insert, by unfold ax_pn; decide +kernel, ax_at 946 (by decide +kernel) rfl, ax_at 948 (by decide +kernel) rfl, ax_in (by decide +kernel) rfl⟩
theorem fl_Ranks_21 : ax_FL "AlarmGroups$Ranks" 21 6 2 := ⟨_, rfl, by decide, ax_at 311 (by decide +kernel) rfl⟩
theorem fl_Ranks_9 : ax_FL "AlarmGroups$Ranks" 9 6 0 := ⟨_, rfl, by decide, ax_at 306 (by decide +kernel) rfl⟩
theorem mv_Ranks_32 : ax_MS "AlarmGroups$Ranks" 32 mt_Ranks_isAhead 4 := ⟨ok_Ranks_isAhead, by unfold ax_pn; decide +kernel, ax_at 950 (by decide +kernel) rfl, ax_at 951 (by decide +kernel) rfl⟩
theorem fl_Ranks_36 : ax_FL "AlarmGroups$Ranks" 36 0 3 := ⟨_, rfl, by decide, ax_at 154 (by decide +kernel) rfl⟩
theorem fl_Ranks_39 : ax_FL "AlarmGroups$Ranks" 39 0 4 := ⟨_, rfl, by decide, ax_at 158 (by decide +kernel) rfl⟩
theorem fl_Ranks_42 : ax_FL "AlarmGroups$Ranks" 42 0 0 := ⟨_, rfl, by decide, ax_at 144 (by decide +kernel) rfl⟩
theorem fl_Ranks_45 : ax_FL "AlarmGroups$Ranks" 45 0 1 := ⟨_, rfl, by decide, ax_at 148 (by decide +kernel) rfl⟩
theorem mv_Top_289 : ax_MV "AlarmGroups" 289 mt_Ranks_choose 4 := ⟨ok_Ranks_choose, by unfold ax_pn; decide +kernel, ax_at 957 (by decide +kernel) rfl, ax_at 958 (by decide +kernel) rfl, ax_at 959 (by decide +kernel) rfl⟩
