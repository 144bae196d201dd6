section
-- ===== PART A: goes FIRST, ahead of the names: the tables' words, and 'selects' of the private methods out of them =====
/-- a private method of a class that the tables say can be made, by its rows of tables_1 -/
def lw_okq (q : MethodName × Nat) : Prop := (q.1.cls ≠ "java/lang/invoke/MethodHandle" ∧ q.1.cls ≠ "java/lang/invoke/VarHandle") ∧ Cond.instantiable q.1.cls q.2 ∈ tables_1 ∧ Cond.privateMethod q.1 ∈ tables_1 ∧ Cond.instanceMethod q.1 ∈ tables_1
theorem lw_p0 : lw_okq (⟨"AlarmGroups", "keepTrends", "(I)V"⟩, 16) := ⟨⟨by decide +kernel, by decide +kernel⟩, List.mem_of_getElem? (i := 22) (by decide +kernel), List.mem_of_getElem? (i := 409) (by decide +kernel), List.mem_of_getElem? (i := 410) (by decide +kernel)⟩
theorem lw_p1 : lw_okq (⟨"AlarmGroups", "setNow", "(I)J"⟩, 16) := ⟨⟨by decide +kernel, by decide +kernel⟩, List.mem_of_getElem? (i := 22) (by decide +kernel), List.mem_of_getElem? (i := 413) (by decide +kernel), List.mem_of_getElem? (i := 414) (by decide +kernel)⟩
theorem lw_p2 : lw_okq (⟨"AlarmGroups$Facts", "applied", "(I)I"⟩, 8) := ⟨⟨by decide +kernel, by decide +kernel⟩, List.mem_of_getElem? (i := 114) (by decide +kernel), List.mem_of_getElem? (i := 421) (by decide +kernel), List.mem_of_getElem? (i := 422) (by decide +kernel)⟩
theorem lw_p3 : lw_okq (⟨"AlarmGroups", "belongs", "(III)Z"⟩, 16) := ⟨⟨by decide +kernel, by decide +kernel⟩, List.mem_of_getElem? (i := 22) (by decide +kernel), List.mem_of_getElem? (i := 425) (by decide +kernel), List.mem_of_getElem? (i := 426) (by decide +kernel)⟩
theorem lw_p4 : lw_okq (⟨"AlarmGroups", "silencerOf", "(I)I"⟩, 16) := ⟨⟨by decide +kernel, by decide +kernel⟩, List.mem_of_getElem? (i := 22) (by decide +kernel), List.mem_of_getElem? (i := 433) (by decide +kernel), List.mem_of_getElem? (i := 434) (by decide +kernel)⟩
theorem lw_p5 : lw_okq (⟨"AlarmGroups$Matching", "fillMost", "(LAlarmGroups$Lines;LAlarmGroups$Lines;)V"⟩, 5) := ⟨⟨by decide +kernel, by decide +kernel⟩, List.mem_of_getElem? (i := 47) (by decide +kernel), List.mem_of_getElem? (i := 460) (by decide +kernel), List.mem_of_getElem? (i := 461) (by decide +kernel)⟩
theorem lw_p6 : lw_okq (⟨"AlarmGroups$Matching", "alike", "(LAlarmGroups$Lines;LAlarmGroups$Lines;II)Z"⟩, 5) := ⟨⟨by decide +kernel, by decide +kernel⟩, List.mem_of_getElem? (i := 47) (by decide +kernel), List.mem_of_getElem? (i := 464) (by decide +kernel), List.mem_of_getElem? (i := 465) (by decide +kernel)⟩
theorem lw_p7 : lw_okq (⟨"AlarmGroups$Matching", "pair", "(LAlarmGroups$Lines;LAlarmGroups$Lines;)V"⟩, 5) := ⟨⟨by decide +kernel, by decide +kernel⟩, List.mem_of_getElem? (i := 47) (by decide +kernel), List.mem_of_getElem? (i := 469) (by decide +kernel), List.mem_of_getElem? (i := 470) (by decide +kernel)⟩
theorem lw_p8 : lw_okq (⟨"AlarmGroups", "ownerOf", "(I)I"⟩, 16) := ⟨⟨by decide +kernel, by decide +kernel⟩, List.mem_of_getElem? (i := 22) (by decide +kernel), List.mem_of_getElem? (i := 530) (by decide +kernel), List.mem_of_getElem? (i := 531) (by decide +kernel)⟩
theorem lw_p9 : lw_okq (⟨"AlarmGroups$Parts", "isDoubleStar", "(I)Z"⟩, 3) := ⟨⟨by decide +kernel, by decide +kernel⟩, List.mem_of_getElem? (i := 303) (by decide +kernel), List.mem_of_getElem? (i := 538) (by decide +kernel), List.mem_of_getElem? (i := 539) (by decide +kernel)⟩
theorem lw_p10 : lw_okq (⟨"AlarmGroups$Parts", "endOf", "(I)I"⟩, 3) := ⟨⟨by decide +kernel, by decide +kernel⟩, List.mem_of_getElem? (i := 303) (by decide +kernel), List.mem_of_getElem? (i := 542) (by decide +kernel), List.mem_of_getElem? (i := 543) (by decide +kernel)⟩
theorem lw_p11 : lw_okq (⟨"AlarmGroups$Parts", "stepped", "(IILAlarmGroups$Parts;)I"⟩, 3) := ⟨⟨by decide +kernel, by decide +kernel⟩, List.mem_of_getElem? (i := 303) (by decide +kernel), List.mem_of_getElem? (i := 554) (by decide +kernel), List.mem_of_getElem? (i := 555) (by decide +kernel)⟩
theorem lw_p12 : lw_okq (⟨"AlarmGroups$Parts", "partFits", "(ILAlarmGroups$Parts;I)Z"⟩, 3) := ⟨⟨by decide +kernel, by decide +kernel⟩, List.mem_of_getElem? (i := 303) (by decide +kernel), List.mem_of_getElem? (i := 558) (by decide +kernel), List.mem_of_getElem? (i := 559) (by decide +kernel)⟩
theorem lw_p13 : lw_okq (⟨"AlarmGroups", "buildsOf", "(I)I"⟩, 16) := ⟨⟨by decide +kernel, by decide +kernel⟩, List.mem_of_getElem? (i := 22) (by decide +kernel), List.mem_of_getElem? (i := 562) (by decide +kernel), List.mem_of_getElem? (i := 563) (by decide +kernel)⟩
theorem lw_p14 : lw_okq (⟨"AlarmGroups$Facts", "bestTrial", "(J)I"⟩, 8) := ⟨⟨by decide +kernel, by decide +kernel⟩, List.mem_of_getElem? (i := 114) (by decide +kernel), List.mem_of_getElem? (i := 620) (by decide +kernel), List.mem_of_getElem? (i := 621) (by decide +kernel)⟩
theorem lw_p15 : lw_okq (⟨"AlarmGroups$Facts", "addGroup", "(IJ)V"⟩, 8) := ⟨⟨by decide +kernel, by decide +kernel⟩, List.mem_of_getElem? (i := 114) (by decide +kernel), List.mem_of_getElem? (i := 625) (by decide +kernel), List.mem_of_getElem? (i := 626) (by decide +kernel)⟩
def lw_privs_1 : List (MethodName × Nat) := [(⟨"AlarmGroups", "keepTrends", "(I)V"⟩, 16), (⟨"AlarmGroups", "setNow", "(I)J"⟩, 16), (⟨"AlarmGroups$Facts", "applied", "(I)I"⟩, 8), (⟨"AlarmGroups", "belongs", "(III)Z"⟩, 16), (⟨"AlarmGroups", "silencerOf", "(I)I"⟩, 16), (⟨"AlarmGroups$Matching", "fillMost", "(LAlarmGroups$Lines;LAlarmGroups$Lines;)V"⟩, 5), (⟨"AlarmGroups$Matching", "alike", "(LAlarmGroups$Lines;LAlarmGroups$Lines;II)Z"⟩, 5), (⟨"AlarmGroups$Matching", "pair", "(LAlarmGroups$Lines;LAlarmGroups$Lines;)V"⟩, 5), (⟨"AlarmGroups", "ownerOf", "(I)I"⟩, 16), (⟨"AlarmGroups$Parts", "isDoubleStar", "(I)Z"⟩, 3), (⟨"AlarmGroups$Parts", "endOf", "(I)I"⟩, 3), (⟨"AlarmGroups$Parts", "stepped", "(IILAlarmGroups$Parts;)I"⟩, 3), (⟨"AlarmGroups$Parts", "partFits", "(ILAlarmGroups$Parts;I)Z"⟩, 3), (⟨"AlarmGroups", "buildsOf", "(I)I"⟩, 16), (⟨"AlarmGroups$Facts", "bestTrial", "(J)I"⟩, 8), (⟨"AlarmGroups$Facts", "addGroup", "(IJ)V"⟩, 8)]
theorem lw_r1 : ∀ q ∈ lw_privs_1, lw_okq q := List.forall_mem_cons.mpr ⟨lw_p0, List.forall_mem_cons.mpr ⟨lw_p1, List.forall_mem_cons.mpr ⟨lw_p2, List.forall_mem_cons.mpr ⟨lw_p3, List.forall_mem_cons.mpr ⟨lw_p4, List.forall_mem_cons.mpr ⟨lw_p5, List.forall_mem_cons.mpr ⟨lw_p6, List.forall_mem_cons.mpr ⟨lw_p7, List.forall_mem_cons.mpr ⟨lw_p8, List.forall_mem_cons.mpr ⟨lw_p9, List.forall_mem_cons.mpr ⟨lw_p10, List.forall_mem_cons.mpr ⟨lw_p11, List.forall_mem_cons.mpr ⟨lw_p12, List.forall_mem_cons.mpr ⟨lw_p13, List.forall_mem_cons.mpr ⟨lw_p14, List.forall_mem_cons.mpr ⟨lw_p15, fun _ h => absurd h List.not_mem_nil⟩⟩⟩⟩⟩⟩⟩⟩⟩⟩⟩⟩⟩⟩⟩⟩
theorem lw_p16 : lw_okq (⟨"AlarmGroups$Tokens", "endOfRun", "(III)I"⟩, 6) := ⟨⟨by decide +kernel, by decide +kernel⟩, List.mem_of_getElem? (i := 158) (by decide +kernel), List.mem_of_getElem? (i := 657) (by decide +kernel), List.mem_of_getElem? (i := 658) (by decide +kernel)⟩
theorem lw_p17 : lw_okq (⟨"AlarmGroups$Tokens", "sortAt", "(I)I"⟩, 6) := ⟨⟨by decide +kernel, by decide +kernel⟩, List.mem_of_getElem? (i := 158) (by decide +kernel), List.mem_of_getElem? (i := 662) (by decide +kernel), List.mem_of_getElem? (i := 663) (by decide +kernel)⟩
theorem lw_p18 : lw_okq (⟨"AlarmGroups$Tokens", "endAt", "(II)I"⟩, 6) := ⟨⟨by decide +kernel, by decide +kernel⟩, List.mem_of_getElem? (i := 158) (by decide +kernel), List.mem_of_getElem? (i := 672) (by decide +kernel), List.mem_of_getElem? (i := 673) (by decide +kernel)⟩
theorem lw_p19 : lw_okq (⟨"AlarmGroups$Tokens", "endOfQuoted", "(I)I"⟩, 6) := ⟨⟨by decide +kernel, by decide +kernel⟩, List.mem_of_getElem? (i := 158) (by decide +kernel), List.mem_of_getElem? (i := 676) (by decide +kernel), List.mem_of_getElem? (i := 677) (by decide +kernel)⟩
theorem lw_p20 : lw_okq (⟨"AlarmGroups$Silences", "takeOne", "(LAlarmGroups$Silence;II)Z"⟩, 3) := ⟨⟨by decide +kernel, by decide +kernel⟩, List.mem_of_getElem? (i := 150) (by decide +kernel), List.mem_of_getElem? (i := 686) (by decide +kernel), List.mem_of_getElem? (i := 687) (by decide +kernel)⟩
theorem lw_p21 : lw_okq (⟨"AlarmGroups$Tokens", "advance", "()V"⟩, 6) := ⟨⟨by decide +kernel, by decide +kernel⟩, List.mem_of_getElem? (i := 158) (by decide +kernel), List.mem_of_getElem? (i := 752) (by decide +kernel), List.mem_of_getElem? (i := 753) (by decide +kernel)⟩
theorem lw_p22 : lw_okq (⟨"AlarmGroups$Silences", "takeWhere", "(LAlarmGroups$Silence;I)Z"⟩, 3) := ⟨⟨by decide +kernel, by decide +kernel⟩, List.mem_of_getElem? (i := 150) (by decide +kernel), List.mem_of_getElem? (i := 756) (by decide +kernel), List.mem_of_getElem? (i := 757) (by decide +kernel)⟩
theorem lw_p23 : lw_okq (⟨"AlarmGroups$Silences", "takeSpan", "(LAlarmGroups$Silence;I)Z"⟩, 3) := ⟨⟨by decide +kernel, by decide +kernel⟩, List.mem_of_getElem? (i := 150) (by decide +kernel), List.mem_of_getElem? (i := 771) (by decide +kernel), List.mem_of_getElem? (i := 772) (by decide +kernel)⟩
theorem lw_p24 : lw_okq (⟨"AlarmGroups$Silences", "takeKind", "(LAlarmGroups$Silence;)Z"⟩, 3) := ⟨⟨by decide +kernel, by decide +kernel⟩, List.mem_of_getElem? (i := 150) (by decide +kernel), List.mem_of_getElem? (i := 776) (by decide +kernel), List.mem_of_getElem? (i := 777) (by decide +kernel)⟩
theorem lw_p25 : lw_okq (⟨"AlarmGroups$Silences", "takeUntil", "(LAlarmGroups$Silence;I)Z"⟩, 3) := ⟨⟨by decide +kernel, by decide +kernel⟩, List.mem_of_getElem? (i := 150) (by decide +kernel), List.mem_of_getElem? (i := 781) (by decide +kernel), List.mem_of_getElem? (i := 782) (by decide +kernel)⟩
theorem lw_p26 : lw_okq (⟨"AlarmGroups$Silences", "takeReason", "(LAlarmGroups$Silence;)Z"⟩, 3) := ⟨⟨by decide +kernel, by decide +kernel⟩, List.mem_of_getElem? (i := 150) (by decide +kernel), List.mem_of_getElem? (i := 787) (by decide +kernel), List.mem_of_getElem? (i := 788) (by decide +kernel)⟩
theorem lw_p27 : lw_okq (⟨"AlarmGroups", "silencedBy", "(I)I"⟩, 16) := ⟨⟨by decide +kernel, by decide +kernel⟩, List.mem_of_getElem? (i := 22) (by decide +kernel), List.mem_of_getElem? (i := 815) (by decide +kernel), List.mem_of_getElem? (i := 816) (by decide +kernel)⟩
theorem lw_p28 : lw_okq (⟨"AlarmGroups", "addPattern", "(I)I"⟩, 16) := ⟨⟨by decide +kernel, by decide +kernel⟩, List.mem_of_getElem? (i := 22) (by decide +kernel), List.mem_of_getElem? (i := 864) (by decide +kernel), List.mem_of_getElem? (i := 865) (by decide +kernel)⟩
theorem lw_p29 : lw_okq (⟨"AlarmGroups$Ranks", "insert", "(LAlarmGroups$Alarms;IZ)V"⟩, 5) := ⟨⟨by decide +kernel, by decide +kernel⟩, List.mem_of_getElem? (i := 234) (by decide +kernel), List.mem_of_getElem? (i := 880) (by decide +kernel), List.mem_of_getElem? (i := 881) (by decide +kernel)⟩
theorem lw_p30 : lw_okq (⟨"AlarmGroups", "isBuild", "(I)Z"⟩, 16) := ⟨⟨by decide +kernel, by decide +kernel⟩, List.mem_of_getElem? (i := 22) (by decide +kernel), List.mem_of_getElem? (i := 908) (by decide +kernel), List.mem_of_getElem? (i := 909) (by decide +kernel)⟩
theorem lw_p31 : lw_okq (⟨"AlarmGroups", "setOf", "(II)J"⟩, 16) := ⟨⟨by decide +kernel, by decide +kernel⟩, List.mem_of_getElem? (i := 22) (by decide +kernel), List.mem_of_getElem? (i := 912) (by decide +kernel), List.mem_of_getElem? (i := 913) (by decide +kernel)⟩
def lw_privs_2 : List (MethodName × Nat) := [(⟨"AlarmGroups$Tokens", "endOfRun", "(III)I"⟩, 6), (⟨"AlarmGroups$Tokens", "sortAt", "(I)I"⟩, 6), (⟨"AlarmGroups$Tokens", "endAt", "(II)I"⟩, 6), (⟨"AlarmGroups$Tokens", "endOfQuoted", "(I)I"⟩, 6), (⟨"AlarmGroups$Silences", "takeOne", "(LAlarmGroups$Silence;II)Z"⟩, 3), (⟨"AlarmGroups$Tokens", "advance", "()V"⟩, 6), (⟨"AlarmGroups$Silences", "takeWhere", "(LAlarmGroups$Silence;I)Z"⟩, 3), (⟨"AlarmGroups$Silences", "takeSpan", "(LAlarmGroups$Silence;I)Z"⟩, 3), (⟨"AlarmGroups$Silences", "takeKind", "(LAlarmGroups$Silence;)Z"⟩, 3), (⟨"AlarmGroups$Silences", "takeUntil", "(LAlarmGroups$Silence;I)Z"⟩, 3), (⟨"AlarmGroups$Silences", "takeReason", "(LAlarmGroups$Silence;)Z"⟩, 3), (⟨"AlarmGroups", "silencedBy", "(I)I"⟩, 16), (⟨"AlarmGroups", "addPattern", "(I)I"⟩, 16), (⟨"AlarmGroups$Ranks", "insert", "(LAlarmGroups$Alarms;IZ)V"⟩, 5), (⟨"AlarmGroups", "isBuild", "(I)Z"⟩, 16), (⟨"AlarmGroups", "setOf", "(II)J"⟩, 16)]
theorem lw_r2 : ∀ q ∈ lw_privs_2, lw_okq q := List.forall_mem_cons.mpr ⟨lw_p16, List.forall_mem_cons.mpr ⟨lw_p17, List.forall_mem_cons.mpr ⟨lw_p18, List.forall_mem_cons.mpr ⟨lw_p19, List.forall_mem_cons.mpr ⟨lw_p20, List.forall_mem_cons.mpr ⟨lw_p21, List.forall_mem_cons.mpr ⟨lw_p22, List.forall_mem_cons.mpr ⟨lw_p23, List.forall_mem_cons.mpr ⟨lw_p24, List.forall_mem_cons.mpr ⟨lw_p25, List.forall_mem_cons.mpr ⟨lw_p26, List.forall_mem_cons.mpr ⟨lw_p27, List.forall_mem_cons.mpr ⟨lw_p28, List.forall_mem_cons.mpr ⟨lw_p29, List.forall_mem_cons.mpr ⟨lw_p30, List.forall_mem_cons.mpr ⟨lw_p31, fun _ h => absurd h List.not_mem_nil⟩⟩⟩⟩⟩⟩⟩⟩⟩⟩⟩⟩⟩⟩⟩⟩
theorem lw_p32 : lw_okq (⟨"AlarmGroups$Lists", "readOne", "(LAlarmGroups$Row;)Z"⟩, 2) := ⟨⟨by decide +kernel, by decide +kernel⟩, List.mem_of_getElem? (i := 262) (by decide +kernel), List.mem_of_getElem? (i := 954) (by decide +kernel), List.mem_of_getElem? (i := 955) (by decide +kernel)⟩
theorem lw_p33 : lw_okq (⟨"AlarmGroups$Lists", "readNumber", "(LAlarmGroups$Row;I)Z"⟩, 2) := ⟨⟨by decide +kernel, by decide +kernel⟩, List.mem_of_getElem? (i := 262) (by decide +kernel), List.mem_of_getElem? (i := 958) (by decide +kernel), List.mem_of_getElem? (i := 959) (by decide +kernel)⟩
theorem lw_p34 : lw_okq (⟨"AlarmGroupsModel", "trendOf", "(I)I"⟩, 58) := ⟨⟨by decide +kernel, by decide +kernel⟩, List.mem_of_getElem? (i := 973) (by decide +kernel), List.mem_of_getElem? (i := 1177) (by decide +kernel), List.mem_of_getElem? (i := 1178) (by decide +kernel)⟩
theorem lw_p35 : lw_okq (⟨"AlarmGroupsModel", "knownBy", "(I)I"⟩, 58) := ⟨⟨by decide +kernel, by decide +kernel⟩, List.mem_of_getElem? (i := 973) (by decide +kernel), List.mem_of_getElem? (i := 1181) (by decide +kernel), List.mem_of_getElem? (i := 1182) (by decide +kernel)⟩
theorem lw_p36 : lw_okq (⟨"AlarmGroupsModel", "isClosed", "(II)Z"⟩, 58) := ⟨⟨by decide +kernel, by decide +kernel⟩, List.mem_of_getElem? (i := 973) (by decide +kernel), List.mem_of_getElem? (i := 1185) (by decide +kernel), List.mem_of_getElem? (i := 1186) (by decide +kernel)⟩
theorem lw_p37 : lw_okq (⟨"AlarmGroupsModel", "silencedBy", "(I)I"⟩, 58) := ⟨⟨by decide +kernel, by decide +kernel⟩, List.mem_of_getElem? (i := 973) (by decide +kernel), List.mem_of_getElem? (i := 1189) (by decide +kernel), List.mem_of_getElem? (i := 1190) (by decide +kernel)⟩
theorem lw_p38 : lw_okq (⟨"AlarmGroupsModel", "holds", "(I)Z"⟩, 58) := ⟨⟨by decide +kernel, by decide +kernel⟩, List.mem_of_getElem? (i := 973) (by decide +kernel), List.mem_of_getElem? (i := 1193) (by decide +kernel), List.mem_of_getElem? (i := 1194) (by decide +kernel)⟩
theorem lw_p39 : lw_okq (⟨"AlarmGroupsModel", "hasLine", "(II)Z"⟩, 58) := ⟨⟨by decide +kernel, by decide +kernel⟩, List.mem_of_getElem? (i := 973) (by decide +kernel), List.mem_of_getElem? (i := 1197) (by decide +kernel), List.mem_of_getElem? (i := 1198) (by decide +kernel)⟩
theorem lw_p40 : lw_okq (⟨"AlarmGroupsModel", "isOpen", "(I)Z"⟩, 58) := ⟨⟨by decide +kernel, by decide +kernel⟩, List.mem_of_getElem? (i := 973) (by decide +kernel), List.mem_of_getElem? (i := 1201) (by decide +kernel), List.mem_of_getElem? (i := 1202) (by decide +kernel)⟩
theorem lw_p41 : lw_okq (⟨"AlarmGroupsModel", "match", "(I)V"⟩, 58) := ⟨⟨by decide +kernel, by decide +kernel⟩, List.mem_of_getElem? (i := 973) (by decide +kernel), List.mem_of_getElem? (i := 1205) (by decide +kernel), List.mem_of_getElem? (i := 1206) (by decide +kernel)⟩
theorem lw_p42 : lw_okq (⟨"AlarmGroupsModel", "carryAlarms", "()V"⟩, 58) := ⟨⟨by decide +kernel, by decide +kernel⟩, List.mem_of_getElem? (i := 973) (by decide +kernel), List.mem_of_getElem? (i := 1209) (by decide +kernel), List.mem_of_getElem? (i := 1210) (by decide +kernel)⟩
theorem lw_p43 : lw_okq (⟨"AlarmGroupsModel", "isAlarm", "(I)Z"⟩, 58) := ⟨⟨by decide +kernel, by decide +kernel⟩, List.mem_of_getElem? (i := 973) (by decide +kernel), List.mem_of_getElem? (i := 1228) (by decide +kernel), List.mem_of_getElem? (i := 1229) (by decide +kernel)⟩
theorem lw_p44 : lw_okq (⟨"AlarmGroupsModel", "ownerOf", "(I)I"⟩, 58) := ⟨⟨by decide +kernel, by decide +kernel⟩, List.mem_of_getElem? (i := 973) (by decide +kernel), List.mem_of_getElem? (i := 1232) (by decide +kernel), List.mem_of_getElem? (i := 1233) (by decide +kernel)⟩
theorem lw_p45 : lw_okq (⟨"AlarmGroupsModel", "doFit", "(II)Z"⟩, 58) := ⟨⟨by decide +kernel, by decide +kernel⟩, List.mem_of_getElem? (i := 973) (by decide +kernel), List.mem_of_getElem? (i := 1236) (by decide +kernel), List.mem_of_getElem? (i := 1237) (by decide +kernel)⟩
theorem lw_p46 : lw_okq (⟨"AlarmGroupsModel", "isFit", "(IIIIII)Z"⟩, 58) := ⟨⟨by decide +kernel, by decide +kernel⟩, List.mem_of_getElem? (i := 973) (by decide +kernel), List.mem_of_getElem? (i := 1240) (by decide +kernel), List.mem_of_getElem? (i := 1241) (by decide +kernel)⟩
theorem lw_p47 : lw_okq (⟨"AlarmGroupsModel", "isAny", "(II)Z"⟩, 58) := ⟨⟨by decide +kernel, by decide +kernel⟩, List.mem_of_getElem? (i := 973) (by decide +kernel), List.mem_of_getElem? (i := 1244) (by decide +kernel), List.mem_of_getElem? (i := 1245) (by decide +kernel)⟩
def lw_privs_3 : List (MethodName × Nat) := [(⟨"AlarmGroups$Lists", "readOne", "(LAlarmGroups$Row;)Z"⟩, 2), (⟨"AlarmGroups$Lists", "readNumber", "(LAlarmGroups$Row;I)Z"⟩, 2), (⟨"AlarmGroupsModel", "trendOf", "(I)I"⟩, 58), (⟨"AlarmGroupsModel", "knownBy", "(I)I"⟩, 58), (⟨"AlarmGroupsModel", "isClosed", "(II)Z"⟩, 58), (⟨"AlarmGroupsModel", "silencedBy", "(I)I"⟩, 58), (⟨"AlarmGroupsModel", "holds", "(I)Z"⟩, 58), (⟨"AlarmGroupsModel", "hasLine", "(II)Z"⟩, 58), (⟨"AlarmGroupsModel", "isOpen", "(I)Z"⟩, 58), (⟨"AlarmGroupsModel", "match", "(I)V"⟩, 58), (⟨"AlarmGroupsModel", "carryAlarms", "()V"⟩, 58), (⟨"AlarmGroupsModel", "isAlarm", "(I)Z"⟩, 58), (⟨"AlarmGroupsModel", "ownerOf", "(I)I"⟩, 58), (⟨"AlarmGroupsModel", "doFit", "(II)Z"⟩, 58), (⟨"AlarmGroupsModel", "isFit", "(IIIIII)Z"⟩, 58), (⟨"AlarmGroupsModel", "isAny", "(II)Z"⟩, 58)]
theorem lw_r3 : ∀ q ∈ lw_privs_3, lw_okq q := List.forall_mem_cons.mpr ⟨lw_p32, List.forall_mem_cons.mpr ⟨lw_p33, List.forall_mem_cons.mpr ⟨lw_p34, List.forall_mem_cons.mpr ⟨lw_p35, List.forall_mem_cons.mpr ⟨lw_p36, List.forall_mem_cons.mpr ⟨lw_p37, List.forall_mem_cons.mpr ⟨lw_p38, List.forall_mem_cons.mpr ⟨lw_p39, List.forall_mem_cons.mpr ⟨lw_p40, List.forall_mem_cons.mpr ⟨lw_p41, List.forall_mem_cons.mpr ⟨lw_p42, List.forall_mem_cons.mpr ⟨lw_p43, List.forall_mem_cons.mpr ⟨lw_p44, List.forall_mem_cons.mpr ⟨lw_p45, List.forall_mem_cons.mpr ⟨lw_p46, List.forall_mem_cons.mpr ⟨lw_p47, fun _ h => absurd h List.not_mem_nil⟩⟩⟩⟩⟩⟩⟩⟩⟩⟩⟩⟩⟩⟩⟩⟩
theorem lw_p48 : lw_okq (⟨"AlarmGroupsModel", "patternAt", "(II)I"⟩, 58) := ⟨⟨by decide +kernel, by decide +kernel⟩, List.mem_of_getElem? (i := 973) (by decide +kernel), List.mem_of_getElem? (i := 1248) (by decide +kernel), List.mem_of_getElem? (i := 1249) (by decide +kernel)⟩
theorem lw_p49 : lw_okq (⟨"AlarmGroupsModel", "pathAt", "(II)I"⟩, 58) := ⟨⟨by decide +kernel, by decide +kernel⟩, List.mem_of_getElem? (i := 973) (by decide +kernel), List.mem_of_getElem? (i := 1252) (by decide +kernel), List.mem_of_getElem? (i := 1253) (by decide +kernel)⟩
theorem lw_p50 : lw_okq (⟨"AlarmGroupsModel", "groupAll", "()V"⟩, 58) := ⟨⟨by decide +kernel, by decide +kernel⟩, List.mem_of_getElem? (i := 973) (by decide +kernel), List.mem_of_getElem? (i := 1282) (by decide +kernel), List.mem_of_getElem? (i := 1283) (by decide +kernel)⟩
theorem lw_p51 : lw_okq (⟨"AlarmGroupsModel", "gather", "(II)V"⟩, 58) := ⟨⟨by decide +kernel, by decide +kernel⟩, List.mem_of_getElem? (i := 973) (by decide +kernel), List.mem_of_getElem? (i := 1286) (by decide +kernel), List.mem_of_getElem? (i := 1287) (by decide +kernel)⟩
theorem lw_p52 : lw_okq (⟨"AlarmGroupsModel", "next", "()V"⟩, 58) := ⟨⟨by decide +kernel, by decide +kernel⟩, List.mem_of_getElem? (i := 973) (by decide +kernel), List.mem_of_getElem? (i := 1299) (by decide +kernel), List.mem_of_getElem? (i := 1300) (by decide +kernel)⟩
theorem lw_p53 : lw_okq (⟨"AlarmGroupsModel", "isAt", "(III)Z"⟩, 58) := ⟨⟨by decide +kernel, by decide +kernel⟩, List.mem_of_getElem? (i := 973) (by decide +kernel), List.mem_of_getElem? (i := 1303) (by decide +kernel), List.mem_of_getElem? (i := 1304) (by decide +kernel)⟩
theorem lw_p54 : lw_okq (⟨"AlarmGroupsModel", "isWord", "(J)Z"⟩, 58) := ⟨⟨by decide +kernel, by decide +kernel⟩, List.mem_of_getElem? (i := 973) (by decide +kernel), List.mem_of_getElem? (i := 1312) (by decide +kernel), List.mem_of_getElem? (i := 1313) (by decide +kernel)⟩
theorem lw_p55 : lw_okq (⟨"AlarmGroupsModel", "want", "(Z)V"⟩, 58) := ⟨⟨by decide +kernel, by decide +kernel⟩, List.mem_of_getElem? (i := 973) (by decide +kernel), List.mem_of_getElem? (i := 1316) (by decide +kernel), List.mem_of_getElem? (i := 1317) (by decide +kernel)⟩
theorem lw_p56 : lw_okq (⟨"AlarmGroupsModel", "readWhere", "(I)V"⟩, 58) := ⟨⟨by decide +kernel, by decide +kernel⟩, List.mem_of_getElem? (i := 973) (by decide +kernel), List.mem_of_getElem? (i := 1320) (by decide +kernel), List.mem_of_getElem? (i := 1321) (by decide +kernel)⟩
theorem lw_p57 : lw_okq (⟨"AlarmGroupsModel", "number", "(II)I"⟩, 58) := ⟨⟨by decide +kernel, by decide +kernel⟩, List.mem_of_getElem? (i := 973) (by decide +kernel), List.mem_of_getElem? (i := 1325) (by decide +kernel), List.mem_of_getElem? (i := 1326) (by decide +kernel)⟩
theorem lw_p58 : lw_okq (⟨"AlarmGroupsModel", "readRest", "(I)V"⟩, 58) := ⟨⟨by decide +kernel, by decide +kernel⟩, List.mem_of_getElem? (i := 973) (by decide +kernel), List.mem_of_getElem? (i := 1333) (by decide +kernel), List.mem_of_getElem? (i := 1334) (by decide +kernel)⟩
theorem lw_p59 : lw_okq (⟨"AlarmGroupsModel", "isSilence", "(I)Z"⟩, 58) := ⟨⟨by decide +kernel, by decide +kernel⟩, List.mem_of_getElem? (i := 973) (by decide +kernel), List.mem_of_getElem? (i := 1344) (by decide +kernel), List.mem_of_getElem? (i := 1345) (by decide +kernel)⟩
theorem lw_p60 : lw_okq (⟨"AlarmGroupsModel", "faultOf", "(Z)I"⟩, 58) := ⟨⟨by decide +kernel, by decide +kernel⟩, List.mem_of_getElem? (i := 973) (by decide +kernel), List.mem_of_getElem? (i := 1365) (by decide +kernel), List.mem_of_getElem? (i := 1366) (by decide +kernel)⟩
theorem lw_p61 : lw_okq (⟨"AlarmGroupsModel", "arrange", "(Z)V"⟩, 58) := ⟨⟨by decide +kernel, by decide +kernel⟩, List.mem_of_getElem? (i := 973) (by decide +kernel), List.mem_of_getElem? (i := 1383) (by decide +kernel), List.mem_of_getElem? (i := 1384) (by decide +kernel)⟩
theorem lw_p62 : lw_okq (⟨"AlarmGroupsModel", "goesBefore", "(IIZ)Z"⟩, 58) := ⟨⟨by decide +kernel, by decide +kernel⟩, List.mem_of_getElem? (i := 973) (by decide +kernel), List.mem_of_getElem? (i := 1387) (by decide +kernel), List.mem_of_getElem? (i := 1388) (by decide +kernel)⟩
theorem lw_p63 : lw_okq (⟨"AlarmGroupsModel", "isOf", "(II)Z"⟩, 58) := ⟨⟨by decide +kernel, by decide +kernel⟩, List.mem_of_getElem? (i := 973) (by decide +kernel), List.mem_of_getElem? (i := 1405) (by decide +kernel), List.mem_of_getElem? (i := 1406) (by decide +kernel)⟩
def lw_privs_4 : List (MethodName × Nat) := [(⟨"AlarmGroupsModel", "patternAt", "(II)I"⟩, 58), (⟨"AlarmGroupsModel", "pathAt", "(II)I"⟩, 58), (⟨"AlarmGroupsModel", "groupAll", "()V"⟩, 58), (⟨"AlarmGroupsModel", "gather", "(II)V"⟩, 58), (⟨"AlarmGroupsModel", "next", "()V"⟩, 58), (⟨"AlarmGroupsModel", "isAt", "(III)Z"⟩, 58), (⟨"AlarmGroupsModel", "isWord", "(J)Z"⟩, 58), (⟨"AlarmGroupsModel", "want", "(Z)V"⟩, 58), (⟨"AlarmGroupsModel", "readWhere", "(I)V"⟩, 58), (⟨"AlarmGroupsModel", "number", "(II)I"⟩, 58), (⟨"AlarmGroupsModel", "readRest", "(I)V"⟩, 58), (⟨"AlarmGroupsModel", "isSilence", "(I)Z"⟩, 58), (⟨"AlarmGroupsModel", "faultOf", "(Z)I"⟩, 58), (⟨"AlarmGroupsModel", "arrange", "(Z)V"⟩, 58), (⟨"AlarmGroupsModel", "goesBefore", "(IIZ)Z"⟩, 58), (⟨"AlarmGroupsModel", "isOf", "(II)Z"⟩, 58)]
theorem lw_r4 : ∀ q ∈ lw_privs_4, lw_okq q := List.forall_mem_cons.mpr ⟨lw_p48, List.forall_mem_cons.mpr ⟨lw_p49, List.forall_mem_cons.mpr ⟨lw_p50, List.forall_mem_cons.mpr ⟨lw_p51, List.forall_mem_cons.mpr ⟨lw_p52, List.forall_mem_cons.mpr ⟨lw_p53, List.forall_mem_cons.mpr ⟨lw_p54, List.forall_mem_cons.mpr ⟨lw_p55, List.forall_mem_cons.mpr ⟨lw_p56, List.forall_mem_cons.mpr ⟨lw_p57, List.forall_mem_cons.mpr ⟨lw_p58, List.forall_mem_cons.mpr ⟨lw_p59, List.forall_mem_cons.mpr ⟨lw_p60, List.forall_mem_cons.mpr ⟨lw_p61, List.forall_mem_cons.mpr ⟨lw_p62, List.forall_mem_cons.mpr ⟨lw_p63, fun _ h => absurd h List.not_mem_nil⟩⟩⟩⟩⟩⟩⟩⟩⟩⟩⟩⟩⟩⟩⟩⟩
theorem lw_p64 : lw_okq (⟨"AlarmGroupsModel", "sayNumber", "(I)V"⟩, 58) := ⟨⟨by decide +kernel, by decide +kernel⟩, List.mem_of_getElem? (i := 973) (by decide +kernel), List.mem_of_getElem? (i := 1418) (by decide +kernel), List.mem_of_getElem? (i := 1419) (by decide +kernel)⟩
theorem lw_p65 : lw_okq (⟨"AlarmGroupsModel", "say", "(I)V"⟩, 58) := ⟨⟨by decide +kernel, by decide +kernel⟩, List.mem_of_getElem? (i := 973) (by decide +kernel), List.mem_of_getElem? (i := 1422) (by decide +kernel), List.mem_of_getElem? (i := 1423) (by decide +kernel)⟩
theorem lw_p66 : lw_okq (⟨"AlarmGroupsModel", "isTold", "()Z"⟩, 58) := ⟨⟨by decide +kernel, by decide +kernel⟩, List.mem_of_getElem? (i := 973) (by decide +kernel), List.mem_of_getElem? (i := 1438) (by decide +kernel), List.mem_of_getElem? (i := 1439) (by decide +kernel)⟩
def lw_privs_5 : List (MethodName × Nat) := [(⟨"AlarmGroupsModel", "sayNumber", "(I)V"⟩, 58), (⟨"AlarmGroupsModel", "say", "(I)V"⟩, 58), (⟨"AlarmGroupsModel", "isTold", "()Z"⟩, 58)]
theorem lw_r5 : ∀ q ∈ lw_privs_5, lw_okq q := List.forall_mem_cons.mpr ⟨lw_p64, List.forall_mem_cons.mpr ⟨lw_p65, List.forall_mem_cons.mpr ⟨lw_p66, fun _ h => absurd h List.not_mem_nil⟩⟩⟩
def lw_privs : List (MethodName × Nat) := lw_privs_1 ++ (lw_privs_2 ++ (lw_privs_3 ++ (lw_privs_4 ++ (lw_privs_5))))
def lw_tbl : List Cond := k2_sels lw_privs ++ tables_1
theorem lw_privs_ok : ∀ q ∈ lw_privs, lw_okq q := by
  show ∀ q ∈ lw_privs_1 ++ (lw_privs_2 ++ (lw_privs_3 ++ (lw_privs_4 ++ (lw_privs_5)))), lw_okq q
  exact List.forall_mem_append.mpr ⟨lw_r1, List.forall_mem_append.mpr ⟨lw_r2, List.forall_mem_append.mpr ⟨lw_r3, List.forall_mem_append.mpr ⟨lw_r4, lw_r5⟩⟩⟩⟩
end
section
def R_Alarms : String := "AlarmGroups$Alarms"
def F_Alarms : u_T := fun k => match k with
  | 0 => ("AlarmGroups$Alarms", "line", "[I", true)
  | 1 => ("AlarmGroups$Alarms", "kind", "[I", true)
  | 2 => ("AlarmGroups$Alarms", "wants", "[I", true)
  | 3 => ("AlarmGroups$Alarms", "p", "[I", true)
  | 4 => ("AlarmGroups$Alarms", "q", "[I", true)
  | 5 => ("AlarmGroups$Alarms", "state", "[I", true)
  | _ => ("AlarmGroups$Alarms", "size", "I", false)
def t_Alarms : Nat → FieldType := fun k => match k with
  | 0 => .array .int
  | 1 => .array .int
  | 2 => .array .int
  | 3 => .array .int
  | 4 => .array .int
  | 5 => .array .int
  | _ => .int
theorem n_Alarms : ∀ a, a < 7 → ∀ b, b < 7 → a ≠ b → (F_Alarms a).2.1 ≠ (F_Alarms b).2.1 := by decide +kernel
theorem t_Alarms_ok : ∀ k, k < 7 → parseFieldDescriptor (F_Alarms k).2.2.1 = some (t_Alarms k) := by decide +kernel
theorem i_Alarms : ∀ w ∈ u_ws R_Alarms F_Alarms 7, w ∈ lw_tbl := by decide +kernel
def R_Facts : String := "AlarmGroups$Facts"
def F_Facts : u_T := fun k => match k with
  | 0 => ("AlarmGroups$Facts", "groupFact", "[I", true)
  | 1 => ("AlarmGroups$Facts", "groupSet", "[J", true)
  | 2 => ("AlarmGroups$Facts", "groupCount", "I", false)
  | 3 => ("AlarmGroups$Facts", "rules", "I", false)
  | 4 => ("AlarmGroups$Facts", "ruleSet", "[I", true)
  | 5 => ("AlarmGroups$Facts", "ruleHead", "[I", true)
  | 6 => ("AlarmGroups$Facts", "trials", "[J", true)
  | _ => ("AlarmGroups$Facts", "proved", "I", false)
def t_Facts : Nat → FieldType := fun k => match k with
  | 0 => .array .int
  | 1 => .array .long
  | 2 => .int
  | 3 => .int
  | 4 => .array .int
  | 5 => .array .int
  | 6 => .array .long
  | _ => .int
theorem n_Facts : ∀ a, a < 8 → ∀ b, b < 8 → a ≠ b → (F_Facts a).2.1 ≠ (F_Facts b).2.1 := by decide +kernel
theorem t_Facts_ok : ∀ k, k < 8 → parseFieldDescriptor (F_Facts k).2.2.1 = some (t_Facts k) := by decide +kernel
theorem i_Facts : ∀ w ∈ u_ws R_Facts F_Facts 8, w ∈ lw_tbl := by decide +kernel
def R_Lines : String := "AlarmGroups$Lines"
def F_Lines : u_T := fun k => match k with
  | 0 => ("AlarmGroups$Lines", "file", "[I", true)
  | 1 => ("AlarmGroups$Lines", "mark", "[I", true)
  | 2 => ("AlarmGroups$Lines", "before", "[I", true)
  | _ => ("AlarmGroups$Lines", "size", "I", false)
def t_Lines : Nat → FieldType := fun k => match k with
  | 0 => .array .int
  | 1 => .array .int
  | 2 => .array .int
  | _ => .int
theorem n_Lines : ∀ a, a < 4 → ∀ b, b < 4 → a ≠ b → (F_Lines a).2.1 ≠ (F_Lines b).2.1 := by decide +kernel
theorem t_Lines_ok : ∀ k, k < 4 → parseFieldDescriptor (F_Lines k).2.2.1 = some (t_Lines k) := by decide +kernel
theorem i_Lines : ∀ w ∈ u_ws R_Lines F_Lines 4, w ∈ lw_tbl := by decide +kernel
def R_Lists : String := "AlarmGroups$Lists"
def F_Lists : u_T := fun k => match k with
  | 0 => ("AlarmGroups$Lists", "values", "[I", true)
  | _ => ("AlarmGroups$Lists", "place", "I", false)
def t_Lists : Nat → FieldType := fun k => match k with
  | 0 => .array .int
  | _ => .int
theorem n_Lists : ∀ a, a < 2 → ∀ b, b < 2 → a ≠ b → (F_Lists a).2.1 ≠ (F_Lists b).2.1 := by decide +kernel
theorem t_Lists_ok : ∀ k, k < 2 → parseFieldDescriptor (F_Lists k).2.2.1 = some (t_Lists k) := by decide +kernel
theorem i_Lists : ∀ w ∈ u_ws R_Lists F_Lists 2, w ∈ lw_tbl := by decide +kernel
def R_Matching : String := "AlarmGroups$Matching"
def F_Matching : u_T := fun k => match k with
  | 0 => ("AlarmGroups$Matching", "older", "[I", true)
  | 1 => ("AlarmGroups$Matching", "newer", "[I", true)
  | 2 => ("AlarmGroups$Matching", "most", "[I", true)
  | 3 => ("AlarmGroups$Matching", "olders", "I", false)
  | _ => ("AlarmGroups$Matching", "newers", "I", false)
def t_Matching : Nat → FieldType := fun k => match k with
  | 0 => .array .int
  | 1 => .array .int
  | 2 => .array .int
  | 3 => .int
  | _ => .int
theorem n_Matching : ∀ a, a < 5 → ∀ b, b < 5 → a ≠ b → (F_Matching a).2.1 ≠ (F_Matching b).2.1 := by decide +kernel
theorem t_Matching_ok : ∀ k, k < 5 → parseFieldDescriptor (F_Matching k).2.2.1 = some (t_Matching k) := by decide +kernel
theorem i_Matching : ∀ w ∈ u_ws R_Matching F_Matching 5, w ∈ lw_tbl := by decide +kernel
def R_Parts : String := "AlarmGroups$Parts"
def F_Parts : u_T := fun k => match k with
  | 0 => ("AlarmGroups$Parts", "bytes", "LAlarmGroups$Row;", true)
  | 1 => ("AlarmGroups$Parts", "starts", "[I", true)
  | _ => ("AlarmGroups$Parts", "parts", "I", false)
def t_Parts : Nat → FieldType := fun k => match k with
  | 0 => .object "AlarmGroups$Row"
  | 1 => .array .int
  | _ => .int
theorem n_Parts : ∀ a, a < 3 → ∀ b, b < 3 → a ≠ b → (F_Parts a).2.1 ≠ (F_Parts b).2.1 := by decide +kernel
theorem t_Parts_ok : ∀ k, k < 3 → parseFieldDescriptor (F_Parts k).2.2.1 = some (t_Parts k) := by decide +kernel
theorem i_Parts : ∀ w ∈ u_ws R_Parts F_Parts 3, w ∈ lw_tbl := by decide +kernel
def R_Ranks : String := "AlarmGroups$Ranks"
def F_Ranks : u_T := fun k => match k with
  | 0 => ("AlarmGroups$Ranks", "row", "[I", true)
  | 1 => ("AlarmGroups$Ranks", "chosenRow", "[I", true)
  | 2 => ("AlarmGroups$Ranks", "size", "I", false)
  | 3 => ("AlarmGroups$Ranks", "chosenSize", "I", false)
  | _ => ("AlarmGroups$Ranks", "perFile", "[I", true)
def t_Ranks : Nat → FieldType := fun k => match k with
  | 0 => .array .int
  | 1 => .array .int
  | 2 => .int
  | 3 => .int
  | _ => .array .int
theorem n_Ranks : ∀ a, a < 5 → ∀ b, b < 5 → a ≠ b → (F_Ranks a).2.1 ≠ (F_Ranks b).2.1 := by decide +kernel
theorem t_Ranks_ok : ∀ k, k < 5 → parseFieldDescriptor (F_Ranks k).2.2.1 = some (t_Ranks k) := by decide +kernel
theorem i_Ranks : ∀ w ∈ u_ws R_Ranks F_Ranks 5, w ∈ lw_tbl := by decide +kernel
def R_Row : String := "AlarmGroups$Row"
def F_Row : u_T := fun k => match k with
  | 0 => ("AlarmGroups$Row", "bytes", "[B", true)
  | _ => ("AlarmGroups$Row", "size", "I", false)
def t_Row : Nat → FieldType := fun k => match k with
  | 0 => .array .byte
  | _ => .int
theorem n_Row : ∀ a, a < 2 → ∀ b, b < 2 → a ≠ b → (F_Row a).2.1 ≠ (F_Row b).2.1 := by decide +kernel
theorem t_Row_ok : ∀ k, k < 2 → parseFieldDescriptor (F_Row k).2.2.1 = some (t_Row k) := by decide +kernel
theorem i_Row : ∀ w ∈ u_ws R_Row F_Row 2, w ∈ lw_tbl := by decide +kernel
def R_Silence : String := "AlarmGroups$Silence"
def F_Silence : u_T := fun k => match k with
  | 0 => ("AlarmGroups$Silence", "until", "I", false)
  | 1 => ("AlarmGroups$Silence", "kind", "I", false)
  | 2 => ("AlarmGroups$Silence", "form", "I", false)
  | 3 => ("AlarmGroups$Silence", "file", "I", false)
  | 4 => ("AlarmGroups$Silence", "lines", "J", false)
  | _ => ("AlarmGroups$Silence", "words", "LAlarmGroups$Row;", true)
def t_Silence : Nat → FieldType := fun k => match k with
  | 0 => .int
  | 1 => .int
  | 2 => .int
  | 3 => .int
  | 4 => .long
  | _ => .object "AlarmGroups$Row"
theorem n_Silence : ∀ a, a < 6 → ∀ b, b < 6 → a ≠ b → (F_Silence a).2.1 ≠ (F_Silence b).2.1 := by decide +kernel
theorem t_Silence_ok : ∀ k, k < 6 → parseFieldDescriptor (F_Silence k).2.2.1 = some (t_Silence k) := by decide +kernel
theorem i_Silence : ∀ w ∈ u_ws R_Silence F_Silence 6, w ∈ lw_tbl := by decide +kernel
def R_Silences : String := "AlarmGroups$Silences"
def F_Silences : u_T := fun k => match k with
  | 0 => ("AlarmGroups$Silences", "slots", "[LAlarmGroups$Silence;", true)
  | 1 => ("AlarmGroups$Silences", "size", "I", false)
  | _ => ("AlarmGroups$Silences", "tokens", "LAlarmGroups$Tokens;", true)
def t_Silences : Nat → FieldType := fun k => match k with
  | 0 => .array (.object "AlarmGroups$Silence")
  | 1 => .int
  | _ => .object "AlarmGroups$Tokens"
theorem n_Silences : ∀ a, a < 3 → ∀ b, b < 3 → a ≠ b → (F_Silences a).2.1 ≠ (F_Silences b).2.1 := by decide +kernel
theorem t_Silences_ok : ∀ k, k < 3 → parseFieldDescriptor (F_Silences k).2.2.1 = some (t_Silences k) := by decide +kernel
theorem i_Silences : ∀ w ∈ u_ws R_Silences F_Silences 3, w ∈ lw_tbl := by decide +kernel
def R_Tokens : String := "AlarmGroups$Tokens"
def F_Tokens : u_T := fun k => match k with
  | 0 => ("AlarmGroups$Tokens", "text", "LAlarmGroups$Row;", true)
  | 1 => ("AlarmGroups$Tokens", "sorts", "[I", true)
  | 2 => ("AlarmGroups$Tokens", "starts", "[I", true)
  | 3 => ("AlarmGroups$Tokens", "ends", "[I", true)
  | 4 => ("AlarmGroups$Tokens", "size", "I", false)
  | _ => ("AlarmGroups$Tokens", "next", "I", false)
def t_Tokens : Nat → FieldType := fun k => match k with
  | 0 => .object "AlarmGroups$Row"
  | 1 => .array .int
  | 2 => .array .int
  | 3 => .array .int
  | 4 => .int
  | _ => .int
theorem n_Tokens : ∀ a, a < 6 → ∀ b, b < 6 → a ≠ b → (F_Tokens a).2.1 ≠ (F_Tokens b).2.1 := by decide +kernel
theorem t_Tokens_ok : ∀ k, k < 6 → parseFieldDescriptor (F_Tokens k).2.2.1 = some (t_Tokens k) := by decide +kernel
theorem i_Tokens : ∀ w ∈ u_ws R_Tokens F_Tokens 6, w ∈ lw_tbl := by decide +kernel
def R_Top : String := "AlarmGroups"
def F_Top : u_T := fun k => match k with
  | 0 => ("AlarmGroups", "text", "LAlarmGroups$Row;", true)
  | 1 => ("AlarmGroups", "list", "LAlarmGroups$Row;", true)
  | 2 => ("AlarmGroups", "matching", "LAlarmGroups$Matching;", true)
  | 3 => ("AlarmGroups", "alarms", "LAlarmGroups$Alarms;", true)
  | 4 => ("AlarmGroups", "facts", "LAlarmGroups$Facts;", true)
  | 5 => ("AlarmGroups", "silences", "LAlarmGroups$Silences;", true)
  | 6 => ("AlarmGroups", "ranks", "LAlarmGroups$Ranks;", true)
  | 7 => ("AlarmGroups", "lists", "LAlarmGroups$Lists;", true)
  | 8 => ("AlarmGroups", "paths", "[LAlarmGroups$Parts;", true)
  | 9 => ("AlarmGroups", "patterns", "[LAlarmGroups$Parts;", true)
  | 10 => ("AlarmGroups", "patternOwners", "[I", true)
  | 11 => ("AlarmGroups", "past", "[J", true)
  | 12 => ("AlarmGroups", "draft", "LAlarmGroups$Lines;", false)
  | 13 => ("AlarmGroups", "now", "LAlarmGroups$Lines;", false)
  | 14 => ("AlarmGroups", "builds", "I", false)
  | _ => ("AlarmGroups", "patternCount", "I", false)
def t_Top : Nat → FieldType := fun k => match k with
  | 0 => .object "AlarmGroups$Row"
  | 1 => .object "AlarmGroups$Row"
  | 2 => .object "AlarmGroups$Matching"
  | 3 => .object "AlarmGroups$Alarms"
  | 4 => .object "AlarmGroups$Facts"
  | 5 => .object "AlarmGroups$Silences"
  | 6 => .object "AlarmGroups$Ranks"
  | 7 => .object "AlarmGroups$Lists"
  | 8 => .array (.object "AlarmGroups$Parts")
  | 9 => .array (.object "AlarmGroups$Parts")
  | 10 => .array .int
  | 11 => .array .long
  | 12 => .object "AlarmGroups$Lines"
  | 13 => .object "AlarmGroups$Lines"
  | 14 => .int
  | _ => .int
theorem n_Top : ∀ a, a < 16 → ∀ b, b < 16 → a ≠ b → (F_Top a).2.1 ≠ (F_Top b).2.1 := by decide +kernel
theorem t_Top_ok : ∀ k, k < 16 → parseFieldDescriptor (F_Top k).2.2.1 = some (t_Top k) := by decide +kernel
theorem i_Top : ∀ w ∈ u_ws R_Top F_Top 16, w ∈ lw_tbl := by decide +kernel
def R_Mod : String := "AlarmGroupsModel"
def F_Mod : u_T := fun k => match k with
  | 0 => ("AlarmGroupsModel", "text", "[I", true)
  | 1 => ("AlarmGroupsModel", "size", "I", false)
  | 2 => ("AlarmGroupsModel", "builds", "I", false)
  | 3 => ("AlarmGroupsModel", "lines", "I", false)
  | 4 => ("AlarmGroupsModel", "fileOf", "[I", true)
  | 5 => ("AlarmGroupsModel", "markOf", "[I", true)
  | 6 => ("AlarmGroupsModel", "partnerOf", "[I", true)
  | 7 => ("AlarmGroupsModel", "drafted", "I", false)
  | 8 => ("AlarmGroupsModel", "draftFile", "[I", true)
  | 9 => ("AlarmGroupsModel", "draftMark", "[I", true)
  | 10 => ("AlarmGroupsModel", "wentTo", "[I", true)
  | 11 => ("AlarmGroupsModel", "olds", "[I", true)
  | 12 => ("AlarmGroupsModel", "news", "[I", true)
  | 13 => ("AlarmGroupsModel", "most", "[I", true)
  | 14 => ("AlarmGroupsModel", "trends", "[I", true)
  | 15 => ("AlarmGroupsModel", "alarms", "I", false)
  | 16 => ("AlarmGroupsModel", "lineOf", "[I", true)
  | 17 => ("AlarmGroupsModel", "kindOf", "[I", true)
  | 18 => ("AlarmGroupsModel", "wants", "[I", true)
  | 19 => ("AlarmGroupsModel", "above", "[I", true)
  | 20 => ("AlarmGroupsModel", "below", "[I", true)
  | 21 => ("AlarmGroupsModel", "state", "[I", true)
  | 22 => ("AlarmGroupsModel", "ofBuilds", "[I", true)
  | 23 => ("AlarmGroupsModel", "rules", "I", false)
  | 24 => ("AlarmGroupsModel", "ruleSet", "[I", true)
  | 25 => ("AlarmGroupsModel", "ruleHead", "[I", true)
  | 26 => ("AlarmGroupsModel", "proved", "I", false)
  | 27 => ("AlarmGroupsModel", "groupOf", "[I", true)
  | 28 => ("AlarmGroupsModel", "factOf", "[I", true)
  | 29 => ("AlarmGroupsModel", "groupMany", "I", false)
  | 30 => ("AlarmGroupsModel", "silences", "I", false)
  | 31 => ("AlarmGroupsModel", "until", "[I", true)
  | 32 => ("AlarmGroupsModel", "silenceKind", "[I", true)
  | 33 => ("AlarmGroupsModel", "where", "[I", true)
  | 34 => ("AlarmGroupsModel", "silenceFile", "[I", true)
  | 35 => ("AlarmGroupsModel", "silenceLines", "[J", true)
  | 36 => ("AlarmGroupsModel", "reasonSize", "[I", true)
  | 37 => ("AlarmGroupsModel", "reasons", "[I", true)
  | 38 => ("AlarmGroupsModel", "token", "I", false)
  | 39 => ("AlarmGroupsModel", "place", "I", false)
  | 40 => ("AlarmGroupsModel", "behind", "I", false)
  | 41 => ("AlarmGroupsModel", "value", "J", false)
  | 42 => ("AlarmGroupsModel", "isWrong", "Z", false)
  | 43 => ("AlarmGroupsModel", "paths", "[I", true)
  | 44 => ("AlarmGroupsModel", "pathSize", "[I", true)
  | 45 => ("AlarmGroupsModel", "patterns", "I", false)
  | 46 => ("AlarmGroupsModel", "pattern", "[I", true)
  | 47 => ("AlarmGroupsModel", "patternSize", "[I", true)
  | 48 => ("AlarmGroupsModel", "ownerOfPattern", "[I", true)
  | 49 => ("AlarmGroupsModel", "fits", "[Z", true)
  | 50 => ("AlarmGroupsModel", "order", "[I", true)
  | 51 => ("AlarmGroupsModel", "ordered", "I", false)
  | 52 => ("AlarmGroupsModel", "chosen", "[I", true)
  | 53 => ("AlarmGroupsModel", "chosenMany", "I", false)
  | 54 => ("AlarmGroupsModel", "ofFile", "[I", true)
  | 55 => ("AlarmGroupsModel", "out", "[I", true)
  | 56 => ("AlarmGroupsModel", "outSize", "I", false)
  | _ => ("AlarmGroupsModel", "four", "[I", true)
def t_Mod : Nat → FieldType := fun k => match k with
  | 0 => .array .int
  | 1 => .int
  | 2 => .int
  | 3 => .int
  | 4 => .array .int
  | 5 => .array .int
  | 6 => .array .int
  | 7 => .int
  | 8 => .array .int
  | 9 => .array .int
  | 10 => .array .int
  | 11 => .array .int
  | 12 => .array .int
  | 13 => .array .int
  | 14 => .array .int
  | 15 => .int
  | 16 => .array .int
  | 17 => .array .int
  | 18 => .array .int
  | 19 => .array .int
  | 20 => .array .int
  | 21 => .array .int
  | 22 => .array .int
  | 23 => .int
  | 24 => .array .int
  | 25 => .array .int
  | 26 => .int
  | 27 => .array .int
  | 28 => .array .int
  | 29 => .int
  | 30 => .int
  | 31 => .array .int
  | 32 => .array .int
  | 33 => .array .int
  | 34 => .array .int
  | 35 => .array .long
  | 36 => .array .int
  | 37 => .array .int
  | 38 => .int
  | 39 => .int
  | 40 => .int
  | 41 => .long
  | 42 => .boolean
  | 43 => .array .int
  | 44 => .array .int
  | 45 => .int
  | 46 => .array .int
  | 47 => .array .int
  | 48 => .array .int
  | 49 => .array .boolean
  | 50 => .array .int
  | 51 => .int
  | 52 => .array .int
  | 53 => .int
  | 54 => .array .int
  | 55 => .array .int
  | 56 => .int
  | _ => .array .int
theorem n_Mod : ∀ a, a < 58 → ∀ b, b < 58 → a ≠ b → (F_Mod a).2.1 ≠ (F_Mod b).2.1 := by decide +kernel
theorem t_Mod_ok : ∀ k, k < 58 → parseFieldDescriptor (F_Mod k).2.2.1 = some (t_Mod k) := by decide +kernel
theorem i_Mod : ∀ w ∈ u_ws R_Mod F_Mod 58, w ∈ lw_tbl := by decide +kernel
/-- the classes whose objects the worlds hold -/
def ax_cl : List vw_C := [(R_Alarms, F_Alarms, 7), (R_Facts, F_Facts, 8), (R_Lines, F_Lines, 4), (R_Lists, F_Lists, 2), (R_Matching, F_Matching, 5), (R_Parts, F_Parts, 3), (R_Ranks, F_Ranks, 5), (R_Row, F_Row, 2), (R_Silence, F_Silence, 6), (R_Silences, F_Silences, 3), (R_Tokens, F_Tokens, 6), (R_Top, F_Top, 16), (R_Mod, F_Mod, 58)]
/-- the arrays, by tags: 0 int, 1 byte, 2 boolean, 3 long, 4 Parts, 5 Silence -/
def ax_ty : List FieldType := [.int, .byte, .boolean, .long, .object "AlarmGroups$Parts", .object "AlarmGroups$Silence"]
def ax_tbl : List Cond := lw_tbl.filter goodWord
theorem ax_in {w : Cond} (h : w ∈ lw_tbl) (hg : goodWord w = true) : w ∈ ax_tbl := List.mem_filter.mpr ⟨h, hg⟩
theorem ax_at {w : Cond} (i : Nat) (h : lw_tbl[i]? = some w) (hg : goodWord w = true) : w ∈ ax_tbl := ax_in (List.mem_of_getElem? h) hg
/-- what a class of the list is: its words stand in the tables, its fields have types and names of their own -/
def ax_ck (q : vw_C) : Prop := (∀ w ∈ u_ws q.1 q.2.1 q.2.2, w ∈ ax_tbl) ∧ (∃ ty : Nat → FieldType, ∀ k, k < q.2.2 → parseFieldDescriptor (q.2.1 k).2.2.1 = some (ty k)) ∧ (∀ a, a < q.2.2 → ∀ b, b < q.2.2 → a ≠ b → (q.2.1 a).2.1 ≠ (q.2.1 b).2.1)
theorem ax_uws {C : String} {T : u_T} {N : Nat} (h : ∀ w ∈ u_ws C T N, w ∈ lw_tbl) : ∀ w ∈ u_ws C T N, w ∈ ax_tbl := by
  intro w hw
  refine ax_in (h w hw) ?_
  obtain ⟨k, -, rfl⟩ := List.mem_map.mp hw
  unfold u_lay
  split <;> rfl
theorem ax_cks : ∀ (ci : Nat) (q : vw_C), ax_cl[ci]? = some q → ax_ck q := by
  intro ci q h
  match ci, h with
  | 0, h => cases h; exact ⟨ax_uws i_Alarms, ⟨t_Alarms, t_Alarms_ok⟩, n_Alarms⟩
  | 1, h => cases h; exact ⟨ax_uws i_Facts, ⟨t_Facts, t_Facts_ok⟩, n_Facts⟩
  | 2, h => cases h; exact ⟨ax_uws i_Lines, ⟨t_Lines, t_Lines_ok⟩, n_Lines⟩
  | 3, h => cases h; exact ⟨ax_uws i_Lists, ⟨t_Lists, t_Lists_ok⟩, n_Lists⟩
  | 4, h => cases h; exact ⟨ax_uws i_Matching, ⟨t_Matching, t_Matching_ok⟩, n_Matching⟩
  | 5, h => cases h; exact ⟨ax_uws i_Parts, ⟨t_Parts, t_Parts_ok⟩, n_Parts⟩
  | 6, h => cases h; exact ⟨ax_uws i_Ranks, ⟨t_Ranks, t_Ranks_ok⟩, n_Ranks⟩
  | 7, h => cases h; exact ⟨ax_uws i_Row, ⟨t_Row, t_Row_ok⟩, n_Row⟩
  | 8, h => cases h; exact ⟨ax_uws i_Silence, ⟨t_Silence, t_Silence_ok⟩, n_Silence⟩
  | 9, h => cases h; exact ⟨ax_uws i_Silences, ⟨t_Silences, t_Silences_ok⟩, n_Silences⟩
  | 10, h => cases h; exact ⟨ax_uws i_Tokens, ⟨t_Tokens, t_Tokens_ok⟩, n_Tokens⟩
  | 11, h => cases h; exact ⟨ax_uws i_Top, ⟨t_Top, t_Top_ok⟩, n_Top⟩
  | 12, h => cases h; exact ⟨ax_uws i_Mod, ⟨t_Mod, t_Mod_ok⟩, n_Mod⟩
  | n + 13, h => simp [ax_cl] at h
end
section
/-! The abstract machine: cells by their numbers from the base on; a world is a function of numbers; references are numbers. -/
abbrev ax_E : Type := (Nat × vp_A) ⊕ (Nat × List Value)
abbrev ax_M : Type := Nat × (Nat → Option ax_E)
/-- launch, base, slots, array classes, outside addresses (texts, their bytes), the script -/
abbrev ax_Y : Type := Launch × Nat × va_G × (Nat → ClassId) × (Nat → Nat) × (Nat → Nat) × Nat × (Nat → Int32)
/-- name, bytes, locals, answer, instructions -/
abbrev ax_P : Type := MethodName × ByteArray × Nat × Option FieldType × (Nat → Option (Instr × Nat))
def ax_v (g : ax_Y) : Value → Value
  | .ref k => .ref (g.2.1 + k)
  | .retAddr k => .ref (g.2.2.2.2.1 k)
  | v => v
def ax_q (g : ax_Y) (q : Option Nat) : Option Nat := q.map (fun k => g.2.1 + k)
def ax_a (g : ax_Y) (a : vp_A) : vp_A := (a.1, match a.2 with
  | .inr (.inr (.inr (.inr q))) => .inr (.inr (.inr (.inr (fun i => ax_q g (q i)))))
  | x => x)
def ax_e (g : ax_Y) : ax_E → va_E
  | .inl a => .inl (g.2.2.2.1 a.1, ax_a g a.2)
  | .inr o => .inr (o.1, o.2.map (ax_v g))
def ax_ws (g : ax_Y) (M : ax_M) : va_W := (List.range M.1).map (fun k => (g.2.1 + k, ax_e g ((M.2 k).getD (.inr (0, [])))))
def ax_put (M : ax_M) (a : Nat) (e : ax_E) : ax_M := (M.1, va_up M.2 a (some e))
def ax_new (M : ax_M) (e : ax_E) : ax_M := (M.1 + 1, va_up M.2 M.1 (some e))
def ax_A (g : ax_Y) : Nat → Prop := fun q => g.2.1 ≤ q
def ax_R (g : ax_Y) (M : ax_M) (H : Heap) : Prop := H.size = g.2.1 + M.1 ∧ (∀ k : Nat, k < M.1 ↔ ∃ e, M.2 k = some e) ∧ va_P g.2.2.1 ax_cl (ax_ws g M) H
theorem ax_R.lt {g : ax_Y} {M : ax_M} {H : Heap} (h : ax_R g M H) {a : Nat} {e : ax_E} (ha : M.2 a = some e) : a < M.1 := (h.2.1 a).mpr ⟨e, ha⟩
theorem ax_R.at {g : ax_Y} {M : ax_M} {H : Heap} (h : ax_R g M H) {a : Nat} {e : ax_E} (ha : M.2 a = some e) : (ax_ws g M)[a]? = some (g.2.1 + a, ax_e g e) := by
  have hl := h.lt ha
  unfold ax_ws
  rw [List.getElem?_map, List.getElem?_range hl]
  simp [ha]
theorem ax_D (g : ax_Y) (M : ax_M) : va_D (ax_A g) (ax_ws g M) := by
  have key : ∀ (k : Nat) (q : Nat × va_E), (ax_ws g M)[k]? = some q → q.1 = g.2.1 + k := by
    intro k q h
    unfold ax_ws at h
    rw [List.getElem?_map] at h
    cases hk : (List.range M.1)[k]? with
    | none => rw [hk] at h; cases h
    | some j =>
      rw [hk] at h
      have hj : j = k := by
        obtain ⟨hl, he⟩ := List.getElem?_eq_some_iff.mp hk
        simpa using he.symm
      subst hj
      simp at h
      rw [← h]
  refine ⟨fun i j p q h1 h2 h3 => ?_, fun k q h => ?_⟩
  · have a1 := key i p h1
    have a2 := key j q h2
    omega
  · have a1 := key k q h
    show g.2.1 ≤ q.1
    omega
theorem ax_R.has {g : ax_Y} {M : ax_M} {H : Heap} (h : ax_R g M H) {a : Nat} {e : ax_E} (ha : M.2 a = some e) : va_at g.2.2.1 ax_cl (g.2.1 + a, ax_e g e) H := h.2.2 a _ (h.at ha)
/-- one cell is changed -/
theorem ax_R.put {g : ax_Y} {M : ax_M} {H H1 : Heap} (h : ax_R g M H) {a : Nat} {e0 e : ax_E} (ha : M.2 a = some e0) (he : va_at g.2.2.1 ax_cl (g.2.1 + a, ax_e g e) H1) (hz : H1.size = H.size) (oq : ∀ q : Nat, q ≠ g.2.1 + a → H1[q]? = H[q]?) : ax_R g (ax_put M a e) H1 := by
  have hl := h.lt ha
  refine ⟨by rw [hz]; exact h.1, fun k => ?_, fun k q hk => ?_⟩
  · show k < M.1 ↔ _
    by_cases hka : k = a
    · subst hka
      exact ⟨fun _ => ⟨e, by simp [ax_put, va_up]⟩, fun _ => hl⟩
    · rw [h.2.1 k]
      simp [ax_put, va_up, hka]
  · unfold ax_ws at hk
    rw [List.getElem?_map] at hk
    cases hr : (List.range (ax_put M a e).1)[k]? with
    | none => rw [hr] at hk; cases hk
    | some j =>
      rw [hr] at hk
      obtain ⟨hl1, he1⟩ := List.getElem?_eq_some_iff.mp hr
      have hj : j = k := by simpa using he1.symm
      subst hj
      have hlk : j < M.1 := by simpa [ax_put] using hl1
      by_cases hka : j = a
      · subst hka
        simp [ax_put, va_up] at hk
        rw [← hk]
        exact he
      · obtain ⟨e1, h1⟩ := (h.2.1 j).mp hlk
        simp [ax_put, va_up, hka, h1] at hk
        rw [← hk]
        exact (h.has h1).kept (oq _ (by show g.2.1 + j ≠ g.2.1 + a; omega))
/-- one cell is new -/
theorem ax_R.push {g : ax_Y} {M : ax_M} {H H1 : Heap} (h : ax_R g M H) {e : ax_E} (he : va_at g.2.2.1 ax_cl (g.2.1 + M.1, ax_e g e) H1) (hz : H1.size = H.size + 1) (oq : ∀ q : Nat, q < H.size → H1[q]? = H[q]?) : ax_R g (ax_new M e) H1 := by
  refine ⟨by rw [hz, h.1]; rfl, fun k => ?_, fun k q hk => ?_⟩
  · show k < M.1 + 1 ↔ _
    by_cases hka : k = M.1
    · subst hka
      exact ⟨fun _ => ⟨e, by simp [ax_new, va_up]⟩, fun _ => Nat.lt_succ_self _⟩
    · have h2 := h.2.1 k
      simp [ax_new, va_up, hka]
      rw [← h2]
      omega
  · unfold ax_ws at hk
    rw [List.getElem?_map] at hk
    cases hr : (List.range (ax_new M e).1)[k]? with
    | none => rw [hr] at hk; cases hk
    | some j =>
      rw [hr] at hk
      obtain ⟨hl1, he1⟩ := List.getElem?_eq_some_iff.mp hr
      have hj : j = k := by simpa using he1.symm
      subst hj
      have hlk : j < M.1 + 1 := by simpa [ax_new] using hl1
      by_cases hka : j = M.1
      · subst hka
        simp [ax_new, va_up] at hk
        rw [← hk]
        exact he
      · obtain ⟨e1, h1⟩ := (h.2.1 j).mp (by omega)
        simp [ax_new, va_up, hka, h1] at hk
        rw [← hk]
        exact (h.has h1).kept (oq _ (by show g.2.1 + j < H.size; rw [h.1]; omega))
/-- locals: a dense list; .float 0 says nothing -/
def ax_L (g : ax_Y) (lv : List Value) (ls : Array Slot) : Prop := ls.size = lv.length ∧ lv_wf ls ∧ ∀ (i : Nat) (v : Value), lv[i]? = some v → v ≠ .float 0 → ls[i]? = some (.val (ax_v g v))
def ax_pr (g : ax_Y) (lv : List Value) : List (Nat × Value) := (List.range lv.length).filterMap (fun i => (lv[i]?).bind (fun v => if v = .float 0 then none else some (i, ax_v g v)))
theorem ax_pr_in {g : ax_Y} {lv : List Value} {q : Nat × Value} : q ∈ ax_pr g lv ↔ ∃ v, lv[q.1]? = some v ∧ v ≠ .float 0 ∧ q.2 = ax_v g v := by
  unfold ax_pr
  rw [List.mem_filterMap]
  constructor
  · rintro ⟨i, hi, h⟩
    cases hv : lv[i]? with
    | none => rw [hv] at h; cases h
    | some v =>
      rw [hv] at h
      simp only [Option.bind_some] at h
      by_cases hf : v = .float 0
      · rw [if_pos hf] at h; cases h
      · rw [if_neg hf] at h
        cases h
        exact ⟨v, hv, hf, rfl⟩
  · rintro ⟨v, h1, h2, h3⟩
    refine ⟨q.1, List.mem_range.mpr (List.getElem?_eq_some_iff.mp h1).1, ?_⟩
    rw [h1]
    simp only [Option.bind_some]
    rw [if_neg h2, ← h3]
theorem ax_L.has {g : ax_Y} {lv : List Value} {ls : Array Slot} (h : ax_L g lv ls) : lv_has ls lv.length (ax_pr g lv) := ⟨h.1, h.2.1, fun q hq => by
  obtain ⟨v, h1, h2, h3⟩ := ax_pr_in.mp hq
  rw [h3]
  exact h.2.2 q.1 v h1 h2⟩
/-- the place ahead holds no value of two slots -/
def ax_c1 (lv : List Value) : Nat → Bool
  | 0 => true
  | k + 1 => match lv[k]? with
    | some v => decide (v.category = 1)
    | none => true
theorem ax_cat (g : ax_Y) (v : Value) : (ax_v g v).category = v.category := by cases v <;> rfl
theorem ax_L.store1 {g : ax_Y} {lv : List Value} {ls ls' : Array Slot} {i : Nat} {v : Value} (h : ax_L g lv ls) (hc : ax_c1 lv i = true)
    (hn : lv_has ls' lv.length ((i, ax_v g v) :: (ax_pr g lv).filter (fun q => !(q.1 == i) && !(q.1 + 1 == i && q.2.category == 2)))) : ax_L g (lv.set i v) ls' := by
  refine ⟨by rw [List.length_set]; exact hn.1, hn.2.1, fun j w hj hw => ?_⟩
  by_cases hji : j = i
  · subst hji
    have hl : j < lv.length := by
      have := (List.getElem?_eq_some_iff.mp hj).1
      simpa using this
    rw [List.getElem?_set_self hl] at hj
    cases hj
    exact hn.2.2 _ List.mem_cons_self
  · rw [List.getElem?_set_ne (Ne.symm hji)] at hj
    refine hn.2.2 (j, ax_v g w) (List.mem_cons_of_mem _ (List.mem_filter.mpr ⟨ax_pr_in.mpr ⟨w, hj, hw, rfl⟩, ?_⟩))
    by_cases h1 : j + 1 = i
    · subst h1
      simp only [ax_c1, hj] at hc
      simp [ax_cat, of_decide_eq_true hc]
    · simp [hji, h1]
theorem ax_L.store2 {g : ax_Y} {lv : List Value} {ls ls' : Array Slot} {i : Nat} {v : Value} (h : ax_L g lv ls) (hc : ax_c1 lv i = true)
    (hn : lv_has ls' lv.length ((i, ax_v g v) :: (ax_pr g lv).filter (fun q => !(q.1 == i) && (!(q.1 == i + 1) && !(q.1 + 1 == i && q.2.category == 2))))) : ax_L g ((lv.set i v).set (i + 1) (.float 0)) ls' := by
  refine ⟨by rw [List.length_set, List.length_set]; exact hn.1, hn.2.1, fun j w hj hw => ?_⟩
  by_cases hj1 : j = i + 1
  · subst hj1
    have hl : i + 1 < (lv.set i v).length := by
      have := (List.getElem?_eq_some_iff.mp hj).1
      simpa using this
    rw [List.getElem?_set_self hl] at hj
    cases hj
    exact absurd rfl hw
  · rw [List.getElem?_set_ne (Ne.symm hj1)] at hj
    by_cases hji : j = i
    · subst hji
      have hl : j < lv.length := by
        have := (List.getElem?_eq_some_iff.mp hj).1
        simpa using this
      rw [List.getElem?_set_self hl] at hj
      cases hj
      exact hn.2.2 _ List.mem_cons_self
    · rw [List.getElem?_set_ne (Ne.symm hji)] at hj
      refine hn.2.2 (j, ax_v g w) (List.mem_cons_of_mem _ (List.mem_filter.mpr ⟨ax_pr_in.mpr ⟨w, hj, hw, rfl⟩, ?_⟩))
      by_cases h1 : j + 1 = i
      · subst h1
        simp only [ax_c1, hj] at hc
        simp [ax_cat, of_decide_eq_true hc]
        omega
      · simp [hji, h1, hj1]
end
section
/-! What holds of the tables and of what lies outside; the judgement. -/
def ax_tys (g : ax_Y) : List (ClassId × FieldType) := [(g.2.2.2.1 0, .int), (g.2.2.2.1 1, .byte), (g.2.2.2.1 2, .boolean), (g.2.2.2.1 3, .long), (g.2.2.2.1 4, .object "AlarmGroups$Parts"), (g.2.2.2.1 5, .object "AlarmGroups$Silence")]
def ax_isN : Cond → Bool
  | .methodLinkNest _ _ _ _ => true
  | _ => false
def ax_nst : List Cond := lw_tbl.filter ax_isN
/-- the texts: class, entry, text, bytes -/
def ax_str : List (String × Nat × String) := [("AlarmGroups$Silences", 77, "silence"), ("AlarmGroups$Silences", 101, "all"), ("AlarmGroups$Silences", 106, "file"), ("AlarmGroups$Silences", 113, "line"), ("AlarmGroups$Silences", 118, "lines"), ("AlarmGroups$Silences", 122, "to"), ("AlarmGroups$Silences", 124, "kind"), ("AlarmGroups$Silences", 125, "until"), ("AlarmGroups$Silences", 132, "because"), ("AlarmGroups$Lists", 51, "@ /;")]
def ax_sby : List (List Int32) := [[115, 105, 108, 101, 110, 99, 101], [97, 108, 108], [102, 105, 108, 101], [108, 105, 110, 101], [108, 105, 110, 101, 115], [116, 111], [107, 105, 110, 100], [117, 110, 116, 105, 108], [98, 101, 99, 97, 117, 115, 101], [64, 32, 47, 59]]
def ax_sln : List Nat := [7, 3, 4, 4, 5, 2, 4, 5, 7, 4]
def ax_K (g : ax_Y) (U : State) : Prop := va_K g.2.2.1 ax_cl (ax_tys g) U ∧ (∀ w ∈ ax_nst, va_Nw w U) ∧ ∀ (i : Nat) (q : String × Nat × String), ax_str[i]? = some q → vk_R q.1 q.2.1 q.2.2 (g.2.2.2.2.1 i) U
def ax_X (g : ax_Y) (U : State) (H : Heap) : Prop := vk_S 10 ax_sln ax_sby g.2.2.2.2.1 g.2.2.2.2.2.1 (ax_A g) U H ∧ va_Z "java/lang/String" "COMPACT_STRINGS" "Z" (.int 1) (ax_A g) U H ∧ va_X (g.2.2.2.2.1 10) g.2.2.2.2.2.2.1 g.2.2.2.2.2.2.2 U H ∧ g.2.2.2.2.1 10 < g.2.1
theorem ax_K.warm {g : ax_Y} {s U : State} (hW : s.WarmedH U.vm) (h : ax_K g s) : ax_K g U := by
  refine ⟨va_K.moved hW.alike h.1, fun w hw => ?_, fun i q hq => (h.2.2 i q hq).warm hW⟩
  have h1 := h.2.1 w hw
  have h2 := (List.mem_filter.mp hw).2
  cases w <;> first | exact va_Nw.warmM hW h1 | (simp [ax_isN] at h2)
theorem ax_K.same {g : ax_Y} {u U : State} (hv : u.vm = U.vm) (h : ax_K g u) : ax_K g U := by
  refine ⟨va_K.moved (by rw [hv]; exact Vm.Alike.refl _) h.1, fun w hw => ?_, fun i q hq => (h.2.2 i q hq).same hv.symm⟩
  have h1 := h.2.1 w hw
  have h2 := (List.mem_filter.mp hw).2
  cases w <;> first | exact va_Nw.same rfl hv h1 | (simp [ax_isN] at h2)
theorem ax_X.moved {g : ax_Y} {u U : State} {H : Heap} (hvm : u.vm.Alike U.vm) (h : ax_X g u H) : ax_X g U H := ⟨vk_S.moved hvm h.1, h.2.1.moved hvm, h.2.2.1.moved hvm, h.2.2.2⟩
theorem ax_X.kept {g : ax_Y} {U : State} {H H1 : Heap} (h : ax_X g U H) (hq : ∀ a : Nat, a < H.size → ¬ ax_A g a → H1[a]? = H[a]?) : ax_X g U H1 := by
  refine ⟨h.1.kept hq, h.2.1.kept hq, h.2.2.1.kept (hq _ ?_ ?_), h.2.2.2⟩
  · obtain ⟨scr, h1, -⟩ := h.2.2.1
    exact (Array.getElem?_eq_some_iff.mp h1).1
  · exact Nat.not_le.mpr h.2.2.2
/-- what a method knows of its own frame -/
def ax_C (g : ax_Y) (P : ax_P) (p : Program) (s : State) (m : MethodId) (args : Array Value) (meth : Method) (c : Code) : Prop :=
  p.tables.exec = Jvm.exec ∧ c.code = P.2.1 ∧ meth.sig.returnType = P.2.2.2.1 ∧ c.maxLocals = P.2.2.1 ∧ s.vm.findClass P.1.cls = some m.cls ∧ (∀ w ∈ ax_tbl, w.before args s = true) ∧ meth.locks = false ∧ meth.name = P.1.name ∧
  (∀ (pc : Nat) (i : Instr) (n : Nat), P.2.2.2.2 pc = some (i, n) → decode P.2.1 pc = .ok (i, n)) ∧ ax_K g s ∧ ax_X g s s.heap ∧ g.2.1 ≤ s.heap.size
/-- the answer's instruction -/
def ax_rt (P : ax_P) (pc : Nat) (v : Option Value) : Prop := (v = none ∧ P.2.2.2.1 = none ∧ decode P.2.1 pc = .ok (.return_, 1)) ∨ (∃ x : Int32, v = some (.int x) ∧ (∃ ty, P.2.2.2.1 = some ty ∧ narrow ty (.int x) = .int x) ∧ decode P.2.1 pc = .ok (.ireturn, 1)) ∨ (∃ x : Int64, v = some (.long x) ∧ P.2.2.2.1 = some .long ∧ decode P.2.1 pc = .ok (.lreturn, 1))
def ax_rs (v : Option Value) (st : List Value) : List Value := match v with
  | none => st
  | some x => x :: st
/-- from the frame (pc, lv, st) of P over the world M the machine comes to P's end with an answer v and a world M' such that Q v M' -/
def ax_G (g : ax_Y) (P : ax_P) (h mc ms pc : Nat) (lv st : List Value) (M : ax_M) (Q : Option Value → ax_M → Prop) : Prop :=
  ∀ (p : Program) (e : Env) (R : Room) (s : State) (m : MethodId) (args : Array Value) (below : List Frame) (meth : Method) (c : Code) (H : Heap) (locs : List Loc) (cells slots : Nat) (ls : Array Slot) (QQ : State → Prop),
    ax_C g P p s m args meth c → h ≤ R.frames ∧ 30 * h ≤ R.locals → cells + mc ≤ R.cells ∧ slots + ms ≤ R.slots → ax_L g lv ls ∧ lv.length = P.2.2.1 → ax_R g M H → va_S (ax_A g) s.heap H locs →
    (∀ (v : Option Value) (M' : ax_M) (H' : Heap) (locs' : List Loc) (cells' slots' pc' : Nat) (ls' : Array Slot), Q v M' → ax_R g M' H' → va_S (ax_A g) s.heap H' locs' → cells' ≤ cells + mc ∧ slots' ≤ slots + ms → ax_rt P pc' v → W p g.1 e R s m args below meth c H' locs' cells' slots' QQ (F0 m pc' ls' ((ax_rs v []).map (ax_v g)))) →
    W p g.1 e R s m args below meth c H locs cells slots QQ (F0 m pc ls (st.map (ax_v g)))
theorem ax_G.mono {g : ax_Y} {P : ax_P} {h mc ms pc : Nat} {lv st : List Value} {M : ax_M} {Q Q' : Option Value → ax_M → Prop} (k : ax_G g P h mc ms pc lv st M Q) (hq : ∀ v M', Q v M' → Q' v M') : ax_G g P h mc ms pc lv st M Q' :=
  fun p e R s m args below meth c H locs cells slots ls QQ C hh hr hL hR hS hK => k p e R s m args below meth c H locs cells slots ls QQ C hh hr hL hR hS (fun v M' H' locs' cells' slots' pc' ls' q => hK v M' H' locs' cells' slots' pc' ls' (hq v M' q))
/-- the locals at a method's entry -/
def ax_ls (vs : List Value) : List Value := vs.flatMap (fun v => if v.category = 2 then [v, .float 0] else [v])
def ax_en (n : Nat) (vs : List Value) : List Value := ax_ls vs ++ List.replicate (n - (ax_ls vs).length) (.float 0)
theorem ax_ls_sl (g : ax_Y) (vs : List Value) : ∀ (i : Nat) (v : Value), (ax_ls vs)[i]? = some v → v ≠ .float 0 → (lg_sl (vs.map (ax_v g)))[i]? = some (.val (ax_v g v)) := by
  induction vs with
  | nil => intro i v h; simp [ax_ls] at h
  | cons a vs ih =>
    intro i v h hv
    have e1 : ax_ls (a :: vs) = (if a.category = 2 then [a, .float 0] else [a]) ++ ax_ls vs := rfl
    have e2 : lg_sl ((a :: vs).map (ax_v g)) = (if (ax_v g a).category = 2 then [.val (ax_v g a), .second] else [.val (ax_v g a)]) ++ lg_sl (vs.map (ax_v g)) := rfl
    rw [e1] at h
    rw [e2, ax_cat]
    by_cases hc : a.category = 2
    · rw [if_pos hc] at h ⊢
      match i, h with
      | 0, h => simp at h; subst h; rfl
      | 1, h => simp at h; exact absurd h.symm hv
      | j + 2, h => exact ih j v h hv
    · rw [if_neg hc] at h ⊢
      match i, h with
      | 0, h => simp at h; subst h; rfl
      | j + 1, h => exact ih j v h hv
theorem ax_ls_len (g : ax_Y) (vs : List Value) : (lg_sl (vs.map (ax_v g))).length = (ax_ls vs).length := by
  induction vs with
  | nil => rfl
  | cons a vs ih =>
    have e1 : ax_ls (a :: vs) = (if a.category = 2 then [a, .float 0] else [a]) ++ ax_ls vs := rfl
    have e2 : lg_sl ((a :: vs).map (ax_v g)) = (if (ax_v g a).category = 2 then [.val (ax_v g a), .second] else [.val (ax_v g a)]) ++ lg_sl (vs.map (ax_v g)) := rfl
    rw [e1, e2, ax_cat, List.length_append, List.length_append, ih]
    by_cases hc : a.category = 2 <;> simp [hc]
theorem ax_entry (g : ax_Y) (vs : List Value) {n : Nat} (hn : (ax_ls vs).length ≤ n) : ax_L g (ax_en n vs) ((lg_sl (vs.map (ax_v g)) ++ List.replicate (n - (lg_sl (vs.map (ax_v g))).length) Slot.unset).toArray) := by
  have hh := lv_entry (vs.map (ax_v g)) (n := n) (by rw [ax_ls_len]; exact hn)
  have hlen : (ax_en n vs).length = n := by simp [ax_en]; omega
  refine ⟨by rw [hlen]; exact hh.1, hh.2.1, fun i v h hv => ?_⟩
  rw [List.getElem?_toArray]
  unfold ax_en at h
  by_cases hi : i < (ax_ls vs).length
  · rw [List.getElem?_append_left hi] at h
    rw [List.getElem?_append_left (by rw [ax_ls_len]; exact hi)]
    exact ax_ls_sl g vs i v h hv
  · rw [List.getElem?_append_right (by omega)] at h
    have := List.getElem?_replicate (n := n - (ax_ls vs).length) (a := Value.float 0) (i := i - (ax_ls vs).length)
    rw [this] at h
    split at h
    · cases h; exact absurd rfl hv
    · cases h
/-- a method's record is as the tables have it -/
def ax_ok (P : ax_P) : Prop := (∀ (pc : Nat) (i : Instr) (n : Nat), P.2.2.2.2 pc = some (i, n) → decode P.2.1 pc = .ok (i, n)) ∧ Cond.code P.1 P.2.1 P.2.2.1 P.2.2.2.1 ∈ ax_tbl ∧ plainName P.1.cls = true ∧ Cond.initialized P.1.cls ∈ ax_tbl ∧ (P.1.cls ≠ "java/lang/invoke/MethodHandle" ∧ P.1.cls ≠ "java/lang/invoke/VarHandle") ∧ P.2.2.1 ≤ 11
abbrev ax_w (P : ax_P) : List Cond := Cond.code P.1 P.2.1 P.2.2.1 P.2.2.2.1 :: ax_tbl
abbrev ax_rm (h mc ms : Nat) : Room := { frames := h, cells := mc, slots := ms, locals := 30 * h }
def ax_Pc (g : ax_Y) (vs : List Value) (M : ax_M) : Array Value → State → Prop := va_Pc (vs.map (ax_v g)) (fun U => ax_R g M U.heap ∧ ax_K g U ∧ ax_X g U U.heap)
def ax_Qc (g : ax_Y) (Q : Option Value → ax_M → Prop) : Array Value → State → Outcome → State → Prop := fun _ st oc t => ∃ (v : Option Value) (M' : ax_M), oc = .returned (v.map (ax_v g)) ∧ Q v M' ∧ ax_R g M' t.heap ∧ va_F (ax_A g) st t
theorem ax_met {g : ax_Y} {P : ax_P} {h mc ms : Nat} {vs : List Value} {M : ax_M} {Q : Option Value → ax_M → Prop} (ok : ax_ok P) (hn : (ax_ls vs).length ≤ P.2.2.1)
    (k : ax_G g P h mc ms 0 (ax_en P.2.2.1 vs) [] M Q) : Met g.1 P.1 (ax_w P) (ax_rm h mc ms) (ax_Pc g vs M) (ax_Qc g Q) mc ms (ax_A g) := by
  refine Met.ofW (cc := P.2.1) (maxL := P.2.2.1) (ret := P.2.2.2.1) ok.2.2.1 rfl ?_
  intro p e s m args below meth c s₁ B hml hv
  obtain ⟨rfl, hR, hK, hX⟩ := hv
  have hts := atoms_spec (ws := ax_w P) B.pre
  have hlk := B.notSynchronized
  rw [lg_entry_eq]
  have hC : ax_C g P p s m (vs.map (ax_v g)).toArray meth c := ⟨B.exec, B.bytes, B.returns, hml, findClass_of_methodNamed B.named, fun w hw => hts w (List.mem_cons_of_mem _ hw), hlk, (name_of_methodNamed B.named B.method).1, ok.1, hK, hX, by rw [hR.1]; exact Nat.le_add_right _ _⟩
  refine k p e _ s m _ below meth c s.heap [] 0 0 _ _ hC ⟨Nat.le_refl _, Nat.le_refl _⟩ ⟨by rw [Nat.zero_add]; exact Nat.le_refl _, by rw [Nat.zero_add]; exact Nat.le_refl _⟩ ⟨ax_entry g vs hn, by simp [ax_en]; omega⟩ hR va_S.rf ?_
  intro v M' H' locs' cells' slots' pc' ls' hq hR' hS' hcs hrt
  rw [Nat.zero_add, Nat.zero_add] at hcs
  refine W.widen hcs.1 hcs.2 ?_
  rcases hrt with ⟨rfl, h1, h2⟩ | ⟨x, rfl, ⟨ty, h1, h3⟩, h2⟩ | ⟨x, rfl, h1, h2⟩
  · exact W.vret B.exec B.bytes (B.returns.trans h1) (fun t ht hW => ⟨none, M', rfl, hq, by rw [ht]; exact hR', hS'.F ht⟩) hS'.2.2 h2
  · exact W.zret B.exec B.bytes (B.returns.trans h1) h3 (fun t ht hW => ⟨some (.int x), M', rfl, hq, by rw [ht]; exact hR', hS'.F ht⟩) hS'.2.2 h2
  · exact W.lret B.exec B.bytes (B.returns.trans h1) (fun t ht hW => ⟨some (.long x), M', rfl, hq, by rw [ht]; exact hR', hS'.F ht⟩) hS'.2.2 h2
end
section
theorem s_iconst {g : ax_Y} {P : ax_P} {h mc ms pc : Nat} {lv st : List Value} {M : ax_M} {Q : Option Value → ax_M → Prop} {n : Int} (v : Int32) (pc2 : Nat) (hi : P.2.2.2.2 pc = some (.iconst n, 1)) (hp : pc + 1 = pc2) (hv : Int32.ofInt n = v) (k : ax_G g P h mc ms pc2 lv (.int v :: st) M Q) : ax_G g P h mc ms pc lv st M Q := by
  subst hp
  exact fun p e R s m args below meth c H locs cells slots ls QQ C hh hr hL hR hS hK => lv_iconst C.1 C.2.1 (C.2.2.2.2.2.2.2.2.1 _ _ _ hi) hv (k p e R s m args below meth c H locs cells slots ls QQ C hh hr hL hR hS hK)
theorem s_bipush {g : ax_Y} {P : ax_P} {h mc ms pc : Nat} {lv st : List Value} {M : ax_M} {Q : Option Value → ax_M → Prop} {n : Int} (v : Int32) (pc2 : Nat) (hi : P.2.2.2.2 pc = some (.bipush n, 2)) (hp : pc + 2 = pc2) (hv : (Int8.ofInt n).toInt32 = v) (k : ax_G g P h mc ms pc2 lv (.int v :: st) M Q) : ax_G g P h mc ms pc lv st M Q := by
  subst hp
  exact fun p e R s m args below meth c H locs cells slots ls QQ C hh hr hL hR hS hK => lv_bipush C.1 C.2.1 (C.2.2.2.2.2.2.2.2.1 _ _ _ hi) hv (k p e R s m args below meth c H locs cells slots ls QQ C hh hr hL hR hS hK)
theorem s_sipush {g : ax_Y} {P : ax_P} {h mc ms pc : Nat} {lv st : List Value} {M : ax_M} {Q : Option Value → ax_M → Prop} {n : Int} (v : Int32) (pc2 : Nat) (hi : P.2.2.2.2 pc = some (.sipush n, 3)) (hp : pc + 3 = pc2) (hv : (Int16.ofInt n).toInt32 = v) (k : ax_G g P h mc ms pc2 lv (.int v :: st) M Q) : ax_G g P h mc ms pc lv st M Q := by
  subst hp
  exact fun p e R s m args below meth c H locs cells slots ls QQ C hh hr hL hR hS hK => lv_sipush C.1 C.2.1 (C.2.2.2.2.2.2.2.2.1 _ _ _ hi) hv (k p e R s m args below meth c H locs cells slots ls QQ C hh hr hL hR hS hK)
theorem s_lconst {g : ax_Y} {P : ax_P} {h mc ms pc : Nat} {lv st : List Value} {M : ax_M} {Q : Option Value → ax_M → Prop} {n : Fin 2} (v : Int64) (pc2 : Nat) (hi : P.2.2.2.2 pc = some (.lconst n, 1)) (hp : pc + 1 = pc2) (hv : Int64.ofNat (n : Nat) = v) (k : ax_G g P h mc ms pc2 lv (.long v :: st) M Q) : ax_G g P h mc ms pc lv st M Q := by
  subst hp
  exact fun p e R s m args below meth c H locs cells slots ls QQ C hh hr hL hR hS hK => lv_lconst C.1 C.2.1 (C.2.2.2.2.2.2.2.2.1 _ _ _ hi) hv (k p e R s m args below meth c H locs cells slots ls QQ C hh hr hL hR hS hK)
theorem s_ldc {g : ax_Y} {P : ax_P} {h mc ms pc : Nat} {lv st : List Value} {M : ax_M} {Q : Option Value → ax_M → Prop} {n : Nat} (v : Int32) (pc2 : Nat) (hi : P.2.2.2.2 pc = some (.ldc n, 2)) (hp : pc + 2 = pc2) (hw : Jvm.Cond.constant P.1.cls n v ∈ ax_tbl) (k : ax_G g P h mc ms pc2 lv (.int v :: st) M Q) : ax_G g P h mc ms pc lv st M Q := by
  subst hp
  exact fun p e R s m args below meth c H locs cells slots ls QQ C hh hr hL hR hS hK => lv_ldc C.1 C.2.1 C.2.2.2.2.1 (C.2.2.2.2.2.1 _ hw) (C.2.2.2.2.2.2.2.2.1 _ _ _ hi) (k p e R s m args below meth c H locs cells slots ls QQ C hh hr hL hR hS hK)
theorem s_ldc2_w {g : ax_Y} {P : ax_P} {h mc ms pc : Nat} {lv st : List Value} {M : ax_M} {Q : Option Value → ax_M → Prop} {n : Nat} (v : Int64) (pc2 : Nat) (hi : P.2.2.2.2 pc = some (.ldc2_w n, 3)) (hp : pc + 3 = pc2) (hw : Jvm.Cond.constantLong P.1.cls n v ∈ ax_tbl) (k : ax_G g P h mc ms pc2 lv (.long v :: st) M Q) : ax_G g P h mc ms pc lv st M Q := by
  subst hp
  exact fun p e R s m args below meth c H locs cells slots ls QQ C hh hr hL hR hS hK => lv_ldc2 C.1 C.2.1 C.2.2.2.2.1 (C.2.2.2.2.2.1 _ hw) (C.2.2.2.2.2.2.2.2.1 _ _ _ hi) (k p e R s m args below meth c H locs cells slots ls QQ C hh hr hL hR hS hK)
theorem s_ldcS {g : ax_Y} {P : ax_P} {h mc ms pc : Nat} {lv st : List Value} {M : ax_M} {Q : Option Value → ax_M → Prop} {n : Nat} (i : Nat) {tx : String} (pc2 : Nat) (hi : P.2.2.2.2 pc = some (.ldc n, 2)) (hp : pc + 2 = pc2) (hw : ax_str[i]? = some (P.1.cls, n, tx)) (k : ax_G g P h mc ms pc2 lv (.retAddr i :: st) M Q) : ax_G g P h mc ms pc lv st M Q := by
  subst hp
  exact fun p e R s m args below meth c H locs cells slots ls QQ C hh hr hL hR hS hK => va_ldcS C.1 C.2.1 C.2.2.2.2.1 (C.2.2.2.2.2.2.2.2.2.1.2.2 i _ hw) (C.2.2.2.2.2.2.2.2.1 _ _ _ hi) (k p e R s m args below meth c H locs cells slots ls QQ C hh hr hL hR hS hK)
theorem s_iload_n {g : ax_Y} {P : ax_P} {h mc ms pc : Nat} {lv st : List Value} {M : ax_M} {Q : Option Value → ax_M → Prop} {n : Fin 4} {x : Int32} (pc2 : Nat) (hi : P.2.2.2.2 pc = some (.iload_n n, 1)) (hp : pc + 1 = pc2) (hl : lv[(n : Nat)]? = some (.int x)) (k : ax_G g P h mc ms pc2 lv (.int x :: st) M Q) : ax_G g P h mc ms pc lv st M Q := by
  subst hp
  exact fun p e R s m args below meth c H locs cells slots ls QQ C hh hr hL hR hS hK => lv_iload_n C.1 C.2.1 (C.2.2.2.2.2.2.2.2.1 _ _ _ hi) rfl (hL.1.2.2 _ _ hl (by simp)) (k p e R s m args below meth c H locs cells slots ls QQ C hh hr hL hR hS hK)
theorem s_iload {g : ax_Y} {P : ax_P} {h mc ms pc : Nat} {lv st : List Value} {M : ax_M} {Q : Option Value → ax_M → Prop} {n : Nat} {x : Int32} (pc2 : Nat) (hi : P.2.2.2.2 pc = some (.iload n, 2)) (hp : pc + 2 = pc2) (hl : lv[n]? = some (.int x)) (k : ax_G g P h mc ms pc2 lv (.int x :: st) M Q) : ax_G g P h mc ms pc lv st M Q := by
  subst hp
  exact fun p e R s m args below meth c H locs cells slots ls QQ C hh hr hL hR hS hK => lv_iload C.1 C.2.1 (C.2.2.2.2.2.2.2.2.1 _ _ _ hi) (hL.1.2.2 _ _ hl (by simp)) (k p e R s m args below meth c H locs cells slots ls QQ C hh hr hL hR hS hK)
theorem s_lload_n {g : ax_Y} {P : ax_P} {h mc ms pc : Nat} {lv st : List Value} {M : ax_M} {Q : Option Value → ax_M → Prop} {n : Fin 4} {x : Int64} (pc2 : Nat) (hi : P.2.2.2.2 pc = some (.lload_n n, 1)) (hp : pc + 1 = pc2) (hl : lv[(n : Nat)]? = some (.long x)) (k : ax_G g P h mc ms pc2 lv (.long x :: st) M Q) : ax_G g P h mc ms pc lv st M Q := by
  subst hp
  exact fun p e R s m args below meth c H locs cells slots ls QQ C hh hr hL hR hS hK => lv_lload_n C.1 C.2.1 (C.2.2.2.2.2.2.2.2.1 _ _ _ hi) rfl (hL.1.2.2 _ _ hl (by simp)) (k p e R s m args below meth c H locs cells slots ls QQ C hh hr hL hR hS hK)
theorem s_lload {g : ax_Y} {P : ax_P} {h mc ms pc : Nat} {lv st : List Value} {M : ax_M} {Q : Option Value → ax_M → Prop} {n : Nat} {x : Int64} (pc2 : Nat) (hi : P.2.2.2.2 pc = some (.lload n, 2)) (hp : pc + 2 = pc2) (hl : lv[n]? = some (.long x)) (k : ax_G g P h mc ms pc2 lv (.long x :: st) M Q) : ax_G g P h mc ms pc lv st M Q := by
  subst hp
  exact fun p e R s m args below meth c H locs cells slots ls QQ C hh hr hL hR hS hK => lv_lload C.1 C.2.1 (C.2.2.2.2.2.2.2.2.1 _ _ _ hi) (hL.1.2.2 _ _ hl (by simp)) (k p e R s m args below meth c H locs cells slots ls QQ C hh hr hL hR hS hK)
theorem s_aload_n {g : ax_Y} {P : ax_P} {h mc ms pc : Nat} {lv st : List Value} {M : ax_M} {Q : Option Value → ax_M → Prop} {n : Fin 4} {x : Nat} (pc2 : Nat) (hi : P.2.2.2.2 pc = some (.aload_n n, 1)) (hp : pc + 1 = pc2) (hl : lv[(n : Nat)]? = some (.ref x)) (k : ax_G g P h mc ms pc2 lv (.ref x :: st) M Q) : ax_G g P h mc ms pc lv st M Q := by
  subst hp
  exact fun p e R s m args below meth c H locs cells slots ls QQ C hh hr hL hR hS hK => lv_aload_n C.1 C.2.1 (C.2.2.2.2.2.2.2.2.1 _ _ _ hi) rfl (hL.1.2.2 _ _ hl (by simp)) (k p e R s m args below meth c H locs cells slots ls QQ C hh hr hL hR hS hK)
theorem s_aload {g : ax_Y} {P : ax_P} {h mc ms pc : Nat} {lv st : List Value} {M : ax_M} {Q : Option Value → ax_M → Prop} {n : Nat} {x : Nat} (pc2 : Nat) (hi : P.2.2.2.2 pc = some (.aload n, 2)) (hp : pc + 2 = pc2) (hl : lv[n]? = some (.ref x)) (k : ax_G g P h mc ms pc2 lv (.ref x :: st) M Q) : ax_G g P h mc ms pc lv st M Q := by
  subst hp
  exact fun p e R s m args below meth c H locs cells slots ls QQ C hh hr hL hR hS hK => lv_aload C.1 C.2.1 (C.2.2.2.2.2.2.2.2.1 _ _ _ hi) (hL.1.2.2 _ _ hl (by simp)) (k p e R s m args below meth c H locs cells slots ls QQ C hh hr hL hR hS hK)
theorem s_xload_n {g : ax_Y} {P : ax_P} {h mc ms pc : Nat} {lv st : List Value} {M : ax_M} {Q : Option Value → ax_M → Prop} {n : Fin 4} {x : Nat} (pc2 : Nat) (hi : P.2.2.2.2 pc = some (.aload_n n, 1)) (hp : pc + 1 = pc2) (hl : lv[(n : Nat)]? = some (.retAddr x)) (k : ax_G g P h mc ms pc2 lv (.retAddr x :: st) M Q) : ax_G g P h mc ms pc lv st M Q := by
  subst hp
  exact fun p e R s m args below meth c H locs cells slots ls QQ C hh hr hL hR hS hK => lv_aload_n C.1 C.2.1 (C.2.2.2.2.2.2.2.2.1 _ _ _ hi) rfl (hL.1.2.2 _ _ hl (by simp)) (k p e R s m args below meth c H locs cells slots ls QQ C hh hr hL hR hS hK)
theorem s_xload {g : ax_Y} {P : ax_P} {h mc ms pc : Nat} {lv st : List Value} {M : ax_M} {Q : Option Value → ax_M → Prop} {n : Nat} {x : Nat} (pc2 : Nat) (hi : P.2.2.2.2 pc = some (.aload n, 2)) (hp : pc + 2 = pc2) (hl : lv[n]? = some (.retAddr x)) (k : ax_G g P h mc ms pc2 lv (.retAddr x :: st) M Q) : ax_G g P h mc ms pc lv st M Q := by
  subst hp
  exact fun p e R s m args below meth c H locs cells slots ls QQ C hh hr hL hR hS hK => lv_aload C.1 C.2.1 (C.2.2.2.2.2.2.2.2.1 _ _ _ hi) (hL.1.2.2 _ _ hl (by simp)) (k p e R s m args below meth c H locs cells slots ls QQ C hh hr hL hR hS hK)
theorem g_istore_n {g : ax_Y} {P : ax_P} {h mc ms pc : Nat} {lv st : List Value} {M : ax_M} {Q : Option Value → ax_M → Prop} {n : Fin 4} {x : Int32} (pc2 : Nat) (hi : P.2.2.2.2 pc = some (.istore_n n, 1)) (hp : pc + 1 = pc2) (hn : (n : Nat) < lv.length) (hc : ax_c1 lv (n : Nat) = true) (k : ax_G g P h mc ms pc2 (lv.set (n : Nat) (.int x)) st M Q) : ax_G g P h mc ms pc lv (.int x :: st) M Q := by
  subst hp
  exact fun p e R s m args below meth c H locs cells slots ls QQ C hh hr hL hR hS hK => lv_istore_n C.1 C.2.1 (C.2.2.2.2.2.2.2.2.1 _ _ _ hi) rfl hL.1.has hn rfl (fun ls2 h2 => k p e R s m args below meth c H locs cells slots ls2 QQ C hh hr ⟨hL.1.store1 (v := .int x) hc h2, by rw [List.length_set]; exact hL.2⟩ hR hS hK)
theorem g_istore {g : ax_Y} {P : ax_P} {h mc ms pc : Nat} {lv st : List Value} {M : ax_M} {Q : Option Value → ax_M → Prop} {n : Nat} {x : Int32} (pc2 : Nat) (hi : P.2.2.2.2 pc = some (.istore n, 2)) (hp : pc + 2 = pc2) (hn : n < lv.length) (hc : ax_c1 lv n = true) (k : ax_G g P h mc ms pc2 (lv.set n (.int x)) st M Q) : ax_G g P h mc ms pc lv (.int x :: st) M Q := by
  subst hp
  exact fun p e R s m args below meth c H locs cells slots ls QQ C hh hr hL hR hS hK => lv_istore C.1 C.2.1 (C.2.2.2.2.2.2.2.2.1 _ _ _ hi) hL.1.has hn rfl (fun ls2 h2 => k p e R s m args below meth c H locs cells slots ls2 QQ C hh hr ⟨hL.1.store1 (v := .int x) hc h2, by rw [List.length_set]; exact hL.2⟩ hR hS hK)
theorem g_astore_n {g : ax_Y} {P : ax_P} {h mc ms pc : Nat} {lv st : List Value} {M : ax_M} {Q : Option Value → ax_M → Prop} {n : Fin 4} {x : Nat} (pc2 : Nat) (hi : P.2.2.2.2 pc = some (.astore_n n, 1)) (hp : pc + 1 = pc2) (hn : (n : Nat) < lv.length) (hc : ax_c1 lv (n : Nat) = true) (k : ax_G g P h mc ms pc2 (lv.set (n : Nat) (.ref x)) st M Q) : ax_G g P h mc ms pc lv (.ref x :: st) M Q := by
  subst hp
  exact fun p e R s m args below meth c H locs cells slots ls QQ C hh hr hL hR hS hK => lv_astore_n C.1 C.2.1 (C.2.2.2.2.2.2.2.2.1 _ _ _ hi) rfl hL.1.has hn rfl (fun ls2 h2 => k p e R s m args below meth c H locs cells slots ls2 QQ C hh hr ⟨hL.1.store1 (v := .ref x) hc h2, by rw [List.length_set]; exact hL.2⟩ hR hS hK)
theorem g_astore {g : ax_Y} {P : ax_P} {h mc ms pc : Nat} {lv st : List Value} {M : ax_M} {Q : Option Value → ax_M → Prop} {n : Nat} {x : Nat} (pc2 : Nat) (hi : P.2.2.2.2 pc = some (.astore n, 2)) (hp : pc + 2 = pc2) (hn : n < lv.length) (hc : ax_c1 lv n = true) (k : ax_G g P h mc ms pc2 (lv.set n (.ref x)) st M Q) : ax_G g P h mc ms pc lv (.ref x :: st) M Q := by
  subst hp
  exact fun p e R s m args below meth c H locs cells slots ls QQ C hh hr hL hR hS hK => lv_astore C.1 C.2.1 (C.2.2.2.2.2.2.2.2.1 _ _ _ hi) hL.1.has hn rfl (fun ls2 h2 => k p e R s m args below meth c H locs cells slots ls2 QQ C hh hr ⟨hL.1.store1 (v := .ref x) hc h2, by rw [List.length_set]; exact hL.2⟩ hR hS hK)
theorem g_lstore_n {g : ax_Y} {P : ax_P} {h mc ms pc : Nat} {lv st : List Value} {M : ax_M} {Q : Option Value → ax_M → Prop} {n : Fin 4} {x : Int64} (pc2 : Nat) (hi : P.2.2.2.2 pc = some (.lstore_n n, 1)) (hp : pc + 1 = pc2) (hn : (n : Nat) + 1 < lv.length) (hc : ax_c1 lv (n : Nat) = true) (k : ax_G g P h mc ms pc2 ((lv.set (n : Nat) (.long x)).set ((n : Nat) + 1) (.float 0)) st M Q) : ax_G g P h mc ms pc lv (.long x :: st) M Q := by
  subst hp
  exact fun p e R s m args below meth c H locs cells slots ls QQ C hh hr hL hR hS hK => lv_lstore_n C.1 C.2.1 (C.2.2.2.2.2.2.2.2.1 _ _ _ hi) rfl hL.1.has hn rfl (fun ls2 h2 => k p e R s m args below meth c H locs cells slots ls2 QQ C hh hr ⟨hL.1.store2 (v := .long x) hc h2, by rw [List.length_set, List.length_set]; exact hL.2⟩ hR hS hK)
theorem g_lstore {g : ax_Y} {P : ax_P} {h mc ms pc : Nat} {lv st : List Value} {M : ax_M} {Q : Option Value → ax_M → Prop} {n : Nat} {x : Int64} (pc2 : Nat) (hi : P.2.2.2.2 pc = some (.lstore n, 2)) (hp : pc + 2 = pc2) (hn : n + 1 < lv.length) (hc : ax_c1 lv n = true) (k : ax_G g P h mc ms pc2 ((lv.set n (.long x)).set (n + 1) (.float 0)) st M Q) : ax_G g P h mc ms pc lv (.long x :: st) M Q := by
  subst hp
  exact fun p e R s m args below meth c H locs cells slots ls QQ C hh hr hL hR hS hK => lv_lstore C.1 C.2.1 (C.2.2.2.2.2.2.2.2.1 _ _ _ hi) hL.1.has hn rfl (fun ls2 h2 => k p e R s m args below meth c H locs cells slots ls2 QQ C hh hr ⟨hL.1.store2 (v := .long x) hc h2, by rw [List.length_set, List.length_set]; exact hL.2⟩ hR hS hK)
theorem g_iinc {g : ax_Y} {P : ax_P} {h mc ms pc : Nat} {lv st : List Value} {M : ax_M} {Q : Option Value → ax_M → Prop} {i : Nat} {n : Int} {x : Int32} (v : Int32) (pc2 : Nat) (hi : P.2.2.2.2 pc = some (.iinc i n, 3)) (hp : pc + 3 = pc2) (hl : lv[i]? = some (.int x)) (hv : x + Int32.ofInt n = v) (hc : ax_c1 lv i = true) (k : ax_G g P h mc ms pc2 (lv.set i (.int v)) st M Q) : ax_G g P h mc ms pc lv st M Q := by
  subst hp
  intro p e R s m args below meth c H locs cells slots ls QQ C hh hr hL hR hS hK
  obtain ⟨j, hj⟩ := List.getElem?_of_mem (ax_pr_in.mpr (⟨.int x, hl, by simp, rfl⟩ : ∃ v, lv[(i, Value.int x).1]? = some v ∧ v ≠ .float 0 ∧ (i, Value.int x).2 = ax_v g v))
  exact lv_iinc C.1 C.2.1 (C.2.2.2.2.2.2.2.2.1 _ _ _ hi) hL.1.has hj hv (List.getElem?_eq_some_iff.mp hl).1 rfl (fun ls2 h2 => k p e R s m args below meth c H locs cells slots ls2 QQ C hh hr ⟨hL.1.store1 (v := .int v) hc h2, by rw [List.length_set]; exact hL.2⟩ hR hS hK)
theorem s_ist0 {g : ax_Y} {P : ax_P} {h mc ms pc : Nat} {r st : List Value} {M : ax_M} {Q : Option Value → ax_M → Prop} {a0 : Value} {x : Int32} (pc2 : Nat) (hi : P.2.2.2.2 pc = some (.istore_n 0, 1)) (hp : pc + 1 = pc2) (k : ax_G g P h mc ms pc2 (.int x :: r) st M Q) : ax_G g P h mc ms pc (a0 :: r) (.int x :: st) M Q := g_istore_n pc2 hi hp (by show 0 < _; simp only [List.length_cons]; omega) rfl k
theorem s_ast0 {g : ax_Y} {P : ax_P} {h mc ms pc : Nat} {r st : List Value} {M : ax_M} {Q : Option Value → ax_M → Prop} {a0 : Value} {x : Nat} (pc2 : Nat) (hi : P.2.2.2.2 pc = some (.astore_n 0, 1)) (hp : pc + 1 = pc2) (k : ax_G g P h mc ms pc2 (.ref x :: r) st M Q) : ax_G g P h mc ms pc (a0 :: r) (.ref x :: st) M Q := g_astore_n pc2 hi hp (by show 0 < _; simp only [List.length_cons]; omega) rfl k
theorem s_inc0 {g : ax_Y} {P : ax_P} {h mc ms pc : Nat} {r st : List Value} {M : ax_M} {Q : Option Value → ax_M → Prop} {x : Int32} {n : Int} (v : Int32) (pc2 : Nat) (hi : P.2.2.2.2 pc = some (.iinc 0 n, 3)) (hp : pc + 3 = pc2) (hv : x + Int32.ofInt n = v) (k : ax_G g P h mc ms pc2 (.int v :: r) st M Q) : ax_G g P h mc ms pc (.int x :: r) st M Q := g_iinc v pc2 hi hp rfl hv rfl k
theorem s_lst0 {g : ax_Y} {P : ax_P} {h mc ms pc : Nat} {r st : List Value} {M : ax_M} {Q : Option Value → ax_M → Prop} {a0 a1 : Value} {x : Int64} (pc2 : Nat) (hi : P.2.2.2.2 pc = some (.lstore_n 0, 1)) (hp : pc + 1 = pc2) (k : ax_G g P h mc ms pc2 (.long x :: .float 0 :: r) st M Q) : ax_G g P h mc ms pc (a0 :: a1 :: r) (.long x :: st) M Q := g_lstore_n pc2 hi hp (by show 0 + 1 < _; simp only [List.length_cons]; omega) rfl k
theorem s_ist1 {g : ax_Y} {P : ax_P} {h mc ms pc : Nat} {r st : List Value} {M : ax_M} {Q : Option Value → ax_M → Prop} {a0 a1 : Value} {x : Int32} (pc2 : Nat) (hi : P.2.2.2.2 pc = some (.istore_n 1, 1)) (hp : pc + 1 = pc2) (hc : a0.category = 1) (k : ax_G g P h mc ms pc2 (a0 :: .int x :: r) st M Q) : ax_G g P h mc ms pc (a0 :: a1 :: r) (.int x :: st) M Q := g_istore_n pc2 hi hp (by show 1 < _; simp only [List.length_cons]; omega) (by simp [ax_c1, hc]) k
theorem s_ast1 {g : ax_Y} {P : ax_P} {h mc ms pc : Nat} {r st : List Value} {M : ax_M} {Q : Option Value → ax_M → Prop} {a0 a1 : Value} {x : Nat} (pc2 : Nat) (hi : P.2.2.2.2 pc = some (.astore_n 1, 1)) (hp : pc + 1 = pc2) (hc : a0.category = 1) (k : ax_G g P h mc ms pc2 (a0 :: .ref x :: r) st M Q) : ax_G g P h mc ms pc (a0 :: a1 :: r) (.ref x :: st) M Q := g_astore_n pc2 hi hp (by show 1 < _; simp only [List.length_cons]; omega) (by simp [ax_c1, hc]) k
theorem s_inc1 {g : ax_Y} {P : ax_P} {h mc ms pc : Nat} {r st : List Value} {M : ax_M} {Q : Option Value → ax_M → Prop} {a0 : Value} {x : Int32} {n : Int} (v : Int32) (pc2 : Nat) (hi : P.2.2.2.2 pc = some (.iinc 1 n, 3)) (hp : pc + 3 = pc2) (hv : x + Int32.ofInt n = v) (hc : a0.category = 1) (k : ax_G g P h mc ms pc2 (a0 :: .int v :: r) st M Q) : ax_G g P h mc ms pc (a0 :: .int x :: r) st M Q := g_iinc v pc2 hi hp rfl hv (by simp [ax_c1, hc]) k
theorem s_lst1 {g : ax_Y} {P : ax_P} {h mc ms pc : Nat} {r st : List Value} {M : ax_M} {Q : Option Value → ax_M → Prop} {a0 a1 a2 : Value} {x : Int64} (pc2 : Nat) (hi : P.2.2.2.2 pc = some (.lstore_n 1, 1)) (hp : pc + 1 = pc2) (hc : a0.category = 1) (k : ax_G g P h mc ms pc2 (a0 :: .long x :: .float 0 :: r) st M Q) : ax_G g P h mc ms pc (a0 :: a1 :: a2 :: r) (.long x :: st) M Q := g_lstore_n pc2 hi hp (by show 1 + 1 < _; simp only [List.length_cons]; omega) (by simp [ax_c1, hc]) k
theorem s_ist2 {g : ax_Y} {P : ax_P} {h mc ms pc : Nat} {r st : List Value} {M : ax_M} {Q : Option Value → ax_M → Prop} {a0 a1 a2 : Value} {x : Int32} (pc2 : Nat) (hi : P.2.2.2.2 pc = some (.istore_n 2, 1)) (hp : pc + 1 = pc2) (hc : a1.category = 1) (k : ax_G g P h mc ms pc2 (a0 :: a1 :: .int x :: r) st M Q) : ax_G g P h mc ms pc (a0 :: a1 :: a2 :: r) (.int x :: st) M Q := g_istore_n pc2 hi hp (by show 2 < _; simp only [List.length_cons]; omega) (by simp [ax_c1, hc]) k
theorem s_ast2 {g : ax_Y} {P : ax_P} {h mc ms pc : Nat} {r st : List Value} {M : ax_M} {Q : Option Value → ax_M → Prop} {a0 a1 a2 : Value} {x : Nat} (pc2 : Nat) (hi : P.2.2.2.2 pc = some (.astore_n 2, 1)) (hp : pc + 1 = pc2) (hc : a1.category = 1) (k : ax_G g P h mc ms pc2 (a0 :: a1 :: .ref x :: r) st M Q) : ax_G g P h mc ms pc (a0 :: a1 :: a2 :: r) (.ref x :: st) M Q := g_astore_n pc2 hi hp (by show 2 < _; simp only [List.length_cons]; omega) (by simp [ax_c1, hc]) k
theorem s_inc2 {g : ax_Y} {P : ax_P} {h mc ms pc : Nat} {r st : List Value} {M : ax_M} {Q : Option Value → ax_M → Prop} {a0 a1 : Value} {x : Int32} {n : Int} (v : Int32) (pc2 : Nat) (hi : P.2.2.2.2 pc = some (.iinc 2 n, 3)) (hp : pc + 3 = pc2) (hv : x + Int32.ofInt n = v) (hc : a1.category = 1) (k : ax_G g P h mc ms pc2 (a0 :: a1 :: .int v :: r) st M Q) : ax_G g P h mc ms pc (a0 :: a1 :: .int x :: r) st M Q := g_iinc v pc2 hi hp rfl hv (by simp [ax_c1, hc]) k
theorem s_lst2 {g : ax_Y} {P : ax_P} {h mc ms pc : Nat} {r st : List Value} {M : ax_M} {Q : Option Value → ax_M → Prop} {a0 a1 a2 a3 : Value} {x : Int64} (pc2 : Nat) (hi : P.2.2.2.2 pc = some (.lstore_n 2, 1)) (hp : pc + 1 = pc2) (hc : a1.category = 1) (k : ax_G g P h mc ms pc2 (a0 :: a1 :: .long x :: .float 0 :: r) st M Q) : ax_G g P h mc ms pc (a0 :: a1 :: a2 :: a3 :: r) (.long x :: st) M Q := g_lstore_n pc2 hi hp (by show 2 + 1 < _; simp only [List.length_cons]; omega) (by simp [ax_c1, hc]) k
theorem s_ist3 {g : ax_Y} {P : ax_P} {h mc ms pc : Nat} {r st : List Value} {M : ax_M} {Q : Option Value → ax_M → Prop} {a0 a1 a2 a3 : Value} {x : Int32} (pc2 : Nat) (hi : P.2.2.2.2 pc = some (.istore_n 3, 1)) (hp : pc + 1 = pc2) (hc : a2.category = 1) (k : ax_G g P h mc ms pc2 (a0 :: a1 :: a2 :: .int x :: r) st M Q) : ax_G g P h mc ms pc (a0 :: a1 :: a2 :: a3 :: r) (.int x :: st) M Q := g_istore_n pc2 hi hp (by show 3 < _; simp only [List.length_cons]; omega) (by simp [ax_c1, hc]) k
theorem s_ast3 {g : ax_Y} {P : ax_P} {h mc ms pc : Nat} {r st : List Value} {M : ax_M} {Q : Option Value → ax_M → Prop} {a0 a1 a2 a3 : Value} {x : Nat} (pc2 : Nat) (hi : P.2.2.2.2 pc = some (.astore_n 3, 1)) (hp : pc + 1 = pc2) (hc : a2.category = 1) (k : ax_G g P h mc ms pc2 (a0 :: a1 :: a2 :: .ref x :: r) st M Q) : ax_G g P h mc ms pc (a0 :: a1 :: a2 :: a3 :: r) (.ref x :: st) M Q := g_astore_n pc2 hi hp (by show 3 < _; simp only [List.length_cons]; omega) (by simp [ax_c1, hc]) k
theorem s_inc3 {g : ax_Y} {P : ax_P} {h mc ms pc : Nat} {r st : List Value} {M : ax_M} {Q : Option Value → ax_M → Prop} {a0 a1 a2 : Value} {x : Int32} {n : Int} (v : Int32) (pc2 : Nat) (hi : P.2.2.2.2 pc = some (.iinc 3 n, 3)) (hp : pc + 3 = pc2) (hv : x + Int32.ofInt n = v) (hc : a2.category = 1) (k : ax_G g P h mc ms pc2 (a0 :: a1 :: a2 :: .int v :: r) st M Q) : ax_G g P h mc ms pc (a0 :: a1 :: a2 :: .int x :: r) st M Q := g_iinc v pc2 hi hp rfl hv (by simp [ax_c1, hc]) k
theorem s_lst3 {g : ax_Y} {P : ax_P} {h mc ms pc : Nat} {r st : List Value} {M : ax_M} {Q : Option Value → ax_M → Prop} {a0 a1 a2 a3 a4 : Value} {x : Int64} (pc2 : Nat) (hi : P.2.2.2.2 pc = some (.lstore_n 3, 1)) (hp : pc + 1 = pc2) (hc : a2.category = 1) (k : ax_G g P h mc ms pc2 (a0 :: a1 :: a2 :: .long x :: .float 0 :: r) st M Q) : ax_G g P h mc ms pc (a0 :: a1 :: a2 :: a3 :: a4 :: r) (.long x :: st) M Q := g_lstore_n pc2 hi hp (by show 3 + 1 < _; simp only [List.length_cons]; omega) (by simp [ax_c1, hc]) k
theorem s_ist4 {g : ax_Y} {P : ax_P} {h mc ms pc : Nat} {r st : List Value} {M : ax_M} {Q : Option Value → ax_M → Prop} {a0 a1 a2 a3 a4 : Value} {x : Int32} (pc2 : Nat) (hi : P.2.2.2.2 pc = some (.istore 4, 2)) (hp : pc + 2 = pc2) (hc : a3.category = 1) (k : ax_G g P h mc ms pc2 (a0 :: a1 :: a2 :: a3 :: .int x :: r) st M Q) : ax_G g P h mc ms pc (a0 :: a1 :: a2 :: a3 :: a4 :: r) (.int x :: st) M Q := g_istore pc2 hi hp (by show 4 < _; simp only [List.length_cons]; omega) (by simp [ax_c1, hc]) k
theorem s_ast4 {g : ax_Y} {P : ax_P} {h mc ms pc : Nat} {r st : List Value} {M : ax_M} {Q : Option Value → ax_M → Prop} {a0 a1 a2 a3 a4 : Value} {x : Nat} (pc2 : Nat) (hi : P.2.2.2.2 pc = some (.astore 4, 2)) (hp : pc + 2 = pc2) (hc : a3.category = 1) (k : ax_G g P h mc ms pc2 (a0 :: a1 :: a2 :: a3 :: .ref x :: r) st M Q) : ax_G g P h mc ms pc (a0 :: a1 :: a2 :: a3 :: a4 :: r) (.ref x :: st) M Q := g_astore pc2 hi hp (by show 4 < _; simp only [List.length_cons]; omega) (by simp [ax_c1, hc]) k
theorem s_inc4 {g : ax_Y} {P : ax_P} {h mc ms pc : Nat} {r st : List Value} {M : ax_M} {Q : Option Value → ax_M → Prop} {a0 a1 a2 a3 : Value} {x : Int32} {n : Int} (v : Int32) (pc2 : Nat) (hi : P.2.2.2.2 pc = some (.iinc 4 n, 3)) (hp : pc + 3 = pc2) (hv : x + Int32.ofInt n = v) (hc : a3.category = 1) (k : ax_G g P h mc ms pc2 (a0 :: a1 :: a2 :: a3 :: .int v :: r) st M Q) : ax_G g P h mc ms pc (a0 :: a1 :: a2 :: a3 :: .int x :: r) st M Q := g_iinc v pc2 hi hp rfl hv (by simp [ax_c1, hc]) k
theorem s_lst4 {g : ax_Y} {P : ax_P} {h mc ms pc : Nat} {r st : List Value} {M : ax_M} {Q : Option Value → ax_M → Prop} {a0 a1 a2 a3 a4 a5 : Value} {x : Int64} (pc2 : Nat) (hi : P.2.2.2.2 pc = some (.lstore 4, 2)) (hp : pc + 2 = pc2) (hc : a3.category = 1) (k : ax_G g P h mc ms pc2 (a0 :: a1 :: a2 :: a3 :: .long x :: .float 0 :: r) st M Q) : ax_G g P h mc ms pc (a0 :: a1 :: a2 :: a3 :: a4 :: a5 :: r) (.long x :: st) M Q := g_lstore pc2 hi hp (by show 4 + 1 < _; simp only [List.length_cons]; omega) (by simp [ax_c1, hc]) k
theorem s_ist5 {g : ax_Y} {P : ax_P} {h mc ms pc : Nat} {r st : List Value} {M : ax_M} {Q : Option Value → ax_M → Prop} {a0 a1 a2 a3 a4 a5 : Value} {x : Int32} (pc2 : Nat) (hi : P.2.2.2.2 pc = some (.istore 5, 2)) (hp : pc + 2 = pc2) (hc : a4.category = 1) (k : ax_G g P h mc ms pc2 (a0 :: a1 :: a2 :: a3 :: a4 :: .int x :: r) st M Q) : ax_G g P h mc ms pc (a0 :: a1 :: a2 :: a3 :: a4 :: a5 :: r) (.int x :: st) M Q := g_istore pc2 hi hp (by show 5 < _; simp only [List.length_cons]; omega) (by simp [ax_c1, hc]) k
theorem s_ast5 {g : ax_Y} {P : ax_P} {h mc ms pc : Nat} {r st : List Value} {M : ax_M} {Q : Option Value → ax_M → Prop} {a0 a1 a2 a3 a4 a5 : Value} {x : Nat} (pc2 : Nat) (hi : P.2.2.2.2 pc = some (.astore 5, 2)) (hp : pc + 2 = pc2) (hc : a4.category = 1) (k : ax_G g P h mc ms pc2 (a0 :: a1 :: a2 :: a3 :: a4 :: .ref x :: r) st M Q) : ax_G g P h mc ms pc (a0 :: a1 :: a2 :: a3 :: a4 :: a5 :: r) (.ref x :: st) M Q := g_astore pc2 hi hp (by show 5 < _; simp only [List.length_cons]; omega) (by simp [ax_c1, hc]) k
theorem s_inc5 {g : ax_Y} {P : ax_P} {h mc ms pc : Nat} {r st : List Value} {M : ax_M} {Q : Option Value → ax_M → Prop} {a0 a1 a2 a3 a4 : Value} {x : Int32} {n : Int} (v : Int32) (pc2 : Nat) (hi : P.2.2.2.2 pc = some (.iinc 5 n, 3)) (hp : pc + 3 = pc2) (hv : x + Int32.ofInt n = v) (hc : a4.category = 1) (k : ax_G g P h mc ms pc2 (a0 :: a1 :: a2 :: a3 :: a4 :: .int v :: r) st M Q) : ax_G g P h mc ms pc (a0 :: a1 :: a2 :: a3 :: a4 :: .int x :: r) st M Q := g_iinc v pc2 hi hp rfl hv (by simp [ax_c1, hc]) k
theorem s_lst5 {g : ax_Y} {P : ax_P} {h mc ms pc : Nat} {r st : List Value} {M : ax_M} {Q : Option Value → ax_M → Prop} {a0 a1 a2 a3 a4 a5 a6 : Value} {x : Int64} (pc2 : Nat) (hi : P.2.2.2.2 pc = some (.lstore 5, 2)) (hp : pc + 2 = pc2) (hc : a4.category = 1) (k : ax_G g P h mc ms pc2 (a0 :: a1 :: a2 :: a3 :: a4 :: .long x :: .float 0 :: r) st M Q) : ax_G g P h mc ms pc (a0 :: a1 :: a2 :: a3 :: a4 :: a5 :: a6 :: r) (.long x :: st) M Q := g_lstore pc2 hi hp (by show 5 + 1 < _; simp only [List.length_cons]; omega) (by simp [ax_c1, hc]) k
theorem s_ist6 {g : ax_Y} {P : ax_P} {h mc ms pc : Nat} {r st : List Value} {M : ax_M} {Q : Option Value → ax_M → Prop} {a0 a1 a2 a3 a4 a5 a6 : Value} {x : Int32} (pc2 : Nat) (hi : P.2.2.2.2 pc = some (.istore 6, 2)) (hp : pc + 2 = pc2) (hc : a5.category = 1) (k : ax_G g P h mc ms pc2 (a0 :: a1 :: a2 :: a3 :: a4 :: a5 :: .int x :: r) st M Q) : ax_G g P h mc ms pc (a0 :: a1 :: a2 :: a3 :: a4 :: a5 :: a6 :: r) (.int x :: st) M Q := g_istore pc2 hi hp (by show 6 < _; simp only [List.length_cons]; omega) (by simp [ax_c1, hc]) k
theorem s_ast6 {g : ax_Y} {P : ax_P} {h mc ms pc : Nat} {r st : List Value} {M : ax_M} {Q : Option Value → ax_M → Prop} {a0 a1 a2 a3 a4 a5 a6 : Value} {x : Nat} (pc2 : Nat) (hi : P.2.2.2.2 pc = some (.astore 6, 2)) (hp : pc + 2 = pc2) (hc : a5.category = 1) (k : ax_G g P h mc ms pc2 (a0 :: a1 :: a2 :: a3 :: a4 :: a5 :: .ref x :: r) st M Q) : ax_G g P h mc ms pc (a0 :: a1 :: a2 :: a3 :: a4 :: a5 :: a6 :: r) (.ref x :: st) M Q := g_astore pc2 hi hp (by show 6 < _; simp only [List.length_cons]; omega) (by simp [ax_c1, hc]) k
theorem s_inc6 {g : ax_Y} {P : ax_P} {h mc ms pc : Nat} {r st : List Value} {M : ax_M} {Q : Option Value → ax_M → Prop} {a0 a1 a2 a3 a4 a5 : Value} {x : Int32} {n : Int} (v : Int32) (pc2 : Nat) (hi : P.2.2.2.2 pc = some (.iinc 6 n, 3)) (hp : pc + 3 = pc2) (hv : x + Int32.ofInt n = v) (hc : a5.category = 1) (k : ax_G g P h mc ms pc2 (a0 :: a1 :: a2 :: a3 :: a4 :: a5 :: .int v :: r) st M Q) : ax_G g P h mc ms pc (a0 :: a1 :: a2 :: a3 :: a4 :: a5 :: .int x :: r) st M Q := g_iinc v pc2 hi hp rfl hv (by simp [ax_c1, hc]) k
theorem s_lst6 {g : ax_Y} {P : ax_P} {h mc ms pc : Nat} {r st : List Value} {M : ax_M} {Q : Option Value → ax_M → Prop} {a0 a1 a2 a3 a4 a5 a6 a7 : Value} {x : Int64} (pc2 : Nat) (hi : P.2.2.2.2 pc = some (.lstore 6, 2)) (hp : pc + 2 = pc2) (hc : a5.category = 1) (k : ax_G g P h mc ms pc2 (a0 :: a1 :: a2 :: a3 :: a4 :: a5 :: .long x :: .float 0 :: r) st M Q) : ax_G g P h mc ms pc (a0 :: a1 :: a2 :: a3 :: a4 :: a5 :: a6 :: a7 :: r) (.long x :: st) M Q := g_lstore pc2 hi hp (by show 6 + 1 < _; simp only [List.length_cons]; omega) (by simp [ax_c1, hc]) k
theorem s_ist7 {g : ax_Y} {P : ax_P} {h mc ms pc : Nat} {r st : List Value} {M : ax_M} {Q : Option Value → ax_M → Prop} {a0 a1 a2 a3 a4 a5 a6 a7 : Value} {x : Int32} (pc2 : Nat) (hi : P.2.2.2.2 pc = some (.istore 7, 2)) (hp : pc + 2 = pc2) (hc : a6.category = 1) (k : ax_G g P h mc ms pc2 (a0 :: a1 :: a2 :: a3 :: a4 :: a5 :: a6 :: .int x :: r) st M Q) : ax_G g P h mc ms pc (a0 :: a1 :: a2 :: a3 :: a4 :: a5 :: a6 :: a7 :: r) (.int x :: st) M Q := g_istore pc2 hi hp (by show 7 < _; simp only [List.length_cons]; omega) (by simp [ax_c1, hc]) k
theorem s_ast7 {g : ax_Y} {P : ax_P} {h mc ms pc : Nat} {r st : List Value} {M : ax_M} {Q : Option Value → ax_M → Prop} {a0 a1 a2 a3 a4 a5 a6 a7 : Value} {x : Nat} (pc2 : Nat) (hi : P.2.2.2.2 pc = some (.astore 7, 2)) (hp : pc + 2 = pc2) (hc : a6.category = 1) (k : ax_G g P h mc ms pc2 (a0 :: a1 :: a2 :: a3 :: a4 :: a5 :: a6 :: .ref x :: r) st M Q) : ax_G g P h mc ms pc (a0 :: a1 :: a2 :: a3 :: a4 :: a5 :: a6 :: a7 :: r) (.ref x :: st) M Q := g_astore pc2 hi hp (by show 7 < _; simp only [List.length_cons]; omega) (by simp [ax_c1, hc]) k
theorem s_inc7 {g : ax_Y} {P : ax_P} {h mc ms pc : Nat} {r st : List Value} {M : ax_M} {Q : Option Value → ax_M → Prop} {a0 a1 a2 a3 a4 a5 a6 : Value} {x : Int32} {n : Int} (v : Int32) (pc2 : Nat) (hi : P.2.2.2.2 pc = some (.iinc 7 n, 3)) (hp : pc + 3 = pc2) (hv : x + Int32.ofInt n = v) (hc : a6.category = 1) (k : ax_G g P h mc ms pc2 (a0 :: a1 :: a2 :: a3 :: a4 :: a5 :: a6 :: .int v :: r) st M Q) : ax_G g P h mc ms pc (a0 :: a1 :: a2 :: a3 :: a4 :: a5 :: a6 :: .int x :: r) st M Q := g_iinc v pc2 hi hp rfl hv (by simp [ax_c1, hc]) k
theorem s_lst7 {g : ax_Y} {P : ax_P} {h mc ms pc : Nat} {r st : List Value} {M : ax_M} {Q : Option Value → ax_M → Prop} {a0 a1 a2 a3 a4 a5 a6 a7 a8 : Value} {x : Int64} (pc2 : Nat) (hi : P.2.2.2.2 pc = some (.lstore 7, 2)) (hp : pc + 2 = pc2) (hc : a6.category = 1) (k : ax_G g P h mc ms pc2 (a0 :: a1 :: a2 :: a3 :: a4 :: a5 :: a6 :: .long x :: .float 0 :: r) st M Q) : ax_G g P h mc ms pc (a0 :: a1 :: a2 :: a3 :: a4 :: a5 :: a6 :: a7 :: a8 :: r) (.long x :: st) M Q := g_lstore pc2 hi hp (by show 7 + 1 < _; simp only [List.length_cons]; omega) (by simp [ax_c1, hc]) k
theorem s_ist8 {g : ax_Y} {P : ax_P} {h mc ms pc : Nat} {r st : List Value} {M : ax_M} {Q : Option Value → ax_M → Prop} {a0 a1 a2 a3 a4 a5 a6 a7 a8 : Value} {x : Int32} (pc2 : Nat) (hi : P.2.2.2.2 pc = some (.istore 8, 2)) (hp : pc + 2 = pc2) (hc : a7.category = 1) (k : ax_G g P h mc ms pc2 (a0 :: a1 :: a2 :: a3 :: a4 :: a5 :: a6 :: a7 :: .int x :: r) st M Q) : ax_G g P h mc ms pc (a0 :: a1 :: a2 :: a3 :: a4 :: a5 :: a6 :: a7 :: a8 :: r) (.int x :: st) M Q := g_istore pc2 hi hp (by show 8 < _; simp only [List.length_cons]; omega) (by simp [ax_c1, hc]) k
theorem s_ast8 {g : ax_Y} {P : ax_P} {h mc ms pc : Nat} {r st : List Value} {M : ax_M} {Q : Option Value → ax_M → Prop} {a0 a1 a2 a3 a4 a5 a6 a7 a8 : Value} {x : Nat} (pc2 : Nat) (hi : P.2.2.2.2 pc = some (.astore 8, 2)) (hp : pc + 2 = pc2) (hc : a7.category = 1) (k : ax_G g P h mc ms pc2 (a0 :: a1 :: a2 :: a3 :: a4 :: a5 :: a6 :: a7 :: .ref x :: r) st M Q) : ax_G g P h mc ms pc (a0 :: a1 :: a2 :: a3 :: a4 :: a5 :: a6 :: a7 :: a8 :: r) (.ref x :: st) M Q := g_astore pc2 hi hp (by show 8 < _; simp only [List.length_cons]; omega) (by simp [ax_c1, hc]) k
theorem s_inc8 {g : ax_Y} {P : ax_P} {h mc ms pc : Nat} {r st : List Value} {M : ax_M} {Q : Option Value → ax_M → Prop} {a0 a1 a2 a3 a4 a5 a6 a7 : Value} {x : Int32} {n : Int} (v : Int32) (pc2 : Nat) (hi : P.2.2.2.2 pc = some (.iinc 8 n, 3)) (hp : pc + 3 = pc2) (hv : x + Int32.ofInt n = v) (hc : a7.category = 1) (k : ax_G g P h mc ms pc2 (a0 :: a1 :: a2 :: a3 :: a4 :: a5 :: a6 :: a7 :: .int v :: r) st M Q) : ax_G g P h mc ms pc (a0 :: a1 :: a2 :: a3 :: a4 :: a5 :: a6 :: a7 :: .int x :: r) st M Q := g_iinc v pc2 hi hp rfl hv (by simp [ax_c1, hc]) k
theorem s_lst8 {g : ax_Y} {P : ax_P} {h mc ms pc : Nat} {r st : List Value} {M : ax_M} {Q : Option Value → ax_M → Prop} {a0 a1 a2 a3 a4 a5 a6 a7 a8 a9 : Value} {x : Int64} (pc2 : Nat) (hi : P.2.2.2.2 pc = some (.lstore 8, 2)) (hp : pc + 2 = pc2) (hc : a7.category = 1) (k : ax_G g P h mc ms pc2 (a0 :: a1 :: a2 :: a3 :: a4 :: a5 :: a6 :: a7 :: .long x :: .float 0 :: r) st M Q) : ax_G g P h mc ms pc (a0 :: a1 :: a2 :: a3 :: a4 :: a5 :: a6 :: a7 :: a8 :: a9 :: r) (.long x :: st) M Q := g_lstore pc2 hi hp (by show 8 + 1 < _; simp only [List.length_cons]; omega) (by simp [ax_c1, hc]) k
theorem s_ist9 {g : ax_Y} {P : ax_P} {h mc ms pc : Nat} {r st : List Value} {M : ax_M} {Q : Option Value → ax_M → Prop} {a0 a1 a2 a3 a4 a5 a6 a7 a8 a9 : Value} {x : Int32} (pc2 : Nat) (hi : P.2.2.2.2 pc = some (.istore 9, 2)) (hp : pc + 2 = pc2) (hc : a8.category = 1) (k : ax_G g P h mc ms pc2 (a0 :: a1 :: a2 :: a3 :: a4 :: a5 :: a6 :: a7 :: a8 :: .int x :: r) st M Q) : ax_G g P h mc ms pc (a0 :: a1 :: a2 :: a3 :: a4 :: a5 :: a6 :: a7 :: a8 :: a9 :: r) (.int x :: st) M Q := g_istore pc2 hi hp (by show 9 < _; simp only [List.length_cons]; omega) (by simp [ax_c1, hc]) k
theorem s_ast9 {g : ax_Y} {P : ax_P} {h mc ms pc : Nat} {r st : List Value} {M : ax_M} {Q : Option Value → ax_M → Prop} {a0 a1 a2 a3 a4 a5 a6 a7 a8 a9 : Value} {x : Nat} (pc2 : Nat) (hi : P.2.2.2.2 pc = some (.astore 9, 2)) (hp : pc + 2 = pc2) (hc : a8.category = 1) (k : ax_G g P h mc ms pc2 (a0 :: a1 :: a2 :: a3 :: a4 :: a5 :: a6 :: a7 :: a8 :: .ref x :: r) st M Q) : ax_G g P h mc ms pc (a0 :: a1 :: a2 :: a3 :: a4 :: a5 :: a6 :: a7 :: a8 :: a9 :: r) (.ref x :: st) M Q := g_astore pc2 hi hp (by show 9 < _; simp only [List.length_cons]; omega) (by simp [ax_c1, hc]) k
theorem s_inc9 {g : ax_Y} {P : ax_P} {h mc ms pc : Nat} {r st : List Value} {M : ax_M} {Q : Option Value → ax_M → Prop} {a0 a1 a2 a3 a4 a5 a6 a7 a8 : Value} {x : Int32} {n : Int} (v : Int32) (pc2 : Nat) (hi : P.2.2.2.2 pc = some (.iinc 9 n, 3)) (hp : pc + 3 = pc2) (hv : x + Int32.ofInt n = v) (hc : a8.category = 1) (k : ax_G g P h mc ms pc2 (a0 :: a1 :: a2 :: a3 :: a4 :: a5 :: a6 :: a7 :: a8 :: .int v :: r) st M Q) : ax_G g P h mc ms pc (a0 :: a1 :: a2 :: a3 :: a4 :: a5 :: a6 :: a7 :: a8 :: .int x :: r) st M Q := g_iinc v pc2 hi hp rfl hv (by simp [ax_c1, hc]) k
theorem s_lst9 {g : ax_Y} {P : ax_P} {h mc ms pc : Nat} {r st : List Value} {M : ax_M} {Q : Option Value → ax_M → Prop} {a0 a1 a2 a3 a4 a5 a6 a7 a8 a9 a10 : Value} {x : Int64} (pc2 : Nat) (hi : P.2.2.2.2 pc = some (.lstore 9, 2)) (hp : pc + 2 = pc2) (hc : a8.category = 1) (k : ax_G g P h mc ms pc2 (a0 :: a1 :: a2 :: a3 :: a4 :: a5 :: a6 :: a7 :: a8 :: .long x :: .float 0 :: r) st M Q) : ax_G g P h mc ms pc (a0 :: a1 :: a2 :: a3 :: a4 :: a5 :: a6 :: a7 :: a8 :: a9 :: a10 :: r) (.long x :: st) M Q := g_lstore pc2 hi hp (by show 9 + 1 < _; simp only [List.length_cons]; omega) (by simp [ax_c1, hc]) k
theorem s_ist10 {g : ax_Y} {P : ax_P} {h mc ms pc : Nat} {r st : List Value} {M : ax_M} {Q : Option Value → ax_M → Prop} {a0 a1 a2 a3 a4 a5 a6 a7 a8 a9 a10 : Value} {x : Int32} (pc2 : Nat) (hi : P.2.2.2.2 pc = some (.istore 10, 2)) (hp : pc + 2 = pc2) (hc : a9.category = 1) (k : ax_G g P h mc ms pc2 (a0 :: a1 :: a2 :: a3 :: a4 :: a5 :: a6 :: a7 :: a8 :: a9 :: .int x :: r) st M Q) : ax_G g P h mc ms pc (a0 :: a1 :: a2 :: a3 :: a4 :: a5 :: a6 :: a7 :: a8 :: a9 :: a10 :: r) (.int x :: st) M Q := g_istore pc2 hi hp (by show 10 < _; simp only [List.length_cons]; omega) (by simp [ax_c1, hc]) k
theorem s_ast10 {g : ax_Y} {P : ax_P} {h mc ms pc : Nat} {r st : List Value} {M : ax_M} {Q : Option Value → ax_M → Prop} {a0 a1 a2 a3 a4 a5 a6 a7 a8 a9 a10 : Value} {x : Nat} (pc2 : Nat) (hi : P.2.2.2.2 pc = some (.astore 10, 2)) (hp : pc + 2 = pc2) (hc : a9.category = 1) (k : ax_G g P h mc ms pc2 (a0 :: a1 :: a2 :: a3 :: a4 :: a5 :: a6 :: a7 :: a8 :: a9 :: .ref x :: r) st M Q) : ax_G g P h mc ms pc (a0 :: a1 :: a2 :: a3 :: a4 :: a5 :: a6 :: a7 :: a8 :: a9 :: a10 :: r) (.ref x :: st) M Q := g_astore pc2 hi hp (by show 10 < _; simp only [List.length_cons]; omega) (by simp [ax_c1, hc]) k
theorem s_inc10 {g : ax_Y} {P : ax_P} {h mc ms pc : Nat} {r st : List Value} {M : ax_M} {Q : Option Value → ax_M → Prop} {a0 a1 a2 a3 a4 a5 a6 a7 a8 a9 : Value} {x : Int32} {n : Int} (v : Int32) (pc2 : Nat) (hi : P.2.2.2.2 pc = some (.iinc 10 n, 3)) (hp : pc + 3 = pc2) (hv : x + Int32.ofInt n = v) (hc : a9.category = 1) (k : ax_G g P h mc ms pc2 (a0 :: a1 :: a2 :: a3 :: a4 :: a5 :: a6 :: a7 :: a8 :: a9 :: .int v :: r) st M Q) : ax_G g P h mc ms pc (a0 :: a1 :: a2 :: a3 :: a4 :: a5 :: a6 :: a7 :: a8 :: a9 :: .int x :: r) st M Q := g_iinc v pc2 hi hp rfl hv (by simp [ax_c1, hc]) k
theorem s_lst10 {g : ax_Y} {P : ax_P} {h mc ms pc : Nat} {r st : List Value} {M : ax_M} {Q : Option Value → ax_M → Prop} {a0 a1 a2 a3 a4 a5 a6 a7 a8 a9 a10 a11 : Value} {x : Int64} (pc2 : Nat) (hi : P.2.2.2.2 pc = some (.lstore 10, 2)) (hp : pc + 2 = pc2) (hc : a9.category = 1) (k : ax_G g P h mc ms pc2 (a0 :: a1 :: a2 :: a3 :: a4 :: a5 :: a6 :: a7 :: a8 :: a9 :: .long x :: .float 0 :: r) st M Q) : ax_G g P h mc ms pc (a0 :: a1 :: a2 :: a3 :: a4 :: a5 :: a6 :: a7 :: a8 :: a9 :: a10 :: a11 :: r) (.long x :: st) M Q := g_lstore pc2 hi hp (by show 10 + 1 < _; simp only [List.length_cons]; omega) (by simp [ax_c1, hc]) k
theorem s_iadd {g : ax_Y} {P : ax_P} {h mc ms pc : Nat} {lv st : List Value} {M : ax_M} {Q : Option Value → ax_M → Prop} {x y : Int32} (pc2 : Nat) (hi : P.2.2.2.2 pc = some (.iadd, 1)) (hp : pc + 1 = pc2) (k : ax_G g P h mc ms pc2 lv (.int (x + y) :: st) M Q) : ax_G g P h mc ms pc lv (.int y :: .int x :: st) M Q := by
  subst hp
  exact fun p e R s m args below meth c H locs cells slots ls QQ C hh hr hL hR hS hK => lv_iadd C.1 C.2.1 (C.2.2.2.2.2.2.2.2.1 _ _ _ hi) (k p e R s m args below meth c H locs cells slots ls QQ C hh hr hL hR hS hK)
theorem s_isub {g : ax_Y} {P : ax_P} {h mc ms pc : Nat} {lv st : List Value} {M : ax_M} {Q : Option Value → ax_M → Prop} {x y : Int32} (pc2 : Nat) (hi : P.2.2.2.2 pc = some (.isub, 1)) (hp : pc + 1 = pc2) (k : ax_G g P h mc ms pc2 lv (.int (x - y) :: st) M Q) : ax_G g P h mc ms pc lv (.int y :: .int x :: st) M Q := by
  subst hp
  exact fun p e R s m args below meth c H locs cells slots ls QQ C hh hr hL hR hS hK => lv_isub C.1 C.2.1 (C.2.2.2.2.2.2.2.2.1 _ _ _ hi) (k p e R s m args below meth c H locs cells slots ls QQ C hh hr hL hR hS hK)
theorem s_imul {g : ax_Y} {P : ax_P} {h mc ms pc : Nat} {lv st : List Value} {M : ax_M} {Q : Option Value → ax_M → Prop} {x y : Int32} (pc2 : Nat) (hi : P.2.2.2.2 pc = some (.imul, 1)) (hp : pc + 1 = pc2) (k : ax_G g P h mc ms pc2 lv (.int (x * y) :: st) M Q) : ax_G g P h mc ms pc lv (.int y :: .int x :: st) M Q := by
  subst hp
  exact fun p e R s m args below meth c H locs cells slots ls QQ C hh hr hL hR hS hK => lv_imul C.1 C.2.1 (C.2.2.2.2.2.2.2.2.1 _ _ _ hi) (k p e R s m args below meth c H locs cells slots ls QQ C hh hr hL hR hS hK)
theorem s_iand {g : ax_Y} {P : ax_P} {h mc ms pc : Nat} {lv st : List Value} {M : ax_M} {Q : Option Value → ax_M → Prop} {x y : Int32} (pc2 : Nat) (hi : P.2.2.2.2 pc = some (.iand, 1)) (hp : pc + 1 = pc2) (k : ax_G g P h mc ms pc2 lv (.int (x &&& y) :: st) M Q) : ax_G g P h mc ms pc lv (.int y :: .int x :: st) M Q := by
  subst hp
  exact fun p e R s m args below meth c H locs cells slots ls QQ C hh hr hL hR hS hK => lv_iand C.1 C.2.1 (C.2.2.2.2.2.2.2.2.1 _ _ _ hi) (k p e R s m args below meth c H locs cells slots ls QQ C hh hr hL hR hS hK)
theorem s_ior {g : ax_Y} {P : ax_P} {h mc ms pc : Nat} {lv st : List Value} {M : ax_M} {Q : Option Value → ax_M → Prop} {x y : Int32} (pc2 : Nat) (hi : P.2.2.2.2 pc = some (.ior, 1)) (hp : pc + 1 = pc2) (k : ax_G g P h mc ms pc2 lv (.int (x ||| y) :: st) M Q) : ax_G g P h mc ms pc lv (.int y :: .int x :: st) M Q := by
  subst hp
  exact fun p e R s m args below meth c H locs cells slots ls QQ C hh hr hL hR hS hK => lv_ior C.1 C.2.1 (C.2.2.2.2.2.2.2.2.1 _ _ _ hi) (k p e R s m args below meth c H locs cells slots ls QQ C hh hr hL hR hS hK)
theorem s_ixor {g : ax_Y} {P : ax_P} {h mc ms pc : Nat} {lv st : List Value} {M : ax_M} {Q : Option Value → ax_M → Prop} {x y : Int32} (pc2 : Nat) (hi : P.2.2.2.2 pc = some (.ixor, 1)) (hp : pc + 1 = pc2) (k : ax_G g P h mc ms pc2 lv (.int (x ^^^ y) :: st) M Q) : ax_G g P h mc ms pc lv (.int y :: .int x :: st) M Q := by
  subst hp
  exact fun p e R s m args below meth c H locs cells slots ls QQ C hh hr hL hR hS hK => lv_ixor C.1 C.2.1 (C.2.2.2.2.2.2.2.2.1 _ _ _ hi) (k p e R s m args below meth c H locs cells slots ls QQ C hh hr hL hR hS hK)
theorem s_ladd {g : ax_Y} {P : ax_P} {h mc ms pc : Nat} {lv st : List Value} {M : ax_M} {Q : Option Value → ax_M → Prop} {x y : Int64} (pc2 : Nat) (hi : P.2.2.2.2 pc = some (.ladd, 1)) (hp : pc + 1 = pc2) (k : ax_G g P h mc ms pc2 lv (.long (x + y) :: st) M Q) : ax_G g P h mc ms pc lv (.long y :: .long x :: st) M Q := by
  subst hp
  exact fun p e R s m args below meth c H locs cells slots ls QQ C hh hr hL hR hS hK => lv_ladd C.1 C.2.1 (C.2.2.2.2.2.2.2.2.1 _ _ _ hi) (k p e R s m args below meth c H locs cells slots ls QQ C hh hr hL hR hS hK)
theorem s_lsub {g : ax_Y} {P : ax_P} {h mc ms pc : Nat} {lv st : List Value} {M : ax_M} {Q : Option Value → ax_M → Prop} {x y : Int64} (pc2 : Nat) (hi : P.2.2.2.2 pc = some (.lsub, 1)) (hp : pc + 1 = pc2) (k : ax_G g P h mc ms pc2 lv (.long (x - y) :: st) M Q) : ax_G g P h mc ms pc lv (.long y :: .long x :: st) M Q := by
  subst hp
  exact fun p e R s m args below meth c H locs cells slots ls QQ C hh hr hL hR hS hK => lv_lsub C.1 C.2.1 (C.2.2.2.2.2.2.2.2.1 _ _ _ hi) (k p e R s m args below meth c H locs cells slots ls QQ C hh hr hL hR hS hK)
theorem s_lmul {g : ax_Y} {P : ax_P} {h mc ms pc : Nat} {lv st : List Value} {M : ax_M} {Q : Option Value → ax_M → Prop} {x y : Int64} (pc2 : Nat) (hi : P.2.2.2.2 pc = some (.lmul, 1)) (hp : pc + 1 = pc2) (k : ax_G g P h mc ms pc2 lv (.long (x * y) :: st) M Q) : ax_G g P h mc ms pc lv (.long y :: .long x :: st) M Q := by
  subst hp
  exact fun p e R s m args below meth c H locs cells slots ls QQ C hh hr hL hR hS hK => lv_lmul C.1 C.2.1 (C.2.2.2.2.2.2.2.2.1 _ _ _ hi) (k p e R s m args below meth c H locs cells slots ls QQ C hh hr hL hR hS hK)
theorem s_land {g : ax_Y} {P : ax_P} {h mc ms pc : Nat} {lv st : List Value} {M : ax_M} {Q : Option Value → ax_M → Prop} {x y : Int64} (pc2 : Nat) (hi : P.2.2.2.2 pc = some (.land, 1)) (hp : pc + 1 = pc2) (k : ax_G g P h mc ms pc2 lv (.long (x &&& y) :: st) M Q) : ax_G g P h mc ms pc lv (.long y :: .long x :: st) M Q := by
  subst hp
  exact fun p e R s m args below meth c H locs cells slots ls QQ C hh hr hL hR hS hK => lv_land C.1 C.2.1 (C.2.2.2.2.2.2.2.2.1 _ _ _ hi) (k p e R s m args below meth c H locs cells slots ls QQ C hh hr hL hR hS hK)
theorem s_lor {g : ax_Y} {P : ax_P} {h mc ms pc : Nat} {lv st : List Value} {M : ax_M} {Q : Option Value → ax_M → Prop} {x y : Int64} (pc2 : Nat) (hi : P.2.2.2.2 pc = some (.lor, 1)) (hp : pc + 1 = pc2) (k : ax_G g P h mc ms pc2 lv (.long (x ||| y) :: st) M Q) : ax_G g P h mc ms pc lv (.long y :: .long x :: st) M Q := by
  subst hp
  exact fun p e R s m args below meth c H locs cells slots ls QQ C hh hr hL hR hS hK => lv_lor C.1 C.2.1 (C.2.2.2.2.2.2.2.2.1 _ _ _ hi) (k p e R s m args below meth c H locs cells slots ls QQ C hh hr hL hR hS hK)
theorem s_lxor {g : ax_Y} {P : ax_P} {h mc ms pc : Nat} {lv st : List Value} {M : ax_M} {Q : Option Value → ax_M → Prop} {x y : Int64} (pc2 : Nat) (hi : P.2.2.2.2 pc = some (.lxor, 1)) (hp : pc + 1 = pc2) (k : ax_G g P h mc ms pc2 lv (.long (x ^^^ y) :: st) M Q) : ax_G g P h mc ms pc lv (.long y :: .long x :: st) M Q := by
  subst hp
  exact fun p e R s m args below meth c H locs cells slots ls QQ C hh hr hL hR hS hK => lv_lxor C.1 C.2.1 (C.2.2.2.2.2.2.2.2.1 _ _ _ hi) (k p e R s m args below meth c H locs cells slots ls QQ C hh hr hL hR hS hK)
theorem s_idiv {g : ax_Y} {P : ax_P} {h mc ms pc : Nat} {lv st : List Value} {M : ax_M} {Q : Option Value → ax_M → Prop} {x y : Int32} (pc2 : Nat) (hi : P.2.2.2.2 pc = some (.idiv, 1)) (hp : pc + 1 = pc2) (hne : ¬ y = 0) (k : ax_G g P h mc ms pc2 lv (.int (x / y) :: st) M Q) : ax_G g P h mc ms pc lv (.int y :: .int x :: st) M Q := by
  subst hp
  exact fun p e R s m args below meth c H locs cells slots ls QQ C hh hr hL hR hS hK => lv_idiv C.1 C.2.1 (C.2.2.2.2.2.2.2.2.1 _ _ _ hi) hne (k p e R s m args below meth c H locs cells slots ls QQ C hh hr hL hR hS hK)
theorem s_irem {g : ax_Y} {P : ax_P} {h mc ms pc : Nat} {lv st : List Value} {M : ax_M} {Q : Option Value → ax_M → Prop} {x y : Int32} (pc2 : Nat) (hi : P.2.2.2.2 pc = some (.irem, 1)) (hp : pc + 1 = pc2) (hne : ¬ y = 0) (k : ax_G g P h mc ms pc2 lv (.int (x - x / y * y) :: st) M Q) : ax_G g P h mc ms pc lv (.int y :: .int x :: st) M Q := by
  subst hp
  exact fun p e R s m args below meth c H locs cells slots ls QQ C hh hr hL hR hS hK => lv_irem C.1 C.2.1 (C.2.2.2.2.2.2.2.2.1 _ _ _ hi) hne (k p e R s m args below meth c H locs cells slots ls QQ C hh hr hL hR hS hK)
theorem s_ineg {g : ax_Y} {P : ax_P} {h mc ms pc : Nat} {lv st : List Value} {M : ax_M} {Q : Option Value → ax_M → Prop} {x : Int32} (pc2 : Nat) (hi : P.2.2.2.2 pc = some (.ineg, 1)) (hp : pc + 1 = pc2) (k : ax_G g P h mc ms pc2 lv (.int (-x) :: st) M Q) : ax_G g P h mc ms pc lv (.int x :: st) M Q := by
  subst hp
  exact fun p e R s m args below meth c H locs cells slots ls QQ C hh hr hL hR hS hK => lv_ineg C.1 C.2.1 (C.2.2.2.2.2.2.2.2.1 _ _ _ hi) (k p e R s m args below meth c H locs cells slots ls QQ C hh hr hL hR hS hK)
theorem s_ishl {g : ax_Y} {P : ax_P} {h mc ms pc : Nat} {lv st : List Value} {M : ax_M} {Q : Option Value → ax_M → Prop} {x y : Int32} (pc2 : Nat) (hi : P.2.2.2.2 pc = some (.ishl, 1)) (hp : pc + 1 = pc2) (k : ax_G g P h mc ms pc2 lv (.int (x <<< (y &&& 31)) :: st) M Q) : ax_G g P h mc ms pc lv (.int y :: .int x :: st) M Q := by
  subst hp
  exact fun p e R s m args below meth c H locs cells slots ls QQ C hh hr hL hR hS hK => lv_ishl C.1 C.2.1 (C.2.2.2.2.2.2.2.2.1 _ _ _ hi) (k p e R s m args below meth c H locs cells slots ls QQ C hh hr hL hR hS hK)
theorem s_ishr {g : ax_Y} {P : ax_P} {h mc ms pc : Nat} {lv st : List Value} {M : ax_M} {Q : Option Value → ax_M → Prop} {x y : Int32} (pc2 : Nat) (hi : P.2.2.2.2 pc = some (.ishr, 1)) (hp : pc + 1 = pc2) (k : ax_G g P h mc ms pc2 lv (.int (x >>> (y &&& 31)) :: st) M Q) : ax_G g P h mc ms pc lv (.int y :: .int x :: st) M Q := by
  subst hp
  exact fun p e R s m args below meth c H locs cells slots ls QQ C hh hr hL hR hS hK => lv_ishr C.1 C.2.1 (C.2.2.2.2.2.2.2.2.1 _ _ _ hi) (k p e R s m args below meth c H locs cells slots ls QQ C hh hr hL hR hS hK)
theorem s_iushr {g : ax_Y} {P : ax_P} {h mc ms pc : Nat} {lv st : List Value} {M : ax_M} {Q : Option Value → ax_M → Prop} {x y : Int32} (pc2 : Nat) (hi : P.2.2.2.2 pc = some (.iushr, 1)) (hp : pc + 1 = pc2) (k : ax_G g P h mc ms pc2 lv (.int ((x.toUInt32 >>> (y.toUInt32 &&& Int32.toUInt32 31)).toInt32) :: st) M Q) : ax_G g P h mc ms pc lv (.int y :: .int x :: st) M Q := by
  subst hp
  exact fun p e R s m args below meth c H locs cells slots ls QQ C hh hr hL hR hS hK => lv_iushr C.1 C.2.1 (C.2.2.2.2.2.2.2.2.1 _ _ _ hi) rfl (k p e R s m args below meth c H locs cells slots ls QQ C hh hr hL hR hS hK)
theorem s_lushr {g : ax_Y} {P : ax_P} {h mc ms pc : Nat} {lv st : List Value} {M : ax_M} {Q : Option Value → ax_M → Prop} {x : Int64} {y : Int32} (pc2 : Nat) (hi : P.2.2.2.2 pc = some (.lushr, 1)) (hp : pc + 1 = pc2) (k : ax_G g P h mc ms pc2 lv (.long ((x.toUInt64 >>> (y.toInt64.toUInt64 &&& Int64.toUInt64 63)).toInt64) :: st) M Q) : ax_G g P h mc ms pc lv (.int y :: .long x :: st) M Q := by
  subst hp
  exact fun p e R s m args below meth c H locs cells slots ls QQ C hh hr hL hR hS hK => lv_lushr C.1 C.2.1 (C.2.2.2.2.2.2.2.2.1 _ _ _ hi) rfl (k p e R s m args below meth c H locs cells slots ls QQ C hh hr hL hR hS hK)
theorem s_lshl {g : ax_Y} {P : ax_P} {h mc ms pc : Nat} {lv st : List Value} {M : ax_M} {Q : Option Value → ax_M → Prop} {x : Int64} {y : Int32} (pc2 : Nat) (hi : P.2.2.2.2 pc = some (.lshl, 1)) (hp : pc + 1 = pc2) (k : ax_G g P h mc ms pc2 lv (.long (x <<< (y.toInt64 &&& 63)) :: st) M Q) : ax_G g P h mc ms pc lv (.int y :: .long x :: st) M Q := by
  subst hp
  exact fun p e R s m args below meth c H locs cells slots ls QQ C hh hr hL hR hS hK => lv_lshl C.1 C.2.1 (C.2.2.2.2.2.2.2.2.1 _ _ _ hi) rfl (k p e R s m args below meth c H locs cells slots ls QQ C hh hr hL hR hS hK)
theorem s_lshr {g : ax_Y} {P : ax_P} {h mc ms pc : Nat} {lv st : List Value} {M : ax_M} {Q : Option Value → ax_M → Prop} {x : Int64} {y : Int32} (pc2 : Nat) (hi : P.2.2.2.2 pc = some (.lshr, 1)) (hp : pc + 1 = pc2) (k : ax_G g P h mc ms pc2 lv (.long (x >>> (y.toInt64 &&& 63)) :: st) M Q) : ax_G g P h mc ms pc lv (.int y :: .long x :: st) M Q := by
  subst hp
  exact fun p e R s m args below meth c H locs cells slots ls QQ C hh hr hL hR hS hK => lv_lshr C.1 C.2.1 (C.2.2.2.2.2.2.2.2.1 _ _ _ hi) rfl (k p e R s m args below meth c H locs cells slots ls QQ C hh hr hL hR hS hK)
theorem s_i2l {g : ax_Y} {P : ax_P} {h mc ms pc : Nat} {lv st : List Value} {M : ax_M} {Q : Option Value → ax_M → Prop} {x : Int32} (pc2 : Nat) (hi : P.2.2.2.2 pc = some (.i2l, 1)) (hp : pc + 1 = pc2) (k : ax_G g P h mc ms pc2 lv (.long x.toInt64 :: st) M Q) : ax_G g P h mc ms pc lv (.int x :: st) M Q := by
  subst hp
  exact fun p e R s m args below meth c H locs cells slots ls QQ C hh hr hL hR hS hK => lv_i2l C.1 C.2.1 (C.2.2.2.2.2.2.2.2.1 _ _ _ hi) rfl (k p e R s m args below meth c H locs cells slots ls QQ C hh hr hL hR hS hK)
theorem s_l2i {g : ax_Y} {P : ax_P} {h mc ms pc : Nat} {lv st : List Value} {M : ax_M} {Q : Option Value → ax_M → Prop} {x : Int64} (pc2 : Nat) (hi : P.2.2.2.2 pc = some (.l2i, 1)) (hp : pc + 1 = pc2) (k : ax_G g P h mc ms pc2 lv (.int x.toInt32 :: st) M Q) : ax_G g P h mc ms pc lv (.long x :: st) M Q := by
  subst hp
  exact fun p e R s m args below meth c H locs cells slots ls QQ C hh hr hL hR hS hK => lv_l2i C.1 C.2.1 (C.2.2.2.2.2.2.2.2.1 _ _ _ hi) rfl (k p e R s m args below meth c H locs cells slots ls QQ C hh hr hL hR hS hK)
theorem s_i2b {g : ax_Y} {P : ax_P} {h mc ms pc : Nat} {lv st : List Value} {M : ax_M} {Q : Option Value → ax_M → Prop} {x : Int32} (pc2 : Nat) (hi : P.2.2.2.2 pc = some (.i2b, 1)) (hp : pc + 1 = pc2) (k : ax_G g P h mc ms pc2 lv (.int x.toInt8.toInt32 :: st) M Q) : ax_G g P h mc ms pc lv (.int x :: st) M Q := by
  subst hp
  exact fun p e R s m args below meth c H locs cells slots ls QQ C hh hr hL hR hS hK => lv_i2b C.1 C.2.1 (C.2.2.2.2.2.2.2.2.1 _ _ _ hi) rfl (k p e R s m args below meth c H locs cells slots ls QQ C hh hr hL hR hS hK)
theorem s_i2c {g : ax_Y} {P : ax_P} {h mc ms pc : Nat} {lv st : List Value} {M : ax_M} {Q : Option Value → ax_M → Prop} {x : Int32} (pc2 : Nat) (hi : P.2.2.2.2 pc = some (.i2c, 1)) (hp : pc + 1 = pc2) (k : ax_G g P h mc ms pc2 lv (.int (x.toUInt32 % 65536).toInt32 :: st) M Q) : ax_G g P h mc ms pc lv (.int x :: st) M Q := by
  subst hp
  exact fun p e R s m args below meth c H locs cells slots ls QQ C hh hr hL hR hS hK => lv_i2c C.1 C.2.1 (C.2.2.2.2.2.2.2.2.1 _ _ _ hi) rfl (k p e R s m args below meth c H locs cells slots ls QQ C hh hr hL hR hS hK)
theorem s_lcmp {g : ax_Y} {P : ax_P} {h mc ms pc : Nat} {lv st : List Value} {M : ax_M} {Q : Option Value → ax_M → Prop} {x y : Int64} (pc2 : Nat) (hi : P.2.2.2.2 pc = some (.lcmp, 1)) (hp : pc + 1 = pc2) (k : ax_G g P h mc ms pc2 lv (.int (lg_cmp x y) :: st) M Q) : ax_G g P h mc ms pc lv (.long y :: .long x :: st) M Q := by
  subst hp
  exact fun p e R s m args below meth c H locs cells slots ls QQ C hh hr hL hR hS hK => W.lcmp C.1 C.2.1 (C.2.2.2.2.2.2.2.2.1 _ _ _ hi) (k p e R s m args below meth c H locs cells slots ls QQ C hh hr hL hR hS hK)
theorem s_dup {g : ax_Y} {P : ax_P} {h mc ms pc : Nat} {lv st : List Value} {M : ax_M} {Q : Option Value → ax_M → Prop} {a : Value} (pc2 : Nat) (hi : P.2.2.2.2 pc = some (.dup, 1)) (hp : pc + 1 = pc2) (ha : a.category = 1) (k : ax_G g P h mc ms pc2 lv (a :: a :: st) M Q) : ax_G g P h mc ms pc lv (a :: st) M Q := by
  subst hp
  exact fun p e R s m args below meth c H locs cells slots ls QQ C hh hr hL hR hS hK => lv_dup C.1 C.2.1 (C.2.2.2.2.2.2.2.2.1 _ _ _ hi) ((ax_cat g a).trans ha) (k p e R s m args below meth c H locs cells slots ls QQ C hh hr hL hR hS hK)
theorem s_pop {g : ax_Y} {P : ax_P} {h mc ms pc : Nat} {lv st : List Value} {M : ax_M} {Q : Option Value → ax_M → Prop} {a : Value} (pc2 : Nat) (hi : P.2.2.2.2 pc = some (.pop, 1)) (hp : pc + 1 = pc2) (ha : a.category = 1) (k : ax_G g P h mc ms pc2 lv st M Q) : ax_G g P h mc ms pc lv (a :: st) M Q := by
  subst hp
  exact fun p e R s m args below meth c H locs cells slots ls QQ C hh hr hL hR hS hK => lv_pop C.1 C.2.1 (C.2.2.2.2.2.2.2.2.1 _ _ _ hi) ((ax_cat g a).trans ha) (k p e R s m args below meth c H locs cells slots ls QQ C hh hr hL hR hS hK)
theorem s_dup2 {g : ax_Y} {P : ax_P} {h mc ms pc : Nat} {lv st : List Value} {M : ax_M} {Q : Option Value → ax_M → Prop} {a b : Value} (pc2 : Nat) (hi : P.2.2.2.2 pc = some (.dup2, 1)) (hp : pc + 1 = pc2) (ha : a.category = 1) (hb : b.category = 1) (k : ax_G g P h mc ms pc2 lv (a :: b :: a :: b :: st) M Q) : ax_G g P h mc ms pc lv (a :: b :: st) M Q := by
  subst hp
  exact fun p e R s m args below meth c H locs cells slots ls QQ C hh hr hL hR hS hK => lv_dup2_11 C.1 C.2.1 (C.2.2.2.2.2.2.2.2.1 _ _ _ hi) ((ax_cat g a).trans ha) ((ax_cat g b).trans hb) (k p e R s m args below meth c H locs cells slots ls QQ C hh hr hL hR hS hK)
theorem s_if_eq {g : ax_Y} {P : ax_P} {h mc ms pc : Nat} {lv st : List Value} {M : ax_M} {Q : Option Value → ax_M → Prop} {x : Int32} {off : Int} (tgt pc2 : Nat) (hi : P.2.2.2.2 pc = some (.ifCond .eq off, 3)) (hp : pc + 3 = pc2) (ht : (pc : Int) + off = (tgt : Int)) (kt : x = 0 → ax_G g P h mc ms tgt lv st M Q) (kf : ¬ x = 0 → ax_G g P h mc ms pc2 lv st M Q) : ax_G g P h mc ms pc lv (.int x :: st) M Q := by
  subst hp
  exact fun p e R s m args below meth c H locs cells slots ls QQ C hh hr hL hR hS hK => lv_if_eq C.1 C.2.1 (C.2.2.2.2.2.2.2.2.1 _ _ _ hi) ht (fun q => kt q p e R s m args below meth c H locs cells slots ls QQ C hh hr hL hR hS hK) (fun q => kf q p e R s m args below meth c H locs cells slots ls QQ C hh hr hL hR hS hK)
theorem s_icmp_eq {g : ax_Y} {P : ax_P} {h mc ms pc : Nat} {lv st : List Value} {M : ax_M} {Q : Option Value → ax_M → Prop} {x y : Int32} {off : Int} (tgt pc2 : Nat) (hi : P.2.2.2.2 pc = some (.if_icmp .eq off, 3)) (hp : pc + 3 = pc2) (ht : (pc : Int) + off = (tgt : Int)) (kt : x = y → ax_G g P h mc ms tgt lv st M Q) (kf : ¬ x = y → ax_G g P h mc ms pc2 lv st M Q) : ax_G g P h mc ms pc lv (.int y :: .int x :: st) M Q := by
  subst hp
  exact fun p e R s m args below meth c H locs cells slots ls QQ C hh hr hL hR hS hK => lv_icmp_eq C.1 C.2.1 (C.2.2.2.2.2.2.2.2.1 _ _ _ hi) ht (fun q => kt q p e R s m args below meth c H locs cells slots ls QQ C hh hr hL hR hS hK) (fun q => kf q p e R s m args below meth c H locs cells slots ls QQ C hh hr hL hR hS hK)
theorem s_if_ne {g : ax_Y} {P : ax_P} {h mc ms pc : Nat} {lv st : List Value} {M : ax_M} {Q : Option Value → ax_M → Prop} {x : Int32} {off : Int} (tgt pc2 : Nat) (hi : P.2.2.2.2 pc = some (.ifCond .ne off, 3)) (hp : pc + 3 = pc2) (ht : (pc : Int) + off = (tgt : Int)) (kt : ¬ x = 0 → ax_G g P h mc ms tgt lv st M Q) (kf : x = 0 → ax_G g P h mc ms pc2 lv st M Q) : ax_G g P h mc ms pc lv (.int x :: st) M Q := by
  subst hp
  exact fun p e R s m args below meth c H locs cells slots ls QQ C hh hr hL hR hS hK => lv_if_ne C.1 C.2.1 (C.2.2.2.2.2.2.2.2.1 _ _ _ hi) ht (fun q => kt q p e R s m args below meth c H locs cells slots ls QQ C hh hr hL hR hS hK) (fun q => kf q p e R s m args below meth c H locs cells slots ls QQ C hh hr hL hR hS hK)
theorem s_icmp_ne {g : ax_Y} {P : ax_P} {h mc ms pc : Nat} {lv st : List Value} {M : ax_M} {Q : Option Value → ax_M → Prop} {x y : Int32} {off : Int} (tgt pc2 : Nat) (hi : P.2.2.2.2 pc = some (.if_icmp .ne off, 3)) (hp : pc + 3 = pc2) (ht : (pc : Int) + off = (tgt : Int)) (kt : ¬ x = y → ax_G g P h mc ms tgt lv st M Q) (kf : x = y → ax_G g P h mc ms pc2 lv st M Q) : ax_G g P h mc ms pc lv (.int y :: .int x :: st) M Q := by
  subst hp
  exact fun p e R s m args below meth c H locs cells slots ls QQ C hh hr hL hR hS hK => lv_icmp_ne C.1 C.2.1 (C.2.2.2.2.2.2.2.2.1 _ _ _ hi) ht (fun q => kt q p e R s m args below meth c H locs cells slots ls QQ C hh hr hL hR hS hK) (fun q => kf q p e R s m args below meth c H locs cells slots ls QQ C hh hr hL hR hS hK)
theorem s_if_lt {g : ax_Y} {P : ax_P} {h mc ms pc : Nat} {lv st : List Value} {M : ax_M} {Q : Option Value → ax_M → Prop} {x : Int32} {off : Int} (tgt pc2 : Nat) (hi : P.2.2.2.2 pc = some (.ifCond .lt off, 3)) (hp : pc + 3 = pc2) (ht : (pc : Int) + off = (tgt : Int)) (kt : x < 0 → ax_G g P h mc ms tgt lv st M Q) (kf : ¬ x < 0 → ax_G g P h mc ms pc2 lv st M Q) : ax_G g P h mc ms pc lv (.int x :: st) M Q := by
  subst hp
  exact fun p e R s m args below meth c H locs cells slots ls QQ C hh hr hL hR hS hK => lv_if_lt C.1 C.2.1 (C.2.2.2.2.2.2.2.2.1 _ _ _ hi) ht (fun q => kt q p e R s m args below meth c H locs cells slots ls QQ C hh hr hL hR hS hK) (fun q => kf q p e R s m args below meth c H locs cells slots ls QQ C hh hr hL hR hS hK)
theorem s_icmp_lt {g : ax_Y} {P : ax_P} {h mc ms pc : Nat} {lv st : List Value} {M : ax_M} {Q : Option Value → ax_M → Prop} {x y : Int32} {off : Int} (tgt pc2 : Nat) (hi : P.2.2.2.2 pc = some (.if_icmp .lt off, 3)) (hp : pc + 3 = pc2) (ht : (pc : Int) + off = (tgt : Int)) (kt : x < y → ax_G g P h mc ms tgt lv st M Q) (kf : ¬ x < y → ax_G g P h mc ms pc2 lv st M Q) : ax_G g P h mc ms pc lv (.int y :: .int x :: st) M Q := by
  subst hp
  exact fun p e R s m args below meth c H locs cells slots ls QQ C hh hr hL hR hS hK => lv_icmp_lt C.1 C.2.1 (C.2.2.2.2.2.2.2.2.1 _ _ _ hi) ht (fun q => kt q p e R s m args below meth c H locs cells slots ls QQ C hh hr hL hR hS hK) (fun q => kf q p e R s m args below meth c H locs cells slots ls QQ C hh hr hL hR hS hK)
theorem s_if_ge {g : ax_Y} {P : ax_P} {h mc ms pc : Nat} {lv st : List Value} {M : ax_M} {Q : Option Value → ax_M → Prop} {x : Int32} {off : Int} (tgt pc2 : Nat) (hi : P.2.2.2.2 pc = some (.ifCond .ge off, 3)) (hp : pc + 3 = pc2) (ht : (pc : Int) + off = (tgt : Int)) (kt : 0 ≤ x → ax_G g P h mc ms tgt lv st M Q) (kf : ¬ 0 ≤ x → ax_G g P h mc ms pc2 lv st M Q) : ax_G g P h mc ms pc lv (.int x :: st) M Q := by
  subst hp
  exact fun p e R s m args below meth c H locs cells slots ls QQ C hh hr hL hR hS hK => lv_if_ge C.1 C.2.1 (C.2.2.2.2.2.2.2.2.1 _ _ _ hi) ht (fun q => kt q p e R s m args below meth c H locs cells slots ls QQ C hh hr hL hR hS hK) (fun q => kf q p e R s m args below meth c H locs cells slots ls QQ C hh hr hL hR hS hK)
theorem s_icmp_ge {g : ax_Y} {P : ax_P} {h mc ms pc : Nat} {lv st : List Value} {M : ax_M} {Q : Option Value → ax_M → Prop} {x y : Int32} {off : Int} (tgt pc2 : Nat) (hi : P.2.2.2.2 pc = some (.if_icmp .ge off, 3)) (hp : pc + 3 = pc2) (ht : (pc : Int) + off = (tgt : Int)) (kt : y ≤ x → ax_G g P h mc ms tgt lv st M Q) (kf : ¬ y ≤ x → ax_G g P h mc ms pc2 lv st M Q) : ax_G g P h mc ms pc lv (.int y :: .int x :: st) M Q := by
  subst hp
  exact fun p e R s m args below meth c H locs cells slots ls QQ C hh hr hL hR hS hK => lv_icmp_ge C.1 C.2.1 (C.2.2.2.2.2.2.2.2.1 _ _ _ hi) ht (fun q => kt q p e R s m args below meth c H locs cells slots ls QQ C hh hr hL hR hS hK) (fun q => kf q p e R s m args below meth c H locs cells slots ls QQ C hh hr hL hR hS hK)
theorem s_if_gt {g : ax_Y} {P : ax_P} {h mc ms pc : Nat} {lv st : List Value} {M : ax_M} {Q : Option Value → ax_M → Prop} {x : Int32} {off : Int} (tgt pc2 : Nat) (hi : P.2.2.2.2 pc = some (.ifCond .gt off, 3)) (hp : pc + 3 = pc2) (ht : (pc : Int) + off = (tgt : Int)) (kt : 0 < x → ax_G g P h mc ms tgt lv st M Q) (kf : ¬ 0 < x → ax_G g P h mc ms pc2 lv st M Q) : ax_G g P h mc ms pc lv (.int x :: st) M Q := by
  subst hp
  exact fun p e R s m args below meth c H locs cells slots ls QQ C hh hr hL hR hS hK => lv_if_gt C.1 C.2.1 (C.2.2.2.2.2.2.2.2.1 _ _ _ hi) ht (fun q => kt q p e R s m args below meth c H locs cells slots ls QQ C hh hr hL hR hS hK) (fun q => kf q p e R s m args below meth c H locs cells slots ls QQ C hh hr hL hR hS hK)
theorem s_icmp_gt {g : ax_Y} {P : ax_P} {h mc ms pc : Nat} {lv st : List Value} {M : ax_M} {Q : Option Value → ax_M → Prop} {x y : Int32} {off : Int} (tgt pc2 : Nat) (hi : P.2.2.2.2 pc = some (.if_icmp .gt off, 3)) (hp : pc + 3 = pc2) (ht : (pc : Int) + off = (tgt : Int)) (kt : y < x → ax_G g P h mc ms tgt lv st M Q) (kf : ¬ y < x → ax_G g P h mc ms pc2 lv st M Q) : ax_G g P h mc ms pc lv (.int y :: .int x :: st) M Q := by
  subst hp
  exact fun p e R s m args below meth c H locs cells slots ls QQ C hh hr hL hR hS hK => lv_icmp_gt C.1 C.2.1 (C.2.2.2.2.2.2.2.2.1 _ _ _ hi) ht (fun q => kt q p e R s m args below meth c H locs cells slots ls QQ C hh hr hL hR hS hK) (fun q => kf q p e R s m args below meth c H locs cells slots ls QQ C hh hr hL hR hS hK)
theorem s_if_le {g : ax_Y} {P : ax_P} {h mc ms pc : Nat} {lv st : List Value} {M : ax_M} {Q : Option Value → ax_M → Prop} {x : Int32} {off : Int} (tgt pc2 : Nat) (hi : P.2.2.2.2 pc = some (.ifCond .le off, 3)) (hp : pc + 3 = pc2) (ht : (pc : Int) + off = (tgt : Int)) (kt : x ≤ 0 → ax_G g P h mc ms tgt lv st M Q) (kf : ¬ x ≤ 0 → ax_G g P h mc ms pc2 lv st M Q) : ax_G g P h mc ms pc lv (.int x :: st) M Q := by
  subst hp
  exact fun p e R s m args below meth c H locs cells slots ls QQ C hh hr hL hR hS hK => lv_if_le C.1 C.2.1 (C.2.2.2.2.2.2.2.2.1 _ _ _ hi) ht (fun q => kt q p e R s m args below meth c H locs cells slots ls QQ C hh hr hL hR hS hK) (fun q => kf q p e R s m args below meth c H locs cells slots ls QQ C hh hr hL hR hS hK)
theorem s_icmp_le {g : ax_Y} {P : ax_P} {h mc ms pc : Nat} {lv st : List Value} {M : ax_M} {Q : Option Value → ax_M → Prop} {x y : Int32} {off : Int} (tgt pc2 : Nat) (hi : P.2.2.2.2 pc = some (.if_icmp .le off, 3)) (hp : pc + 3 = pc2) (ht : (pc : Int) + off = (tgt : Int)) (kt : x ≤ y → ax_G g P h mc ms tgt lv st M Q) (kf : ¬ x ≤ y → ax_G g P h mc ms pc2 lv st M Q) : ax_G g P h mc ms pc lv (.int y :: .int x :: st) M Q := by
  subst hp
  exact fun p e R s m args below meth c H locs cells slots ls QQ C hh hr hL hR hS hK => lv_icmp_le C.1 C.2.1 (C.2.2.2.2.2.2.2.2.1 _ _ _ hi) ht (fun q => kt q p e R s m args below meth c H locs cells slots ls QQ C hh hr hL hR hS hK) (fun q => kf q p e R s m args below meth c H locs cells slots ls QQ C hh hr hL hR hS hK)
theorem s_goto {g : ax_Y} {P : ax_P} {h mc ms pc : Nat} {lv st : List Value} {M : ax_M} {Q : Option Value → ax_M → Prop} {off : Int} (tgt : Nat) (hi : P.2.2.2.2 pc = some (.goto off, 3)) (ht : (pc : Int) + off = (tgt : Int)) (k : ax_G g P h mc ms tgt lv st M Q) : ax_G g P h mc ms pc lv st M Q := fun p e R s m args below meth c H locs cells slots ls QQ C hh hr hL hR hS hK => lv_goto C.1 C.2.1 (C.2.2.2.2.2.2.2.2.1 _ _ _ hi) ht (k p e R s m args below meth c H locs cells slots ls QQ C hh hr hL hR hS hK)
theorem s_lookup {g : ax_Y} {P : ax_P} {h mc ms pc : Nat} {lv st : List Value} {M : ax_M} {Q : Option Value → ax_M → Prop} {dflt : Int} {ps : Array (Int × Int)} {len : Nat} {x : Int32} (off : Int) (tgt : Nat) (hi : P.2.2.2.2 pc = some (.lookupswitch dflt ps, len)) (hs : (ps.toList.zip (ps.toList.drop 1)).all (fun (a, next) => a.1 < next.1) = true) (ho : Op.lookupswitch.offset ps.toList dflt x.toInt = off) (ht : (pc : Int) + off = (tgt : Int)) (k : ax_G g P h mc ms tgt lv st M Q) : ax_G g P h mc ms pc lv (.int x :: st) M Q := fun p e R s m args below meth c H locs cells slots ls QQ C hh hr hL hR hS hK => lv_lookup C.1 C.2.1 (C.2.2.2.2.2.2.2.2.1 _ _ _ hi) hs ho ht (k p e R s m args below meth c H locs cells slots ls QQ C hh hr hL hR hS hK)
theorem s_tabOut {g : ax_Y} {P : ax_P} {h mc ms pc : Nat} {lv st : List Value} {M : ax_M} {Q : Option Value → ax_M → Prop} {dflt lo hi0 : Int} {offs : Array Int} {len : Nat} {x : Int32} (tgt : Nat) (hi : P.2.2.2.2 pc = some (.tableswitch dflt lo hi0 offs, len)) (hx : x.toInt < lo ∨ hi0 < x.toInt) (ht : (pc : Int) + dflt = (tgt : Int)) (k : ax_G g P h mc ms tgt lv st M Q) : ax_G g P h mc ms pc lv (.int x :: st) M Q := fun p e R s m args below meth c H locs cells slots ls QQ C hh hr hL hR hS hK => lv_tableOut C.1 C.2.1 (C.2.2.2.2.2.2.2.2.1 _ _ _ hi) hx ht (k p e R s m args below meth c H locs cells slots ls QQ C hh hr hL hR hS hK)
theorem s_tabIn {g : ax_Y} {P : ax_P} {h mc ms pc : Nat} {lv st : List Value} {M : ax_M} {Q : Option Value → ax_M → Prop} {dflt lo hi0 : Int} {offs : Array Int} {len : Nat} {x : Int32} {off : Int} (tgt : Nat) (hi : P.2.2.2.2 pc = some (.tableswitch dflt lo hi0 offs, len)) (h1 : ¬ x.toInt < lo) (h2 : ¬ hi0 < x.toInt) (ho : offs[(x.toInt - lo).toNat]? = some off) (ht : (pc : Int) + off = (tgt : Int)) (k : ax_G g P h mc ms tgt lv st M Q) : ax_G g P h mc ms pc lv (.int x :: st) M Q := fun p e R s m args below meth c H locs cells slots ls QQ C hh hr hL hR hS hK => lv_tableIn C.1 C.2.1 (C.2.2.2.2.2.2.2.2.1 _ _ _ hi) h1 h2 ho ht (k p e R s m args below meth c H locs cells slots ls QQ C hh hr hL hR hS hK)
theorem s_ireturn {g : ax_Y} {P : ax_P} {h mc ms pc : Nat} {lv st : List Value} {M : ax_M} {Q : Option Value → ax_M → Prop} {x : Int32} (hi : P.2.2.2.2 pc = some (.ireturn, 1)) (ty : FieldType) (ht : P.2.2.2.1 = some ty) (hn : narrow ty (.int x) = .int x) (q : Q (some (.int x)) M) : ax_G g P h mc ms pc lv [.int x] M Q := fun p e R s m args below meth c H locs cells slots ls QQ C hh hr hL hR hS hK => hK (some (.int x)) M H locs cells slots pc ls q hR hS ⟨Nat.le_add_right _ _, Nat.le_add_right _ _⟩ (Or.inr (Or.inl ⟨x, rfl, ⟨ty, ht, hn⟩, (C.2.2.2.2.2.2.2.2.1 _ _ _ hi)⟩))
theorem s_lreturn {g : ax_Y} {P : ax_P} {h mc ms pc : Nat} {lv st : List Value} {M : ax_M} {Q : Option Value → ax_M → Prop} {x : Int64} (hi : P.2.2.2.2 pc = some (.lreturn, 1)) (ht : P.2.2.2.1 = some .long) (q : Q (some (.long x)) M) : ax_G g P h mc ms pc lv [.long x] M Q := fun p e R s m args below meth c H locs cells slots ls QQ C hh hr hL hR hS hK => hK (some (.long x)) M H locs cells slots pc ls q hR hS ⟨Nat.le_add_right _ _, Nat.le_add_right _ _⟩ (Or.inr (Or.inr ⟨x, rfl, ht, (C.2.2.2.2.2.2.2.2.1 _ _ _ hi)⟩))
theorem s_return {g : ax_Y} {P : ax_P} {h mc ms pc : Nat} {lv st : List Value} {M : ax_M} {Q : Option Value → ax_M → Prop} (hi : P.2.2.2.2 pc = some (.return_, 1)) (ht : P.2.2.2.1 = none) (q : Q none M) : ax_G g P h mc ms pc lv [] M Q := fun p e R s m args below meth c H locs cells slots ls QQ C hh hr hL hR hS hK => hK none M H locs cells slots pc ls q hR hS ⟨Nat.le_add_right _ _, Nat.le_add_right _ _⟩ (Or.inl ⟨rfl, ht, (C.2.2.2.2.2.2.2.2.1 _ _ _ hi)⟩)
end
section
/-! Rows of the heap: fields, arrays, makings. -/
/-- entry idx of class own is field k of class ci -/
def ax_FL (own : String) (idx ci k : Nat) : Prop := ∃ q : vw_C, ax_cl[ci]? = some q ∧ k < q.2.2 ∧ Cond.fieldLink own idx (q.2.1 k).1 (q.2.1 k).2.1 (q.2.1 k).2.2.1 ∈ ax_tbl
/-- and may be written with values of type ty; fin: in constructors of own alone -/
def ax_FP (own : String) (idx ci k : Nat) (fin : Bool) (ty : FieldType) : Prop := ∃ q : vw_C, ax_cl[ci]? = some q ∧ k < q.2.2 ∧ Cond.fieldLink own idx (q.2.1 k).1 (q.2.1 k).2.1 (q.2.1 k).2.2.1 ∈ ax_tbl ∧ (q.2.1 k).2.2.2 = fin ∧ parseFieldDescriptor (q.2.1 k).2.2.1 = some ty ∧ (fin = true → (q.2.1 k).1 = own)
theorem ax_S.put {g : ax_Y} {H0 H H1 : Heap} {locs : List Loc} {a k : Nat} (h : va_S (ax_A g) H0 H locs) (z : H1.size = H.size) (oq : ∀ q : Nat, q ≠ g.2.1 + a → H1[q]? = H[q]?) : va_S (ax_A g) H0 H1 (locs ++ [⟨g.2.1 + a, k⟩]) := h.put z oq (Nat.le_add_right _ _)
theorem ax_narrow {g : ax_Y} {ty : FieldType} {v : Value} (h : narrow ty v = v ∧ fits ty v = true) : narrow ty (ax_v g v) = ax_v g v ∧ fits ty (ax_v g v) = true := by
  cases v <;> first | exact h | (cases ty <;> first | (simp [fits] at h; done) | exact ⟨rfl, rfl⟩)
section AXH
variable {g : ax_Y} {P : ax_P} {h mc ms pc : Nat} {lv st : List Value} {M : ax_M} {Q : Option Value → ax_M → Prop}
theorem s_getfield {idx a : Nat} (ci k : Nat) {fs : List Value} {v : Value} (pc2 : Nat) (hi : P.2.2.2.2 pc = some (.getfield idx, 3)) (hp : pc + 3 = pc2) (hf : ax_FL P.1.cls idx ci k) (hM : M.2 a = some (.inr (ci, fs))) (hv : fs[k]? = some v) (kk : ax_G g P h mc ms pc2 lv (v :: st) M Q) : ax_G g P h mc ms pc lv (.ref a :: st) M Q := by
  subst hp
  intro p e R s m args below meth c H locs cells slots ls QQ C hh hr hL hR hS hK
  obtain ⟨q, h1, h2, h3⟩ := hf
  have hts := C.2.2.2.2.2.1
  have hck := ax_cks ci q h1
  exact va_get (own := P.1.cls) (C := q.1) (T := q.2.1) (N := q.2.2) (v := ax_v g v) C.1 C.2.1 hts hck.1 C.2.2.2.2.1 C.2.2.2.2.2.2.2.2.2.1.1 hR.2.2 a (fs := fs.map (ax_v g)) (hR.at hM) h1 k h2 (hts _ h3) (fun _ h9 => h9) (by rw [List.getElem?_map, hv]; rfl) (C.2.2.2.2.2.2.2.2.1 _ _ _ hi) (kk p e R s m args below meth c H locs cells slots ls QQ C hh hr hL hR hS hK)
theorem s_putfield {idx a : Nat} (ci k : Nat) {fs : List Value} {v : Value} {fin : Bool} (ty : FieldType) (pc2 : Nat) (hi : P.2.2.2.2 pc = some (.putfield idx, 3)) (hp : pc + 3 = pc2) (hf : ax_FP P.1.cls idx ci k fin ty) (hM : M.2 a = some (.inr (ci, fs))) (hl : k < fs.length) (hn : narrow ty v = v ∧ fits ty v = true) (hfin : fin = true → P.1.name = "<init>") (kk : ax_G g P h mc ms pc2 lv st (ax_put M a (.inr (ci, fs.set k v))) Q) : ax_G g P h mc ms pc lv (v :: .ref a :: st) M Q := by
  subst hp
  intro p e R s m args below meth c H locs cells slots ls QQ C hh hr hL hR hS hK
  obtain ⟨q, hc, hk, h3, h4, hd, h6⟩ := hf
  obtain ⟨C0, T, N⟩ := q
  have hts := C.2.2.2.2.2.1
  obtain ⟨hin, ⟨ty0, hty⟩, hnm⟩ := ax_cks ci _ hc
  have hK0 := C.2.2.2.2.2.2.2.2.2.1.1
  have hap := va_apart (own := P.1.cls) (C := C0) (T := T) (N := N) hts hin ty0 hty hnm hK0 hc
  have he := hR.at hM
  obtain ⟨r, h1, cell, q1, q2, q3, q4⟩ := hR.2.2 a _ he
  have hrr : r = (C0, T, N) := Option.some.inj (h1.symm.trans hc)
  subst hrr
  obtain ⟨hSl, hfc, kC, hkC, hkind⟩ := hK0.1 ci _ hc
  obtain ⟨cf, kf, fi, f, hif, hsl⟩ := hSl k hk
  obtain ⟨hn1, hn2⟩ := ax_narrow (g := g) hn
  have hlay := hts _ (hin _ (u_in_lay hk))
  unfold u_lay at hlay
  have hst := (u_facts hfc hkC (u_lays hts hin hk) hif).1
  have fin2 : ∀ H' : Heap, H'[g.2.1 + a]? = some (cell.setSlot f.slot (ax_v g v)) → H'.size = H.size → (∀ q, q ≠ g.2.1 + a → H'[q]? = H[q]?) → W p g.1 e R s m args below meth c H' (locs ++ [⟨g.2.1 + a, f.slot⟩]) cells slots QQ (F0 m (pc + 3) ls (st.map (ax_v g))) := by
    intro H' e1 e2 e3
    refine kk p e R s m args below meth c H' _ cells slots ls QQ C hh hr hL (hR.put hM ?_ e2 e3) (ax_S.put hS e2 e3) hK
    rw [hsl] at e1
    refine ⟨_, hc, t_OB.to (V := updV (vp_V (fs.map (ax_v g))) k (ax_v g v)) ⟨_, e1, q2, q3, t_set q4 hap hk _⟩ (fun j _ => ?_)⟩
    show _ = vp_V ((fs.set k v).map (ax_v g)) j
    rw [List.map_set]
    exact vp_updV_set (by rw [List.length_map]; exact hl) _ j
  cases fin with
  | false =>
    rw [if_neg (by rw [h4]; decide)] at hlay
    have hs6 := u_store hfc hkC hkind hlay hif hd hn1 hn2
    exact W.putK C.1 C.2.1 (f := f) ⟨C.2.2.2.2.1, hts _ h3, ⟨_, _, _, hif⟩, hst⟩ (by rw [q2]; exact hs6) q1 q3 (by rw [hsl]; exact k2_hasslot (q4 k hk)) rfl rfl (C.2.2.2.2.2.2.2.2.1 _ _ _ hi) fin2
  | true =>
    rw [if_pos h4] at hlay
    have hcf : m.cls = cf := by
      obtain ⟨_, _, c', _, _, _, -, -, hf', -, -, -, hown2, -⟩ := Cond.laysFinal_spec hlay
      have e1 : c' = cf := by have := hif.symm.trans hf'; simp at this; exact this.1.symm
      rw [h6 rfl] at hown2
      rw [← e1]; exact Option.some.inj (C.2.2.2.2.1.symm.trans hown2)
    have hs6 := u_fits hfc hkC hkind (Or.inr hlay) hif hd hn1 hn2
    exact W.putFinK C.1 C.2.1 C.2.2.2.2.1 (hts _ h3) hif hst hcf (C.2.2.2.2.2.2.2.1.trans (hfin rfl)) (by rw [q2]; exact hs6) q1 q3 (by rw [hsl]; exact k2_hasslot (q4 k hk)) rfl rfl (C.2.2.2.2.2.2.2.2.1 _ _ _ hi) fin2
/-- an index as a number -/
theorem ax_in_nI {x : Int32} {j n : Nat} (hx : x = nI j) (hj : j < n) (hn : n < 2147483648) : vp_in x n ∧ x.toNatClampNeg = j := by
  subst hx
  exact ⟨vp_in_nI hj hn, nI_clamp (by omega)⟩
theorem s_iaload {a n : Nat} {f : Nat → Int32} {x : Int32} (j : Nat) (pc2 : Nat) (hi : P.2.2.2.2 pc = some (.iaload, 1)) (hp : pc + 1 = pc2) (hM : M.2 a = some (.inl (0, n, .inl f))) (hx : x = nI j) (hj : j < n) (hn : n < 2147483648) (kk : ax_G g P h mc ms pc2 lv (.int (f j) :: st) M Q) : ax_G g P h mc ms pc lv (.int x :: .ref a :: st) M Q := by
  subst hp
  intro p e R s m args below meth c H locs cells slots ls QQ C hh hr hL hR hS hK
  obtain ⟨v1, v2⟩ := ax_in_nI hx hj hn
  refine va_iald C.1 C.2.1 C.2.2.2.2.2.2.2.2.2.1.1 hR.2.2 a 0 (f := f) (n := n) (hR.at hM) rfl v1 (C.2.2.2.2.2.2.2.2.1 _ _ _ hi) ?_
  rw [v2]
  exact kk p e R s m args below meth c H locs cells slots ls QQ C hh hr hL hR hS hK
theorem s_baload {a n : Nat} {f : Nat → Int32} {x : Int32} (j : Nat) (pc2 : Nat) (hi : P.2.2.2.2 pc = some (.baload, 1)) (hp : pc + 1 = pc2) (hM : M.2 a = some (.inl (1, n, .inl f))) (hx : x = nI j) (hj : j < n) (hn : n < 2147483648) (kk : ax_G g P h mc ms pc2 lv (.int (f j) :: st) M Q) : ax_G g P h mc ms pc lv (.int x :: .ref a :: st) M Q := by
  subst hp
  intro p e R s m args below meth c H locs cells slots ls QQ C hh hr hL hR hS hK
  obtain ⟨v1, v2⟩ := ax_in_nI hx hj hn
  refine va_bald C.1 C.2.1 C.2.2.2.2.2.2.2.2.2.1.1 hR.2.2 a 1 (f := f) (n := n) (hR.at hM) rfl v1 (C.2.2.2.2.2.2.2.2.1 _ _ _ hi) ?_
  rw [v2]
  exact kk p e R s m args below meth c H locs cells slots ls QQ C hh hr hL hR hS hK
theorem s_zaload {a n : Nat} {f : Nat → Int32} {x : Int32} (j : Nat) (pc2 : Nat) (hi : P.2.2.2.2 pc = some (.baload, 1)) (hp : pc + 1 = pc2) (hM : M.2 a = some (.inl (2, n, .inl f))) (hx : x = nI j) (hj : j < n) (hn : n < 2147483648) (kk : ax_G g P h mc ms pc2 lv (.int (f j) :: st) M Q) : ax_G g P h mc ms pc lv (.int x :: .ref a :: st) M Q := by
  subst hp
  intro p e R s m args below meth c H locs cells slots ls QQ C hh hr hL hR hS hK
  obtain ⟨v1, v2⟩ := ax_in_nI hx hj hn
  refine va_zald C.1 C.2.1 C.2.2.2.2.2.2.2.2.2.1.1 hR.2.2 a 2 (f := f) (n := n) (hR.at hM) rfl v1 (C.2.2.2.2.2.2.2.2.1 _ _ _ hi) ?_
  rw [v2]
  exact kk p e R s m args below meth c H locs cells slots ls QQ C hh hr hL hR hS hK
theorem s_laload {a n : Nat} {f : Nat → Int64} {x : Int32} (j : Nat) (pc2 : Nat) (hi : P.2.2.2.2 pc = some (.laload, 1)) (hp : pc + 1 = pc2) (hM : M.2 a = some (.inl (3, n, .inr (.inl f)))) (hx : x = nI j) (hj : j < n) (hn : n < 2147483648) (kk : ax_G g P h mc ms pc2 lv (.long (f j) :: st) M Q) : ax_G g P h mc ms pc lv (.int x :: .ref a :: st) M Q := by
  subst hp
  intro p e R s m args below meth c H locs cells slots ls QQ C hh hr hL hR hS hK
  obtain ⟨v1, v2⟩ := ax_in_nI hx hj hn
  refine va_lald C.1 C.2.1 C.2.2.2.2.2.2.2.2.2.1.1 hR.2.2 a 3 (f := f) (n := n) (hR.at hM) rfl v1 (C.2.2.2.2.2.2.2.2.1 _ _ _ hi) ?_
  rw [v2]
  exact kk p e R s m args below meth c H locs cells slots ls QQ C hh hr hL hR hS hK
/-- a reference out of an array: t is the array's tag (4, 5), cn the class of what it holds -/
theorem s_aaload {a n y : Nat} {f : Nat → Option Nat} {x : Int32} (t : Nat) (cn : String) (j : Nat) (pc2 : Nat) (hi : P.2.2.2.2 pc = some (.aaload, 1)) (hp : pc + 1 = pc2) (ht : (ax_tys g)[t]? = some (g.2.2.2.1 t, .object cn)) (hM : M.2 a = some (.inl (t, n, .inr (.inr (.inr (.inr f)))))) (hx : x = nI j) (hj : j < n) (hn : n < 2147483648) (hy : f j = some y) (kk : ax_G g P h mc ms pc2 lv (.ref y :: st) M Q) : ax_G g P h mc ms pc lv (.int x :: .ref a :: st) M Q := by
  subst hp
  intro p e R s m args below meth c H locs cells slots ls QQ C hh hr hL hR hS hK
  obtain ⟨v1, v2⟩ := ax_in_nI hx hj hn
  refine va_aldq C.1 C.2.1 C.2.2.2.2.2.2.2.2.2.1.1 hR.2.2 a t (C := cn) (f := fun i => ax_q g (f i)) (n := n) (hR.at hM) ht v1 (C.2.2.2.2.2.2.2.2.1 _ _ _ hi) ?_
  rw [v2, hy]
  exact kk p e R s m args below meth c H locs cells slots ls QQ C hh hr hL hR hS hK
theorem s_alen {a n t : Nat} {z : (Nat → Int32) ⊕ (Nat → Int64) ⊕ (Nat → UInt32) ⊕ (Nat → UInt64) ⊕ (Nat → Option Nat)} (ty : FieldType) (pc2 : Nat) (hi : P.2.2.2.2 pc = some (.arraylength, 1)) (hp : pc + 1 = pc2) (hM : M.2 a = some (.inl (t, n, z))) (ht : (ax_tys g)[t]? = some (g.2.2.2.1 t, ty)) (kk : ax_G g P h mc ms pc2 lv (.int (nI n) :: st) M Q) : ax_G g P h mc ms pc lv (.ref a :: st) M Q := by
  subst hp
  intro p e R s m args below meth c H locs cells slots ls QQ C hh hr hL hR hS hK
  exact va_alen C.1 C.2.1 C.2.2.2.2.2.2.2.2.2.1.1 hR.2.2 a t (hR.at hM) ht (v := nI n) rfl (C.2.2.2.2.2.2.2.2.1 _ _ _ hi) (kk p e R s m args below meth c H locs cells slots ls QQ C hh hr hL hR hS hK)
/-- the script -/
theorem s_xlen (pc2 : Nat) (hi : P.2.2.2.2 pc = some (.arraylength, 1)) (hp : pc + 1 = pc2) (kk : ax_G g P h mc ms pc2 lv (.int (nI g.2.2.2.2.2.2.1) :: st) M Q) : ax_G g P h mc ms pc lv (.retAddr 10 :: st) M Q := by
  subst hp
  intro p e R s m args below meth c H locs cells slots ls QQ C hh hr hL hR hS hK
  obtain ⟨-, -, -, -, -, -, -, -, hd, -, hX, hb⟩ := id C
  exact va_slen (A := ax_A g) C.1 C.2.1 hX.2.2.1 (Nat.lt_of_lt_of_le hX.2.2.2 hb) (Nat.not_le.mpr hX.2.2.2) hS (hd _ _ _ hi) (kk p e R s m args below meth c H locs cells slots ls QQ C hh hr hL hR hS hK)
theorem s_xaload {x : Int32} (j : Nat) (pc2 : Nat) (hi : P.2.2.2.2 pc = some (.iaload, 1)) (hp : pc + 1 = pc2) (hx : x = nI j) (hj : j < g.2.2.2.2.2.2.1) (hn : g.2.2.2.2.2.2.1 < 2147483648) (kk : ax_G g P h mc ms pc2 lv (.int (g.2.2.2.2.2.2.2 j) :: st) M Q) : ax_G g P h mc ms pc lv (.int x :: .retAddr 10 :: st) M Q := by
  subst hp
  intro p e R s m args below meth c H locs cells slots ls QQ C hh hr hL hR hS hK
  obtain ⟨-, -, -, -, -, -, -, -, hd, -, hX, hb⟩ := id C
  obtain ⟨v1, v2⟩ := ax_in_nI hx hj hn
  refine va_sld (A := ax_A g) C.1 C.2.1 hX.2.2.1 (Nat.lt_of_lt_of_le hX.2.2.2 hb) (Nat.not_le.mpr hX.2.2.2) hS v1 (hd _ _ _ hi) ?_
  rw [v2]
  exact kk p e R s m args below meth c H locs cells slots ls QQ C hh hr hL hR hS hK
end AXH
end
section
/-! Rows of the heap: array stores, makings. -/
section AXI
variable {g : ax_Y} {P : ax_P} {h mc ms pc : Nat} {lv st : List Value} {M : ax_M} {Q : Option Value → ax_M → Prop}
theorem s_iastore {a n : Nat} {f : Nat → Int32} {x i : Int32} (j : Nat) (pc2 : Nat) (hi : P.2.2.2.2 pc = some (.iastore, 1)) (hp : pc + 1 = pc2) (hM : M.2 a = some (.inl (0, n, .inl f))) (hx : i = nI j) (hj : j < n) (hn : n < 2147483648) (kk : ax_G g P h mc ms pc2 lv st (ax_put M a (.inl (0, n, .inl (upd f j x)))) Q) : ax_G g P h mc ms pc lv (.int x :: .int i :: .ref a :: st) M Q := by
  subst hp
  intro p e R s m args below meth c H locs cells slots ls QQ C hh hr hL hR hS hK
  obtain ⟨v1, v2⟩ := ax_in_nI hx hj hn
  have hP0 := hR.2.2 a _ (hR.at hM)
  have hK0 := C.2.2.2.2.2.2.2.2.2.1.1
  refine W.iast C.1 C.2.1 hP0 ((hK0.2 0 _ rfl).1 n (fun j => .int (f j))) (fun q => by cases q) (by show ¬ (i < 0 ∨ (arrV _ _ _).slots.size ≤ _); rw [arrV_size]; exact v1) rfl rfl (C.2.2.2.2.2.2.2.2.1 _ _ _ hi) fun H1 e1 z oq => ?_
  refine kk p e R s m args below meth c H1 _ cells slots ls QQ C hh hr hL (hR.put hM ?_ z oq) (ax_S.put hS z oq) hK
  show H1[g.2.1 + a]? = some (vp_cell _ _)
  rw [e1]
  show some ((vp_cell (g.2.2.2.1 0) (n, .inl f)).setSlot _ _) = some (vp_cell (g.2.2.2.1 0) (n, .inl (upd f j x)))
  rw [vp_cell_i, vp_cell_i, arrV_store, v2]
  congr 2
  funext q
  by_cases hq : q = j
  · subst hq; simp [updV, upd]
  · simp [updV, upd, hq]
theorem s_bastore {a n : Nat} {f : Nat → Int32} {x i : Int32} (j : Nat) (pc2 : Nat) (hi : P.2.2.2.2 pc = some (.bastore, 1)) (hp : pc + 1 = pc2) (hM : M.2 a = some (.inl (1, n, .inl f))) (hx : i = nI j) (hj : j < n) (hn : n < 2147483648) (kk : ax_G g P h mc ms pc2 lv st (ax_put M a (.inl (1, n, .inl (upd f j x.toInt8.toInt32)))) Q) : ax_G g P h mc ms pc lv (.int x :: .int i :: .ref a :: st) M Q := by
  subst hp
  intro p e R s m args below meth c H locs cells slots ls QQ C hh hr hL hR hS hK
  obtain ⟨v1, v2⟩ := ax_in_nI hx hj hn
  have hP0 := hR.2.2 a _ (hR.at hM)
  have hK0 := C.2.2.2.2.2.2.2.2.2.1.1
  refine W.bast C.1 C.2.1 hP0 ((hK0.2 1 _ rfl).1 n (fun j => .int (f j))) (fun q => by cases q) (by show ¬ (i < 0 ∨ (arrV _ _ _).slots.size ≤ _); rw [arrV_size]; exact v1) rfl rfl (C.2.2.2.2.2.2.2.2.1 _ _ _ hi) fun H1 e1 z oq => ?_
  refine kk p e R s m args below meth c H1 _ cells slots ls QQ C hh hr hL (hR.put hM ?_ z oq) (ax_S.put hS z oq) hK
  show H1[g.2.1 + a]? = some (vp_cell _ _)
  rw [e1]
  show some ((vp_cell (g.2.2.2.1 1) (n, .inl f)).setSlot _ _) = some (vp_cell (g.2.2.2.1 1) (n, .inl (upd f j x.toInt8.toInt32)))
  rw [vp_cell_i, vp_cell_i, arrV_store, v2]
  congr 2
  funext q
  by_cases hq : q = j
  · subst hq
    simp [updV, upd]
    try rfl
  · simp [updV, upd, hq]
theorem s_zastore {a n : Nat} {f : Nat → Int32} {x i : Int32} (j : Nat) (pc2 : Nat) (hi : P.2.2.2.2 pc = some (.bastore, 1)) (hp : pc + 1 = pc2) (hM : M.2 a = some (.inl (2, n, .inl f))) (hx : i = nI j) (hj : j < n) (hn : n < 2147483648) (kk : ax_G g P h mc ms pc2 lv st (ax_put M a (.inl (2, n, .inl (upd f j (x &&& 1))))) Q) : ax_G g P h mc ms pc lv (.int x :: .int i :: .ref a :: st) M Q := by
  subst hp
  intro p e R s m args below meth c H locs cells slots ls QQ C hh hr hL hR hS hK
  obtain ⟨v1, v2⟩ := ax_in_nI hx hj hn
  have hP0 := hR.2.2 a _ (hR.at hM)
  have hK0 := C.2.2.2.2.2.2.2.2.2.1.1
  refine W.zast C.1 C.2.1 hP0 ((hK0.2 2 _ rfl).1 n (fun j => .int (f j))) (fun q => by cases q) (by show ¬ (i < 0 ∨ (arrV _ _ _).slots.size ≤ _); rw [arrV_size]; exact v1) rfl rfl (C.2.2.2.2.2.2.2.2.1 _ _ _ hi) fun H1 e1 z oq => ?_
  refine kk p e R s m args below meth c H1 _ cells slots ls QQ C hh hr hL (hR.put hM ?_ z oq) (ax_S.put hS z oq) hK
  show H1[g.2.1 + a]? = some (vp_cell _ _)
  rw [e1]
  show some ((vp_cell (g.2.2.2.1 2) (n, .inl f)).setSlot _ _) = some (vp_cell (g.2.2.2.1 2) (n, .inl (upd f j (x &&& 1))))
  rw [vp_cell_i, vp_cell_i, arrV_store, v2]
  congr 2
  funext q
  by_cases hq : q = j
  · subst hq
    simp [updV, upd]
    try rfl
  · simp [updV, upd, hq]
theorem s_lastore {a n : Nat} {f : Nat → Int64} {x : Int64} {i : Int32} (j : Nat) (pc2 : Nat) (hi : P.2.2.2.2 pc = some (.lastore, 1)) (hp : pc + 1 = pc2) (hM : M.2 a = some (.inl (3, n, .inr (.inl f)))) (hx : i = nI j) (hj : j < n) (hn : n < 2147483648) (kk : ax_G g P h mc ms pc2 lv st (ax_put M a (.inl (3, n, .inr (.inl (vp_updL f j x))))) Q) : ax_G g P h mc ms pc lv (.long x :: .int i :: .ref a :: st) M Q := by
  subst hp
  intro p e R s m args below meth c H locs cells slots ls QQ C hh hr hL hR hS hK
  obtain ⟨v1, v2⟩ := ax_in_nI hx hj hn
  have hP0 := hR.2.2 a _ (hR.at hM)
  have hK0 := C.2.2.2.2.2.2.2.2.2.1.1
  refine W.last C.1 C.2.1 hP0 ((hK0.2 3 _ rfl).1 n (fun j => .long (f j))) (fun q => by cases q) (by show ¬ (i < 0 ∨ (arrV _ _ _).slots.size ≤ _); rw [arrV_size]; exact v1) rfl rfl (C.2.2.2.2.2.2.2.2.1 _ _ _ hi) fun H1 e1 z oq => ?_
  refine kk p e R s m args below meth c H1 _ cells slots ls QQ C hh hr hL (hR.put hM ?_ z oq) (ax_S.put hS z oq) hK
  show H1[g.2.1 + a]? = some (vp_cell _ _)
  rw [e1]
  show some ((vp_cell (g.2.2.2.1 3) (n, .inr (.inl f))).setSlot _ _) = some (vp_cell (g.2.2.2.1 3) (n, .inr (.inl (vp_updL f j x))))
  rw [vp_cell_l, vp_cell_l, arrV_store, v2]
  congr 2
  funext q
  by_cases hq : q = j
  · subst hq; simp [updV, vp_updL]
  · simp [updV, vp_updL, hq]
theorem s_aastore {a n y : Nat} {f : Nat → Option Nat} {i : Int32} (t ci : Nat) (j : Nat) {q0 : vw_C} {fs : List Value} (pc2 : Nat) (hi : P.2.2.2.2 pc = some (.aastore, 1)) (hp : pc + 1 = pc2) (hc : ax_cl[ci]? = some q0) (ht : (ax_tys g)[t]? = some (g.2.2.2.1 t, .object q0.1)) (hM : M.2 a = some (.inl (t, n, .inr (.inr (.inr (.inr f)))))) (hY : M.2 y = some (.inr (ci, fs))) (hx : i = nI j) (hj : j < n) (hn : n < 2147483648) (kk : ax_G g P h mc ms pc2 lv st (ax_put M a (.inl (t, n, .inr (.inr (.inr (.inr (va_up f j (some y)))))))) Q) : ax_G g P h mc ms pc lv (.ref y :: .int i :: .ref a :: st) M Q := by
  subst hp
  intro p e R s m args below meth c H locs cells slots ls QQ C hh hr hL hR hS hK
  obtain ⟨v1, v2⟩ := ax_in_nI hx hj hn
  have hP0 := hR.2.2 a _ (hR.at hM)
  have hK0 := C.2.2.2.2.2.2.2.2.2.1.1
  have hlt : i.toNatClampNeg < n := by rw [v2]; exact hj
  have h0 : ¬ i < 0 := fun q => v1 (Or.inl q)
  obtain ⟨r', hr', cellV, g1, g2, g3, -⟩ := hR.2.2 y _ (hR.at hY)
  have hcls := (hK0.1 ci q0 hc).2
  obtain ⟨kA, comp, k1, k2, k3, -⟩ := (hK0.2 t _ ht).2
  have hcomp : comp = g.2.2.1.1 ci := Option.some.inj (k3.symm.trans hcls.1)
  subst hcomp
  obtain ⟨kC, hkC, -⟩ := id hcls.2
  refine W.aast C.1 C.2.1 hP0 (fun q h => by cases h) (fun h => by cases h) k1 k2 rfl hkC ⟨h0, by show _ < (arrV _ _ _).slots.size; rw [arrV_size]; exact hlt⟩ g1 (fun q h => by rw [g3] at h; cases h) (by rw [g2]; exact hkC) (by rw [g2]; exact va_assign hcls) rfl rfl (C.2.2.2.2.2.2.2.2.1 _ _ _ hi) fun H1 e1 z oq => ?_
  refine kk p e R s m args below meth c H1 _ cells slots ls QQ C hh hr hL (hR.put hM ?_ z oq) (ax_S.put hS z oq) hK
  show H1[g.2.1 + a]? = some (vp_cell _ _)
  rw [e1]
  show some ((vp_cell (g.2.2.2.1 t) (n, .inr (.inr (.inr (.inr (fun i => ax_q g (f i))))))).setSlot _ _) = some (vp_cell (g.2.2.2.1 t) (n, .inr (.inr (.inr (.inr (fun i => ax_q g (va_up f j (some y) i)))))))
  rw [vp_cell_q, vp_cell_q, arrV_store, v2]
  congr 2
  funext q
  by_cases hq : q = j
  · subst hq; simp [updV, va_up, va_rf, ax_q]
  · simp [updV, va_up, hq]
theorem ax_S.push {H0 H H1 : Heap} {locs : List Loc} (h : va_S (ax_A g) H0 H locs) (z : H1.size = H.size + 1) (oq : ∀ q : Nat, q < H.size → H1[q]? = H[q]?) : va_S (ax_A g) H0 H1 locs := ⟨Nat.le_trans h.1 (by omega), fun x h1 h2 => (oq x (Nat.lt_of_lt_of_le h1 h.1)).trans (h.2.1 x h1 h2), h.2.2⟩
theorem s_new {idx : Nat} (ci : Nat) {q0 : vw_C} {fs : List Value} (ty : Nat → FieldType) (pc2 : Nat) (hi : P.2.2.2.2 pc = some (.new idx, 3)) (hp : pc + 3 = pc2) (hc : ax_cl[ci]? = some q0) (hw1 : Cond.classLink P.1.cls idx q0.1 ∈ ax_tbl) (hw2 : Cond.instantiable q0.1 q0.2.2 ∈ ax_tbl) (hw3 : Cond.initialized q0.1 ∈ ax_tbl) (hty : ∀ k, k < q0.2.2 → parseFieldDescriptor (q0.2.1 k).2.2.1 = some (ty k)) (hfs : ∀ j, j < q0.2.2 → defaultValue (ty j) = vp_V fs j) (hfv : fs.map (ax_v g) = fs)
    (kk : ax_G g P h mc ms pc2 lv (.ref M.1 :: st) (ax_new M (.inr (ci, fs))) Q) : ax_G g P h (mc + 1) (ms + q0.2.2) pc lv st M Q := by
  subst hp
  intro p e R s m args below meth c H locs cells slots ls QQ C hh hr hL hR hS hK
  have hts := C.2.2.2.2.2.1
  have hK0 := C.2.2.2.2.2.2.2.2.2.1.1
  have hKn := hK0.1 ci _ hc
  refine W.newcK C.1 C.2.1 C.2.2.2.2.1 (hts _ hw1) (hts _ hw2) (hts _ hw3) rfl (C.2.2.2.2.2.2.2.2.1 _ _ _ hi) (by omega) (by omega) hKn.2.1 rfl fun H1 kC hkC e1 z1 o1 => ?_
  rw [show (.ref H.size : Value) = ax_v g (.ref M.1) by show Value.ref _ = Value.ref _; rw [hR.1]]
  refine kk p e R s m args below meth c H1 locs (cells + 1) (slots + q0.2.2) ls QQ C hh ⟨by omega, by omega⟩ hL (hR.push ?_ z1 o1) (ax_S.push hS z1 o1) (fun v M' H' locs' cells' slots' pc' ls' q1 q2 q3 q4 => hK v M' H' locs' cells' slots' pc' ls' q1 q2 q3 ⟨by omega, by omega⟩)
  refine ⟨_, hc, ?_⟩
  show t_OB (g.2.1 + M.1) _ _ _ H1 (vp_V (fs.map (ax_v g)))
  rw [hfv]
  rw [← hR.1]
  exact (u_born ty hts (ax_cks ci _ hc).1 hKn hkC e1 hty).to hfs
theorem s_newarray {atype : ArrayType} {n : Int32} (t N : Nat) {a0 : vp_A} (pc2 : Nat) (hi : P.2.2.2.2 pc = some (.newarray atype, 2)) (hp : pc + 2 = pc2) (ht : (ax_tys g)[t]? = some (g.2.2.2.1 t, newarray.typeOf atype)) (hw : Cond.arrayClass (newarray.typeOf atype) ∈ ax_tbl) (hpr : ∀ C, newarray.typeOf atype ≠ .object C) (ha : ∀ cA : ClassId, vp_cell cA (ax_a g a0) = arrV cA N (fun _ => defaultValue (newarray.typeOf atype))) (hn : n = nI N) (hN : N < 65536) (hby : N * componentBytes (newarray.typeOf atype) ≤ 536870912)
    (kk : ax_G g P h mc ms pc2 lv (.ref M.1 :: st) (ax_new M (.inl (t, a0))) Q) : ax_G g P h (mc + 1) (ms + N) pc lv (.int n :: st) M Q := by
  subst hp
  intro p e R s m args below meth c H locs cells slots ls QQ C hh hr hL hR hS hK
  have hts := C.2.2.2.2.2.1
  have hK0 := C.2.2.2.2.2.2.2.2.2.1.1
  refine va_newaK C.1 C.2.1 (hts _ hw) rfl (C.2.2.2.2.2.2.2.2.1 _ _ _ hi) rfl (by rw [hn]; exact nI_pos (by omega)) (N := N) (by rw [hn]; exact nI_clamp (by omega)) hby (by omega) (by omega) rfl fun H1 cA e1 z1 o1 hAr hNm => ?_
  have hcA : g.2.2.2.1 t = cA := by
    have h2 := (hK0.2 t _ ht).2
    generalize hz : newarray.typeOf atype = z at *
    cases z <;> first | exact absurd rfl (hpr _) | exact Option.some.inj (Eq.trans h2.symm hNm)
  rw [show (.ref H.size : Value) = ax_v g (.ref M.1) by show Value.ref _ = Value.ref _; rw [hR.1]]
  refine kk p e R s m args below meth c H1 locs (cells + 1) (slots + N) ls QQ C hh ⟨by omega, by omega⟩ hL (hR.push ?_ z1 o1) (ax_S.push hS z1 o1) (fun v M' H' locs' cells' slots' pc' ls' q1 q2 q3 q4 => hK v M' H' locs' cells' slots' pc' ls' q1 q2 q3 ⟨by omega, by omega⟩)
  show H1[g.2.1 + M.1]? = some (vp_cell _ (ax_a g a0))
  rw [← hR.1, e1, ha, hcA]
theorem s_anewarray {idx : Nat} {n : Int32} (t N : Nat) (cn : String) (pc2 : Nat) (hi : P.2.2.2.2 pc = some (.anewarray idx, 3)) (hp : pc + 3 = pc2) (ht : (ax_tys g)[t]? = some (g.2.2.2.1 t, .object cn)) (hw : Cond.classLink P.1.cls idx cn ∈ ax_tbl) (hov : Cond.arrayOver (.object cn) ∈ ax_tbl) (hn : n = nI N) (hN : N < 65536)
    (kk : ax_G g P h mc ms pc2 lv (.ref M.1 :: st) (ax_new M (.inl (t, N, .inr (.inr (.inr (.inr (fun _ => none))))))) Q) : ax_G g P h (mc + 1) (ms + N) pc lv (.int n :: st) M Q := by
  subst hp
  intro p e R s m args below meth c H locs cells slots ls QQ C hh hr hL hR hS hK
  have hts := C.2.2.2.2.2.1
  have hK0 := C.2.2.2.2.2.2.2.2.2.1.1
  have hcl : n.toNatClampNeg = N := by rw [hn]; exact nI_clamp (by omega)
  refine W.anew C.1 C.2.1 C.2.2.2.2.1 (hts _ hw) (hts _ hov) rfl (C.2.2.2.2.2.2.2.2.1 _ _ _ hi) rfl (by rw [hn]; exact nI_pos (by omega)) (by rw [hcl]; omega) (by omega) (by rw [hcl]; omega) fun cA kA comp f1 f2 f3 f4 => ?_
  rw [hcl]
  generalize hH1 : H.push ({ cls := cA, slots := Array.replicate N .null, vm := .none } : Cell) = H1
  have z1 : H1.size = H.size + 1 := by rw [← hH1, Array.size_push]
  have e1 : H1[H.size]? = some (arrV cA N (fun _ => .null)) := by rw [← hH1, Array.getElem?_push_size, ← arrV_new]
  have o1 : ∀ q : Nat, q < H.size → H1[q]? = H[q]? := fun q hq => by rw [← hH1, Array.getElem?_push, if_neg (Nat.ne_of_lt hq)]
  have hcA : g.2.2.2.1 t = cA := by
    obtain ⟨kA', comp', -, -, -, h2⟩ := (hK0.2 t _ ht).2
    exact Option.some.inj (Eq.trans h2.symm f1)
  rw [show (.ref H.size : Value) = ax_v g (.ref M.1) by show Value.ref _ = Value.ref _; rw [hR.1]]
  refine kk p e R s m args below meth c H1 locs (cells + 1) (slots + N) ls QQ C hh ⟨by omega, by omega⟩ hL (hR.push ?_ z1 o1) (ax_S.push hS z1 o1) (fun v M' H' locs' cells' slots' pc' ls' q1 q2 q3 q4 => hK v M' H' locs' cells' slots' pc' ls' q1 q2 q3 ⟨by omega, by omega⟩)
  show H1[g.2.1 + M.1]? = some (vp_cell (g.2.2.2.1 t) (N, .inr (.inr (.inr (.inr (fun _ => none))))))
  rw [← hR.1, e1, hcA, vp_cell_q]
  rfl
end AXI
end
section
/-! Calls. -/
theorem ax_goodw (P : ax_P) (ok : ax_ok P) : GoodIn ax_tbl (ax_w P) := by
  intro w hw
  have key : ∀ w, w ∈ ax_tbl → w ∈ ax_tbl ∧ ((w.onTables && w.keeps) = true ∨ ∃ ty, w = .arrayClass ty) := fun w hw => ⟨hw, good_of_word (List.mem_filter.mp hw).2⟩
  rcases List.mem_cons.mp hw with rfl | h
  · exact key _ ok.2.1
  · exact key _ h
theorem ax_blind (g : ax_Y) (vs : List Value) (M : ax_M) : FrameBlind (ax_Pc g vs M) := by
  intro a U f mk q
  obtain ⟨q1, q2, q3, q4⟩ := q
  exact ⟨q1, q2, ax_K.same (u := U) (U := U.calling f mk a) rfl q3, ax_X.moved (u := U) (U := U.calling f mk a) (Vm.Alike.refl U.vm) q4⟩
def ax_pn (P : ax_P) (n : Nat) : Prop := (parseMethodDescriptor P.1.desc).map (fun d => d.parameters.length) = some n
theorem ax_pn.use {P : ax_P} {n : Nat} (h : ax_pn P n) : ∀ sig, parseMethodDescriptor P.1.desc = some sig → n = sig.parameters.length := by
  intro sig hs
  unfold ax_pn at h
  rw [hs] at h
  exact (Option.some.inj h).symm
def ax_MV (own : String) (idx : Nat) (P : ax_P) (n : Nat) : Prop := ax_ok P ∧ ax_pn P n ∧ Cond.methodLink own idx P.1 ∈ ax_tbl ∧ Cond.instanceMethod P.1 ∈ ax_tbl ∧ Cond.selects P.1.cls P.1 P.1 ∈ ax_tbl
def ax_MS (own : String) (idx : Nat) (P : ax_P) (n : Nat) : Prop := ax_ok P ∧ ax_pn P n ∧ Cond.methodLink own idx P.1 ∈ ax_tbl ∧ Cond.static P.1 ∈ ax_tbl
def ax_MI (own : String) (idx : Nat) (P : ax_P) (n : Nat) : Prop := ax_ok P ∧ ax_pn P n ∧ Cond.methodLink own idx P.1 ∈ ax_tbl ∧ Cond.instanceMethod P.1 ∈ ax_tbl ∧ P.1.name = "<init>" ∧ P.2.2.2.1 = none
def ax_MSN (own : String) (idx : Nat) (P : ax_P) (n : Nat) : Prop := ax_ok P ∧ ax_pn P n ∧ Cond.methodLinkNest own idx P.1 "AlarmGroups" ∈ ax_nst ∧ Cond.static P.1 ∈ ax_tbl
def ax_MIN (own : String) (idx : Nat) (P : ax_P) (n : Nat) : Prop := ax_ok P ∧ ax_pn P n ∧ Cond.methodLinkNest own idx P.1 "AlarmGroups" ∈ ax_nst ∧ Cond.instanceMethod P.1 ∈ ax_tbl ∧ P.1.name = "<init>" ∧ P.2.2.2.1 = none
section AXC
variable {g : ax_Y} {P P2 : ax_P} {h h2 mc ms mc2 ms2 pc : Nat} {lv st : List Value} {M : ax_M} {Q : Option Value → ax_M → Prop}
theorem ax_room {m : MethodId} {ls : Array Slot} {rest st : List Value} (hw : (st.map fun v => v.category).sum ≤ 8) : 2 * (F0 m pc ls rest).monitorRoom + ((st.map (ax_v g)).map fun v => v.category).sum ≤ 8 := by
  refine lv_room ?_
  rw [List.map_map]
  rw [show ((fun v : Value => v.category) ∘ ax_v g) = (fun v : Value => v.category) from funext (fun v => ax_cat g v)]
  exact hw
/-- behind a call -/
theorem ax_run {p : Program} {e : Env} {R : Room} {s : State} {m : MethodId} {args : Array Value} {below : List Frame} {meth : Method} {c : Code} {H : Heap} {locs : List Loc} {cells slots : Nat} {ls : Array Slot} {QQ : State → Prop} {st0 : List Value} {a : Array Value} {Q2 : Option Value → ax_M → Prop}
    (hr : va_Run p g.1 e R s m args below meth c H locs cells slots mc2 ms2 (F0 m pc ls st0) (st.map (ax_v g)) (ax_Qc g Q2 a) (ax_A g)) (hS : va_S (ax_A g) s.heap H locs)
    (kk : ∀ (v : Option Value) (M' : ax_M) (H' : Heap) (locs' : List Loc), Q2 v M' → ax_R g M' H' → va_S (ax_A g) s.heap H' locs' → W p g.1 e R s m args below meth c H' locs' (cells + mc2) (slots + ms2) QQ (F0 m (pc + 3) ls ((ax_rs v st).map (ax_v g)))) : W p g.1 e R s m args below meth c H locs cells slots QQ (F0 m pc ls st0) := by
  intro T hT X
  obtain ⟨v, st₀, t, T', L, h0, X', hL', e1, e2, ⟨v2, M', hv, hq, hR', hz, hF⟩, hst⟩ := hr T hT X
  cases hv
  rw [h0] at hz hF
  have hS' : va_S (ax_A g) s.heap T'.heap (locs ++ L) := ⟨Nat.le_trans hS.1 (by rw [e1]; exact hz), fun q h1 h2 => by rw [e1, hF q (Nat.lt_of_lt_of_le h1 hS.1) h2]; exact hS.2.1 q h1 h2, fun q hq => by
      rcases List.mem_append.mp hq with h | h
      · exact hS.2.2 q h
      · exact hL' q h⟩
  obtain ⟨t2, a1, b1⟩ := kk v2 M' T'.heap (locs ++ L) hq (by rw [e1]; exact hR') hS' T' rfl X'
  refine ⟨t2, hst t2 ?_, b1⟩
  have he : (ax_rs v2 st).map (ax_v g) = (v2.map (ax_v g)).toList ++ st.map (ax_v g) := by cases v2 <;> rfl
  rw [he] at a1
  exact a1
theorem ax_post {p : Program} {e : Env} {R : Room} {s : State} {m : MethodId} {args : Array Value} {below : List Frame} {meth : Method} {c : Code} {cells slots : Nat} {ls : Array Slot} {QQ : State → Prop} {mc' ms' : Nat}
    (C : ax_C g P p s m args meth c) (hh : h ≤ R.frames ∧ 30 * h ≤ R.locals) (hr : cells + (mc + mc') ≤ R.cells ∧ slots + (ms + ms') ≤ R.slots) (hL : ax_L g lv ls ∧ lv.length = P.2.2.1)
    (hK : ∀ (v : Option Value) (M' : ax_M) (H' : Heap) (locs' : List Loc) (cells' slots' pc' : Nat) (ls' : Array Slot), Q v M' → ax_R g M' H' → va_S (ax_A g) s.heap H' locs' → cells' ≤ cells + (mc + mc') ∧ slots' ≤ slots + (ms + ms') → ax_rt P pc' v → W p g.1 e R s m args below meth c H' locs' cells' slots' QQ (F0 m pc' ls' ((ax_rs v []).map (ax_v g))))
    {v : Option Value} {M' : ax_M} {H' : Heap} {locs' : List Loc} {pc2 : Nat} (hq : ax_G g P h mc ms pc2 lv (ax_rs v st) M' Q) (hR : ax_R g M' H') (hS : va_S (ax_A g) s.heap H' locs') : W p g.1 e R s m args below meth c H' locs' (cells + mc') (slots + ms') QQ (F0 m pc2 ls ((ax_rs v st).map (ax_v g))) :=
  hq p e R s m args below meth c H' locs' (cells + mc') (slots + ms') ls QQ C hh ⟨by omega, by omega⟩ hL hR hS (fun v M' H' locs' cells' slots' pc' ls' q1 q2 q3 q4 => hK v M' H' locs' cells' slots' pc' ls' q1 q2 q3 ⟨by omega, by omega⟩)
theorem g_callV {idx a n ci : Nat} {fs stk : List Value} {q0 : vw_C} (vs : List Value) (pc2 : Nat) (hi : P.2.2.2.2 pc = some (.invokevirtual idx, 3)) (hp : pc + 3 = pc2) (hm : ax_MV P.1.cls idx P2 n) (hn : vs.length = n) (hs : stk = vs.reverse ++ .ref a :: st) (hh2 : h2 + 1 ≤ h) (hw : (st.map fun v => v.category).sum ≤ 8) (hen : (ax_ls (.ref a :: vs)).length ≤ P2.2.2.1)
    (hc : ax_cl[ci]? = some q0) (hq0 : q0.1 = P2.1.cls) (hM : M.2 a = some (.inr (ci, fs)))
    (k : ax_G g P2 h2 mc2 ms2 0 (ax_en P2.2.2.1 (.ref a :: vs)) [] M (fun v M' => ax_G g P h mc ms pc2 lv (ax_rs v st) M' Q)) : ax_G g P h (mc + mc2) (ms + ms2) pc lv stk M Q := by
  subst hp
  subst hs
  intro p e R s m args below meth c H locs cells slots ls QQ C hh hr hL hR hS hK
  obtain ⟨ok, pn, w1, w2, w3⟩ := hm
  have hts := C.2.2.2.2.2.1
  have hK0 := C.2.2.2.2.2.2.2.2.2.1
  have hX0 := (C.2.2.2.2.2.2.2.2.2.2.1).kept hS.2.1
  have hMet := ax_met ok hen k
  have hml : ls.size = P.2.2.1 := hL.1.1.trans hL.2
  have ok6 := ok.2.2.2.2.2
  refine ax_run (va_runV (As := vs.map (ax_v g)) (b := g.2.1 + a) (rest := st.map (ax_v g)) (C := P2.1.cls) (nL := P.2.2.1) (Ts := ax_tbl) (own := P.1.cls) (n := n) ⟨C.1, C.2.1, C.2.2.2.1, C.2.2.2.2.1, hts⟩ hMet
    ⟨⟨rfl, rfl, by show h2 + 1 ≤ _; omega, by show 8 + (P2.2.2.1 + 11) + 30 * h2 ≤ _; omega, pay_in hts (ax_goodw P2 ok), List.mem_cons_self, hts _ ok.2.1, hts _ ok.2.2.2.1, ok.2.2.2.2.1, pn.use, hts _ w1⟩, hts _ w2, hts _ w3⟩
    ⟨ax_blind g _ M, by rw [← hq0]; exact va_recv hK0.1 hR.2.2 hc (hR.at hM), fun U hU hW => ⟨rfl, by rw [hU]; exact hR, hK0.warm hW, by rw [hU]; exact hX0.moved hW.alike⟩⟩ rfl (by rw [List.length_map]; exact hn) hml (by simp [ax_v]) (ax_room hw) (C.2.2.2.2.2.2.2.2.1 _ _ _ hi) ⟨by omega, by omega⟩) hS ?_
  exact fun v M' H' locs' hq hR' hS' => ax_post C hh hr hL hK hq hR' hS'
theorem g_callS {idx n : Nat} {stk : List Value} (vs : List Value) (pc2 : Nat) (hi : P.2.2.2.2 pc = some (.invokestatic idx, 3)) (hp : pc + 3 = pc2) (hm : ax_MS P.1.cls idx P2 n) (hn : vs.length = n) (hs : stk = vs.reverse ++ st) (hh2 : h2 + 1 ≤ h) (hw : (st.map fun v => v.category).sum ≤ 8) (hen : (ax_ls vs).length ≤ P2.2.2.1)
    (k : ax_G g P2 h2 mc2 ms2 0 (ax_en P2.2.2.1 vs) [] M (fun v M' => ax_G g P h mc ms pc2 lv (ax_rs v st) M' Q)) : ax_G g P h (mc + mc2) (ms + ms2) pc lv stk M Q := by
  subst hp
  subst hs
  intro p e R s m args below meth c H locs cells slots ls QQ C hh hr hL hR hS hK
  obtain ⟨ok, pn, w1, w2⟩ := hm
  have hts := C.2.2.2.2.2.1
  have hK0 := C.2.2.2.2.2.2.2.2.2.1
  have hX0 := (C.2.2.2.2.2.2.2.2.2.2.1).kept hS.2.1
  have hMet := ax_met ok hen k
  have hml : ls.size = P.2.2.1 := hL.1.1.trans hL.2
  have ok6 := ok.2.2.2.2.2
  refine ax_run (va_runS (As := vs.map (ax_v g)) (rest := st.map (ax_v g)) (nL := P.2.2.1) (Ts := ax_tbl) (own := P.1.cls) (n := n) ⟨C.1, C.2.1, C.2.2.2.1, C.2.2.2.2.1, hts⟩ hMet
    ⟨⟨rfl, rfl, by show h2 + 1 ≤ _; omega, by show 8 + (P2.2.2.1 + 11) + 30 * h2 ≤ _; omega, pay_in hts (ax_goodw P2 ok), List.mem_cons_self, hts _ ok.2.1, hts _ ok.2.2.2.1, ok.2.2.2.2.1, pn.use, hts _ w1⟩, hts _ w2⟩
    ⟨ax_blind g _ M, fun U hU hW => ⟨rfl, by rw [hU]; exact hR, hK0.warm hW, by rw [hU]; exact hX0.moved hW.alike⟩⟩ rfl (by rw [List.length_map]; exact hn) hml (by simp) (ax_room hw) (C.2.2.2.2.2.2.2.2.1 _ _ _ hi) ⟨by omega, by omega⟩) hS ?_
  exact fun v M' H' locs' hq hR' hS' => ax_post C hh hr hL hK hq hR' hS'
theorem g_callSN {idx n : Nat} {stk : List Value} (vs : List Value) (pc2 : Nat) (hi : P.2.2.2.2 pc = some (.invokestatic idx, 3)) (hp : pc + 3 = pc2) (hm : ax_MSN P.1.cls idx P2 n) (hn : vs.length = n) (hs : stk = vs.reverse ++ st) (hh2 : h2 + 1 ≤ h) (hw : (st.map fun v => v.category).sum ≤ 8) (hen : (ax_ls vs).length ≤ P2.2.2.1)
    (k : ax_G g P2 h2 mc2 ms2 0 (ax_en P2.2.2.1 vs) [] M (fun v M' => ax_G g P h mc ms pc2 lv (ax_rs v st) M' Q)) : ax_G g P h (mc + mc2) (ms + ms2) pc lv stk M Q := by
  subst hp
  subst hs
  intro p e R s m args below meth c H locs cells slots ls QQ C hh hr hL hR hS hK
  obtain ⟨ok, pn, w1, w2⟩ := hm
  have hts := C.2.2.2.2.2.1
  have hK0 := C.2.2.2.2.2.2.2.2.2.1
  have hX0 := (C.2.2.2.2.2.2.2.2.2.2.1).kept hS.2.1
  have hMet := ax_met ok hen k
  have hml : ls.size = P.2.2.1 := hL.1.1.trans hL.2
  have ok6 := ok.2.2.2.2.2
  refine ax_run (va_runSN (As := vs.map (ax_v g)) (rest := st.map (ax_v g)) (nL := P.2.2.1) (Ts := ax_tbl) (own := P.1.cls) (host := "AlarmGroups") (n := n) ⟨C.1, C.2.1, C.2.2.2.1, C.2.2.2.2.1, hts⟩ hMet
    ⟨⟨⟨rfl, rfl, by show h2 + 1 ≤ _; omega, by show 8 + (P2.2.2.1 + 11) + 30 * h2 ≤ _; omega, pay_in hts (ax_goodw P2 ok), List.mem_cons_self⟩, hts _ ok.2.1, hts _ ok.2.2.2.1, ok.2.2.2.2.1, pn.use, va_Nw.use rfl (hK0.2.1 _ w1)⟩, hts _ w2, trivial⟩
    ⟨ax_blind g _ M, fun U hU hW => ⟨rfl, by rw [hU]; exact hR, hK0.warm hW, by rw [hU]; exact hX0.moved hW.alike⟩⟩ rfl (by rw [List.length_map]; exact hn) hml (by simp) (ax_room hw) (C.2.2.2.2.2.2.2.2.1 _ _ _ hi) ⟨by omega, by omega⟩) hS ?_
  exact fun v M' H' locs' hq hR' hS' => ax_post C hh hr hL hK hq hR' hS'
theorem g_callI {idx a n : Nat} {stk : List Value} (vs : List Value) (pc2 : Nat) (hi : P.2.2.2.2 pc = some (.invokespecial idx, 3)) (hp : pc + 3 = pc2) (hm : ax_MI P.1.cls idx P2 n) (hn : vs.length = n) (hs : stk = vs.reverse ++ .ref a :: st) (hh2 : h2 + 1 ≤ h) (hw : (st.map fun v => v.category).sum ≤ 8) (hen : (ax_ls (.ref a :: vs)).length ≤ P2.2.2.1)
    (k : ax_G g P2 h2 mc2 ms2 0 (ax_en P2.2.2.1 (.ref a :: vs)) [] M (fun v M' => ax_G g P h mc ms pc2 lv (ax_rs v st) M' Q)) : ax_G g P h (mc + mc2) (ms + ms2) pc lv stk M Q := by
  subst hp
  subst hs
  intro p e R s m args below meth c H locs cells slots ls QQ C hh hr hL hR hS hK
  obtain ⟨ok, pn, w1, w2, w3, w4⟩ := hm
  have hts := C.2.2.2.2.2.1
  have hK0 := C.2.2.2.2.2.2.2.2.2.1
  have hX0 := (C.2.2.2.2.2.2.2.2.2.2.1).kept hS.2.1
  have hMet := ax_met ok hen k
  have hml : ls.size = P.2.2.1 := hL.1.1.trans hL.2
  have ok6 := ok.2.2.2.2.2
  refine ax_run (va_runI (As := vs.map (ax_v g)) (b := g.2.1 + a) (rest := st.map (ax_v g)) (bytes := P2.2.1) (maxL := P2.2.2.1) (nL := P.2.2.1) (Ts := ax_tbl) (own := P.1.cls) (n := n) ⟨C.1, C.2.1, C.2.2.2.1, C.2.2.2.2.1, hts⟩ hMet
    ⟨⟨rfl, rfl, by show h2 + 1 ≤ _; omega, by show 8 + (P2.2.2.1 + 11) + 30 * h2 ≤ _; omega, pay_in hts (ax_goodw P2 ok), by rw [← w4]; exact List.mem_cons_self, by rw [← w4]; exact hts _ ok.2.1, hts _ ok.2.2.2.1, ok.2.2.2.2.1, pn.use, hts _ w1⟩, w3, hts _ w2⟩
    ⟨ax_blind g _ M, fun U hU hW => ⟨rfl, by rw [hU]; exact hR, hK0.warm hW, by rw [hU]; exact hX0.moved hW.alike⟩⟩ rfl (by rw [List.length_map]; exact hn) hml (by simp [ax_v]) (ax_room hw) (C.2.2.2.2.2.2.2.2.1 _ _ _ hi) ⟨by omega, by omega⟩) hS ?_
  exact fun v M' H' locs' hq hR' hS' => ax_post C hh hr hL hK hq hR' hS'
theorem g_callIN {idx a n : Nat} {stk : List Value} (vs : List Value) (pc2 : Nat) (hi : P.2.2.2.2 pc = some (.invokespecial idx, 3)) (hp : pc + 3 = pc2) (hm : ax_MIN P.1.cls idx P2 n) (hn : vs.length = n) (hs : stk = vs.reverse ++ .ref a :: st) (hh2 : h2 + 1 ≤ h) (hw : (st.map fun v => v.category).sum ≤ 8) (hen : (ax_ls (.ref a :: vs)).length ≤ P2.2.2.1)
    (k : ax_G g P2 h2 mc2 ms2 0 (ax_en P2.2.2.1 (.ref a :: vs)) [] M (fun v M' => ax_G g P h mc ms pc2 lv (ax_rs v st) M' Q)) : ax_G g P h (mc + mc2) (ms + ms2) pc lv stk M Q := by
  subst hp
  subst hs
  intro p e R s m args below meth c H locs cells slots ls QQ C hh hr hL hR hS hK
  obtain ⟨ok, pn, w1, w2, w3, w4⟩ := hm
  have hts := C.2.2.2.2.2.1
  have hK0 := C.2.2.2.2.2.2.2.2.2.1
  have hX0 := (C.2.2.2.2.2.2.2.2.2.2.1).kept hS.2.1
  have hMet := ax_met ok hen k
  have hml : ls.size = P.2.2.1 := hL.1.1.trans hL.2
  have ok6 := ok.2.2.2.2.2
  refine ax_run (va_runIN (As := vs.map (ax_v g)) (b := g.2.1 + a) (rest := st.map (ax_v g)) (bytes := P2.2.1) (maxL := P2.2.2.1) (nL := P.2.2.1) (Ts := ax_tbl) (own := P.1.cls) (host := "AlarmGroups") (n := n) ⟨C.1, C.2.1, C.2.2.2.1, C.2.2.2.2.1, hts⟩ hMet
    ⟨⟨⟨rfl, rfl, by show h2 + 1 ≤ _; omega, by show 8 + (P2.2.2.1 + 11) + 30 * h2 ≤ _; omega, pay_in hts (ax_goodw P2 ok), by rw [← w4]; exact List.mem_cons_self⟩, by rw [← w4]; exact hts _ ok.2.1, hts _ ok.2.2.2.1, ok.2.2.2.2.1, pn.use, va_Nw.use rfl (hK0.2.1 _ w1)⟩, w3, hts _ w2⟩
    ⟨ax_blind g _ M, fun U hU hW => ⟨rfl, by rw [hU]; exact hR, hK0.warm hW, by rw [hU]; exact hX0.moved hW.alike⟩⟩ rfl (by rw [List.length_map]; exact hn) hml (by simp [ax_v]) (ax_room hw) (C.2.2.2.2.2.2.2.2.1 _ _ _ hi) ⟨by omega, by omega⟩) hS ?_
  exact fun v M' H' locs' hq hR' hS' => ax_post C hh hr hL hK hq hR' hS'
theorem s_objInit {idx a : Nat} (pc2 : Nat) (hi : P.2.2.2.2 pc = some (.invokespecial idx, 3)) (hp : pc + 3 = pc2) (w1 : Cond.methodLink P.1.cls idx objectInit ∈ ax_tbl) (w2 : Cond.instanceMethod objectInit ∈ ax_tbl) (w3 : Cond.code objectInit ⟨#[0xb1]⟩ 1 none ∈ ax_tbl) (hh1 : 1 ≤ h) (hw : (st.map fun v => v.category).sum ≤ 8) (k : ax_G g P h mc ms pc2 lv st M Q) : ax_G g P h mc ms pc lv (.ref a :: st) M Q := by
  subst hp
  intro p e R s m args below meth c H locs cells slots ls QQ C hh hr hL hR hS hK
  have hts := C.2.2.2.2.2.1
  have hrm := ax_room (g := g) (pc := pc) (m := m) (ls := ls) (rest := []) hw
  exact W.objInit C.1 C.2.1 C.2.2.2.2.1 (hts _ w1) (hts _ w2) (hts _ w3) rfl (by rw [C.2.2.2.1]; exact hL.1.1.trans hL.2) rfl (C.2.2.2.2.2.2.2.2.1 _ _ _ hi) (by omega) (Nat.le_trans (Nat.add_le_add_right hrm 12) (by omega)) (k p e R s m args below meth c H locs cells slots ls QQ C hh hr hL hR hS hK)
end AXC
theorem zz_false : (1 : Nat) = 2 := rfl
end
