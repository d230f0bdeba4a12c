/-! WORDS OF THE TABLES, CLASSES, METHODS: by program (wip/whole/gen_tables.py) -/
theorem gin1 {i : Nat} {w : Cond} (h : tables_1_1[i]? = some w) (hg : goodWord w = true) : w ∈ gWs := List.mem_filter.mpr ⟨List.mem_append_right _ (List.mem_append_left _ (List.mem_of_getElem? h)), hg⟩
theorem gin2 {i : Nat} {w : Cond} (h : tables_1_2[i]? = some w) (hg : goodWord w = true) : w ∈ gWs := List.mem_filter.mpr ⟨List.mem_append_right _ (List.mem_append_right _ (List.mem_append_left _ (List.mem_of_getElem? h))), hg⟩
theorem gin3 {i : Nat} {w : Cond} (h : tables_1_3[i]? = some w) (hg : goodWord w = true) : w ∈ gWs := List.mem_filter.mpr ⟨List.mem_append_right _ (List.mem_append_right _ (List.mem_append_right _ (List.mem_append_left _ (List.mem_of_getElem? h)))), hg⟩
theorem gin4 {i : Nat} {w : Cond} (h : tables_1_4[i]? = some w) (hg : goodWord w = true) : w ∈ gWs := List.mem_filter.mpr ⟨List.mem_append_right _ (List.mem_append_right _ (List.mem_append_right _ (List.mem_append_right _ (List.mem_append_left _ (List.mem_of_getElem? h))))), hg⟩
theorem gin5 {i : Nat} {w : Cond} (h : tables_1_5[i]? = some w) (hg : goodWord w = true) : w ∈ gWs := List.mem_filter.mpr ⟨List.mem_append_right _ (List.mem_append_right _ (List.mem_append_right _ (List.mem_append_right _ (List.mem_append_right _ (List.mem_of_getElem? h))))), hg⟩
theorem tw_0 : Cond.selects "CoinTrack" ⟨"CoinTrack", "hasImage", "(I)Z"⟩ ⟨"CoinTrack", "hasImage", "(I)Z"⟩ ∈ gWs := gin (i := 0) rfl rfl
theorem tw_1 : Cond.selects "CoinTrackModel" ⟨"CoinTrackModel", "beginRead", "()V"⟩ ⟨"CoinTrackModel", "beginRead", "()V"⟩ ∈ gWs := gin (i := 1) rfl rfl
theorem tw_2 : Cond.selects "CoinTrackModel" ⟨"CoinTrackModel", "readText", "()I"⟩ ⟨"CoinTrackModel", "readText", "()I"⟩ ∈ gWs := gin (i := 2) rfl rfl
theorem tw_3 : Cond.selects "CoinTrackModel" ⟨"CoinTrackModel", "next", "()V"⟩ ⟨"CoinTrackModel", "next", "()V"⟩ ∈ gWs := gin (i := 3) rfl rfl
theorem tw_4 : Cond.selects "CoinTrackModel" ⟨"CoinTrackModel", "isLetter", "()Z"⟩ ⟨"CoinTrackModel", "isLetter", "()Z"⟩ ∈ gWs := gin (i := 4) rfl rfl
theorem tw_5 : Cond.selects "CoinTrackModel" ⟨"CoinTrackModel", "wordTo", "()I"⟩ ⟨"CoinTrackModel", "wordTo", "()I"⟩ ∈ gWs := gin (i := 5) rfl rfl
theorem tw_6 : Cond.selects "CoinTrackModel" ⟨"CoinTrackModel", "isFigure", "()Z"⟩ ⟨"CoinTrackModel", "isFigure", "()Z"⟩ ∈ gWs := gin (i := 6) rfl rfl
theorem tw_7 : Cond.selects "CoinTrackModel" ⟨"CoinTrackModel", "readItem", "()Z"⟩ ⟨"CoinTrackModel", "readItem", "()Z"⟩ ∈ gWs := gin (i := 7) rfl rfl
theorem tw_8 : Cond.selects "CoinTrackModel" ⟨"CoinTrackModel", "readCoin", "()Z"⟩ ⟨"CoinTrackModel", "readCoin", "()Z"⟩ ∈ gWs := gin (i := 8) rfl rfl
theorem tw_9 : Cond.selects "CoinTrackModel" ⟨"CoinTrackModel", "readNumber", "(III)Z"⟩ ⟨"CoinTrackModel", "readNumber", "(III)Z"⟩ ∈ gWs := gin (i := 9) rfl rfl
theorem tw_10 : Cond.selects "CoinTrackModel" ⟨"CoinTrackModel", "readTest", "(I)Z"⟩ ⟨"CoinTrackModel", "readTest", "(I)Z"⟩ ∈ gWs := gin (i := 10) rfl rfl
theorem tw_11 : Cond.selects "CoinTrackModel" ⟨"CoinTrackModel", "note", "()V"⟩ ⟨"CoinTrackModel", "note", "()V"⟩ ∈ gWs := gin (i := 11) rfl rfl
theorem tw_12 : Cond.selects "CoinTrackModel" ⟨"CoinTrackModel", "isKind", "(I)Z"⟩ ⟨"CoinTrackModel", "isKind", "(I)Z"⟩ ∈ gWs := gin (i := 12) rfl rfl
theorem tw_13 : Cond.selects "CoinTrackModel" ⟨"CoinTrackModel", "ofKind", "(II)I"⟩ ⟨"CoinTrackModel", "ofKind", "(II)I"⟩ ∈ gWs := gin (i := 13) rfl rfl
theorem tw_14 : Cond.selects "CoinTrackModel" ⟨"CoinTrackModel", "asTold", "()V"⟩ ⟨"CoinTrackModel", "asTold", "()V"⟩ ∈ gWs := gin (i := 14) rfl rfl
theorem tw_15 : Cond.selects "CoinTrackModel" ⟨"CoinTrackModel", "binBy", "(II)I"⟩ ⟨"CoinTrackModel", "binBy", "(II)I"⟩ ∈ gWs := gin (i := 15) rfl rfl
theorem tw_16 : Cond.selects "CoinTrackModel" ⟨"CoinTrackModel", "binOf", "(III)I"⟩ ⟨"CoinTrackModel", "binOf", "(III)I"⟩ ∈ gWs := gin (i := 16) rfl rfl
theorem tw_17 : Cond.selects "CoinTrackModel" ⟨"CoinTrackModel", "falls", "(IIII)Z"⟩ ⟨"CoinTrackModel", "falls", "(IIII)Z"⟩ ∈ gWs := gin (i := 17) rfl rfl
theorem tw_18 : Cond.selects "CoinTrackModel" ⟨"CoinTrackModel", "ofTest", "(II)I"⟩ ⟨"CoinTrackModel", "ofTest", "(II)I"⟩ ∈ gWs := gin (i := 18) rfl rfl
theorem tw_19 : Cond.selects "CoinTrackModel" ⟨"CoinTrackModel", "isBin", "(I)Z"⟩ ⟨"CoinTrackModel", "isBin", "(I)Z"⟩ ∈ gWs := gin (i := 19) rfl rfl
theorem tw_20 : Cond.selects "CoinTrackModel" ⟨"CoinTrackModel", "emptyAll", "()V"⟩ ⟨"CoinTrackModel", "emptyAll", "()V"⟩ ∈ gWs := gin (i := 20) rfl rfl
theorem tw_21 : Cond.selects "CoinTrackModel" ⟨"CoinTrackModel", "isTest", "(I)Z"⟩ ⟨"CoinTrackModel", "isTest", "(I)Z"⟩ ∈ gWs := gin (i := 21) rfl rfl
theorem tw_22 : Cond.selects "CoinTrackModel" ⟨"CoinTrackModel", "binsOf", "(II)I"⟩ ⟨"CoinTrackModel", "binsOf", "(II)I"⟩ ∈ gWs := gin (i := 22) rfl rfl
theorem tw_23 : Cond.selects "CoinTrackModel" ⟨"CoinTrackModel", "tollOf", "(I)I"⟩ ⟨"CoinTrackModel", "tollOf", "(I)I"⟩ ∈ gWs := gin (i := 23) rfl rfl
theorem tw_24 : Cond.selects "CoinTrackModel" ⟨"CoinTrackModel", "tollTo", "(I)I"⟩ ⟨"CoinTrackModel", "tollTo", "(I)I"⟩ ∈ gWs := gin (i := 24) rfl rfl
theorem tw_25 : Cond.selects "CoinTrackModel" ⟨"CoinTrackModel", "bearsOf", "(I)I"⟩ ⟨"CoinTrackModel", "bearsOf", "(I)I"⟩ ∈ gWs := gin (i := 25) rfl rfl
theorem tw_26 : Cond.selects "CoinTrackModel" ⟨"CoinTrackModel", "areApart", "(II)Z"⟩ ⟨"CoinTrackModel", "areApart", "(II)Z"⟩ ∈ gWs := gin (i := 26) rfl rfl
theorem tw_27 : Cond.selects "CoinTrackModel" ⟨"CoinTrackModel", "kindsOf", "(I)I"⟩ ⟨"CoinTrackModel", "kindsOf", "(I)I"⟩ ∈ gWs := gin (i := 27) rfl rfl
theorem tw_28 : Cond.selects "CoinTrackModel" ⟨"CoinTrackModel", "doubtful", "()I"⟩ ⟨"CoinTrackModel", "doubtful", "()I"⟩ ∈ gWs := gin (i := 28) rfl rfl
theorem tw_29 : Cond.selects "CoinTrackModel" ⟨"CoinTrackModel", "priceNow", "()I"⟩ ⟨"CoinTrackModel", "priceNow", "()I"⟩ ∈ gWs := gin (i := 29) rfl rfl
theorem tw_30 : Cond.selects "CoinTrackModel" ⟨"CoinTrackModel", "fewest", "()I"⟩ ⟨"CoinTrackModel", "fewest", "()I"⟩ ∈ gWs := gin (i := 30) rfl rfl
theorem tw_31 : Cond.selects "CoinTrackModel" ⟨"CoinTrackModel", "findOrder", "()I"⟩ ⟨"CoinTrackModel", "findOrder", "()I"⟩ ∈ gWs := gin (i := 31) rfl rfl
theorem tw_32 : Cond.selects "CoinTrackModel" ⟨"CoinTrackModel", "nextOrder", "()Z"⟩ ⟨"CoinTrackModel", "nextOrder", "()Z"⟩ ∈ gWs := gin (i := 32) rfl rfl
theorem tw_33 : Cond.selects "CoinTrackModel" ⟨"CoinTrackModel", "swap", "(II)V"⟩ ⟨"CoinTrackModel", "swap", "(II)V"⟩ ∈ gWs := gin (i := 33) rfl rfl
theorem tw_34 : Cond.selects "CoinTrackModel" ⟨"CoinTrackModel", "findSuspects", "()V"⟩ ⟨"CoinTrackModel", "findSuspects", "()V"⟩ ∈ gWs := gin (i := 34) rfl rfl
theorem tw_35 : Cond.selects "CoinTrackModel" ⟨"CoinTrackModel", "takeSuspect", "(I)Z"⟩ ⟨"CoinTrackModel", "takeSuspect", "(I)Z"⟩ ∈ gWs := gin (i := 35) rfl rfl
theorem tw_36 : Cond.selects "CoinTrackModel" ⟨"CoinTrackModel", "areSo", "()Z"⟩ ⟨"CoinTrackModel", "areSo", "()Z"⟩ ∈ gWs := gin (i := 36) rfl rfl
theorem tw_37 : Cond.selects "CoinTrackModel" ⟨"CoinTrackModel", "isSo", "(I)Z"⟩ ⟨"CoinTrackModel", "isSo", "(I)Z"⟩ ∈ gWs := gin (i := 37) rfl rfl
theorem tw_38 : Cond.selects "CoinTrackModel" ⟨"CoinTrackModel", "mostBy", "(II)I"⟩ ⟨"CoinTrackModel", "mostBy", "(II)I"⟩ ∈ gWs := gin (i := 38) rfl rfl
theorem tw_39 : Cond.selects "CoinTrackModel" ⟨"CoinTrackModel", "coins", "()I"⟩ ⟨"CoinTrackModel", "coins", "()I"⟩ ∈ gWs := gin (i := 39) rfl rfl
theorem tw_41 : Cond.initialized "CoinTrack" ∈ gWs := gin1 (i := 1) rfl rfl
theorem tw_42 : Cond.initialized "CoinTrack$Track" ∈ gWs := gin1 (i := 2) rfl rfl
theorem tw_43 : Cond.initialized "CoinTrack$History" ∈ gWs := gin1 (i := 3) rfl rfl
theorem tw_44 : Cond.initialized "CoinTrack$Teller" ∈ gWs := gin1 (i := 4) rfl rfl
theorem tw_45 : Cond.initialized "CoinTrack$Planner" ∈ gWs := gin1 (i := 5) rfl rfl
theorem tw_46 : Cond.initialized "CoinTrack$Witness" ∈ gWs := gin1 (i := 6) rfl rfl
theorem tw_47 : Cond.initialized "CoinTrackModel" ∈ gWs := gin1 (i := 7) rfl rfl
theorem tw_48 : Cond.initialized "java/lang/String" ∈ gWs := gin1 (i := 8) rfl rfl
theorem tw_49 : Cond.initialized "java/lang/StringLatin1" ∈ gWs := gin1 (i := 9) rfl rfl
theorem tw_50 : Cond.initialized "jdk/internal/util/Preconditions" ∈ gWs := gin1 (i := 10) rfl rfl
theorem tw_52 : Cond.initialized "java/lang/System" ∈ gWs := gin1 (i := 12) rfl rfl
theorem tw_53 : Cond.initialized "java/lang/Math" ∈ gWs := gin1 (i := 13) rfl rfl
theorem tw_54 : Cond.initialized "java/lang/Integer" ∈ gWs := gin1 (i := 14) rfl rfl
theorem tw_55 : Cond.classLink "CoinTrackLaw" (7 : Nat) "CoinTrack" ∈ gWs := gin1 (i := 15) rfl rfl
theorem tw_56 : Cond.instantiable "CoinTrack" (6 : Nat) ∈ gWs := gin1 (i := 16) rfl rfl
theorem tw_57 : Cond.methodLink "CoinTrackLaw" (9 : Nat) ⟨"CoinTrack", "<init>", "()V"⟩ ∈ gWs := gin1 (i := 17) rfl rfl
theorem tw_58 : Cond.instanceMethod ⟨"CoinTrack", "<init>", "()V"⟩ ∈ gWs := gin1 (i := 18) rfl rfl
theorem tw_59 : Cond.code ⟨"CoinTrack", "<init>", "()V"⟩ prog_1_method_1_code (1 : Nat) (Option.none : Option FieldType) ∈ gWs := gin1 (i := 19) rfl rfl
theorem tw_60 : Cond.methodLink "CoinTrack" (3 : Nat) ⟨"java/lang/Object", "<init>", "()V"⟩ ∈ gWs := gin1 (i := 20) rfl rfl
theorem tw_61 : Cond.instanceMethod ⟨"java/lang/Object", "<init>", "()V"⟩ ∈ gWs := gin1 (i := 21) rfl rfl
theorem tw_62 : Cond.code ⟨"java/lang/Object", "<init>", "()V"⟩ object_method_1_code (1 : Nat) (Option.none : Option FieldType) ∈ gWs := gin1 (i := 22) rfl rfl
theorem tw_63 : Cond.classLink "CoinTrack" (9 : Nat) "CoinTrack$Track" ∈ gWs := gin1 (i := 23) rfl rfl
theorem tw_64 : Cond.instantiable "CoinTrack$Track" (7 : Nat) ∈ gWs := gin1 (i := 24) rfl rfl
theorem tw_66 : Cond.instanceMethod ⟨"CoinTrack$Track", "<init>", "()V"⟩ ∈ gWs := gin1 (i := 26) rfl rfl
theorem tw_67 : Cond.code ⟨"CoinTrack$Track", "<init>", "()V"⟩ prog_5_method_1_code (1 : Nat) (Option.none : Option FieldType) ∈ gWs := gin1 (i := 27) rfl rfl
theorem tw_68 : Cond.methodLink "CoinTrack$Track" (3 : Nat) ⟨"java/lang/Object", "<init>", "()V"⟩ ∈ gWs := gin1 (i := 28) rfl rfl
theorem tw_69 : Cond.fieldLink "CoinTrack$Track" (9 : Nat) "CoinTrack$Track" "kindRows" "[I" ∈ gWs := gin1 (i := 29) rfl rfl
theorem tw_70 : Cond.fieldLink "CoinTrack$Track" (15 : Nat) "CoinTrack$Track" "testRows" "[I" ∈ gWs := gin1 (i := 30) rfl rfl
theorem tw_71 : Cond.fieldLink "CoinTrack$Track" (18 : Nat) "CoinTrack$Track" "coins" "[I" ∈ gWs := gin1 (i := 31) rfl rfl
theorem tw_72 : Cond.fieldLink "CoinTrack$Track" (21 : Nat) "CoinTrack$Track" "kindCount" "I" ∈ gWs := gin1 (i := 32) rfl rfl
theorem tw_73 : Cond.fieldLink "CoinTrack$Planner" (28 : Nat) "CoinTrack$Track" "kindCount" "I" ∈ gWs := gin1 (i := 33) rfl rfl
theorem tw_74 : Cond.fieldLink "CoinTrack$Witness" (53 : Nat) "CoinTrack$Track" "kindCount" "I" ∈ gWs := gin1 (i := 34) rfl rfl
theorem tw_75 : Cond.fieldLink "CoinTrack$Teller" (93 : Nat) "CoinTrack$Track" "kindCount" "I" ∈ gWs := gin1 (i := 35) rfl rfl
theorem tw_76 : Cond.fieldLink "CoinTrack" (132 : Nat) "CoinTrack$Track" "kindCount" "I" ∈ gWs := gin1 (i := 36) rfl rfl
theorem tw_77 : Cond.fieldLink "CoinTrack$Track" (25 : Nat) "CoinTrack$Track" "testCount" "I" ∈ gWs := gin1 (i := 37) rfl rfl
theorem tw_78 : Cond.fieldLink "CoinTrack$Witness" (32 : Nat) "CoinTrack$Track" "testCount" "I" ∈ gWs := gin1 (i := 38) rfl rfl
theorem tw_79 : Cond.fieldLink "CoinTrack$Planner" (48 : Nat) "CoinTrack$Track" "testCount" "I" ∈ gWs := gin1 (i := 39) rfl rfl
theorem tw_80 : Cond.fieldLink "CoinTrack" (99 : Nat) "CoinTrack$Track" "testCount" "I" ∈ gWs := gin1 (i := 40) rfl rfl
theorem tw_81 : Cond.fieldLink "CoinTrack$Teller" (96 : Nat) "CoinTrack$Track" "testCount" "I" ∈ gWs := gin1 (i := 41) rfl rfl
theorem tw_82 : Cond.fieldLink "CoinTrack$Track" (28 : Nat) "CoinTrack$Track" "room" "I" ∈ gWs := gin1 (i := 42) rfl rfl
theorem tw_83 : Cond.fieldLink "CoinTrack$Teller" (116 : Nat) "CoinTrack$Track" "room" "I" ∈ gWs := gin1 (i := 43) rfl rfl
theorem tw_84 : Cond.fieldLink "CoinTrack" (213 : Nat) "CoinTrack$Track" "room" "I" ∈ gWs := gin1 (i := 44) rfl rfl
theorem tw_85 : Cond.fieldLink "CoinTrack$Track" (31 : Nat) "CoinTrack$Track" "jam" "I" ∈ gWs := gin1 (i := 45) rfl rfl
theorem tw_86 : Cond.fieldLink "CoinTrack" (78 : Nat) "CoinTrack$Track" "jam" "I" ∈ gWs := gin1 (i := 46) rfl rfl
theorem tw_87 : Cond.laysFinal "CoinTrack$Track" "CoinTrack$Track" "kindRows" "[I" ∈ gWs := gin1 (i := 47) rfl rfl
theorem tw_89 : Cond.laysFinal "CoinTrack$Track" "CoinTrack$Track" "testRows" "[I" ∈ gWs := gin1 (i := 49) rfl rfl
theorem tw_91 : Cond.laysFinal "CoinTrack$Track" "CoinTrack$Track" "coins" "[I" ∈ gWs := gin1 (i := 51) rfl rfl
theorem tw_93 : Cond.lays "CoinTrack$Track" "CoinTrack$Track" "kindCount" "I" ∈ gWs := gin1 (i := 53) rfl rfl
theorem tw_95 : Cond.lays "CoinTrack$Track" "CoinTrack$Track" "testCount" "I" ∈ gWs := gin1 (i := 55) rfl rfl
theorem tw_97 : Cond.lays "CoinTrack$Track" "CoinTrack$Track" "room" "I" ∈ gWs := gin1 (i := 57) rfl rfl
theorem tw_99 : Cond.lays "CoinTrack$Track" "CoinTrack$Track" "jam" "I" ∈ gWs := gin1 (i := 59) rfl rfl
theorem tw_102 : Cond.arrayClass FieldType.int ∈ gWs := gin1 (i := 62) rfl rfl
theorem tw_103 : Cond.classLink "CoinTrack" (16 : Nat) "CoinTrack$History" ∈ gWs := gin1 (i := 63) rfl rfl
theorem tw_104 : Cond.instantiable "CoinTrack$History" (3 : Nat) ∈ gWs := gin1 (i := 64) rfl rfl
theorem tw_106 : Cond.instanceMethod ⟨"CoinTrack$History", "<init>", "()V"⟩ ∈ gWs := gin1 (i := 66) rfl rfl
theorem tw_107 : Cond.code ⟨"CoinTrack$History", "<init>", "()V"⟩ prog_2_method_1_code (1 : Nat) (Option.none : Option FieldType) ∈ gWs := gin1 (i := 67) rfl rfl
theorem tw_108 : Cond.methodLink "CoinTrack$History" (3 : Nat) ⟨"java/lang/Object", "<init>", "()V"⟩ ∈ gWs := gin1 (i := 68) rfl rfl
theorem tw_109 : Cond.classLink "CoinTrack$History" (9 : Nat) "CoinTrack$Track" ∈ gWs := gin1 (i := 69) rfl rfl
theorem tw_111 : Cond.fieldLink "CoinTrack$History" (11 : Nat) "CoinTrack$History" "ring" "[LCoinTrack$Track;" ∈ gWs := gin1 (i := 71) rfl rfl
theorem tw_112 : Cond.fieldLink "CoinTrack$History" (17 : Nat) "CoinTrack$History" "next" "I" ∈ gWs := gin1 (i := 72) rfl rfl
theorem tw_113 : Cond.fieldLink "CoinTrack$History" (21 : Nat) "CoinTrack$History" "known" "I" ∈ gWs := gin1 (i := 73) rfl rfl
theorem tw_114 : Cond.fieldLink "CoinTrack" (143 : Nat) "CoinTrack$History" "known" "I" ∈ gWs := gin1 (i := 74) rfl rfl
theorem tw_115 : Cond.laysFinal "CoinTrack$History" "CoinTrack$History" "ring" "[LCoinTrack$Track;" ∈ gWs := gin1 (i := 75) rfl rfl
theorem tw_117 : Cond.lays "CoinTrack$History" "CoinTrack$History" "next" "I" ∈ gWs := gin1 (i := 77) rfl rfl
theorem tw_119 : Cond.lays "CoinTrack$History" "CoinTrack$History" "known" "I" ∈ gWs := gin1 (i := 79) rfl rfl
theorem tw_122 : Cond.classLink "CoinTrack" (27 : Nat) "CoinTrack$Teller" ∈ gWs := gin1 (i := 82) rfl rfl
theorem tw_123 : Cond.instantiable "CoinTrack$Teller" (7 : Nat) ∈ gWs := gin1 (i := 83) rfl rfl
theorem tw_125 : Cond.instanceMethod ⟨"CoinTrack$Teller", "<init>", "()V"⟩ ∈ gWs := gin1 (i := 85) rfl rfl
theorem tw_126 : Cond.code ⟨"CoinTrack$Teller", "<init>", "()V"⟩ prog_4_method_1_code (1 : Nat) (Option.none : Option FieldType) ∈ gWs := gin1 (i := 86) rfl rfl
theorem tw_127 : Cond.methodLink "CoinTrack$Teller" (3 : Nat) ⟨"java/lang/Object", "<init>", "()V"⟩ ∈ gWs := gin1 (i := 87) rfl rfl
theorem tw_128 : Cond.classLink "CoinTrack$Teller" (18 : Nat) "CoinTrack$Track" ∈ gWs := gin1 (i := 88) rfl rfl
theorem tw_130 : Cond.fieldLink "CoinTrack$Teller" (9 : Nat) "CoinTrack$Teller" "letters" "[I" ∈ gWs := gin1 (i := 90) rfl rfl
theorem tw_131 : Cond.fieldLink "CoinTrack$Teller" (15 : Nat) "CoinTrack$Teller" "numbers" "[I" ∈ gWs := gin1 (i := 91) rfl rfl
theorem tw_132 : Cond.fieldLink "CoinTrack$Teller" (21 : Nat) "CoinTrack$Teller" "draft" "LCoinTrack$Track;" ∈ gWs := gin1 (i := 92) rfl rfl
theorem tw_133 : Cond.fieldLink "CoinTrack" (68 : Nat) "CoinTrack$Teller" "draft" "LCoinTrack$Track;" ∈ gWs := gin1 (i := 93) rfl rfl
theorem tw_134 : Cond.fieldLink "CoinTrack$Teller" (25 : Nat) "CoinTrack$Teller" "length" "I" ∈ gWs := gin1 (i := 94) rfl rfl
theorem tw_135 : Cond.fieldLink "CoinTrack" (56 : Nat) "CoinTrack$Teller" "length" "I" ∈ gWs := gin1 (i := 95) rfl rfl
theorem tw_136 : Cond.fieldLink "CoinTrack$Teller" (29 : Nat) "CoinTrack$Teller" "token" "I" ∈ gWs := gin1 (i := 96) rfl rfl
theorem tw_137 : Cond.fieldLink "CoinTrack$Teller" (32 : Nat) "CoinTrack$Teller" "start" "I" ∈ gWs := gin1 (i := 97) rfl rfl
theorem tw_138 : Cond.fieldLink "CoinTrack$Teller" (35 : Nat) "CoinTrack$Teller" "end" "I" ∈ gWs := gin1 (i := 98) rfl rfl
theorem tw_139 : Cond.laysFinal "CoinTrack$Teller" "CoinTrack$Teller" "letters" "[I" ∈ gWs := gin1 (i := 99) rfl rfl
theorem tw_141 : Cond.laysFinal "CoinTrack$Teller" "CoinTrack$Teller" "numbers" "[I" ∈ gWs := gin1 (i := 101) rfl rfl
theorem tw_143 : Cond.laysFinal "CoinTrack$Teller" "CoinTrack$Teller" "draft" "LCoinTrack$Track;" ∈ gWs := gin1 (i := 103) rfl rfl
theorem tw_145 : Cond.lays "CoinTrack$Teller" "CoinTrack$Teller" "length" "I" ∈ gWs := gin1 (i := 105) rfl rfl
theorem tw_147 : Cond.lays "CoinTrack$Teller" "CoinTrack$Teller" "token" "I" ∈ gWs := gin1 (i := 107) rfl rfl
theorem tw_149 : Cond.lays "CoinTrack$Teller" "CoinTrack$Teller" "start" "I" ∈ gWs := gin1 (i := 109) rfl rfl
theorem tw_151 : Cond.lays "CoinTrack$Teller" "CoinTrack$Teller" "end" "I" ∈ gWs := gin1 (i := 111) rfl rfl
theorem tw_154 : Cond.classLink "CoinTrack" (34 : Nat) "CoinTrack$Planner" ∈ gWs := gin1 (i := 114) rfl rfl
theorem tw_155 : Cond.instantiable "CoinTrack$Planner" (5 : Nat) ∈ gWs := gin1 (i := 115) rfl rfl
theorem tw_157 : Cond.instanceMethod ⟨"CoinTrack$Planner", "<init>", "()V"⟩ ∈ gWs := gin1 (i := 117) rfl rfl
theorem tw_158 : Cond.code ⟨"CoinTrack$Planner", "<init>", "()V"⟩ prog_3_method_1_code (1 : Nat) (Option.none : Option FieldType) ∈ gWs := gin1 (i := 118) rfl rfl
theorem tw_159 : Cond.methodLink "CoinTrack$Planner" (3 : Nat) ⟨"java/lang/Object", "<init>", "()V"⟩ ∈ gWs := gin1 (i := 119) rfl rfl
theorem tw_160 : Cond.fieldLink "CoinTrack$Planner" (9 : Nat) "CoinTrack$Planner" "varietyKinds" "[I" ∈ gWs := gin1 (i := 120) rfl rfl
theorem tw_161 : Cond.fieldLink "CoinTrack$Planner" (15 : Nat) "CoinTrack$Planner" "varietyStops" "[I" ∈ gWs := gin1 (i := 121) rfl rfl
theorem tw_162 : Cond.fieldLink "CoinTrack$Planner" (18 : Nat) "CoinTrack$Planner" "varieties" "I" ∈ gWs := gin1 (i := 122) rfl rfl
theorem tw_163 : Cond.fieldLink "CoinTrack$Planner" (22 : Nat) "CoinTrack$Planner" "restPrice" "[I" ∈ gWs := gin1 (i := 123) rfl rfl
theorem tw_164 : Cond.fieldLink "CoinTrack$Planner" (25 : Nat) "CoinTrack$Planner" "nextTest" "[I" ∈ gWs := gin1 (i := 124) rfl rfl
theorem tw_165 : Cond.laysFinal "CoinTrack$Planner" "CoinTrack$Planner" "varietyKinds" "[I" ∈ gWs := gin1 (i := 125) rfl rfl
theorem tw_167 : Cond.laysFinal "CoinTrack$Planner" "CoinTrack$Planner" "varietyStops" "[I" ∈ gWs := gin1 (i := 127) rfl rfl
theorem tw_169 : Cond.lays "CoinTrack$Planner" "CoinTrack$Planner" "varieties" "I" ∈ gWs := gin1 (i := 129) rfl rfl
theorem tw_171 : Cond.laysFinal "CoinTrack$Planner" "CoinTrack$Planner" "restPrice" "[I" ∈ gWs := gin1 (i := 131) rfl rfl
theorem tw_173 : Cond.laysFinal "CoinTrack$Planner" "CoinTrack$Planner" "nextTest" "[I" ∈ gWs := gin1 (i := 133) rfl rfl
theorem tw_176 : Cond.classLink "CoinTrack" (41 : Nat) "CoinTrack$Witness" ∈ gWs := gin1 (i := 136) rfl rfl
theorem tw_177 : Cond.instantiable "CoinTrack$Witness" (5 : Nat) ∈ gWs := gin1 (i := 137) rfl rfl
theorem tw_179 : Cond.instanceMethod ⟨"CoinTrack$Witness", "<init>", "()V"⟩ ∈ gWs := gin1 (i := 139) rfl rfl
theorem tw_180 : Cond.code ⟨"CoinTrack$Witness", "<init>", "()V"⟩ prog_6_method_1_code (1 : Nat) (Option.none : Option FieldType) ∈ gWs := gin1 (i := 140) rfl rfl
theorem tw_181 : Cond.methodLink "CoinTrack$Witness" (3 : Nat) ⟨"java/lang/Object", "<init>", "()V"⟩ ∈ gWs := gin1 (i := 141) rfl rfl
theorem tw_182 : Cond.fieldLink "CoinTrack$Witness" (11 : Nat) "CoinTrack$Witness" "seenRows" "[I" ∈ gWs := gin1 (i := 142) rfl rfl
theorem tw_183 : Cond.fieldLink "CoinTrack$Witness" (15 : Nat) "CoinTrack$Witness" "suspected" "[I" ∈ gWs := gin1 (i := 143) rfl rfl
theorem tw_184 : Cond.fieldLink "CoinTrack$Witness" (18 : Nat) "CoinTrack$Witness" "tally" "[I" ∈ gWs := gin1 (i := 144) rfl rfl
theorem tw_185 : Cond.fieldLink "CoinTrack$Witness" (21 : Nat) "CoinTrack$Witness" "seenCount" "I" ∈ gWs := gin1 (i := 145) rfl rfl
theorem tw_186 : Cond.fieldLink "CoinTrack" (194 : Nat) "CoinTrack$Witness" "seenCount" "I" ∈ gWs := gin1 (i := 146) rfl rfl
theorem tw_187 : Cond.fieldLink "CoinTrack$Witness" (25 : Nat) "CoinTrack$Witness" "suspectCount" "I" ∈ gWs := gin1 (i := 147) rfl rfl
theorem tw_188 : Cond.fieldLink "CoinTrack" (201 : Nat) "CoinTrack$Witness" "suspectCount" "I" ∈ gWs := gin1 (i := 148) rfl rfl
theorem tw_189 : Cond.laysFinal "CoinTrack$Witness" "CoinTrack$Witness" "seenRows" "[I" ∈ gWs := gin1 (i := 149) rfl rfl
theorem tw_191 : Cond.laysFinal "CoinTrack$Witness" "CoinTrack$Witness" "suspected" "[I" ∈ gWs := gin1 (i := 151) rfl rfl
theorem tw_193 : Cond.laysFinal "CoinTrack$Witness" "CoinTrack$Witness" "tally" "[I" ∈ gWs := gin1 (i := 153) rfl rfl
theorem tw_195 : Cond.lays "CoinTrack$Witness" "CoinTrack$Witness" "seenCount" "I" ∈ gWs := gin1 (i := 155) rfl rfl
theorem tw_197 : Cond.lays "CoinTrack$Witness" "CoinTrack$Witness" "suspectCount" "I" ∈ gWs := gin1 (i := 157) rfl rfl
theorem tw_200 : Cond.fieldLink "CoinTrack" (12 : Nat) "CoinTrack" "now" "LCoinTrack$Track;" ∈ gWs := gin1 (i := 160) rfl rfl
theorem tw_201 : Cond.fieldLink "CoinTrack" (19 : Nat) "CoinTrack" "history" "LCoinTrack$History;" ∈ gWs := gin1 (i := 161) rfl rfl
theorem tw_202 : Cond.fieldLink "CoinTrack" (23 : Nat) "CoinTrack" "images" "[LCoinTrack$Track;" ∈ gWs := gin1 (i := 162) rfl rfl
theorem tw_203 : Cond.fieldLink "CoinTrack" (30 : Nat) "CoinTrack" "teller" "LCoinTrack$Teller;" ∈ gWs := gin1 (i := 163) rfl rfl
theorem tw_204 : Cond.fieldLink "CoinTrack" (37 : Nat) "CoinTrack" "planner" "LCoinTrack$Planner;" ∈ gWs := gin1 (i := 164) rfl rfl
theorem tw_205 : Cond.fieldLink "CoinTrack" (44 : Nat) "CoinTrack" "witness" "LCoinTrack$Witness;" ∈ gWs := gin1 (i := 165) rfl rfl
theorem tw_206 : Cond.laysFinal "CoinTrack" "CoinTrack" "now" "LCoinTrack$Track;" ∈ gWs := gin1 (i := 166) rfl rfl
theorem tw_208 : Cond.laysFinal "CoinTrack" "CoinTrack" "history" "LCoinTrack$History;" ∈ gWs := gin1 (i := 168) rfl rfl
theorem tw_210 : Cond.laysFinal "CoinTrack" "CoinTrack" "images" "[LCoinTrack$Track;" ∈ gWs := gin1 (i := 170) rfl rfl
theorem tw_212 : Cond.laysFinal "CoinTrack" "CoinTrack" "teller" "LCoinTrack$Teller;" ∈ gWs := gin1 (i := 172) rfl rfl
theorem tw_214 : Cond.laysFinal "CoinTrack" "CoinTrack" "planner" "LCoinTrack$Planner;" ∈ gWs := gin1 (i := 174) rfl rfl
theorem tw_216 : Cond.laysFinal "CoinTrack" "CoinTrack" "witness" "LCoinTrack$Witness;" ∈ gWs := gin1 (i := 176) rfl rfl
theorem tw_219 : Cond.methodLink "CoinTrackLaw" (13 : Nat) ⟨"CoinTrack", "type", "(I)I"⟩ ∈ gWs := gin1 (i := 179) rfl rfl
theorem tw_220 : Cond.instanceMethod ⟨"CoinTrack", "type", "(I)I"⟩ ∈ gWs := gin1 (i := 180) rfl rfl
theorem tw_221 : Cond.selects "CoinTrack" ⟨"CoinTrack", "type", "(I)I"⟩ ⟨"CoinTrack", "type", "(I)I"⟩ ∈ gWs := gin1 (i := 181) rfl rfl
theorem tw_222 : Cond.code ⟨"CoinTrack", "type", "(I)I"⟩ prog_1_method_2_code (2 : Nat) (Option.some FieldType.int) ∈ gWs := gin1 (i := 182) rfl rfl
theorem tw_223 : Cond.methodLink "CoinTrack" (48 : Nat) ⟨"CoinTrack", "within", "(III)Z"⟩ ∈ gWs := gin1 (i := 183) rfl rfl
theorem tw_224 : Cond.static ⟨"CoinTrack", "within", "(III)Z"⟩ ∈ gWs := gin1 (i := 184) rfl rfl
theorem tw_225 : Cond.code ⟨"CoinTrack", "within", "(III)Z"⟩ prog_1_method_27_code (3 : Nat) (Option.some FieldType.boolean) ∈ gWs := gin1 (i := 185) rfl rfl
theorem tw_226 : Cond.methodLink "CoinTrack" (52 : Nat) ⟨"CoinTrack$Teller", "append", "(I)Z"⟩ ∈ gWs := gin1 (i := 186) rfl rfl
theorem tw_227 : Cond.instanceMethod ⟨"CoinTrack$Teller", "append", "(I)Z"⟩ ∈ gWs := gin1 (i := 187) rfl rfl
theorem tw_228 : Cond.selects "CoinTrack$Teller" ⟨"CoinTrack$Teller", "append", "(I)Z"⟩ ⟨"CoinTrack$Teller", "append", "(I)Z"⟩ ∈ gWs := gin1 (i := 188) rfl rfl
theorem tw_229 : Cond.code ⟨"CoinTrack$Teller", "append", "(I)Z"⟩ prog_4_method_2_code (2 : Nat) (Option.some FieldType.boolean) ∈ gWs := gin1 (i := 189) rfl rfl
theorem tw_230 : Cond.methodLink "CoinTrackLaw" (18 : Nat) ⟨"CoinTrack", "clear", "()I"⟩ ∈ gWs := gin1 (i := 190) rfl rfl
theorem tw_231 : Cond.instanceMethod ⟨"CoinTrack", "clear", "()I"⟩ ∈ gWs := gin1 (i := 191) rfl rfl
theorem tw_232 : Cond.selects "CoinTrack" ⟨"CoinTrack", "clear", "()I"⟩ ⟨"CoinTrack", "clear", "()I"⟩ ∈ gWs := gin1 (i := 192) rfl rfl
theorem tw_233 : Cond.code ⟨"CoinTrack", "clear", "()I"⟩ prog_1_method_3_code (2 : Nat) (Option.some FieldType.int) ∈ gWs := gin1 (i := 193) rfl rfl
theorem tw_234 : Cond.methodLink "CoinTrackLaw" (23 : Nat) ⟨"CoinTrack", "tells", "()I"⟩ ∈ gWs := gin1 (i := 194) rfl rfl
theorem tw_235 : Cond.instanceMethod ⟨"CoinTrack", "tells", "()I"⟩ ∈ gWs := gin1 (i := 195) rfl rfl
theorem tw_236 : Cond.selects "CoinTrack" ⟨"CoinTrack", "tells", "()I"⟩ ⟨"CoinTrack", "tells", "()I"⟩ ∈ gWs := gin1 (i := 196) rfl rfl
theorem tw_237 : Cond.code ⟨"CoinTrack", "tells", "()I"⟩ prog_1_method_4_code (2 : Nat) (Option.some FieldType.int) ∈ gWs := gin1 (i := 197) rfl rfl
theorem tw_238 : Cond.methodLink "CoinTrack" (60 : Nat) ⟨"CoinTrack$Teller", "readAll", "()I"⟩ ∈ gWs := gin1 (i := 198) rfl rfl
theorem tw_239 : Cond.instanceMethod ⟨"CoinTrack$Teller", "readAll", "()I"⟩ ∈ gWs := gin1 (i := 199) rfl rfl
theorem tw_240 : Cond.selects "CoinTrack$Teller" ⟨"CoinTrack$Teller", "readAll", "()I"⟩ ⟨"CoinTrack$Teller", "readAll", "()I"⟩ ∈ gWs := gin1 (i := 200) rfl rfl
theorem tw_241 : Cond.code ⟨"CoinTrack$Teller", "readAll", "()I"⟩ prog_4_method_4_code (2 : Nat) (Option.some FieldType.int) ∈ gWs := gin1 (i := 201) rfl rfl
theorem tw_242 : Cond.methodLink "CoinTrack$Teller" (38 : Nat) ⟨"CoinTrack$Track", "reset", "()V"⟩ ∈ gWs := gin1 (i := 202) rfl rfl
theorem tw_243 : Cond.instanceMethod ⟨"CoinTrack$Track", "reset", "()V"⟩ ∈ gWs := gin1 (i := 203) rfl rfl
theorem tw_244 : Cond.selects "CoinTrack$Track" ⟨"CoinTrack$Track", "reset", "()V"⟩ ⟨"CoinTrack$Track", "reset", "()V"⟩ ∈ gWs := gin1 (i := 204) rfl rfl
theorem tw_245 : Cond.code ⟨"CoinTrack$Track", "reset", "()V"⟩ prog_5_method_2_code (1 : Nat) (Option.none : Option FieldType) ∈ gWs := gin1 (i := 205) rfl rfl
theorem tw_246 : Cond.methodLink "CoinTrack$Track" (34 : Nat) ⟨"CoinTrack$Track", "emptyAll", "()V"⟩ ∈ gWs := gin1 (i := 206) rfl rfl
theorem tw_247 : Cond.instanceMethod ⟨"CoinTrack$Track", "emptyAll", "()V"⟩ ∈ gWs := gin1 (i := 207) rfl rfl
theorem tw_248 : Cond.selects "CoinTrack$Track" ⟨"CoinTrack$Track", "emptyAll", "()V"⟩ ⟨"CoinTrack$Track", "emptyAll", "()V"⟩ ∈ gWs := gin1 (i := 208) rfl rfl
theorem tw_249 : Cond.code ⟨"CoinTrack$Track", "emptyAll", "()V"⟩ prog_5_method_19_code (2 : Nat) (Option.none : Option FieldType) ∈ gWs := gin1 (i := 209) rfl rfl
theorem tw_250 : Cond.methodLink "CoinTrack$Teller" (41 : Nat) ⟨"CoinTrack$Teller", "readToken", "()V"⟩ ∈ gWs := gin1 (i := 210) rfl rfl
theorem tw_251 : Cond.instanceMethod ⟨"CoinTrack$Teller", "readToken", "()V"⟩ ∈ gWs := gin1 (i := 211) rfl rfl
theorem tw_252 : Cond.selects "CoinTrack$Teller" ⟨"CoinTrack$Teller", "readToken", "()V"⟩ ⟨"CoinTrack$Teller", "readToken", "()V"⟩ ∈ gWs := gin1 (i := 212) rfl rfl
theorem tw_253 : Cond.code ⟨"CoinTrack$Teller", "readToken", "()V"⟩ prog_4_method_12_code (1 : Nat) (Option.none : Option FieldType) ∈ gWs := gin1 (i := 213) rfl rfl
theorem tw_254 : Cond.methodLink "CoinTrack$Teller" (85 : Nat) ⟨"CoinTrack$Teller", "letterAt", "(I)I"⟩ ∈ gWs := gin1 (i := 214) rfl rfl
theorem tw_255 : Cond.instanceMethod ⟨"CoinTrack$Teller", "letterAt", "(I)I"⟩ ∈ gWs := gin1 (i := 215) rfl rfl
theorem tw_256 : Cond.selects "CoinTrack$Teller" ⟨"CoinTrack$Teller", "letterAt", "(I)I"⟩ ⟨"CoinTrack$Teller", "letterAt", "(I)I"⟩ ∈ gWs := gin1 (i := 216) rfl rfl
theorem tw_257 : Cond.code ⟨"CoinTrack$Teller", "letterAt", "(I)I"⟩ prog_4_method_3_code (2 : Nat) (Option.some FieldType.int) ∈ gWs := gin1 (i := 217) rfl rfl
theorem tw_258 : Cond.methodLink "CoinTrack$Teller" (122 : Nat) ⟨"CoinTrack$Teller", "isSmallLetter", "(I)Z"⟩ ∈ gWs := gin1 (i := 218) rfl rfl
theorem tw_259 : Cond.static ⟨"CoinTrack$Teller", "isSmallLetter", "(I)Z"⟩ ∈ gWs := gin1 (i := 219) rfl rfl
theorem tw_260 : Cond.code ⟨"CoinTrack$Teller", "isSmallLetter", "(I)Z"⟩ prog_4_method_15_code (1 : Nat) (Option.some FieldType.boolean) ∈ gWs := gin1 (i := 220) rfl rfl
theorem tw_262 : Cond.methodLink "CoinTrack$Teller" (125 : Nat) ⟨"CoinTrack$Teller", "isFigure", "(I)Z"⟩ ∈ gWs := gin1 (i := 222) rfl rfl
theorem tw_263 : Cond.static ⟨"CoinTrack$Teller", "isFigure", "(I)Z"⟩ ∈ gWs := gin1 (i := 223) rfl rfl
theorem tw_264 : Cond.code ⟨"CoinTrack$Teller", "isFigure", "(I)Z"⟩ prog_4_method_16_code (1 : Nat) (Option.some FieldType.boolean) ∈ gWs := gin1 (i := 224) rfl rfl
theorem tw_265 : Cond.methodLink "CoinTrack$Teller" (128 : Nat) ⟨"CoinTrack$Teller", "isPlainNumber", "()Z"⟩ ∈ gWs := gin1 (i := 225) rfl rfl
theorem tw_266 : Cond.instanceMethod ⟨"CoinTrack$Teller", "isPlainNumber", "()Z"⟩ ∈ gWs := gin1 (i := 226) rfl rfl
theorem tw_267 : Cond.selects "CoinTrack$Teller" ⟨"CoinTrack$Teller", "isPlainNumber", "()Z"⟩ ⟨"CoinTrack$Teller", "isPlainNumber", "()Z"⟩ ∈ gWs := gin1 (i := 227) rfl rfl
theorem tw_268 : Cond.code ⟨"CoinTrack$Teller", "isPlainNumber", "()Z"⟩ prog_4_method_13_code (2 : Nat) (Option.some FieldType.boolean) ∈ gWs := gin1 (i := 228) rfl rfl
theorem tw_269 : Cond.methodLink "CoinTrack$Teller" (44 : Nat) ⟨"CoinTrack$Teller", "readItem", "()Z"⟩ ∈ gWs := gin1 (i := 229) rfl rfl
theorem tw_270 : Cond.instanceMethod ⟨"CoinTrack$Teller", "readItem", "()Z"⟩ ∈ gWs := gin1 (i := 230) rfl rfl
theorem tw_271 : Cond.selects "CoinTrack$Teller" ⟨"CoinTrack$Teller", "readItem", "()Z"⟩ ⟨"CoinTrack$Teller", "readItem", "()Z"⟩ ∈ gWs := gin1 (i := 231) rfl rfl
theorem tw_272 : Cond.code ⟨"CoinTrack$Teller", "readItem", "()Z"⟩ prog_4_method_5_code (4 : Nat) (Option.some FieldType.boolean) ∈ gWs := gin1 (i := 232) rfl rfl
theorem tw_273 : Cond.methodLink "CoinTrack$Teller" (48 : Nat) ⟨"CoinTrack$Teller", "itemOfWord", "()I"⟩ ∈ gWs := gin1 (i := 233) rfl rfl
theorem tw_274 : Cond.instanceMethod ⟨"CoinTrack$Teller", "itemOfWord", "()I"⟩ ∈ gWs := gin1 (i := 234) rfl rfl
theorem tw_275 : Cond.selects "CoinTrack$Teller" ⟨"CoinTrack$Teller", "itemOfWord", "()I"⟩ ⟨"CoinTrack$Teller", "itemOfWord", "()I"⟩ ∈ gWs := gin1 (i := 235) rfl rfl
theorem tw_276 : Cond.code ⟨"CoinTrack$Teller", "itemOfWord", "()I"⟩ prog_4_method_6_code (1 : Nat) (Option.some FieldType.int) ∈ gWs := gin1 (i := 236) rfl rfl
theorem tw_278 : Cond.methodLink "CoinTrack$Teller" (69 : Nat) ⟨"CoinTrack$Teller", "spells", "(Ljava/lang/String;)Z"⟩ ∈ gWs := gin1 (i := 238) rfl rfl
theorem tw_279 : Cond.instanceMethod ⟨"CoinTrack$Teller", "spells", "(Ljava/lang/String;)Z"⟩ ∈ gWs := gin1 (i := 239) rfl rfl
theorem tw_280 : Cond.selects "CoinTrack$Teller" ⟨"CoinTrack$Teller", "spells", "(Ljava/lang/String;)Z"⟩ ⟨"CoinTrack$Teller", "spells", "(Ljava/lang/String;)Z"⟩ ∈ gWs := gin2 (i := 0) rfl rfl
theorem tw_281 : Cond.code ⟨"CoinTrack$Teller", "spells", "(Ljava/lang/String;)Z"⟩ prog_4_method_7_code (3 : Nat) (Option.some FieldType.boolean) ∈ gWs := gin2 (i := 1) rfl rfl
theorem tw_282 : Cond.methodLink "CoinTrack$Teller" (81 : Nat) ⟨"java/lang/String", "length", "()I"⟩ ∈ gWs := gin2 (i := 2) rfl rfl
theorem tw_283 : Cond.instanceMethod ⟨"java/lang/String", "length", "()I"⟩ ∈ gWs := gin2 (i := 3) rfl rfl
theorem tw_284 : Cond.selects "java/lang/String" ⟨"java/lang/String", "length", "()I"⟩ ⟨"java/lang/String", "length", "()I"⟩ ∈ gWs := gin2 (i := 4) rfl rfl
theorem tw_285 : Cond.code ⟨"java/lang/String", "length", "()I"⟩ prog_11_method_54_code (1 : Nat) (Option.some FieldType.int) ∈ gWs := gin2 (i := 5) rfl rfl
theorem tw_286 : Cond.methodLink "java/lang/String" (335 : Nat) ⟨"java/lang/String", "coder", "()B"⟩ ∈ gWs := gin2 (i := 6) rfl rfl
theorem tw_287 : Cond.instanceMethod ⟨"java/lang/String", "coder", "()B"⟩ ∈ gWs := gin2 (i := 7) rfl rfl
theorem tw_288 : Cond.selects "java/lang/String" ⟨"java/lang/String", "coder", "()B"⟩ ⟨"java/lang/String", "coder", "()B"⟩ ∈ gWs := gin2 (i := 8) rfl rfl
theorem tw_289 : Cond.code ⟨"java/lang/String", "coder", "()B"⟩ prog_11_method_152_code (1 : Nat) (Option.some FieldType.byte) ∈ gWs := gin2 (i := 9) rfl rfl
theorem tw_290 : Cond.fieldLink "java/lang/String" (38 : Nat) "java/lang/String" "COMPACT_STRINGS" "Z" ∈ gWs := gin2 (i := 10) rfl rfl
theorem tw_292 : Cond.methodLink "CoinTrack$Teller" (89 : Nat) ⟨"java/lang/String", "charAt", "(I)C"⟩ ∈ gWs := gin2 (i := 12) rfl rfl
theorem tw_293 : Cond.instanceMethod ⟨"java/lang/String", "charAt", "(I)C"⟩ ∈ gWs := gin2 (i := 13) rfl rfl
theorem tw_294 : Cond.selects "java/lang/String" ⟨"java/lang/String", "charAt", "(I)C"⟩ ⟨"java/lang/String", "charAt", "(I)C"⟩ ∈ gWs := gin2 (i := 14) rfl rfl
theorem tw_295 : Cond.code ⟨"java/lang/String", "charAt", "(I)C"⟩ prog_11_method_56_code (2 : Nat) (Option.some FieldType.char) ∈ gWs := gin2 (i := 15) rfl rfl
theorem tw_296 : Cond.methodLink "java/lang/String" (492 : Nat) ⟨"java/lang/String", "isLatin1", "()Z"⟩ ∈ gWs := gin2 (i := 16) rfl rfl
theorem tw_297 : Cond.instanceMethod ⟨"java/lang/String", "isLatin1", "()Z"⟩ ∈ gWs := gin2 (i := 17) rfl rfl
theorem tw_298 : Cond.selects "java/lang/String" ⟨"java/lang/String", "isLatin1", "()Z"⟩ ⟨"java/lang/String", "isLatin1", "()Z"⟩ ∈ gWs := gin2 (i := 18) rfl rfl
theorem tw_299 : Cond.code ⟨"java/lang/String", "isLatin1", "()Z"⟩ prog_11_method_154_code (1 : Nat) (Option.some FieldType.boolean) ∈ gWs := gin2 (i := 19) rfl rfl
theorem tw_300 : Cond.methodLink "java/lang/String" (495 : Nat) ⟨"java/lang/StringLatin1", "charAt", "([BI)C"⟩ ∈ gWs := gin2 (i := 20) rfl rfl
theorem tw_301 : Cond.static ⟨"java/lang/StringLatin1", "charAt", "([BI)C"⟩ ∈ gWs := gin2 (i := 21) rfl rfl
theorem tw_302 : Cond.code ⟨"java/lang/StringLatin1", "charAt", "([BI)C"⟩ prog_12_method_2_code (2 : Nat) (Option.some FieldType.char) ∈ gWs := gin2 (i := 22) rfl rfl
theorem tw_303 : Cond.methodLink "java/lang/StringLatin1" (9 : Nat) ⟨"java/lang/String", "checkIndex", "(II)V"⟩ ∈ gWs := gin2 (i := 23) rfl rfl
theorem tw_304 : Cond.static ⟨"java/lang/String", "checkIndex", "(II)V"⟩ ∈ gWs := gin2 (i := 24) rfl rfl
theorem tw_305 : Cond.code ⟨"java/lang/String", "checkIndex", "(II)V"⟩ prog_11_method_155_code (2 : Nat) (Option.none : Option FieldType) ∈ gWs := gin2 (i := 25) rfl rfl
theorem tw_306 : Cond.fieldLink "java/lang/String" (1053 : Nat) "jdk/internal/util/Preconditions" "SIOOBE_FORMATTER" "Ljava/util/function/BiFunction;" ∈ gWs := gin2 (i := 26) rfl rfl
theorem tw_308 : Cond.methodLink "java/lang/String" (1059 : Nat) ⟨"jdk/internal/util/Preconditions", "checkIndex", "(IILjava/util/function/BiFunction;)I"⟩ ∈ gWs := gin2 (i := 28) rfl rfl
theorem tw_309 : Cond.static ⟨"jdk/internal/util/Preconditions", "checkIndex", "(IILjava/util/function/BiFunction;)I"⟩ ∈ gWs := gin2 (i := 29) rfl rfl
theorem tw_310 : Cond.code ⟨"jdk/internal/util/Preconditions", "checkIndex", "(IILjava/util/function/BiFunction;)I"⟩ prog_15_method_11_code (3 : Nat) (Option.some FieldType.int) ∈ gWs := gin2 (i := 30) rfl rfl
theorem tw_334 : Cond.methodLink "CoinTrack$Teller" (52 : Nat) ⟨"CoinTrack$Teller", "mayCome", "(I)Z"⟩ ∈ gWs := gin2 (i := 54) rfl rfl
theorem tw_335 : Cond.instanceMethod ⟨"CoinTrack$Teller", "mayCome", "(I)Z"⟩ ∈ gWs := gin2 (i := 55) rfl rfl
theorem tw_336 : Cond.selects "CoinTrack$Teller" ⟨"CoinTrack$Teller", "mayCome", "(I)Z"⟩ ⟨"CoinTrack$Teller", "mayCome", "(I)Z"⟩ ∈ gWs := gin2 (i := 56) rfl rfl
theorem tw_337 : Cond.code ⟨"CoinTrack$Teller", "mayCome", "(I)Z"⟩ prog_4_method_8_code (2 : Nat) (Option.some FieldType.boolean) ∈ gWs := gin2 (i := 57) rfl rfl
theorem tw_338 : Cond.methodLink "CoinTrack$Teller" (56 : Nat) ⟨"CoinTrack$Teller", "numberRead", "()I"⟩ ∈ gWs := gin2 (i := 58) rfl rfl
theorem tw_339 : Cond.instanceMethod ⟨"CoinTrack$Teller", "numberRead", "()I"⟩ ∈ gWs := gin2 (i := 59) rfl rfl
theorem tw_340 : Cond.selects "CoinTrack$Teller" ⟨"CoinTrack$Teller", "numberRead", "()I"⟩ ⟨"CoinTrack$Teller", "numberRead", "()I"⟩ ∈ gWs := gin2 (i := 60) rfl rfl
theorem tw_341 : Cond.code ⟨"CoinTrack$Teller", "numberRead", "()I"⟩ prog_4_method_14_code (3 : Nat) (Option.some FieldType.int) ∈ gWs := gin2 (i := 61) rfl rfl
theorem tw_342 : Cond.methodLink "CoinTrack$Teller" (59 : Nat) ⟨"CoinTrack$Teller", "fits", "(III)Z"⟩ ∈ gWs := gin2 (i := 62) rfl rfl
theorem tw_343 : Cond.instanceMethod ⟨"CoinTrack$Teller", "fits", "(III)Z"⟩ ∈ gWs := gin2 (i := 63) rfl rfl
theorem tw_344 : Cond.selects "CoinTrack$Teller" ⟨"CoinTrack$Teller", "fits", "(III)Z"⟩ ⟨"CoinTrack$Teller", "fits", "(III)Z"⟩ ∈ gWs := gin2 (i := 64) rfl rfl
theorem tw_345 : Cond.code ⟨"CoinTrack$Teller", "fits", "(III)Z"⟩ prog_4_method_9_code (4 : Nat) (Option.some FieldType.boolean) ∈ gWs := gin2 (i := 65) rfl rfl
theorem tw_346 : Cond.methodLink "CoinTrack$Teller" (99 : Nat) ⟨"CoinTrack$Teller", "fitsCoin", "(II)Z"⟩ ∈ gWs := gin2 (i := 66) rfl rfl
theorem tw_347 : Cond.instanceMethod ⟨"CoinTrack$Teller", "fitsCoin", "(II)Z"⟩ ∈ gWs := gin2 (i := 67) rfl rfl
theorem tw_348 : Cond.selects "CoinTrack$Teller" ⟨"CoinTrack$Teller", "fitsCoin", "(II)Z"⟩ ⟨"CoinTrack$Teller", "fitsCoin", "(II)Z"⟩ ∈ gWs := gin2 (i := 68) rfl rfl
theorem tw_349 : Cond.code ⟨"CoinTrack$Teller", "fitsCoin", "(II)Z"⟩ prog_4_method_10_code (3 : Nat) (Option.some FieldType.boolean) ∈ gWs := gin2 (i := 69) rfl rfl
theorem tw_351 : Cond.static ⟨"CoinTrack", "wearFits", "(II)Z"⟩ ∈ gWs := gin2 (i := 71) rfl rfl
theorem tw_352 : Cond.code ⟨"CoinTrack", "wearFits", "(II)Z"⟩ prog_1_method_30_code (2 : Nat) (Option.some FieldType.boolean) ∈ gWs := gin2 (i := 72) rfl rfl
theorem tw_354 : Cond.static ⟨"CoinTrack", "boundFits", "(II)Z"⟩ ∈ gWs := gin2 (i := 74) rfl rfl
theorem tw_355 : Cond.code ⟨"CoinTrack", "boundFits", "(II)Z"⟩ prog_1_method_28_code (2 : Nat) (Option.some FieldType.boolean) ∈ gWs := gin2 (i := 75) rfl rfl
theorem tw_356 : Cond.methodLink "CoinTrack$Teller" (63 : Nat) ⟨"CoinTrack$Teller", "putItem", "(I)V"⟩ ∈ gWs := gin2 (i := 76) rfl rfl
theorem tw_357 : Cond.instanceMethod ⟨"CoinTrack$Teller", "putItem", "(I)V"⟩ ∈ gWs := gin2 (i := 77) rfl rfl
theorem tw_358 : Cond.selects "CoinTrack$Teller" ⟨"CoinTrack$Teller", "putItem", "(I)V"⟩ ⟨"CoinTrack$Teller", "putItem", "(I)V"⟩ ∈ gWs := gin2 (i := 78) rfl rfl
theorem tw_359 : Cond.code ⟨"CoinTrack$Teller", "putItem", "(I)V"⟩ prog_4_method_11_code (2 : Nat) (Option.none : Option FieldType) ∈ gWs := gin2 (i := 79) rfl rfl
theorem tw_360 : Cond.methodLink "CoinTrack$Teller" (112 : Nat) ⟨"CoinTrack$Track", "appendKind", "(IIIII)V"⟩ ∈ gWs := gin2 (i := 80) rfl rfl
theorem tw_361 : Cond.instanceMethod ⟨"CoinTrack$Track", "appendKind", "(IIIII)V"⟩ ∈ gWs := gin2 (i := 81) rfl rfl
theorem tw_362 : Cond.selects "CoinTrack$Track" ⟨"CoinTrack$Track", "appendKind", "(IIIII)V"⟩ ⟨"CoinTrack$Track", "appendKind", "(IIIII)V"⟩ ∈ gWs := gin2 (i := 82) rfl rfl
theorem tw_363 : Cond.code ⟨"CoinTrack$Track", "appendKind", "(IIIII)V"⟩ prog_5_method_12_code (6 : Nat) (Option.none : Option FieldType) ∈ gWs := gin2 (i := 83) rfl rfl
theorem tw_364 : Cond.methodLink "CoinTrack$Track" (55 : Nat) ⟨"CoinTrack$Track", "putOfKind", "(III)V"⟩ ∈ gWs := gin2 (i := 84) rfl rfl
theorem tw_365 : Cond.instanceMethod ⟨"CoinTrack$Track", "putOfKind", "(III)V"⟩ ∈ gWs := gin2 (i := 85) rfl rfl
theorem tw_366 : Cond.selects "CoinTrack$Track" ⟨"CoinTrack$Track", "putOfKind", "(III)V"⟩ ⟨"CoinTrack$Track", "putOfKind", "(III)V"⟩ ∈ gWs := gin2 (i := 86) rfl rfl
theorem tw_367 : Cond.code ⟨"CoinTrack$Track", "putOfKind", "(III)V"⟩ prog_5_method_9_code (5 : Nat) (Option.none : Option FieldType) ∈ gWs := gin2 (i := 87) rfl rfl
theorem tw_368 : Cond.methodLink "CoinTrack$Teller" (118 : Nat) ⟨"CoinTrack$Track", "insertTest", "(IIII)V"⟩ ∈ gWs := gin2 (i := 88) rfl rfl
theorem tw_369 : Cond.instanceMethod ⟨"CoinTrack$Track", "insertTest", "(IIII)V"⟩ ∈ gWs := gin2 (i := 89) rfl rfl
theorem tw_370 : Cond.selects "CoinTrack$Track" ⟨"CoinTrack$Track", "insertTest", "(IIII)V"⟩ ⟨"CoinTrack$Track", "insertTest", "(IIII)V"⟩ ∈ gWs := gin2 (i := 90) rfl rfl
theorem tw_371 : Cond.code ⟨"CoinTrack$Track", "insertTest", "(IIII)V"⟩ prog_5_method_13_code (6 : Nat) (Option.none : Option FieldType) ∈ gWs := gin2 (i := 91) rfl rfl
theorem tw_372 : Cond.methodLink "CoinTrack$Track" (59 : Nat) ⟨"CoinTrack$Track", "copyTest", "(II)V"⟩ ∈ gWs := gin2 (i := 92) rfl rfl
theorem tw_373 : Cond.instanceMethod ⟨"CoinTrack$Track", "copyTest", "(II)V"⟩ ∈ gWs := gin2 (i := 93) rfl rfl
theorem tw_374 : Cond.selects "CoinTrack$Track" ⟨"CoinTrack$Track", "copyTest", "(II)V"⟩ ⟨"CoinTrack$Track", "copyTest", "(II)V"⟩ ∈ gWs := gin2 (i := 94) rfl rfl
theorem tw_375 : Cond.code ⟨"CoinTrack$Track", "copyTest", "(II)V"⟩ prog_5_method_15_code (4 : Nat) (Option.none : Option FieldType) ∈ gWs := gin2 (i := 95) rfl rfl
theorem tw_376 : Cond.methodLink "CoinTrack$Track" (69 : Nat) ⟨"CoinTrack$Track", "ofTest", "(II)I"⟩ ∈ gWs := gin2 (i := 96) rfl rfl
theorem tw_377 : Cond.instanceMethod ⟨"CoinTrack$Track", "ofTest", "(II)I"⟩ ∈ gWs := gin2 (i := 97) rfl rfl
theorem tw_378 : Cond.selects "CoinTrack$Track" ⟨"CoinTrack$Track", "ofTest", "(II)I"⟩ ⟨"CoinTrack$Track", "ofTest", "(II)I"⟩ ∈ gWs := gin2 (i := 98) rfl rfl
theorem tw_379 : Cond.code ⟨"CoinTrack$Track", "ofTest", "(II)I"⟩ prog_5_method_10_code (4 : Nat) (Option.some FieldType.int) ∈ gWs := gin2 (i := 99) rfl rfl
theorem tw_380 : Cond.methodLink "CoinTrack$Track" (63 : Nat) ⟨"CoinTrack$Track", "putOfTest", "(III)V"⟩ ∈ gWs := gin2 (i := 100) rfl rfl
theorem tw_381 : Cond.instanceMethod ⟨"CoinTrack$Track", "putOfTest", "(III)V"⟩ ∈ gWs := gin2 (i := 101) rfl rfl
theorem tw_382 : Cond.selects "CoinTrack$Track" ⟨"CoinTrack$Track", "putOfTest", "(III)V"⟩ ⟨"CoinTrack$Track", "putOfTest", "(III)V"⟩ ∈ gWs := gin2 (i := 102) rfl rfl
theorem tw_383 : Cond.code ⟨"CoinTrack$Track", "putOfTest", "(III)V"⟩ prog_5_method_11_code (5 : Nat) (Option.none : Option FieldType) ∈ gWs := gin2 (i := 103) rfl rfl
theorem tw_384 : Cond.methodLink "CoinTrack" (64 : Nat) ⟨"CoinTrack$History", "remember", "(LCoinTrack$Track;)V"⟩ ∈ gWs := gin2 (i := 104) rfl rfl
theorem tw_385 : Cond.instanceMethod ⟨"CoinTrack$History", "remember", "(LCoinTrack$Track;)V"⟩ ∈ gWs := gin2 (i := 105) rfl rfl
theorem tw_386 : Cond.selects "CoinTrack$History" ⟨"CoinTrack$History", "remember", "(LCoinTrack$Track;)V"⟩ ⟨"CoinTrack$History", "remember", "(LCoinTrack$Track;)V"⟩ ∈ gWs := gin2 (i := 106) rfl rfl
theorem tw_387 : Cond.code ⟨"CoinTrack$History", "remember", "(LCoinTrack$Track;)V"⟩ prog_2_method_2_code (3 : Nat) (Option.none : Option FieldType) ∈ gWs := gin2 (i := 107) rfl rfl
theorem tw_388 : Cond.methodLink "CoinTrack$History" (24 : Nat) ⟨"CoinTrack$History", "isPlace", "(I)Z"⟩ ∈ gWs := gin2 (i := 108) rfl rfl
theorem tw_389 : Cond.instanceMethod ⟨"CoinTrack$History", "isPlace", "(I)Z"⟩ ∈ gWs := gin2 (i := 109) rfl rfl
theorem tw_390 : Cond.selects "CoinTrack$History" ⟨"CoinTrack$History", "isPlace", "(I)Z"⟩ ⟨"CoinTrack$History", "isPlace", "(I)Z"⟩ ∈ gWs := gin2 (i := 110) rfl rfl
theorem tw_391 : Cond.code ⟨"CoinTrack$History", "isPlace", "(I)Z"⟩ prog_2_method_4_code (2 : Nat) (Option.some FieldType.boolean) ∈ gWs := gin2 (i := 111) rfl rfl
theorem tw_393 : Cond.methodLink "CoinTrack$History" (29 : Nat) ⟨"CoinTrack$Track", "copyFrom", "(LCoinTrack$Track;)V"⟩ ∈ gWs := gin2 (i := 113) rfl rfl
theorem tw_394 : Cond.instanceMethod ⟨"CoinTrack$Track", "copyFrom", "(LCoinTrack$Track;)V"⟩ ∈ gWs := gin2 (i := 114) rfl rfl
theorem tw_395 : Cond.selects "CoinTrack$Track" ⟨"CoinTrack$Track", "copyFrom", "(LCoinTrack$Track;)V"⟩ ⟨"CoinTrack$Track", "copyFrom", "(LCoinTrack$Track;)V"⟩ ∈ gWs := gin2 (i := 115) rfl rfl
theorem tw_396 : Cond.code ⟨"CoinTrack$Track", "copyFrom", "(LCoinTrack$Track;)V"⟩ prog_5_method_3_code (2 : Nat) (Option.none : Option FieldType) ∈ gWs := gin2 (i := 116) rfl rfl
theorem tw_397 : Cond.methodLink "CoinTrack$Track" (37 : Nat) ⟨"java/lang/System", "arraycopy", "(Ljava/lang/Object;ILjava/lang/Object;II)V"⟩ ∈ gWs := gin2 (i := 117) rfl rfl
theorem tw_398 : Cond.static ⟨"java/lang/System", "arraycopy", "(Ljava/lang/Object;ILjava/lang/Object;II)V"⟩ ∈ gWs := gin2 (i := 118) rfl rfl
theorem tw_399 : Cond.native ⟨"java/lang/System", "arraycopy", "(Ljava/lang/Object;ILjava/lang/Object;II)V"⟩ ∈ gWs := gin2 (i := 119) rfl rfl
theorem tw_400 : Cond.methodLink "CoinTrack$History" (33 : Nat) ⟨"java/lang/Math", "min", "(II)I"⟩ ∈ gWs := gin2 (i := 120) rfl rfl
theorem tw_401 : Cond.static ⟨"java/lang/Math", "min", "(II)I"⟩ ∈ gWs := gin2 (i := 121) rfl rfl
theorem tw_402 : Cond.code ⟨"java/lang/Math", "min", "(II)I"⟩ prog_10_method_69_code (2 : Nat) (Option.some FieldType.int) ∈ gWs := gin2 (i := 122) rfl rfl
theorem tw_403 : Cond.methodLink "CoinTrack" (71 : Nat) ⟨"CoinTrack$Track", "copyFrom", "(LCoinTrack$Track;)V"⟩ ∈ gWs := gin2 (i := 123) rfl rfl
theorem tw_405 : Cond.methodLink "CoinTrackLaw" (27 : Nat) ⟨"CoinTrack", "drops", "(II)I"⟩ ∈ gWs := gin2 (i := 125) rfl rfl
theorem tw_406 : Cond.instanceMethod ⟨"CoinTrack", "drops", "(II)I"⟩ ∈ gWs := gin2 (i := 126) rfl rfl
theorem tw_407 : Cond.selects "CoinTrack" ⟨"CoinTrack", "drops", "(II)I"⟩ ⟨"CoinTrack", "drops", "(II)I"⟩ ∈ gWs := gin2 (i := 127) rfl rfl
theorem tw_408 : Cond.code ⟨"CoinTrack", "drops", "(II)I"⟩ prog_1_method_5_code (4 : Nat) (Option.some FieldType.int) ∈ gWs := gin2 (i := 128) rfl rfl
theorem tw_409 : Cond.methodLink "CoinTrack" (74 : Nat) ⟨"CoinTrack$Track", "hasCoin", "(II)Z"⟩ ∈ gWs := gin2 (i := 129) rfl rfl
theorem tw_410 : Cond.instanceMethod ⟨"CoinTrack$Track", "hasCoin", "(II)Z"⟩ ∈ gWs := gin2 (i := 130) rfl rfl
theorem tw_411 : Cond.selects "CoinTrack$Track" ⟨"CoinTrack$Track", "hasCoin", "(II)Z"⟩ ⟨"CoinTrack$Track", "hasCoin", "(II)Z"⟩ ∈ gWs := gin2 (i := 131) rfl rfl
theorem tw_412 : Cond.code ⟨"CoinTrack$Track", "hasCoin", "(II)Z"⟩ prog_5_method_5_code (3 : Nat) (Option.some FieldType.boolean) ∈ gWs := gin2 (i := 132) rfl rfl
theorem tw_413 : Cond.methodLink "CoinTrack$Track" (43 : Nat) ⟨"CoinTrack$Track", "hasKind", "(I)Z"⟩ ∈ gWs := gin2 (i := 133) rfl rfl
theorem tw_414 : Cond.instanceMethod ⟨"CoinTrack$Track", "hasKind", "(I)Z"⟩ ∈ gWs := gin2 (i := 134) rfl rfl
theorem tw_415 : Cond.selects "CoinTrack$Track" ⟨"CoinTrack$Track", "hasKind", "(I)Z"⟩ ⟨"CoinTrack$Track", "hasKind", "(I)Z"⟩ ∈ gWs := gin2 (i := 135) rfl rfl
theorem tw_416 : Cond.code ⟨"CoinTrack$Track", "hasKind", "(I)Z"⟩ prog_5_method_4_code (2 : Nat) (Option.some FieldType.boolean) ∈ gWs := gin2 (i := 136) rfl rfl
theorem tw_417 : Cond.methodLink "CoinTrack$Track" (47 : Nat) ⟨"CoinTrack$Track", "ofKind", "(II)I"⟩ ∈ gWs := gin2 (i := 137) rfl rfl
theorem tw_418 : Cond.instanceMethod ⟨"CoinTrack$Track", "ofKind", "(II)I"⟩ ∈ gWs := gin2 (i := 138) rfl rfl
theorem tw_419 : Cond.selects "CoinTrack$Track" ⟨"CoinTrack$Track", "ofKind", "(II)I"⟩ ⟨"CoinTrack$Track", "ofKind", "(II)I"⟩ ∈ gWs := gin2 (i := 139) rfl rfl
theorem tw_420 : Cond.code ⟨"CoinTrack$Track", "ofKind", "(II)I"⟩ prog_5_method_8_code (4 : Nat) (Option.some FieldType.int) ∈ gWs := gin2 (i := 140) rfl rfl
theorem tw_422 : Cond.methodLink "CoinTrack" (81 : Nat) ⟨"CoinTrack$Track", "binOfCoin", "(III)I"⟩ ∈ gWs := gin2 (i := 142) rfl rfl
theorem tw_423 : Cond.instanceMethod ⟨"CoinTrack$Track", "binOfCoin", "(III)I"⟩ ∈ gWs := gin2 (i := 143) rfl rfl
theorem tw_424 : Cond.selects "CoinTrack$Track" ⟨"CoinTrack$Track", "binOfCoin", "(III)I"⟩ ⟨"CoinTrack$Track", "binOfCoin", "(III)I"⟩ ∈ gWs := gin2 (i := 144) rfl rfl
theorem tw_425 : Cond.code ⟨"CoinTrack$Track", "binOfCoin", "(III)I"⟩ prog_5_method_24_code (4 : Nat) (Option.some FieldType.int) ∈ gWs := gin2 (i := 145) rfl rfl
theorem tw_426 : Cond.methodLink "CoinTrack$Track" (79 : Nat) ⟨"CoinTrack$Track", "binOf", "(IIII)I"⟩ ∈ gWs := gin2 (i := 146) rfl rfl
theorem tw_427 : Cond.instanceMethod ⟨"CoinTrack$Track", "binOf", "(IIII)I"⟩ ∈ gWs := gin2 (i := 147) rfl rfl
theorem tw_428 : Cond.selects "CoinTrack$Track" ⟨"CoinTrack$Track", "binOf", "(IIII)I"⟩ ⟨"CoinTrack$Track", "binOf", "(IIII)I"⟩ ∈ gWs := gin2 (i := 148) rfl rfl
theorem tw_429 : Cond.code ⟨"CoinTrack$Track", "binOf", "(IIII)I"⟩ prog_5_method_22_code (6 : Nat) (Option.some FieldType.int) ∈ gWs := gin2 (i := 149) rfl rfl
theorem tw_430 : Cond.methodLink "CoinTrack$Track" (72 : Nat) ⟨"CoinTrack$Track", "shiftOf", "(II)I"⟩ ∈ gWs := gin2 (i := 150) rfl rfl
theorem tw_431 : Cond.static ⟨"CoinTrack$Track", "shiftOf", "(II)I"⟩ ∈ gWs := gin2 (i := 151) rfl rfl
theorem tw_432 : Cond.code ⟨"CoinTrack$Track", "shiftOf", "(II)I"⟩ prog_5_method_23_code (2 : Nat) (Option.some FieldType.int) ∈ gWs := gin2 (i := 152) rfl rfl
theorem tw_433 : Cond.methodLink "CoinTrack$Track" (75 : Nat) ⟨"CoinTrack$Track", "letsFall", "(IIIII)Z"⟩ ∈ gWs := gin2 (i := 153) rfl rfl
theorem tw_434 : Cond.instanceMethod ⟨"CoinTrack$Track", "letsFall", "(IIIII)Z"⟩ ∈ gWs := gin2 (i := 154) rfl rfl
theorem tw_435 : Cond.selects "CoinTrack$Track" ⟨"CoinTrack$Track", "letsFall", "(IIIII)Z"⟩ ⟨"CoinTrack$Track", "letsFall", "(IIIII)Z"⟩ ∈ gWs := gin2 (i := 155) rfl rfl
theorem tw_436 : Cond.code ⟨"CoinTrack$Track", "letsFall", "(IIIII)Z"⟩ prog_5_method_21_code (8 : Nat) (Option.some FieldType.boolean) ∈ gWs := gin2 (i := 156) rfl rfl
theorem tw_437 : Cond.methodLink "CoinTrack" (85 : Nat) ⟨"CoinTrack$Track", "takeIn", "(I)Z"⟩ ∈ gWs := gin2 (i := 157) rfl rfl
theorem tw_438 : Cond.instanceMethod ⟨"CoinTrack$Track", "takeIn", "(I)Z"⟩ ∈ gWs := gin2 (i := 158) rfl rfl
theorem tw_439 : Cond.selects "CoinTrack$Track" ⟨"CoinTrack$Track", "takeIn", "(I)Z"⟩ ⟨"CoinTrack$Track", "takeIn", "(I)Z"⟩ ∈ gWs := gin2 (i := 159) rfl rfl
theorem tw_440 : Cond.code ⟨"CoinTrack$Track", "takeIn", "(I)Z"⟩ prog_5_method_20_code (2 : Nat) (Option.some FieldType.boolean) ∈ gWs := gin2 (i := 160) rfl rfl
theorem tw_441 : Cond.methodLink "CoinTrackLaw" (32 : Nat) ⟨"CoinTrack", "frees", "()I"⟩ ∈ gWs := gin2 (i := 161) rfl rfl
theorem tw_442 : Cond.instanceMethod ⟨"CoinTrack", "frees", "()I"⟩ ∈ gWs := gin2 (i := 162) rfl rfl
theorem tw_443 : Cond.selects "CoinTrack" ⟨"CoinTrack", "frees", "()I"⟩ ⟨"CoinTrack", "frees", "()I"⟩ ∈ gWs := gin2 (i := 163) rfl rfl
theorem tw_444 : Cond.code ⟨"CoinTrack", "frees", "()I"⟩ prog_1_method_6_code (2 : Nat) (Option.some FieldType.int) ∈ gWs := gin2 (i := 164) rfl rfl
theorem tw_445 : Cond.methodLink "CoinTrackLaw" (36 : Nat) ⟨"CoinTrack", "empties", "(I)I"⟩ ∈ gWs := gin2 (i := 165) rfl rfl
theorem tw_446 : Cond.instanceMethod ⟨"CoinTrack", "empties", "(I)I"⟩ ∈ gWs := gin2 (i := 166) rfl rfl
theorem tw_447 : Cond.selects "CoinTrack" ⟨"CoinTrack", "empties", "(I)I"⟩ ⟨"CoinTrack", "empties", "(I)I"⟩ ∈ gWs := gin2 (i := 167) rfl rfl
theorem tw_448 : Cond.code ⟨"CoinTrack", "empties", "(I)I"⟩ prog_1_method_7_code (3 : Nat) (Option.some FieldType.int) ∈ gWs := gin2 (i := 168) rfl rfl
theorem tw_449 : Cond.methodLink "CoinTrack" (88 : Nat) ⟨"CoinTrack$Track", "hasBin", "(I)Z"⟩ ∈ gWs := gin2 (i := 169) rfl rfl
theorem tw_450 : Cond.instanceMethod ⟨"CoinTrack$Track", "hasBin", "(I)Z"⟩ ∈ gWs := gin2 (i := 170) rfl rfl
theorem tw_451 : Cond.selects "CoinTrack$Track" ⟨"CoinTrack$Track", "hasBin", "(I)Z"⟩ ⟨"CoinTrack$Track", "hasBin", "(I)Z"⟩ ∈ gWs := gin2 (i := 171) rfl rfl
theorem tw_452 : Cond.code ⟨"CoinTrack$Track", "hasBin", "(I)Z"⟩ prog_5_method_7_code (2 : Nat) (Option.some FieldType.boolean) ∈ gWs := gin2 (i := 172) rfl rfl
theorem tw_453 : Cond.methodLink "CoinTrack" (91 : Nat) ⟨"CoinTrack$Track", "coinsIn", "(I)I"⟩ ∈ gWs := gin2 (i := 173) rfl rfl
theorem tw_454 : Cond.instanceMethod ⟨"CoinTrack$Track", "coinsIn", "(I)I"⟩ ∈ gWs := gin2 (i := 174) rfl rfl
theorem tw_455 : Cond.selects "CoinTrack$Track" ⟨"CoinTrack$Track", "coinsIn", "(I)I"⟩ ⟨"CoinTrack$Track", "coinsIn", "(I)I"⟩ ∈ gWs := gin2 (i := 175) rfl rfl
theorem tw_456 : Cond.code ⟨"CoinTrack$Track", "coinsIn", "(I)I"⟩ prog_5_method_16_code (2 : Nat) (Option.some FieldType.int) ∈ gWs := gin2 (i := 176) rfl rfl
theorem tw_457 : Cond.methodLink "CoinTrack" (95 : Nat) ⟨"CoinTrack$Track", "emptyBin", "(I)V"⟩ ∈ gWs := gin2 (i := 177) rfl rfl
theorem tw_458 : Cond.instanceMethod ⟨"CoinTrack$Track", "emptyBin", "(I)V"⟩ ∈ gWs := gin2 (i := 178) rfl rfl
theorem tw_459 : Cond.selects "CoinTrack$Track" ⟨"CoinTrack$Track", "emptyBin", "(I)V"⟩ ⟨"CoinTrack$Track", "emptyBin", "(I)V"⟩ ∈ gWs := gin2 (i := 179) rfl rfl
theorem tw_460 : Cond.code ⟨"CoinTrack$Track", "emptyBin", "(I)V"⟩ prog_5_method_18_code (2 : Nat) (Option.none : Option FieldType) ∈ gWs := gin2 (i := 180) rfl rfl
theorem tw_461 : Cond.methodLink "CoinTrackLaw" (40 : Nat) ⟨"CoinTrack", "puts", "(IIII)I"⟩ ∈ gWs := gin2 (i := 181) rfl rfl
theorem tw_462 : Cond.instanceMethod ⟨"CoinTrack", "puts", "(IIII)I"⟩ ∈ gWs := gin2 (i := 182) rfl rfl
theorem tw_463 : Cond.selects "CoinTrack" ⟨"CoinTrack", "puts", "(IIII)I"⟩ ⟨"CoinTrack", "puts", "(IIII)I"⟩ ∈ gWs := gin2 (i := 183) rfl rfl
theorem tw_464 : Cond.code ⟨"CoinTrack", "puts", "(IIII)I"⟩ prog_1_method_8_code (5 : Nat) (Option.some FieldType.int) ∈ gWs := gin2 (i := 184) rfl rfl
theorem tw_465 : Cond.methodLink "CoinTrack" (102 : Nat) ⟨"CoinTrack", "boundFits", "(II)Z"⟩ ∈ gWs := gin2 (i := 185) rfl rfl
theorem tw_466 : Cond.methodLink "CoinTrack" (105 : Nat) ⟨"CoinTrack$Track", "insertTest", "(IIII)V"⟩ ∈ gWs := gin2 (i := 186) rfl rfl
theorem tw_467 : Cond.methodLink "CoinTrack" (109 : Nat) ⟨"CoinTrack$Track", "emptyAll", "()V"⟩ ∈ gWs := gin2 (i := 187) rfl rfl
theorem tw_468 : Cond.methodLink "CoinTrackLaw" (45 : Nat) ⟨"CoinTrack", "takes", "(I)I"⟩ ∈ gWs := gin2 (i := 188) rfl rfl
theorem tw_469 : Cond.instanceMethod ⟨"CoinTrack", "takes", "(I)I"⟩ ∈ gWs := gin2 (i := 189) rfl rfl
theorem tw_470 : Cond.selects "CoinTrack" ⟨"CoinTrack", "takes", "(I)I"⟩ ⟨"CoinTrack", "takes", "(I)I"⟩ ∈ gWs := gin2 (i := 190) rfl rfl
theorem tw_471 : Cond.code ⟨"CoinTrack", "takes", "(I)I"⟩ prog_1_method_9_code (2 : Nat) (Option.some FieldType.int) ∈ gWs := gin2 (i := 191) rfl rfl
theorem tw_472 : Cond.methodLink "CoinTrack" (112 : Nat) ⟨"CoinTrack$Track", "hasTest", "(I)Z"⟩ ∈ gWs := gin2 (i := 192) rfl rfl
theorem tw_473 : Cond.instanceMethod ⟨"CoinTrack$Track", "hasTest", "(I)Z"⟩ ∈ gWs := gin2 (i := 193) rfl rfl
theorem tw_474 : Cond.selects "CoinTrack$Track" ⟨"CoinTrack$Track", "hasTest", "(I)Z"⟩ ⟨"CoinTrack$Track", "hasTest", "(I)Z"⟩ ∈ gWs := gin2 (i := 194) rfl rfl
theorem tw_475 : Cond.code ⟨"CoinTrack$Track", "hasTest", "(I)Z"⟩ prog_5_method_6_code (2 : Nat) (Option.some FieldType.boolean) ∈ gWs := gin2 (i := 195) rfl rfl
theorem tw_476 : Cond.methodLink "CoinTrack" (115 : Nat) ⟨"CoinTrack$Track", "removeTest", "(I)V"⟩ ∈ gWs := gin2 (i := 196) rfl rfl
theorem tw_477 : Cond.instanceMethod ⟨"CoinTrack$Track", "removeTest", "(I)V"⟩ ∈ gWs := gin2 (i := 197) rfl rfl
theorem tw_478 : Cond.selects "CoinTrack$Track" ⟨"CoinTrack$Track", "removeTest", "(I)V"⟩ ⟨"CoinTrack$Track", "removeTest", "(I)V"⟩ ∈ gWs := gin2 (i := 198) rfl rfl
theorem tw_479 : Cond.code ⟨"CoinTrack$Track", "removeTest", "(I)V"⟩ prog_5_method_14_code (3 : Nat) (Option.none : Option FieldType) ∈ gWs := gin2 (i := 199) rfl rfl
theorem tw_480 : Cond.methodLink "CoinTrack$Track" (66 : Nat) ⟨"CoinTrack$Track", "hasTest", "(I)Z"⟩ ∈ gWs := gin2 (i := 200) rfl rfl
theorem tw_481 : Cond.methodLink "CoinTrackLaw" (49 : Nat) ⟨"CoinTrack", "sets", "(II)I"⟩ ∈ gWs := gin2 (i := 201) rfl rfl
theorem tw_482 : Cond.instanceMethod ⟨"CoinTrack", "sets", "(II)I"⟩ ∈ gWs := gin2 (i := 202) rfl rfl
theorem tw_483 : Cond.selects "CoinTrack" ⟨"CoinTrack", "sets", "(II)I"⟩ ⟨"CoinTrack", "sets", "(II)I"⟩ ∈ gWs := gin2 (i := 203) rfl rfl
theorem tw_484 : Cond.code ⟨"CoinTrack", "sets", "(II)I"⟩ prog_1_method_10_code (4 : Nat) (Option.some FieldType.int) ∈ gWs := gin2 (i := 204) rfl rfl
theorem tw_485 : Cond.methodLink "CoinTrack" (118 : Nat) ⟨"CoinTrack$Track", "ofTest", "(II)I"⟩ ∈ gWs := gin2 (i := 205) rfl rfl
theorem tw_486 : Cond.methodLink "CoinTrack" (122 : Nat) ⟨"CoinTrack$Track", "putOfTest", "(III)V"⟩ ∈ gWs := gin2 (i := 206) rfl rfl
theorem tw_487 : Cond.methodLink "CoinTrackLaw" (53 : Nat) ⟨"CoinTrack", "adds", "(IIII)I"⟩ ∈ gWs := gin2 (i := 207) rfl rfl
theorem tw_488 : Cond.instanceMethod ⟨"CoinTrack", "adds", "(IIII)I"⟩ ∈ gWs := gin2 (i := 208) rfl rfl
theorem tw_489 : Cond.selects "CoinTrack" ⟨"CoinTrack", "adds", "(IIII)I"⟩ ⟨"CoinTrack", "adds", "(IIII)I"⟩ ∈ gWs := gin2 (i := 209) rfl rfl
theorem tw_490 : Cond.code ⟨"CoinTrack", "adds", "(IIII)I"⟩ prog_1_method_11_code (5 : Nat) (Option.some FieldType.int) ∈ gWs := gin2 (i := 210) rfl rfl
theorem tw_491 : Cond.methodLink "CoinTrack" (126 : Nat) ⟨"CoinTrack", "coinFits", "(III)Z"⟩ ∈ gWs := gin2 (i := 211) rfl rfl
theorem tw_492 : Cond.static ⟨"CoinTrack", "coinFits", "(III)Z"⟩ ∈ gWs := gin2 (i := 212) rfl rfl
theorem tw_493 : Cond.code ⟨"CoinTrack", "coinFits", "(III)Z"⟩ prog_1_method_29_code (3 : Nat) (Option.some FieldType.boolean) ∈ gWs := gin2 (i := 213) rfl rfl
theorem tw_494 : Cond.methodLink "CoinTrack" (129 : Nat) ⟨"CoinTrack", "wearFits", "(II)Z"⟩ ∈ gWs := gin2 (i := 214) rfl rfl
theorem tw_495 : Cond.methodLink "CoinTrack" (135 : Nat) ⟨"CoinTrack$Track", "appendKind", "(IIIII)V"⟩ ∈ gWs := gin2 (i := 215) rfl rfl
theorem tw_496 : Cond.methodLink "CoinTrackLaw" (57 : Nat) ⟨"CoinTrack", "undo", "()I"⟩ ∈ gWs := gin2 (i := 216) rfl rfl
theorem tw_497 : Cond.instanceMethod ⟨"CoinTrack", "undo", "()I"⟩ ∈ gWs := gin2 (i := 217) rfl rfl
theorem tw_498 : Cond.selects "CoinTrack" ⟨"CoinTrack", "undo", "()I"⟩ ⟨"CoinTrack", "undo", "()I"⟩ ∈ gWs := gin2 (i := 218) rfl rfl
theorem tw_499 : Cond.code ⟨"CoinTrack", "undo", "()I"⟩ prog_1_method_12_code (1 : Nat) (Option.some FieldType.int) ∈ gWs := gin2 (i := 219) rfl rfl
theorem tw_500 : Cond.methodLink "CoinTrack" (139 : Nat) ⟨"CoinTrack$History", "recall", "(LCoinTrack$Track;)Z"⟩ ∈ gWs := gin2 (i := 220) rfl rfl
theorem tw_501 : Cond.instanceMethod ⟨"CoinTrack$History", "recall", "(LCoinTrack$Track;)Z"⟩ ∈ gWs := gin2 (i := 221) rfl rfl
theorem tw_502 : Cond.selects "CoinTrack$History" ⟨"CoinTrack$History", "recall", "(LCoinTrack$Track;)Z"⟩ ⟨"CoinTrack$History", "recall", "(LCoinTrack$Track;)Z"⟩ ∈ gWs := gin2 (i := 222) rfl rfl
theorem tw_503 : Cond.code ⟨"CoinTrack$History", "recall", "(LCoinTrack$Track;)Z"⟩ prog_2_method_3_code (3 : Nat) (Option.some FieldType.boolean) ∈ gWs := gin2 (i := 223) rfl rfl
theorem tw_504 : Cond.methodLink "CoinTrackLaw" (61 : Nat) ⟨"CoinTrack", "kind", "(II)I"⟩ ∈ gWs := gin2 (i := 224) rfl rfl
theorem tw_505 : Cond.instanceMethod ⟨"CoinTrack", "kind", "(II)I"⟩ ∈ gWs := gin2 (i := 225) rfl rfl
theorem tw_506 : Cond.selects "CoinTrack" ⟨"CoinTrack", "kind", "(II)I"⟩ ⟨"CoinTrack", "kind", "(II)I"⟩ ∈ gWs := gin2 (i := 226) rfl rfl
theorem tw_507 : Cond.code ⟨"CoinTrack", "kind", "(II)I"⟩ prog_1_method_13_code (3 : Nat) (Option.some FieldType.int) ∈ gWs := gin2 (i := 227) rfl rfl
theorem tw_508 : Cond.methodLink "CoinTrack" (146 : Nat) ⟨"CoinTrack$Track", "hasKind", "(I)Z"⟩ ∈ gWs := gin2 (i := 228) rfl rfl
theorem tw_509 : Cond.methodLink "CoinTrack" (149 : Nat) ⟨"CoinTrack$Track", "ofKind", "(II)I"⟩ ∈ gWs := gin2 (i := 229) rfl rfl
theorem tw_510 : Cond.methodLink "CoinTrack" (152 : Nat) ⟨"CoinTrack$Track", "binsOf", "(I)I"⟩ ∈ gWs := gin2 (i := 230) rfl rfl
theorem tw_511 : Cond.instanceMethod ⟨"CoinTrack$Track", "binsOf", "(I)I"⟩ ∈ gWs := gin2 (i := 231) rfl rfl
theorem tw_512 : Cond.selects "CoinTrack$Track" ⟨"CoinTrack$Track", "binsOf", "(I)I"⟩ ⟨"CoinTrack$Track", "binsOf", "(I)I"⟩ ∈ gWs := gin2 (i := 232) rfl rfl
theorem tw_513 : Cond.code ⟨"CoinTrack$Track", "binsOf", "(I)I"⟩ prog_5_method_26_code (5 : Nat) (Option.some FieldType.int) ∈ gWs := gin2 (i := 233) rfl rfl
theorem tw_514 : Cond.methodLink "CoinTrack$Track" (83 : Nat) ⟨"CoinTrack$Track", "binOfCoin", "(III)I"⟩ ∈ gWs := gin2 (i := 234) rfl rfl
theorem tw_515 : Cond.methodLink "CoinTrack" (155 : Nat) ⟨"CoinTrack$Track", "greatestToll", "(I)I"⟩ ∈ gWs := gin2 (i := 235) rfl rfl
theorem tw_516 : Cond.instanceMethod ⟨"CoinTrack$Track", "greatestToll", "(I)I"⟩ ∈ gWs := gin2 (i := 236) rfl rfl
theorem tw_517 : Cond.selects "CoinTrack$Track" ⟨"CoinTrack$Track", "greatestToll", "(I)I"⟩ ⟨"CoinTrack$Track", "greatestToll", "(I)I"⟩ ∈ gWs := gin2 (i := 237) rfl rfl
theorem tw_518 : Cond.code ⟨"CoinTrack$Track", "greatestToll", "(I)I"⟩ prog_5_method_33_code (5 : Nat) (Option.some FieldType.int) ∈ gWs := gin2 (i := 238) rfl rfl
theorem tw_519 : Cond.methodLink "CoinTrack$Track" (87 : Nat) ⟨"CoinTrack$Track", "binsOf", "(I)I"⟩ ∈ gWs := gin2 (i := 239) rfl rfl
theorem tw_520 : Cond.methodLink "CoinTrack$Track" (97 : Nat) ⟨"CoinTrack$Track", "tollTo", "(I)I"⟩ ∈ gWs := gin3 (i := 0) rfl rfl
theorem tw_521 : Cond.instanceMethod ⟨"CoinTrack$Track", "tollTo", "(I)I"⟩ ∈ gWs := gin3 (i := 1) rfl rfl
theorem tw_522 : Cond.selects "CoinTrack$Track" ⟨"CoinTrack$Track", "tollTo", "(I)I"⟩ ⟨"CoinTrack$Track", "tollTo", "(I)I"⟩ ∈ gWs := gin3 (i := 2) rfl rfl
theorem tw_523 : Cond.code ⟨"CoinTrack$Track", "tollTo", "(I)I"⟩ prog_5_method_32_code (4 : Nat) (Option.some FieldType.int) ∈ gWs := gin3 (i := 3) rfl rfl
theorem tw_524 : Cond.methodLink "CoinTrack$Track" (100 : Nat) ⟨"java/lang/Math", "max", "(II)I"⟩ ∈ gWs := gin3 (i := 4) rfl rfl
theorem tw_525 : Cond.static ⟨"java/lang/Math", "max", "(II)I"⟩ ∈ gWs := gin3 (i := 5) rfl rfl
theorem tw_526 : Cond.code ⟨"java/lang/Math", "max", "(II)I"⟩ prog_10_method_65_code (2 : Nat) (Option.some FieldType.int) ∈ gWs := gin3 (i := 6) rfl rfl
theorem tw_527 : Cond.methodLink "CoinTrack" (158 : Nat) ⟨"CoinTrack$Track", "bears", "(I)I"⟩ ∈ gWs := gin3 (i := 7) rfl rfl
theorem tw_528 : Cond.instanceMethod ⟨"CoinTrack$Track", "bears", "(I)I"⟩ ∈ gWs := gin3 (i := 8) rfl rfl
theorem tw_529 : Cond.selects "CoinTrack$Track" ⟨"CoinTrack$Track", "bears", "(I)I"⟩ ⟨"CoinTrack$Track", "bears", "(I)I"⟩ ∈ gWs := gin3 (i := 9) rfl rfl
theorem tw_530 : Cond.code ⟨"CoinTrack$Track", "bears", "(I)I"⟩ prog_5_method_30_code (6 : Nat) (Option.some FieldType.int) ∈ gWs := gin3 (i := 10) rfl rfl
theorem tw_531 : Cond.methodLink "CoinTrack$Track" (91 : Nat) ⟨"CoinTrack$Track", "binsOfAllBut", "(I)I"⟩ ∈ gWs := gin3 (i := 11) rfl rfl
theorem tw_532 : Cond.instanceMethod ⟨"CoinTrack$Track", "binsOfAllBut", "(I)I"⟩ ∈ gWs := gin3 (i := 12) rfl rfl
theorem tw_533 : Cond.selects "CoinTrack$Track" ⟨"CoinTrack$Track", "binsOfAllBut", "(I)I"⟩ ⟨"CoinTrack$Track", "binsOfAllBut", "(I)I"⟩ ∈ gWs := gin3 (i := 13) rfl rfl
theorem tw_534 : Cond.code ⟨"CoinTrack$Track", "binsOfAllBut", "(I)I"⟩ prog_5_method_29_code (5 : Nat) (Option.some FieldType.int) ∈ gWs := gin3 (i := 14) rfl rfl
theorem tw_535 : Cond.methodLink "CoinTrackLaw" (65 : Nat) ⟨"CoinTrack", "test", "(II)I"⟩ ∈ gWs := gin3 (i := 15) rfl rfl
theorem tw_536 : Cond.instanceMethod ⟨"CoinTrack", "test", "(II)I"⟩ ∈ gWs := gin3 (i := 16) rfl rfl
theorem tw_537 : Cond.selects "CoinTrack" ⟨"CoinTrack", "test", "(II)I"⟩ ⟨"CoinTrack", "test", "(II)I"⟩ ∈ gWs := gin3 (i := 17) rfl rfl
theorem tw_538 : Cond.code ⟨"CoinTrack", "test", "(II)I"⟩ prog_1_method_14_code (3 : Nat) (Option.some FieldType.int) ∈ gWs := gin3 (i := 18) rfl rfl
theorem tw_539 : Cond.methodLink "CoinTrackLaw" (69 : Nat) ⟨"CoinTrack", "bin", "(II)I"⟩ ∈ gWs := gin3 (i := 19) rfl rfl
theorem tw_540 : Cond.instanceMethod ⟨"CoinTrack", "bin", "(II)I"⟩ ∈ gWs := gin3 (i := 20) rfl rfl
theorem tw_541 : Cond.selects "CoinTrack" ⟨"CoinTrack", "bin", "(II)I"⟩ ⟨"CoinTrack", "bin", "(II)I"⟩ ∈ gWs := gin3 (i := 21) rfl rfl
theorem tw_542 : Cond.code ⟨"CoinTrack", "bin", "(II)I"⟩ prog_1_method_15_code (3 : Nat) (Option.some FieldType.int) ∈ gWs := gin3 (i := 22) rfl rfl
theorem tw_543 : Cond.methodLink "CoinTrack" (161 : Nat) ⟨"CoinTrack$Track", "kindsOf", "(I)I"⟩ ∈ gWs := gin3 (i := 23) rfl rfl
theorem tw_544 : Cond.instanceMethod ⟨"CoinTrack$Track", "kindsOf", "(I)I"⟩ ∈ gWs := gin3 (i := 24) rfl rfl
theorem tw_545 : Cond.selects "CoinTrack$Track" ⟨"CoinTrack$Track", "kindsOf", "(I)I"⟩ ⟨"CoinTrack$Track", "kindsOf", "(I)I"⟩ ∈ gWs := gin3 (i := 25) rfl rfl
theorem tw_546 : Cond.code ⟨"CoinTrack$Track", "kindsOf", "(I)I"⟩ prog_5_method_27_code (4 : Nat) (Option.some FieldType.int) ∈ gWs := gin3 (i := 26) rfl rfl
theorem tw_547 : Cond.methodLink "CoinTrackLaw" (73 : Nat) ⟨"CoinTrack", "coin", "(IIII)I"⟩ ∈ gWs := gin3 (i := 27) rfl rfl
theorem tw_548 : Cond.instanceMethod ⟨"CoinTrack", "coin", "(IIII)I"⟩ ∈ gWs := gin3 (i := 28) rfl rfl
theorem tw_549 : Cond.selects "CoinTrack" ⟨"CoinTrack", "coin", "(IIII)I"⟩ ⟨"CoinTrack", "coin", "(IIII)I"⟩ ∈ gWs := gin3 (i := 29) rfl rfl
theorem tw_550 : Cond.code ⟨"CoinTrack", "coin", "(IIII)I"⟩ prog_1_method_16_code (6 : Nat) (Option.some FieldType.int) ∈ gWs := gin3 (i := 30) rfl rfl
theorem tw_551 : Cond.methodLink "CoinTrack" (164 : Nat) ⟨"CoinTrack$Track", "binOf", "(IIII)I"⟩ ∈ gWs := gin3 (i := 31) rfl rfl
theorem tw_552 : Cond.methodLink "CoinTrack" (168 : Nat) ⟨"CoinTrack$Track", "tollTo", "(I)I"⟩ ∈ gWs := gin3 (i := 32) rfl rfl
theorem tw_553 : Cond.methodLink "CoinTrackLaw" (77 : Nat) ⟨"CoinTrack", "track", "(I)I"⟩ ∈ gWs := gin3 (i := 33) rfl rfl
theorem tw_554 : Cond.instanceMethod ⟨"CoinTrack", "track", "(I)I"⟩ ∈ gWs := gin3 (i := 34) rfl rfl
theorem tw_555 : Cond.selects "CoinTrack" ⟨"CoinTrack", "track", "(I)I"⟩ ⟨"CoinTrack", "track", "(I)I"⟩ ∈ gWs := gin3 (i := 35) rfl rfl
theorem tw_556 : Cond.code ⟨"CoinTrack", "track", "(I)I"⟩ prog_1_method_17_code (2 : Nat) (Option.some FieldType.int) ∈ gWs := gin3 (i := 36) rfl rfl
theorem tw_557 : Cond.methodLink "CoinTrack" (171 : Nat) ⟨"CoinTrack$Track", "apart", "()Z"⟩ ∈ gWs := gin3 (i := 37) rfl rfl
theorem tw_558 : Cond.instanceMethod ⟨"CoinTrack$Track", "apart", "()Z"⟩ ∈ gWs := gin3 (i := 38) rfl rfl
theorem tw_559 : Cond.selects "CoinTrack$Track" ⟨"CoinTrack$Track", "apart", "()Z"⟩ ⟨"CoinTrack$Track", "apart", "()Z"⟩ ∈ gWs := gin3 (i := 39) rfl rfl
theorem tw_560 : Cond.code ⟨"CoinTrack$Track", "apart", "()Z"⟩ prog_5_method_28_code (1 : Nat) (Option.some FieldType.boolean) ∈ gWs := gin3 (i := 40) rfl rfl
theorem tw_561 : Cond.methodLink "CoinTrack" (175 : Nat) ⟨"CoinTrack$Track", "doubtful", "()I"⟩ ∈ gWs := gin3 (i := 41) rfl rfl
theorem tw_562 : Cond.instanceMethod ⟨"CoinTrack$Track", "doubtful", "()I"⟩ ∈ gWs := gin3 (i := 42) rfl rfl
theorem tw_563 : Cond.selects "CoinTrack$Track" ⟨"CoinTrack$Track", "doubtful", "()I"⟩ ⟨"CoinTrack$Track", "doubtful", "()I"⟩ ∈ gWs := gin3 (i := 43) rfl rfl
theorem tw_564 : Cond.code ⟨"CoinTrack$Track", "doubtful", "()I"⟩ prog_5_method_31_code (4 : Nat) (Option.some FieldType.int) ∈ gWs := gin3 (i := 44) rfl rfl
theorem tw_566 : Cond.static ⟨"CoinTrack", "isOneAtMost", "(I)Z"⟩ ∈ gWs := gin3 (i := 46) rfl rfl
theorem tw_567 : Cond.code ⟨"CoinTrack", "isOneAtMost", "(I)Z"⟩ prog_1_method_31_code (1 : Nat) (Option.some FieldType.boolean) ∈ gWs := gin3 (i := 47) rfl rfl
theorem tw_568 : Cond.methodLink "CoinTrack" (178 : Nat) ⟨"CoinTrack$Track", "price", "()I"⟩ ∈ gWs := gin3 (i := 48) rfl rfl
theorem tw_569 : Cond.instanceMethod ⟨"CoinTrack$Track", "price", "()I"⟩ ∈ gWs := gin3 (i := 49) rfl rfl
theorem tw_570 : Cond.selects "CoinTrack$Track" ⟨"CoinTrack$Track", "price", "()I"⟩ ⟨"CoinTrack$Track", "price", "()I"⟩ ∈ gWs := gin3 (i := 50) rfl rfl
theorem tw_571 : Cond.code ⟨"CoinTrack$Track", "price", "()I"⟩ prog_5_method_34_code (3 : Nat) (Option.some FieldType.int) ∈ gWs := gin3 (i := 51) rfl rfl
theorem tw_572 : Cond.methodLink "CoinTrack$Track" (105 : Nat) ⟨"CoinTrack$Track", "greatestToll", "(I)I"⟩ ∈ gWs := gin3 (i := 52) rfl rfl
theorem tw_573 : Cond.methodLink "CoinTrack" (181 : Nat) ⟨"CoinTrack$Planner", "fewest", "(LCoinTrack$Track;)I"⟩ ∈ gWs := gin3 (i := 53) rfl rfl
theorem tw_574 : Cond.instanceMethod ⟨"CoinTrack$Planner", "fewest", "(LCoinTrack$Track;)I"⟩ ∈ gWs := gin3 (i := 54) rfl rfl
theorem tw_575 : Cond.selects "CoinTrack$Planner" ⟨"CoinTrack$Planner", "fewest", "(LCoinTrack$Track;)I"⟩ ⟨"CoinTrack$Planner", "fewest", "(LCoinTrack$Track;)I"⟩ ∈ gWs := gin3 (i := 55) rfl rfl
theorem tw_576 : Cond.code ⟨"CoinTrack$Planner", "fewest", "(LCoinTrack$Track;)I"⟩ prog_3_method_4_code (5 : Nat) (Option.some FieldType.int) ∈ gWs := gin3 (i := 56) rfl rfl
theorem tw_577 : Cond.methodLink "CoinTrack$Planner" (44 : Nat) ⟨"CoinTrack$Planner", "study", "(LCoinTrack$Track;)V"⟩ ∈ gWs := gin3 (i := 57) rfl rfl
theorem tw_578 : Cond.instanceMethod ⟨"CoinTrack$Planner", "study", "(LCoinTrack$Track;)V"⟩ ∈ gWs := gin3 (i := 58) rfl rfl
theorem tw_579 : Cond.selects "CoinTrack$Planner" ⟨"CoinTrack$Planner", "study", "(LCoinTrack$Track;)V"⟩ ⟨"CoinTrack$Planner", "study", "(LCoinTrack$Track;)V"⟩ ∈ gWs := gin3 (i := 59) rfl rfl
theorem tw_580 : Cond.code ⟨"CoinTrack$Planner", "study", "(LCoinTrack$Track;)V"⟩ prog_3_method_2_code (7 : Nat) (Option.none : Option FieldType) ∈ gWs := gin3 (i := 60) rfl rfl
theorem tw_581 : Cond.methodLink "CoinTrack$Planner" (33 : Nat) ⟨"CoinTrack$Track", "ofKind", "(II)I"⟩ ∈ gWs := gin3 (i := 61) rfl rfl
theorem tw_582 : Cond.methodLink "CoinTrack$Planner" (37 : Nat) ⟨"CoinTrack$Track", "stopsOf", "(II)I"⟩ ∈ gWs := gin3 (i := 62) rfl rfl
theorem tw_583 : Cond.instanceMethod ⟨"CoinTrack$Track", "stopsOf", "(II)I"⟩ ∈ gWs := gin3 (i := 63) rfl rfl
theorem tw_584 : Cond.selects "CoinTrack$Track" ⟨"CoinTrack$Track", "stopsOf", "(II)I"⟩ ⟨"CoinTrack$Track", "stopsOf", "(II)I"⟩ ∈ gWs := gin3 (i := 64) rfl rfl
theorem tw_585 : Cond.code ⟨"CoinTrack$Track", "stopsOf", "(II)I"⟩ prog_5_method_25_code (8 : Nat) (Option.some FieldType.int) ∈ gWs := gin3 (i := 65) rfl rfl
theorem tw_586 : Cond.methodLink "CoinTrack$Planner" (40 : Nat) ⟨"CoinTrack$Planner", "appendVariety", "(II)V"⟩ ∈ gWs := gin3 (i := 66) rfl rfl
theorem tw_587 : Cond.instanceMethod ⟨"CoinTrack$Planner", "appendVariety", "(II)V"⟩ ∈ gWs := gin3 (i := 67) rfl rfl
theorem tw_588 : Cond.selects "CoinTrack$Planner" ⟨"CoinTrack$Planner", "appendVariety", "(II)V"⟩ ⟨"CoinTrack$Planner", "appendVariety", "(II)V"⟩ ∈ gWs := gin3 (i := 68) rfl rfl
theorem tw_589 : Cond.code ⟨"CoinTrack$Planner", "appendVariety", "(II)V"⟩ prog_3_method_3_code (3 : Nat) (Option.none : Option FieldType) ∈ gWs := gin3 (i := 69) rfl rfl
theorem tw_590 : Cond.methodLink "CoinTrack$Planner" (51 : Nat) ⟨"java/lang/Integer", "bitCount", "(I)I"⟩ ∈ gWs := gin3 (i := 70) rfl rfl
theorem tw_591 : Cond.static ⟨"java/lang/Integer", "bitCount", "(I)I"⟩ ∈ gWs := gin3 (i := 71) rfl rfl
theorem tw_592 : Cond.code ⟨"java/lang/Integer", "bitCount", "(I)I"⟩ prog_9_method_49_code (1 : Nat) (Option.some FieldType.int) ∈ gWs := gin3 (i := 72) rfl rfl
theorem tw_593 : Cond.constant "java/lang/Integer" (265 : Nat) (1431655765 : Int32) ∈ gWs := gin3 (i := 73) rfl rfl
theorem tw_594 : Cond.constant "java/lang/Integer" (266 : Nat) (858993459 : Int32) ∈ gWs := gin3 (i := 74) rfl rfl
theorem tw_595 : Cond.constant "java/lang/Integer" (267 : Nat) (252645135 : Int32) ∈ gWs := gin3 (i := 75) rfl rfl
theorem tw_596 : Cond.methodLink "CoinTrack$Planner" (57 : Nat) ⟨"CoinTrack$Planner", "apartBy", "(LCoinTrack$Track;I)Z"⟩ ∈ gWs := gin3 (i := 76) rfl rfl
theorem tw_597 : Cond.instanceMethod ⟨"CoinTrack$Planner", "apartBy", "(LCoinTrack$Track;I)Z"⟩ ∈ gWs := gin3 (i := 77) rfl rfl
theorem tw_598 : Cond.selects "CoinTrack$Planner" ⟨"CoinTrack$Planner", "apartBy", "(LCoinTrack$Track;I)Z"⟩ ⟨"CoinTrack$Planner", "apartBy", "(LCoinTrack$Track;I)Z"⟩ ∈ gWs := gin3 (i := 78) rfl rfl
theorem tw_599 : Cond.code ⟨"CoinTrack$Planner", "apartBy", "(LCoinTrack$Track;I)Z"⟩ prog_3_method_5_code (6 : Nat) (Option.some FieldType.boolean) ∈ gWs := gin3 (i := 79) rfl rfl
theorem tw_600 : Cond.methodLink "CoinTrack$Planner" (61 : Nat) ⟨"CoinTrack$Planner", "kindsFalling", "(II)I"⟩ ∈ gWs := gin3 (i := 80) rfl rfl
theorem tw_601 : Cond.instanceMethod ⟨"CoinTrack$Planner", "kindsFalling", "(II)I"⟩ ∈ gWs := gin3 (i := 81) rfl rfl
theorem tw_602 : Cond.selects "CoinTrack$Planner" ⟨"CoinTrack$Planner", "kindsFalling", "(II)I"⟩ ⟨"CoinTrack$Planner", "kindsFalling", "(II)I"⟩ ∈ gWs := gin3 (i := 82) rfl rfl
theorem tw_603 : Cond.code ⟨"CoinTrack$Planner", "kindsFalling", "(II)I"⟩ prog_3_method_10_code (5 : Nat) (Option.some FieldType.int) ∈ gWs := gin3 (i := 83) rfl rfl
theorem tw_605 : Cond.methodLink "CoinTrack$Planner" (68 : Nat) ⟨"CoinTrack$Planner", "kindsRolling", "(I)I"⟩ ∈ gWs := gin3 (i := 85) rfl rfl
theorem tw_606 : Cond.instanceMethod ⟨"CoinTrack$Planner", "kindsRolling", "(I)I"⟩ ∈ gWs := gin3 (i := 86) rfl rfl
theorem tw_607 : Cond.selects "CoinTrack$Planner" ⟨"CoinTrack$Planner", "kindsRolling", "(I)I"⟩ ⟨"CoinTrack$Planner", "kindsRolling", "(I)I"⟩ ∈ gWs := gin3 (i := 87) rfl rfl
theorem tw_608 : Cond.code ⟨"CoinTrack$Planner", "kindsRolling", "(I)I"⟩ prog_3_method_9_code (2 : Nat) (Option.some FieldType.int) ∈ gWs := gin3 (i := 88) rfl rfl
theorem tw_609 : Cond.methodLink "CoinTrackLaw" (81 : Nat) ⟨"CoinTrack", "order", "(I)I"⟩ ∈ gWs := gin3 (i := 89) rfl rfl
theorem tw_610 : Cond.instanceMethod ⟨"CoinTrack", "order", "(I)I"⟩ ∈ gWs := gin3 (i := 90) rfl rfl
theorem tw_611 : Cond.selects "CoinTrack" ⟨"CoinTrack", "order", "(I)I"⟩ ⟨"CoinTrack", "order", "(I)I"⟩ ∈ gWs := gin3 (i := 91) rfl rfl
theorem tw_612 : Cond.code ⟨"CoinTrack", "order", "(I)I"⟩ prog_1_method_18_code (3 : Nat) (Option.some FieldType.int) ∈ gWs := gin3 (i := 92) rfl rfl
theorem tw_613 : Cond.methodLink "CoinTrack" (185 : Nat) ⟨"CoinTrack$Planner", "plan", "(LCoinTrack$Track;)I"⟩ ∈ gWs := gin3 (i := 93) rfl rfl
theorem tw_614 : Cond.instanceMethod ⟨"CoinTrack$Planner", "plan", "(LCoinTrack$Track;)I"⟩ ∈ gWs := gin3 (i := 94) rfl rfl
theorem tw_615 : Cond.selects "CoinTrack$Planner" ⟨"CoinTrack$Planner", "plan", "(LCoinTrack$Track;)I"⟩ ⟨"CoinTrack$Planner", "plan", "(LCoinTrack$Track;)I"⟩ ∈ gWs := gin3 (i := 95) rfl rfl
theorem tw_616 : Cond.code ⟨"CoinTrack$Planner", "plan", "(LCoinTrack$Track;)I"⟩ prog_3_method_6_code (4 : Nat) (Option.some FieldType.int) ∈ gWs := gin3 (i := 96) rfl rfl
theorem tw_617 : Cond.methodLink "CoinTrack$Planner" (71 : Nat) ⟨"java/lang/Math", "min", "(II)I"⟩ ∈ gWs := gin3 (i := 97) rfl rfl
theorem tw_618 : Cond.methodLink "CoinTrack$Planner" (76 : Nat) ⟨"CoinTrack$Planner", "planBehind", "(LCoinTrack$Track;II)V"⟩ ∈ gWs := gin3 (i := 98) rfl rfl
theorem tw_619 : Cond.instanceMethod ⟨"CoinTrack$Planner", "planBehind", "(LCoinTrack$Track;II)V"⟩ ∈ gWs := gin3 (i := 99) rfl rfl
theorem tw_620 : Cond.selects "CoinTrack$Planner" ⟨"CoinTrack$Planner", "planBehind", "(LCoinTrack$Track;II)V"⟩ ⟨"CoinTrack$Planner", "planBehind", "(LCoinTrack$Track;II)V"⟩ ∈ gWs := gin3 (i := 100) rfl rfl
theorem tw_621 : Cond.code ⟨"CoinTrack$Planner", "planBehind", "(LCoinTrack$Track;II)V"⟩ prog_3_method_7_code (8 : Nat) (Option.none : Option FieldType) ∈ gWs := gin3 (i := 101) rfl rfl
theorem tw_622 : Cond.methodLink "CoinTrack$Planner" (80 : Nat) ⟨"CoinTrack$Planner", "shareOf", "(LCoinTrack$Track;I)I"⟩ ∈ gWs := gin3 (i := 102) rfl rfl
theorem tw_623 : Cond.instanceMethod ⟨"CoinTrack$Planner", "shareOf", "(LCoinTrack$Track;I)I"⟩ ∈ gWs := gin3 (i := 103) rfl rfl
theorem tw_624 : Cond.selects "CoinTrack$Planner" ⟨"CoinTrack$Planner", "shareOf", "(LCoinTrack$Track;I)I"⟩ ⟨"CoinTrack$Planner", "shareOf", "(LCoinTrack$Track;I)I"⟩ ∈ gWs := gin3 (i := 104) rfl rfl
theorem tw_625 : Cond.code ⟨"CoinTrack$Planner", "shareOf", "(LCoinTrack$Track;I)I"⟩ prog_3_method_11_code (5 : Nat) (Option.some FieldType.int) ∈ gWs := gin3 (i := 105) rfl rfl
theorem tw_626 : Cond.methodLink "CoinTrack$Planner" (84 : Nat) ⟨"CoinTrack$Planner", "priceBy", "(LCoinTrack$Track;III)I"⟩ ∈ gWs := gin3 (i := 106) rfl rfl
theorem tw_627 : Cond.instanceMethod ⟨"CoinTrack$Planner", "priceBy", "(LCoinTrack$Track;III)I"⟩ ∈ gWs := gin3 (i := 107) rfl rfl
theorem tw_628 : Cond.selects "CoinTrack$Planner" ⟨"CoinTrack$Planner", "priceBy", "(LCoinTrack$Track;III)I"⟩ ⟨"CoinTrack$Planner", "priceBy", "(LCoinTrack$Track;III)I"⟩ ∈ gWs := gin3 (i := 108) rfl rfl
theorem tw_629 : Cond.code ⟨"CoinTrack$Planner", "priceBy", "(LCoinTrack$Track;III)I"⟩ prog_3_method_8_code (6 : Nat) (Option.some FieldType.int) ∈ gWs := gin3 (i := 109) rfl rfl
theorem tw_630 : Cond.methodLink "CoinTrack$Planner" (88 : Nat) ⟨"CoinTrack$Track", "ofTest", "(II)I"⟩ ∈ gWs := gin3 (i := 110) rfl rfl
theorem tw_631 : Cond.methodLink "CoinTrack" (188 : Nat) ⟨"CoinTrack$Planner", "placed", "(LCoinTrack$Track;I)I"⟩ ∈ gWs := gin3 (i := 111) rfl rfl
theorem tw_632 : Cond.instanceMethod ⟨"CoinTrack$Planner", "placed", "(LCoinTrack$Track;I)I"⟩ ∈ gWs := gin3 (i := 112) rfl rfl
theorem tw_633 : Cond.selects "CoinTrack$Planner" ⟨"CoinTrack$Planner", "placed", "(LCoinTrack$Track;I)I"⟩ ⟨"CoinTrack$Planner", "placed", "(LCoinTrack$Track;I)I"⟩ ∈ gWs := gin3 (i := 113) rfl rfl
theorem tw_634 : Cond.code ⟨"CoinTrack$Planner", "placed", "(LCoinTrack$Track;I)I"⟩ prog_3_method_12_code (5 : Nat) (Option.some FieldType.int) ∈ gWs := gin3 (i := 114) rfl rfl
theorem tw_635 : Cond.methodLink "CoinTrack$Planner" (91 : Nat) ⟨"CoinTrack$Track", "hasTest", "(I)Z"⟩ ∈ gWs := gin3 (i := 115) rfl rfl
theorem tw_636 : Cond.methodLink "CoinTrack$Planner" (94 : Nat) ⟨"CoinTrack$Planner", "testBehind", "(I)I"⟩ ∈ gWs := gin3 (i := 116) rfl rfl
theorem tw_637 : Cond.instanceMethod ⟨"CoinTrack$Planner", "testBehind", "(I)I"⟩ ∈ gWs := gin3 (i := 117) rfl rfl
theorem tw_638 : Cond.selects "CoinTrack$Planner" ⟨"CoinTrack$Planner", "testBehind", "(I)I"⟩ ⟨"CoinTrack$Planner", "testBehind", "(I)I"⟩ ∈ gWs := gin3 (i := 118) rfl rfl
theorem tw_639 : Cond.code ⟨"CoinTrack$Planner", "testBehind", "(I)I"⟩ prog_3_method_13_code (2 : Nat) (Option.some FieldType.int) ∈ gWs := gin3 (i := 119) rfl rfl
theorem tw_640 : Cond.methodLink "CoinTrackLaw" (85 : Nat) ⟨"CoinTrack", "sees", "(III)I"⟩ ∈ gWs := gin3 (i := 120) rfl rfl
theorem tw_641 : Cond.instanceMethod ⟨"CoinTrack", "sees", "(III)I"⟩ ∈ gWs := gin3 (i := 121) rfl rfl
theorem tw_642 : Cond.selects "CoinTrack" ⟨"CoinTrack", "sees", "(III)I"⟩ ⟨"CoinTrack", "sees", "(III)I"⟩ ∈ gWs := gin3 (i := 122) rfl rfl
theorem tw_643 : Cond.code ⟨"CoinTrack", "sees", "(III)I"⟩ prog_1_method_19_code (4 : Nat) (Option.some FieldType.int) ∈ gWs := gin3 (i := 123) rfl rfl
theorem tw_644 : Cond.methodLink "CoinTrack" (192 : Nat) ⟨"CoinTrack$Witness", "append", "(III)Z"⟩ ∈ gWs := gin3 (i := 124) rfl rfl
theorem tw_645 : Cond.instanceMethod ⟨"CoinTrack$Witness", "append", "(III)Z"⟩ ∈ gWs := gin3 (i := 125) rfl rfl
theorem tw_646 : Cond.selects "CoinTrack$Witness" ⟨"CoinTrack$Witness", "append", "(III)Z"⟩ ⟨"CoinTrack$Witness", "append", "(III)Z"⟩ ∈ gWs := gin3 (i := 126) rfl rfl
theorem tw_647 : Cond.code ⟨"CoinTrack$Witness", "append", "(III)Z"⟩ prog_6_method_2_code (5 : Nat) (Option.some FieldType.boolean) ∈ gWs := gin3 (i := 127) rfl rfl
theorem tw_648 : Cond.methodLink "CoinTrackLaw" (90 : Nat) ⟨"CoinTrack", "forget", "()I"⟩ ∈ gWs := gin3 (i := 128) rfl rfl
theorem tw_649 : Cond.instanceMethod ⟨"CoinTrack", "forget", "()I"⟩ ∈ gWs := gin3 (i := 129) rfl rfl
theorem tw_650 : Cond.selects "CoinTrack" ⟨"CoinTrack", "forget", "()I"⟩ ⟨"CoinTrack", "forget", "()I"⟩ ∈ gWs := gin3 (i := 130) rfl rfl
theorem tw_651 : Cond.code ⟨"CoinTrack", "forget", "()I"⟩ prog_1_method_20_code (2 : Nat) (Option.some FieldType.int) ∈ gWs := gin3 (i := 131) rfl rfl
theorem tw_652 : Cond.methodLink "CoinTrackLaw" (94 : Nat) ⟨"CoinTrack", "suspects", "(I)I"⟩ ∈ gWs := gin3 (i := 132) rfl rfl
theorem tw_653 : Cond.instanceMethod ⟨"CoinTrack", "suspects", "(I)I"⟩ ∈ gWs := gin3 (i := 133) rfl rfl
theorem tw_654 : Cond.selects "CoinTrack" ⟨"CoinTrack", "suspects", "(I)I"⟩ ⟨"CoinTrack", "suspects", "(I)I"⟩ ∈ gWs := gin3 (i := 134) rfl rfl
theorem tw_655 : Cond.code ⟨"CoinTrack", "suspects", "(I)I"⟩ prog_1_method_21_code (2 : Nat) (Option.some FieldType.int) ∈ gWs := gin3 (i := 135) rfl rfl
theorem tw_656 : Cond.constant "CoinTrack" (197 : Nat) (-1000000 : Int32) ∈ gWs := gin3 (i := 136) rfl rfl
theorem tw_657 : Cond.methodLink "CoinTrack" (198 : Nat) ⟨"CoinTrack$Witness", "gather", "(LCoinTrack$Track;)V"⟩ ∈ gWs := gin3 (i := 137) rfl rfl
theorem tw_658 : Cond.instanceMethod ⟨"CoinTrack$Witness", "gather", "(LCoinTrack$Track;)V"⟩ ∈ gWs := gin3 (i := 138) rfl rfl
theorem tw_659 : Cond.selects "CoinTrack$Witness" ⟨"CoinTrack$Witness", "gather", "(LCoinTrack$Track;)V"⟩ ⟨"CoinTrack$Witness", "gather", "(LCoinTrack$Track;)V"⟩ ∈ gWs := gin3 (i := 139) rfl rfl
theorem tw_660 : Cond.code ⟨"CoinTrack$Witness", "gather", "(LCoinTrack$Track;)V"⟩ prog_6_method_3_code (3 : Nat) (Option.none : Option FieldType) ∈ gWs := gin3 (i := 140) rfl rfl
theorem tw_661 : Cond.methodLink "CoinTrack$Witness" (28 : Nat) ⟨"CoinTrack$Witness", "accuse", "(LCoinTrack$Track;I)V"⟩ ∈ gWs := gin3 (i := 141) rfl rfl
theorem tw_662 : Cond.instanceMethod ⟨"CoinTrack$Witness", "accuse", "(LCoinTrack$Track;I)V"⟩ ∈ gWs := gin3 (i := 142) rfl rfl
theorem tw_663 : Cond.selects "CoinTrack$Witness" ⟨"CoinTrack$Witness", "accuse", "(LCoinTrack$Track;I)V"⟩ ⟨"CoinTrack$Witness", "accuse", "(LCoinTrack$Track;I)V"⟩ ∈ gWs := gin3 (i := 143) rfl rfl
theorem tw_664 : Cond.code ⟨"CoinTrack$Witness", "accuse", "(LCoinTrack$Track;I)V"⟩ prog_6_method_4_code (3 : Nat) (Option.none : Option FieldType) ∈ gWs := gin3 (i := 144) rfl rfl
theorem tw_665 : Cond.methodLink "CoinTrack$Witness" (41 : Nat) ⟨"CoinTrack$Witness", "explainsAll", "(LCoinTrack$Track;I)Z"⟩ ∈ gWs := gin3 (i := 145) rfl rfl
theorem tw_666 : Cond.instanceMethod ⟨"CoinTrack$Witness", "explainsAll", "(LCoinTrack$Track;I)Z"⟩ ∈ gWs := gin3 (i := 146) rfl rfl
theorem tw_667 : Cond.selects "CoinTrack$Witness" ⟨"CoinTrack$Witness", "explainsAll", "(LCoinTrack$Track;I)Z"⟩ ⟨"CoinTrack$Witness", "explainsAll", "(LCoinTrack$Track;I)Z"⟩ ∈ gWs := gin3 (i := 147) rfl rfl
theorem tw_668 : Cond.code ⟨"CoinTrack$Witness", "explainsAll", "(LCoinTrack$Track;I)Z"⟩ prog_6_method_5_code (6 : Nat) (Option.some FieldType.boolean) ∈ gWs := gin3 (i := 148) rfl rfl
theorem tw_669 : Cond.methodLink "CoinTrack$Witness" (45 : Nat) ⟨"CoinTrack$Track", "hasCoin", "(II)Z"⟩ ∈ gWs := gin3 (i := 149) rfl rfl
theorem tw_670 : Cond.methodLink "CoinTrack$Witness" (49 : Nat) ⟨"CoinTrack$Track", "binOfCoin", "(III)I"⟩ ∈ gWs := gin3 (i := 150) rfl rfl
theorem tw_671 : Cond.methodLink "CoinTrack$Witness" (37 : Nat) ⟨"CoinTrack$Track", "ofTest", "(II)I"⟩ ∈ gWs := gin3 (i := 151) rfl rfl
theorem tw_672 : Cond.methodLink "CoinTrack" (204 : Nat) ⟨"CoinTrack$Witness", "firstSuspect", "()I"⟩ ∈ gWs := gin3 (i := 152) rfl rfl
theorem tw_673 : Cond.instanceMethod ⟨"CoinTrack$Witness", "firstSuspect", "()I"⟩ ∈ gWs := gin3 (i := 153) rfl rfl
theorem tw_674 : Cond.selects "CoinTrack$Witness" ⟨"CoinTrack$Witness", "firstSuspect", "()I"⟩ ⟨"CoinTrack$Witness", "firstSuspect", "()I"⟩ ∈ gWs := gin3 (i := 154) rfl rfl
theorem tw_675 : Cond.code ⟨"CoinTrack$Witness", "firstSuspect", "()I"⟩ prog_6_method_6_code (1 : Nat) (Option.some FieldType.int) ∈ gWs := gin3 (i := 155) rfl rfl
theorem tw_676 : Cond.methodLink "CoinTrackLaw" (98 : Nat) ⟨"CoinTrack", "look", "()I"⟩ ∈ gWs := gin3 (i := 156) rfl rfl
theorem tw_677 : Cond.instanceMethod ⟨"CoinTrack", "look", "()I"⟩ ∈ gWs := gin3 (i := 157) rfl rfl
theorem tw_678 : Cond.selects "CoinTrack" ⟨"CoinTrack", "look", "()I"⟩ ⟨"CoinTrack", "look", "()I"⟩ ∈ gWs := gin3 (i := 158) rfl rfl
theorem tw_679 : Cond.code ⟨"CoinTrack", "look", "()I"⟩ prog_1_method_22_code (1 : Nat) (Option.some FieldType.int) ∈ gWs := gin3 (i := 159) rfl rfl
theorem tw_680 : Cond.methodLink "CoinTrack" (207 : Nat) ⟨"CoinTrack$Witness", "tellingCoin", "(LCoinTrack$Track;)I"⟩ ∈ gWs := gin3 (i := 160) rfl rfl
theorem tw_681 : Cond.instanceMethod ⟨"CoinTrack$Witness", "tellingCoin", "(LCoinTrack$Track;)I"⟩ ∈ gWs := gin3 (i := 161) rfl rfl
theorem tw_682 : Cond.selects "CoinTrack$Witness" ⟨"CoinTrack$Witness", "tellingCoin", "(LCoinTrack$Track;)I"⟩ ⟨"CoinTrack$Witness", "tellingCoin", "(LCoinTrack$Track;)I"⟩ ∈ gWs := gin3 (i := 162) rfl rfl
theorem tw_683 : Cond.code ⟨"CoinTrack$Witness", "tellingCoin", "(LCoinTrack$Track;)I"⟩ prog_6_method_7_code (8 : Nat) (Option.some FieldType.int) ∈ gWs := gin3 (i := 163) rfl rfl
theorem tw_684 : Cond.methodLink "CoinTrack$Witness" (56 : Nat) ⟨"CoinTrack$Track", "ofKind", "(II)I"⟩ ∈ gWs := gin3 (i := 164) rfl rfl
theorem tw_685 : Cond.methodLink "CoinTrack$Witness" (59 : Nat) ⟨"CoinTrack$Witness", "mostAgreeing", "(LCoinTrack$Track;II)I"⟩ ∈ gWs := gin3 (i := 165) rfl rfl
theorem tw_686 : Cond.instanceMethod ⟨"CoinTrack$Witness", "mostAgreeing", "(LCoinTrack$Track;II)I"⟩ ∈ gWs := gin3 (i := 166) rfl rfl
theorem tw_687 : Cond.selects "CoinTrack$Witness" ⟨"CoinTrack$Witness", "mostAgreeing", "(LCoinTrack$Track;II)I"⟩ ⟨"CoinTrack$Witness", "mostAgreeing", "(LCoinTrack$Track;II)I"⟩ ∈ gWs := gin3 (i := 167) rfl rfl
theorem tw_688 : Cond.code ⟨"CoinTrack$Witness", "mostAgreeing", "(LCoinTrack$Track;II)I"⟩ prog_6_method_8_code (7 : Nat) (Option.some FieldType.int) ∈ gWs := gin3 (i := 168) rfl rfl
theorem tw_689 : Cond.methodLink "CoinTrack$Witness" (63 : Nat) ⟨"java/lang/Math", "max", "(II)I"⟩ ∈ gWs := gin3 (i := 169) rfl rfl
theorem tw_690 : Cond.methodLink "CoinTrackLaw" (102 : Nat) ⟨"CoinTrack", "keep", "(I)I"⟩ ∈ gWs := gin3 (i := 170) rfl rfl
theorem tw_691 : Cond.instanceMethod ⟨"CoinTrack", "keep", "(I)I"⟩ ∈ gWs := gin3 (i := 171) rfl rfl
theorem tw_692 : Cond.selects "CoinTrack" ⟨"CoinTrack", "keep", "(I)I"⟩ ⟨"CoinTrack", "keep", "(I)I"⟩ ∈ gWs := gin3 (i := 172) rfl rfl
theorem tw_693 : Cond.code ⟨"CoinTrack", "keep", "(I)I"⟩ prog_1_method_23_code (2 : Nat) (Option.some FieldType.int) ∈ gWs := gin3 (i := 173) rfl rfl
theorem tw_694 : Cond.methodLink "CoinTrack" (210 : Nat) ⟨"CoinTrack", "hasImage", "(I)Z"⟩ ∈ gWs := gin3 (i := 174) rfl rfl
theorem tw_696 : Cond.instanceMethod ⟨"CoinTrack", "hasImage", "(I)Z"⟩ ∈ gWs := gin3 (i := 176) rfl rfl
theorem tw_697 : Cond.code ⟨"CoinTrack", "hasImage", "(I)Z"⟩ prog_1_method_26_code (2 : Nat) (Option.some FieldType.boolean) ∈ gWs := gin3 (i := 177) rfl rfl
theorem tw_698 : Cond.methodLink "CoinTrackLaw" (106 : Nat) ⟨"CoinTrack", "back", "(I)I"⟩ ∈ gWs := gin3 (i := 178) rfl rfl
theorem tw_699 : Cond.instanceMethod ⟨"CoinTrack", "back", "(I)I"⟩ ∈ gWs := gin3 (i := 179) rfl rfl
theorem tw_700 : Cond.selects "CoinTrack" ⟨"CoinTrack", "back", "(I)I"⟩ ⟨"CoinTrack", "back", "(I)I"⟩ ∈ gWs := gin3 (i := 180) rfl rfl
theorem tw_701 : Cond.code ⟨"CoinTrack", "back", "(I)I"⟩ prog_1_method_24_code (2 : Nat) (Option.some FieldType.int) ∈ gWs := gin3 (i := 181) rfl rfl
theorem tw_702 : Cond.methodLink "CoinTrackLaw" (110 : Nat) ⟨"CoinTrack", "count", "(I)I"⟩ ∈ gWs := gin3 (i := 182) rfl rfl
theorem tw_703 : Cond.instanceMethod ⟨"CoinTrack", "count", "(I)I"⟩ ∈ gWs := gin3 (i := 183) rfl rfl
theorem tw_704 : Cond.selects "CoinTrack" ⟨"CoinTrack", "count", "(I)I"⟩ ⟨"CoinTrack", "count", "(I)I"⟩ ∈ gWs := gin3 (i := 184) rfl rfl
theorem tw_705 : Cond.code ⟨"CoinTrack", "count", "(I)I"⟩ prog_1_method_25_code (2 : Nat) (Option.some FieldType.int) ∈ gWs := gin3 (i := 185) rfl rfl
theorem tw_706 : Cond.methodLink "CoinTrack" (216 : Nat) ⟨"CoinTrack$Track", "coinsInAll", "()I"⟩ ∈ gWs := gin3 (i := 186) rfl rfl
theorem tw_707 : Cond.instanceMethod ⟨"CoinTrack$Track", "coinsInAll", "()I"⟩ ∈ gWs := gin3 (i := 187) rfl rfl
theorem tw_708 : Cond.selects "CoinTrack$Track" ⟨"CoinTrack$Track", "coinsInAll", "()I"⟩ ⟨"CoinTrack$Track", "coinsInAll", "()I"⟩ ∈ gWs := gin3 (i := 188) rfl rfl
theorem tw_709 : Cond.code ⟨"CoinTrack$Track", "coinsInAll", "()I"⟩ prog_5_method_17_code (3 : Nat) (Option.some FieldType.int) ∈ gWs := gin3 (i := 189) rfl rfl
theorem tw_710 : Cond.classLink "CoinTrackLaw" (10 : Nat) "CoinTrackModel" ∈ gWs := gin3 (i := 190) rfl rfl
theorem tw_711 : Cond.instantiable "CoinTrackModel" (23 : Nat) ∈ gWs := gin3 (i := 191) rfl rfl
theorem tw_712 : Cond.methodLink "CoinTrackLaw" (12 : Nat) ⟨"CoinTrackModel", "<init>", "()V"⟩ ∈ gWs := gin3 (i := 192) rfl rfl
theorem tw_713 : Cond.instanceMethod ⟨"CoinTrackModel", "<init>", "()V"⟩ ∈ gWs := gin3 (i := 193) rfl rfl
theorem tw_714 : Cond.code ⟨"CoinTrackModel", "<init>", "()V"⟩ prog_8_method_1_code (1 : Nat) (Option.none : Option FieldType) ∈ gWs := gin3 (i := 194) rfl rfl
theorem tw_715 : Cond.methodLink "CoinTrackModel" (1 : Nat) ⟨"java/lang/Object", "<init>", "()V"⟩ ∈ gWs := gin3 (i := 195) rfl rfl
theorem tw_716 : Cond.methodLink "CoinTrackModel" (44 : Nat) ⟨"CoinTrackModel", "beginRead", "()V"⟩ ∈ gWs := gin3 (i := 196) rfl rfl
theorem tw_718 : Cond.instanceMethod ⟨"CoinTrackModel", "beginRead", "()V"⟩ ∈ gWs := gin3 (i := 198) rfl rfl
theorem tw_719 : Cond.code ⟨"CoinTrackModel", "beginRead", "()V"⟩ prog_8_method_7_code (2 : Nat) (Option.none : Option FieldType) ∈ gWs := gin3 (i := 199) rfl rfl
theorem tw_720 : Cond.methodLink "CoinTrackModel" (47 : Nat) ⟨"CoinTrackModel", "bring", "([II[II)V"⟩ ∈ gWs := gin3 (i := 200) rfl rfl
theorem tw_721 : Cond.static ⟨"CoinTrackModel", "bring", "([II[II)V"⟩ ∈ gWs := gin3 (i := 201) rfl rfl
theorem tw_722 : Cond.code ⟨"CoinTrackModel", "bring", "([II[II)V"⟩ prog_8_method_5_code (5 : Nat) (Option.none : Option FieldType) ∈ gWs := gin3 (i := 202) rfl rfl
theorem tw_723 : Cond.fieldLink "CoinTrackModel" (7 : Nat) "CoinTrackModel" "now" "[I" ∈ gWs := gin3 (i := 203) rfl rfl
theorem tw_724 : Cond.fieldLink "CoinTrackModel" (13 : Nat) "CoinTrackModel" "read" "[I" ∈ gWs := gin3 (i := 204) rfl rfl
theorem tw_725 : Cond.fieldLink "CoinTrackModel" (16 : Nat) "CoinTrackModel" "past" "[I" ∈ gWs := gin3 (i := 205) rfl rfl
theorem tw_726 : Cond.fieldLink "CoinTrackModel" (51 : Nat) "CoinTrackModel" "deeds" "I" ∈ gWs := gin3 (i := 206) rfl rfl
theorem tw_727 : Cond.fieldLink "CoinTrackModel" (19 : Nat) "CoinTrackModel" "images" "[I" ∈ gWs := gin3 (i := 207) rfl rfl
theorem tw_728 : Cond.fieldLink "CoinTrackModel" (22 : Nat) "CoinTrackModel" "isKept" "[Z" ∈ gWs := gin3 (i := 208) rfl rfl
theorem tw_729 : Cond.fieldLink "CoinTrackModel" (26 : Nat) "CoinTrackModel" "text" "[I" ∈ gWs := gin3 (i := 209) rfl rfl
theorem tw_730 : Cond.fieldLink "CoinTrackModel" (58 : Nat) "CoinTrackModel" "letters" "I" ∈ gWs := gin3 (i := 210) rfl rfl
theorem tw_731 : Cond.fieldLink "CoinTrackModel" (55 : Nat) "CoinTrackModel" "at" "I" ∈ gWs := gin3 (i := 211) rfl rfl
theorem tw_732 : Cond.fieldLink "CoinTrackModel" (82 : Nat) "CoinTrackModel" "token" "I" ∈ gWs := gin3 (i := 212) rfl rfl
theorem tw_733 : Cond.fieldLink "CoinTrackModel" (65 : Nat) "CoinTrackModel" "tokenAt" "I" ∈ gWs := gin3 (i := 213) rfl rfl
theorem tw_734 : Cond.fieldLink "CoinTrackModel" (96 : Nat) "CoinTrackModel" "value" "I" ∈ gWs := gin3 (i := 214) rfl rfl
theorem tw_735 : Cond.fieldLink "CoinTrackModel" (29 : Nat) "CoinTrackModel" "facts" "[I" ∈ gWs := gin3 (i := 215) rfl rfl
theorem tw_736 : Cond.fieldLink "CoinTrackModel" (217 : Nat) "CoinTrackModel" "seen" "I" ∈ gWs := gin3 (i := 216) rfl rfl
theorem tw_737 : Cond.fieldLink "CoinTrackModel" (119 : Nat) "CoinTrackModel" "items" "I" ∈ gWs := gin3 (i := 217) rfl rfl
theorem tw_738 : Cond.fieldLink "CoinTrackModel" (32 : Nat) "CoinTrackModel" "along" "[I" ∈ gWs := gin3 (i := 218) rfl rfl
theorem tw_739 : Cond.fieldLink "CoinTrackModel" (131 : Nat) "CoinTrackModel" "length" "I" ∈ gWs := gin3 (i := 219) rfl rfl
theorem tw_740 : Cond.fieldLink "CoinTrackModel" (134 : Nat) "CoinTrackModel" "off" "I" ∈ gWs := gin3 (i := 220) rfl rfl
theorem tw_741 : Cond.fieldLink "CoinTrackModel" (137 : Nat) "CoinTrackModel" "offBy" "I" ∈ gWs := gin3 (i := 221) rfl rfl
theorem tw_742 : Cond.fieldLink "CoinTrackModel" (35 : Nat) "CoinTrackModel" "best" "[I" ∈ gWs := gin3 (i := 222) rfl rfl
theorem tw_743 : Cond.fieldLink "CoinTrackModel" (38 : Nat) "CoinTrackModel" "found" "[I" ∈ gWs := gin3 (i := 223) rfl rfl
theorem tw_744 : Cond.fieldLink "CoinTrackModel" (223 : Nat) "CoinTrackModel" "foundMany" "I" ∈ gWs := gin3 (i := 224) rfl rfl
theorem tw_745 : Cond.fieldLink "CoinTrackModel" (41 : Nat) "CoinTrackModel" "into" "[I" ∈ gWs := gin3 (i := 225) rfl rfl
theorem tw_746 : Cond.laysFinal "CoinTrackModel" "CoinTrackModel" "now" "[I" ∈ gWs := gin3 (i := 226) rfl rfl
theorem tw_748 : Cond.laysFinal "CoinTrackModel" "CoinTrackModel" "read" "[I" ∈ gWs := gin3 (i := 228) rfl rfl
theorem tw_750 : Cond.laysFinal "CoinTrackModel" "CoinTrackModel" "past" "[I" ∈ gWs := gin3 (i := 230) rfl rfl
theorem tw_752 : Cond.lays "CoinTrackModel" "CoinTrackModel" "deeds" "I" ∈ gWs := gin3 (i := 232) rfl rfl
theorem tw_754 : Cond.laysFinal "CoinTrackModel" "CoinTrackModel" "images" "[I" ∈ gWs := gin3 (i := 234) rfl rfl
theorem tw_756 : Cond.laysFinal "CoinTrackModel" "CoinTrackModel" "isKept" "[Z" ∈ gWs := gin3 (i := 236) rfl rfl
theorem tw_758 : Cond.laysFinal "CoinTrackModel" "CoinTrackModel" "text" "[I" ∈ gWs := gin3 (i := 238) rfl rfl
theorem tw_760 : Cond.lays "CoinTrackModel" "CoinTrackModel" "letters" "I" ∈ gWs := gin4 (i := 0) rfl rfl
theorem tw_762 : Cond.lays "CoinTrackModel" "CoinTrackModel" "at" "I" ∈ gWs := gin4 (i := 2) rfl rfl
theorem tw_764 : Cond.lays "CoinTrackModel" "CoinTrackModel" "token" "I" ∈ gWs := gin4 (i := 4) rfl rfl
theorem tw_766 : Cond.lays "CoinTrackModel" "CoinTrackModel" "tokenAt" "I" ∈ gWs := gin4 (i := 6) rfl rfl
theorem tw_768 : Cond.lays "CoinTrackModel" "CoinTrackModel" "value" "I" ∈ gWs := gin4 (i := 8) rfl rfl
theorem tw_770 : Cond.laysFinal "CoinTrackModel" "CoinTrackModel" "facts" "[I" ∈ gWs := gin4 (i := 10) rfl rfl
theorem tw_772 : Cond.lays "CoinTrackModel" "CoinTrackModel" "seen" "I" ∈ gWs := gin4 (i := 12) rfl rfl
theorem tw_774 : Cond.lays "CoinTrackModel" "CoinTrackModel" "items" "I" ∈ gWs := gin4 (i := 14) rfl rfl
theorem tw_776 : Cond.laysFinal "CoinTrackModel" "CoinTrackModel" "along" "[I" ∈ gWs := gin4 (i := 16) rfl rfl
theorem tw_778 : Cond.lays "CoinTrackModel" "CoinTrackModel" "length" "I" ∈ gWs := gin4 (i := 18) rfl rfl
theorem tw_780 : Cond.lays "CoinTrackModel" "CoinTrackModel" "off" "I" ∈ gWs := gin4 (i := 20) rfl rfl
theorem tw_782 : Cond.lays "CoinTrackModel" "CoinTrackModel" "offBy" "I" ∈ gWs := gin4 (i := 22) rfl rfl
theorem tw_784 : Cond.laysFinal "CoinTrackModel" "CoinTrackModel" "best" "[I" ∈ gWs := gin4 (i := 24) rfl rfl
theorem tw_786 : Cond.laysFinal "CoinTrackModel" "CoinTrackModel" "found" "[I" ∈ gWs := gin4 (i := 26) rfl rfl
theorem tw_788 : Cond.lays "CoinTrackModel" "CoinTrackModel" "foundMany" "I" ∈ gWs := gin4 (i := 28) rfl rfl
theorem tw_790 : Cond.laysFinal "CoinTrackModel" "CoinTrackModel" "into" "[I" ∈ gWs := gin4 (i := 30) rfl rfl
theorem tw_793 : Cond.arrayClass FieldType.boolean ∈ gWs := gin4 (i := 33) rfl rfl
theorem tw_794 : Cond.methodLink "CoinTrackLaw" (17 : Nat) ⟨"CoinTrackModel", "type", "(I)I"⟩ ∈ gWs := gin4 (i := 34) rfl rfl
theorem tw_795 : Cond.instanceMethod ⟨"CoinTrackModel", "type", "(I)I"⟩ ∈ gWs := gin4 (i := 35) rfl rfl
theorem tw_796 : Cond.selects "CoinTrackModel" ⟨"CoinTrackModel", "type", "(I)I"⟩ ⟨"CoinTrackModel", "type", "(I)I"⟩ ∈ gWs := gin4 (i := 36) rfl rfl
theorem tw_797 : Cond.code ⟨"CoinTrackModel", "type", "(I)I"⟩ prog_8_method_19_code (2 : Nat) (Option.some FieldType.int) ∈ gWs := gin4 (i := 37) rfl rfl
theorem tw_798 : Cond.methodLink "CoinTrackModel" (61 : Nat) ⟨"CoinTrackModel", "in", "(III)Z"⟩ ∈ gWs := gin4 (i := 38) rfl rfl
theorem tw_799 : Cond.static ⟨"CoinTrackModel", "in", "(III)Z"⟩ ∈ gWs := gin4 (i := 39) rfl rfl
theorem tw_800 : Cond.code ⟨"CoinTrackModel", "in", "(III)Z"⟩ prog_8_method_2_code (3 : Nat) (Option.some FieldType.boolean) ∈ gWs := gin4 (i := 40) rfl rfl
theorem tw_801 : Cond.methodLink "CoinTrackLaw" (22 : Nat) ⟨"CoinTrackModel", "clear", "()I"⟩ ∈ gWs := gin4 (i := 41) rfl rfl
theorem tw_802 : Cond.instanceMethod ⟨"CoinTrackModel", "clear", "()I"⟩ ∈ gWs := gin4 (i := 42) rfl rfl
theorem tw_803 : Cond.selects "CoinTrackModel" ⟨"CoinTrackModel", "clear", "()I"⟩ ⟨"CoinTrackModel", "clear", "()I"⟩ ∈ gWs := gin4 (i := 43) rfl rfl
theorem tw_804 : Cond.code ⟨"CoinTrackModel", "clear", "()I"⟩ prog_8_method_20_code (2 : Nat) (Option.some FieldType.int) ∈ gWs := gin4 (i := 44) rfl rfl
theorem tw_805 : Cond.methodLink "CoinTrackLaw" (26 : Nat) ⟨"CoinTrackModel", "tells", "()I"⟩ ∈ gWs := gin4 (i := 45) rfl rfl
theorem tw_806 : Cond.instanceMethod ⟨"CoinTrackModel", "tells", "()I"⟩ ∈ gWs := gin4 (i := 46) rfl rfl
theorem tw_807 : Cond.selects "CoinTrackModel" ⟨"CoinTrackModel", "tells", "()I"⟩ ⟨"CoinTrackModel", "tells", "()I"⟩ ∈ gWs := gin4 (i := 47) rfl rfl
theorem tw_808 : Cond.code ⟨"CoinTrackModel", "tells", "()I"⟩ prog_8_method_21_code (2 : Nat) (Option.some FieldType.int) ∈ gWs := gin4 (i := 48) rfl rfl
theorem tw_809 : Cond.methodLink "CoinTrackModel" (125 : Nat) ⟨"CoinTrackModel", "readText", "()I"⟩ ∈ gWs := gin4 (i := 49) rfl rfl
theorem tw_811 : Cond.instanceMethod ⟨"CoinTrackModel", "readText", "()I"⟩ ∈ gWs := gin4 (i := 51) rfl rfl
theorem tw_812 : Cond.code ⟨"CoinTrackModel", "readText", "()I"⟩ prog_8_method_18_code (1 : Nat) (Option.some FieldType.int) ∈ gWs := gin4 (i := 52) rfl rfl
theorem tw_813 : Cond.methodLink "CoinTrackModel" (99 : Nat) ⟨"CoinTrackModel", "next", "()V"⟩ ∈ gWs := gin4 (i := 53) rfl rfl
theorem tw_815 : Cond.instanceMethod ⟨"CoinTrackModel", "next", "()V"⟩ ∈ gWs := gin4 (i := 55) rfl rfl
theorem tw_816 : Cond.code ⟨"CoinTrackModel", "next", "()V"⟩ prog_8_method_11_code (1 : Nat) (Option.none : Option FieldType) ∈ gWs := gin4 (i := 56) rfl rfl
theorem tw_817 : Cond.methodLink "CoinTrackModel" (85 : Nat) ⟨"CoinTrackModel", "isLetter", "()Z"⟩ ∈ gWs := gin4 (i := 57) rfl rfl
theorem tw_819 : Cond.instanceMethod ⟨"CoinTrackModel", "isLetter", "()Z"⟩ ∈ gWs := gin4 (i := 59) rfl rfl
theorem tw_820 : Cond.code ⟨"CoinTrackModel", "isLetter", "()Z"⟩ prog_8_method_8_code (1 : Nat) (Option.some FieldType.boolean) ∈ gWs := gin4 (i := 60) rfl rfl
theorem tw_821 : Cond.methodLink "CoinTrackModel" (89 : Nat) ⟨"CoinTrackModel", "wordTo", "()I"⟩ ∈ gWs := gin4 (i := 61) rfl rfl
theorem tw_823 : Cond.instanceMethod ⟨"CoinTrackModel", "wordTo", "()I"⟩ ∈ gWs := gin4 (i := 63) rfl rfl
theorem tw_824 : Cond.code ⟨"CoinTrackModel", "wordTo", "()I"⟩ prog_8_method_10_code (4 : Nat) (Option.some FieldType.int) ∈ gWs := gin4 (i := 64) rfl rfl
theorem tw_825 : Cond.constantLong "CoinTrackModel" (68 : Nat) (32 : Int64) ∈ gWs := gin4 (i := 65) rfl rfl
theorem tw_826 : Cond.constantLong "CoinTrackModel" (70 : Nat) (97 : Int64) ∈ gWs := gin4 (i := 66) rfl rfl
theorem tw_827 : Cond.constantLong "CoinTrackModel" (72 : Nat) (468451 : Int64) ∈ gWs := gin4 (i := 67) rfl rfl
theorem tw_828 : Cond.constantLong "CoinTrackModel" (74 : Nat) (176616 : Int64) ∈ gWs := gin4 (i := 68) rfl rfl
theorem tw_829 : Cond.constantLong "CoinTrackModel" (76 : Nat) (5637235 : Int64) ∈ gWs := gin4 (i := 69) rfl rfl
theorem tw_830 : Cond.constantLong "CoinTrackModel" (78 : Nat) (13618 : Int64) ∈ gWs := gin4 (i := 70) rfl rfl
theorem tw_831 : Cond.constantLong "CoinTrackModel" (80 : Nat) (441842 : Int64) ∈ gWs := gin4 (i := 71) rfl rfl
theorem tw_832 : Cond.methodLink "CoinTrackModel" (93 : Nat) ⟨"CoinTrackModel", "isFigure", "()Z"⟩ ∈ gWs := gin4 (i := 72) rfl rfl
theorem tw_834 : Cond.instanceMethod ⟨"CoinTrackModel", "isFigure", "()Z"⟩ ∈ gWs := gin4 (i := 74) rfl rfl
theorem tw_835 : Cond.code ⟨"CoinTrackModel", "isFigure", "()Z"⟩ prog_8_method_9_code (1 : Nat) (Option.some FieldType.boolean) ∈ gWs := gin4 (i := 75) rfl rfl
theorem tw_836 : Cond.methodLink "CoinTrackModel" (122 : Nat) ⟨"CoinTrackModel", "readItem", "()Z"⟩ ∈ gWs := gin4 (i := 76) rfl rfl
theorem tw_838 : Cond.instanceMethod ⟨"CoinTrackModel", "readItem", "()Z"⟩ ∈ gWs := gin4 (i := 78) rfl rfl
theorem tw_839 : Cond.code ⟨"CoinTrackModel", "readItem", "()Z"⟩ prog_8_method_17_code (1 : Nat) (Option.some FieldType.boolean) ∈ gWs := gin4 (i := 79) rfl rfl
theorem tw_840 : Cond.methodLink "CoinTrackModel" (112 : Nat) ⟨"CoinTrackModel", "readCoin", "()Z"⟩ ∈ gWs := gin4 (i := 80) rfl rfl
theorem tw_842 : Cond.instanceMethod ⟨"CoinTrackModel", "readCoin", "()Z"⟩ ∈ gWs := gin4 (i := 82) rfl rfl
theorem tw_843 : Cond.code ⟨"CoinTrackModel", "readCoin", "()Z"⟩ prog_8_method_13_code (3 : Nat) (Option.some FieldType.boolean) ∈ gWs := gin4 (i := 83) rfl rfl
theorem tw_844 : Cond.methodLink "CoinTrackModel" (102 : Nat) ⟨"CoinTrackModel", "readNumber", "(III)Z"⟩ ∈ gWs := gin4 (i := 84) rfl rfl
theorem tw_846 : Cond.instanceMethod ⟨"CoinTrackModel", "readNumber", "(III)Z"⟩ ∈ gWs := gin4 (i := 86) rfl rfl
theorem tw_847 : Cond.code ⟨"CoinTrackModel", "readNumber", "(III)Z"⟩ prog_8_method_12_code (5 : Nat) (Option.some FieldType.boolean) ∈ gWs := gin4 (i := 87) rfl rfl
theorem tw_848 : Cond.methodLink "CoinTrackModel" (115 : Nat) ⟨"CoinTrackModel", "readTest", "(I)Z"⟩ ∈ gWs := gin4 (i := 88) rfl rfl
theorem tw_850 : Cond.instanceMethod ⟨"CoinTrackModel", "readTest", "(I)Z"⟩ ∈ gWs := gin4 (i := 90) rfl rfl
theorem tw_851 : Cond.code ⟨"CoinTrackModel", "readTest", "(I)Z"⟩ prog_8_method_14_code (3 : Nat) (Option.some FieldType.boolean) ∈ gWs := gin4 (i := 91) rfl rfl
theorem tw_852 : Cond.methodLink "CoinTrackModel" (105 : Nat) ⟨"CoinTrackModel", "leastOf", "(I)I"⟩ ∈ gWs := gin4 (i := 92) rfl rfl
theorem tw_853 : Cond.static ⟨"CoinTrackModel", "leastOf", "(I)I"⟩ ∈ gWs := gin4 (i := 93) rfl rfl
theorem tw_854 : Cond.code ⟨"CoinTrackModel", "leastOf", "(I)I"⟩ prog_8_method_15_code (1 : Nat) (Option.some FieldType.int) ∈ gWs := gin4 (i := 94) rfl rfl
theorem tw_855 : Cond.methodLink "CoinTrackModel" (109 : Nat) ⟨"CoinTrackModel", "mostOf", "(I)I"⟩ ∈ gWs := gin4 (i := 95) rfl rfl
theorem tw_856 : Cond.static ⟨"CoinTrackModel", "mostOf", "(I)I"⟩ ∈ gWs := gin4 (i := 96) rfl rfl
theorem tw_857 : Cond.code ⟨"CoinTrackModel", "mostOf", "(I)I"⟩ prog_8_method_16_code (1 : Nat) (Option.some FieldType.int) ∈ gWs := gin4 (i := 97) rfl rfl
theorem tw_858 : Cond.methodLink "CoinTrackModel" (128 : Nat) ⟨"CoinTrackModel", "note", "()V"⟩ ∈ gWs := gin4 (i := 98) rfl rfl
theorem tw_860 : Cond.instanceMethod ⟨"CoinTrackModel", "note", "()V"⟩ ∈ gWs := gin4 (i := 100) rfl rfl
theorem tw_861 : Cond.code ⟨"CoinTrackModel", "note", "()V"⟩ prog_8_method_6_code (2 : Nat) (Option.none : Option FieldType) ∈ gWs := gin4 (i := 101) rfl rfl
theorem tw_862 : Cond.methodLink "CoinTrackLaw" (31 : Nat) ⟨"CoinTrackModel", "drops", "(II)I"⟩ ∈ gWs := gin4 (i := 102) rfl rfl
theorem tw_863 : Cond.instanceMethod ⟨"CoinTrackModel", "drops", "(II)I"⟩ ∈ gWs := gin4 (i := 103) rfl rfl
theorem tw_864 : Cond.selects "CoinTrackModel" ⟨"CoinTrackModel", "drops", "(II)I"⟩ ⟨"CoinTrackModel", "drops", "(II)I"⟩ ∈ gWs := gin4 (i := 104) rfl rfl
theorem tw_865 : Cond.code ⟨"CoinTrackModel", "drops", "(II)I"⟩ prog_8_method_36_code (4 : Nat) (Option.some FieldType.int) ∈ gWs := gin4 (i := 105) rfl rfl
theorem tw_866 : Cond.methodLink "CoinTrackModel" (171 : Nat) ⟨"CoinTrackModel", "isKind", "(I)Z"⟩ ∈ gWs := gin4 (i := 106) rfl rfl
theorem tw_868 : Cond.instanceMethod ⟨"CoinTrackModel", "isKind", "(I)Z"⟩ ∈ gWs := gin4 (i := 108) rfl rfl
theorem tw_869 : Cond.code ⟨"CoinTrackModel", "isKind", "(I)Z"⟩ prog_8_method_22_code (2 : Nat) (Option.some FieldType.boolean) ∈ gWs := gin4 (i := 109) rfl rfl
theorem tw_870 : Cond.methodLink "CoinTrackModel" (148 : Nat) ⟨"CoinTrackModel", "ofKind", "(II)I"⟩ ∈ gWs := gin4 (i := 110) rfl rfl
theorem tw_872 : Cond.instanceMethod ⟨"CoinTrackModel", "ofKind", "(II)I"⟩ ∈ gWs := gin4 (i := 112) rfl rfl
theorem tw_873 : Cond.code ⟨"CoinTrackModel", "ofKind", "(II)I"⟩ prog_8_method_24_code (3 : Nat) (Option.some FieldType.int) ∈ gWs := gin4 (i := 113) rfl rfl
theorem tw_874 : Cond.methodLink "CoinTrackModel" (174 : Nat) ⟨"CoinTrackModel", "asTold", "()V"⟩ ∈ gWs := gin4 (i := 114) rfl rfl
theorem tw_876 : Cond.instanceMethod ⟨"CoinTrackModel", "asTold", "()V"⟩ ∈ gWs := gin4 (i := 116) rfl rfl
theorem tw_877 : Cond.code ⟨"CoinTrackModel", "asTold", "()V"⟩ prog_8_method_26_code (2 : Nat) (Option.none : Option FieldType) ∈ gWs := gin4 (i := 117) rfl rfl
theorem tw_878 : Cond.methodLink "CoinTrackModel" (155 : Nat) ⟨"CoinTrackModel", "binBy", "(II)I"⟩ ∈ gWs := gin4 (i := 118) rfl rfl
theorem tw_880 : Cond.instanceMethod ⟨"CoinTrackModel", "binBy", "(II)I"⟩ ∈ gWs := gin4 (i := 120) rfl rfl
theorem tw_881 : Cond.code ⟨"CoinTrackModel", "binBy", "(II)I"⟩ prog_8_method_29_code (3 : Nat) (Option.some FieldType.int) ∈ gWs := gin4 (i := 121) rfl rfl
theorem tw_882 : Cond.methodLink "CoinTrackModel" (151 : Nat) ⟨"CoinTrackModel", "binOf", "(III)I"⟩ ∈ gWs := gin4 (i := 122) rfl rfl
theorem tw_884 : Cond.instanceMethod ⟨"CoinTrackModel", "binOf", "(III)I"⟩ ∈ gWs := gin4 (i := 124) rfl rfl
theorem tw_885 : Cond.code ⟨"CoinTrackModel", "binOf", "(III)I"⟩ prog_8_method_28_code (5 : Nat) (Option.some FieldType.int) ∈ gWs := gin4 (i := 125) rfl rfl
theorem tw_886 : Cond.methodLink "CoinTrackModel" (144 : Nat) ⟨"CoinTrackModel", "falls", "(IIII)Z"⟩ ∈ gWs := gin4 (i := 126) rfl rfl
theorem tw_888 : Cond.instanceMethod ⟨"CoinTrackModel", "falls", "(IIII)Z"⟩ ∈ gWs := gin4 (i := 128) rfl rfl
theorem tw_889 : Cond.code ⟨"CoinTrackModel", "falls", "(IIII)Z"⟩ prog_8_method_27_code (7 : Nat) (Option.some FieldType.boolean) ∈ gWs := gin4 (i := 129) rfl rfl
theorem tw_890 : Cond.methodLink "CoinTrackModel" (140 : Nat) ⟨"CoinTrackModel", "ofTest", "(II)I"⟩ ∈ gWs := gin4 (i := 130) rfl rfl
theorem tw_892 : Cond.instanceMethod ⟨"CoinTrackModel", "ofTest", "(II)I"⟩ ∈ gWs := gin4 (i := 132) rfl rfl
theorem tw_893 : Cond.code ⟨"CoinTrackModel", "ofTest", "(II)I"⟩ prog_8_method_25_code (3 : Nat) (Option.some FieldType.int) ∈ gWs := gin4 (i := 133) rfl rfl
theorem tw_894 : Cond.methodLink "CoinTrackLaw" (35 : Nat) ⟨"CoinTrackModel", "frees", "()I"⟩ ∈ gWs := gin4 (i := 134) rfl rfl
theorem tw_895 : Cond.instanceMethod ⟨"CoinTrackModel", "frees", "()I"⟩ ∈ gWs := gin4 (i := 135) rfl rfl
theorem tw_896 : Cond.selects "CoinTrackModel" ⟨"CoinTrackModel", "frees", "()I"⟩ ⟨"CoinTrackModel", "frees", "()I"⟩ ∈ gWs := gin4 (i := 136) rfl rfl
theorem tw_897 : Cond.code ⟨"CoinTrackModel", "frees", "()I"⟩ prog_8_method_37_code (2 : Nat) (Option.some FieldType.int) ∈ gWs := gin4 (i := 137) rfl rfl
theorem tw_898 : Cond.methodLink "CoinTrackLaw" (39 : Nat) ⟨"CoinTrackModel", "empties", "(I)I"⟩ ∈ gWs := gin4 (i := 138) rfl rfl
theorem tw_899 : Cond.instanceMethod ⟨"CoinTrackModel", "empties", "(I)I"⟩ ∈ gWs := gin4 (i := 139) rfl rfl
theorem tw_900 : Cond.selects "CoinTrackModel" ⟨"CoinTrackModel", "empties", "(I)I"⟩ ⟨"CoinTrackModel", "empties", "(I)I"⟩ ∈ gWs := gin4 (i := 140) rfl rfl
theorem tw_901 : Cond.code ⟨"CoinTrackModel", "empties", "(I)I"⟩ prog_8_method_39_code (3 : Nat) (Option.some FieldType.int) ∈ gWs := gin4 (i := 141) rfl rfl
theorem tw_902 : Cond.methodLink "CoinTrackModel" (177 : Nat) ⟨"CoinTrackModel", "isBin", "(I)Z"⟩ ∈ gWs := gin4 (i := 142) rfl rfl
theorem tw_904 : Cond.instanceMethod ⟨"CoinTrackModel", "isBin", "(I)Z"⟩ ∈ gWs := gin4 (i := 144) rfl rfl
theorem tw_905 : Cond.code ⟨"CoinTrackModel", "isBin", "(I)Z"⟩ prog_8_method_38_code (2 : Nat) (Option.some FieldType.boolean) ∈ gWs := gin4 (i := 145) rfl rfl
theorem tw_906 : Cond.methodLink "CoinTrackLaw" (44 : Nat) ⟨"CoinTrackModel", "puts", "(IIII)I"⟩ ∈ gWs := gin4 (i := 146) rfl rfl
theorem tw_907 : Cond.instanceMethod ⟨"CoinTrackModel", "puts", "(IIII)I"⟩ ∈ gWs := gin4 (i := 147) rfl rfl
theorem tw_908 : Cond.selects "CoinTrackModel" ⟨"CoinTrackModel", "puts", "(IIII)I"⟩ ⟨"CoinTrackModel", "puts", "(IIII)I"⟩ ∈ gWs := gin4 (i := 148) rfl rfl
theorem tw_909 : Cond.code ⟨"CoinTrackModel", "puts", "(IIII)I"⟩ prog_8_method_41_code (6 : Nat) (Option.some FieldType.int) ∈ gWs := gin4 (i := 149) rfl rfl
theorem tw_910 : Cond.methodLink "CoinTrackModel" (180 : Nat) ⟨"CoinTrackModel", "emptyAll", "()V"⟩ ∈ gWs := gin4 (i := 150) rfl rfl
theorem tw_912 : Cond.instanceMethod ⟨"CoinTrackModel", "emptyAll", "()V"⟩ ∈ gWs := gin4 (i := 152) rfl rfl
theorem tw_913 : Cond.code ⟨"CoinTrackModel", "emptyAll", "()V"⟩ prog_8_method_40_code (2 : Nat) (Option.none : Option FieldType) ∈ gWs := gin4 (i := 153) rfl rfl
theorem tw_914 : Cond.methodLink "CoinTrackLaw" (48 : Nat) ⟨"CoinTrackModel", "takes", "(I)I"⟩ ∈ gWs := gin4 (i := 154) rfl rfl
theorem tw_915 : Cond.instanceMethod ⟨"CoinTrackModel", "takes", "(I)I"⟩ ∈ gWs := gin4 (i := 155) rfl rfl
theorem tw_916 : Cond.selects "CoinTrackModel" ⟨"CoinTrackModel", "takes", "(I)I"⟩ ⟨"CoinTrackModel", "takes", "(I)I"⟩ ∈ gWs := gin4 (i := 156) rfl rfl
theorem tw_917 : Cond.code ⟨"CoinTrackModel", "takes", "(I)I"⟩ prog_8_method_42_code (3 : Nat) (Option.some FieldType.int) ∈ gWs := gin4 (i := 157) rfl rfl
theorem tw_918 : Cond.methodLink "CoinTrackModel" (183 : Nat) ⟨"CoinTrackModel", "isTest", "(I)Z"⟩ ∈ gWs := gin4 (i := 158) rfl rfl
theorem tw_920 : Cond.instanceMethod ⟨"CoinTrackModel", "isTest", "(I)Z"⟩ ∈ gWs := gin4 (i := 160) rfl rfl
theorem tw_921 : Cond.code ⟨"CoinTrackModel", "isTest", "(I)Z"⟩ prog_8_method_23_code (2 : Nat) (Option.some FieldType.boolean) ∈ gWs := gin4 (i := 161) rfl rfl
theorem tw_922 : Cond.methodLink "CoinTrackLaw" (52 : Nat) ⟨"CoinTrackModel", "sets", "(II)I"⟩ ∈ gWs := gin4 (i := 162) rfl rfl
theorem tw_923 : Cond.instanceMethod ⟨"CoinTrackModel", "sets", "(II)I"⟩ ∈ gWs := gin4 (i := 163) rfl rfl
theorem tw_924 : Cond.selects "CoinTrackModel" ⟨"CoinTrackModel", "sets", "(II)I"⟩ ⟨"CoinTrackModel", "sets", "(II)I"⟩ ∈ gWs := gin4 (i := 164) rfl rfl
theorem tw_925 : Cond.code ⟨"CoinTrackModel", "sets", "(II)I"⟩ prog_8_method_43_code (4 : Nat) (Option.some FieldType.int) ∈ gWs := gin4 (i := 165) rfl rfl
theorem tw_926 : Cond.methodLink "CoinTrackLaw" (56 : Nat) ⟨"CoinTrackModel", "adds", "(IIII)I"⟩ ∈ gWs := gin4 (i := 166) rfl rfl
theorem tw_927 : Cond.instanceMethod ⟨"CoinTrackModel", "adds", "(IIII)I"⟩ ∈ gWs := gin4 (i := 167) rfl rfl
theorem tw_928 : Cond.selects "CoinTrackModel" ⟨"CoinTrackModel", "adds", "(IIII)I"⟩ ⟨"CoinTrackModel", "adds", "(IIII)I"⟩ ∈ gWs := gin4 (i := 168) rfl rfl
theorem tw_929 : Cond.code ⟨"CoinTrackModel", "adds", "(IIII)I"⟩ prog_8_method_44_code (6 : Nat) (Option.some FieldType.int) ∈ gWs := gin4 (i := 169) rfl rfl
theorem tw_930 : Cond.methodLink "CoinTrackLaw" (60 : Nat) ⟨"CoinTrackModel", "undo", "()I"⟩ ∈ gWs := gin4 (i := 170) rfl rfl
theorem tw_931 : Cond.instanceMethod ⟨"CoinTrackModel", "undo", "()I"⟩ ∈ gWs := gin4 (i := 171) rfl rfl
theorem tw_932 : Cond.selects "CoinTrackModel" ⟨"CoinTrackModel", "undo", "()I"⟩ ⟨"CoinTrackModel", "undo", "()I"⟩ ∈ gWs := gin4 (i := 172) rfl rfl
theorem tw_933 : Cond.code ⟨"CoinTrackModel", "undo", "()I"⟩ prog_8_method_45_code (1 : Nat) (Option.some FieldType.int) ∈ gWs := gin4 (i := 173) rfl rfl
theorem tw_934 : Cond.methodLink "CoinTrackLaw" (64 : Nat) ⟨"CoinTrackModel", "kind", "(II)I"⟩ ∈ gWs := gin4 (i := 174) rfl rfl
theorem tw_935 : Cond.instanceMethod ⟨"CoinTrackModel", "kind", "(II)I"⟩ ∈ gWs := gin4 (i := 175) rfl rfl
theorem tw_936 : Cond.selects "CoinTrackModel" ⟨"CoinTrackModel", "kind", "(II)I"⟩ ⟨"CoinTrackModel", "kind", "(II)I"⟩ ∈ gWs := gin4 (i := 176) rfl rfl
theorem tw_937 : Cond.code ⟨"CoinTrackModel", "kind", "(II)I"⟩ prog_8_method_47_code (3 : Nat) (Option.some FieldType.int) ∈ gWs := gin4 (i := 177) rfl rfl
theorem tw_938 : Cond.methodLink "CoinTrackModel" (161 : Nat) ⟨"CoinTrackModel", "binsOf", "(II)I"⟩ ∈ gWs := gin4 (i := 178) rfl rfl
theorem tw_940 : Cond.instanceMethod ⟨"CoinTrackModel", "binsOf", "(II)I"⟩ ∈ gWs := gin4 (i := 180) rfl rfl
theorem tw_941 : Cond.code ⟨"CoinTrackModel", "binsOf", "(II)I"⟩ prog_8_method_31_code (5 : Nat) (Option.some FieldType.int) ∈ gWs := gin4 (i := 181) rfl rfl
theorem tw_942 : Cond.methodLink "CoinTrackModel" (164 : Nat) ⟨"CoinTrackModel", "tollOf", "(I)I"⟩ ∈ gWs := gin4 (i := 182) rfl rfl
theorem tw_944 : Cond.instanceMethod ⟨"CoinTrackModel", "tollOf", "(I)I"⟩ ∈ gWs := gin4 (i := 184) rfl rfl
theorem tw_945 : Cond.code ⟨"CoinTrackModel", "tollOf", "(I)I"⟩ prog_8_method_32_code (5 : Nat) (Option.some FieldType.int) ∈ gWs := gin4 (i := 185) rfl rfl
theorem tw_946 : Cond.methodLink "CoinTrackModel" (158 : Nat) ⟨"CoinTrackModel", "tollTo", "(I)I"⟩ ∈ gWs := gin4 (i := 186) rfl rfl
theorem tw_948 : Cond.instanceMethod ⟨"CoinTrackModel", "tollTo", "(I)I"⟩ ∈ gWs := gin4 (i := 188) rfl rfl
theorem tw_949 : Cond.code ⟨"CoinTrackModel", "tollTo", "(I)I"⟩ prog_8_method_30_code (4 : Nat) (Option.some FieldType.int) ∈ gWs := gin4 (i := 189) rfl rfl
theorem tw_950 : Cond.methodLink "CoinTrackModel" (189 : Nat) ⟨"CoinTrackModel", "bearsOf", "(I)I"⟩ ∈ gWs := gin4 (i := 190) rfl rfl
theorem tw_952 : Cond.instanceMethod ⟨"CoinTrackModel", "bearsOf", "(I)I"⟩ ∈ gWs := gin4 (i := 192) rfl rfl
theorem tw_953 : Cond.code ⟨"CoinTrackModel", "bearsOf", "(I)I"⟩ prog_8_method_46_code (4 : Nat) (Option.some FieldType.int) ∈ gWs := gin4 (i := 193) rfl rfl
theorem tw_954 : Cond.methodLink "CoinTrackModel" (186 : Nat) ⟨"CoinTrackModel", "areApart", "(II)Z"⟩ ∈ gWs := gin4 (i := 194) rfl rfl
theorem tw_956 : Cond.instanceMethod ⟨"CoinTrackModel", "areApart", "(II)Z"⟩ ∈ gWs := gin4 (i := 196) rfl rfl
theorem tw_957 : Cond.code ⟨"CoinTrackModel", "areApart", "(II)Z"⟩ prog_8_method_33_code (7 : Nat) (Option.some FieldType.boolean) ∈ gWs := gin4 (i := 197) rfl rfl
theorem tw_958 : Cond.methodLink "CoinTrackLaw" (68 : Nat) ⟨"CoinTrackModel", "test", "(II)I"⟩ ∈ gWs := gin4 (i := 198) rfl rfl
theorem tw_959 : Cond.instanceMethod ⟨"CoinTrackModel", "test", "(II)I"⟩ ∈ gWs := gin4 (i := 199) rfl rfl
theorem tw_960 : Cond.selects "CoinTrackModel" ⟨"CoinTrackModel", "test", "(II)I"⟩ ⟨"CoinTrackModel", "test", "(II)I"⟩ ∈ gWs := gin4 (i := 200) rfl rfl
theorem tw_961 : Cond.code ⟨"CoinTrackModel", "test", "(II)I"⟩ prog_8_method_48_code (3 : Nat) (Option.some FieldType.int) ∈ gWs := gin4 (i := 201) rfl rfl
theorem tw_962 : Cond.methodLink "CoinTrackLaw" (72 : Nat) ⟨"CoinTrackModel", "bin", "(II)I"⟩ ∈ gWs := gin4 (i := 202) rfl rfl
theorem tw_963 : Cond.instanceMethod ⟨"CoinTrackModel", "bin", "(II)I"⟩ ∈ gWs := gin4 (i := 203) rfl rfl
theorem tw_964 : Cond.selects "CoinTrackModel" ⟨"CoinTrackModel", "bin", "(II)I"⟩ ⟨"CoinTrackModel", "bin", "(II)I"⟩ ∈ gWs := gin4 (i := 204) rfl rfl
theorem tw_965 : Cond.code ⟨"CoinTrackModel", "bin", "(II)I"⟩ prog_8_method_49_code (3 : Nat) (Option.some FieldType.int) ∈ gWs := gin4 (i := 205) rfl rfl
theorem tw_966 : Cond.methodLink "CoinTrackModel" (192 : Nat) ⟨"CoinTrackModel", "kindsOf", "(I)I"⟩ ∈ gWs := gin4 (i := 206) rfl rfl
theorem tw_968 : Cond.instanceMethod ⟨"CoinTrackModel", "kindsOf", "(I)I"⟩ ∈ gWs := gin4 (i := 208) rfl rfl
theorem tw_969 : Cond.code ⟨"CoinTrackModel", "kindsOf", "(I)I"⟩ prog_8_method_35_code (4 : Nat) (Option.some FieldType.int) ∈ gWs := gin4 (i := 209) rfl rfl
theorem tw_970 : Cond.methodLink "CoinTrackModel" (167 : Nat) ⟨"CoinTrackModel", "has", "(II)Z"⟩ ∈ gWs := gin4 (i := 210) rfl rfl
theorem tw_971 : Cond.static ⟨"CoinTrackModel", "has", "(II)Z"⟩ ∈ gWs := gin4 (i := 211) rfl rfl
theorem tw_972 : Cond.code ⟨"CoinTrackModel", "has", "(II)Z"⟩ prog_8_method_3_code (2 : Nat) (Option.some FieldType.boolean) ∈ gWs := gin4 (i := 212) rfl rfl
theorem tw_973 : Cond.methodLink "CoinTrackLaw" (76 : Nat) ⟨"CoinTrackModel", "coin", "(IIII)I"⟩ ∈ gWs := gin4 (i := 213) rfl rfl
theorem tw_974 : Cond.instanceMethod ⟨"CoinTrackModel", "coin", "(IIII)I"⟩ ∈ gWs := gin4 (i := 214) rfl rfl
theorem tw_975 : Cond.selects "CoinTrackModel" ⟨"CoinTrackModel", "coin", "(IIII)I"⟩ ⟨"CoinTrackModel", "coin", "(IIII)I"⟩ ∈ gWs := gin4 (i := 215) rfl rfl
theorem tw_976 : Cond.code ⟨"CoinTrackModel", "coin", "(IIII)I"⟩ prog_8_method_50_code (6 : Nat) (Option.some FieldType.int) ∈ gWs := gin4 (i := 216) rfl rfl
theorem tw_977 : Cond.methodLink "CoinTrackLaw" (80 : Nat) ⟨"CoinTrackModel", "track", "(I)I"⟩ ∈ gWs := gin4 (i := 217) rfl rfl
theorem tw_978 : Cond.instanceMethod ⟨"CoinTrackModel", "track", "(I)I"⟩ ∈ gWs := gin4 (i := 218) rfl rfl
theorem tw_979 : Cond.selects "CoinTrackModel" ⟨"CoinTrackModel", "track", "(I)I"⟩ ⟨"CoinTrackModel", "track", "(I)I"⟩ ∈ gWs := gin4 (i := 219) rfl rfl
theorem tw_980 : Cond.code ⟨"CoinTrackModel", "track", "(I)I"⟩ prog_8_method_53_code (2 : Nat) (Option.some FieldType.int) ∈ gWs := gin4 (i := 220) rfl rfl
theorem tw_981 : Cond.methodLink "CoinTrackModel" (198 : Nat) ⟨"CoinTrackModel", "doubtful", "()I"⟩ ∈ gWs := gin4 (i := 221) rfl rfl
theorem tw_983 : Cond.instanceMethod ⟨"CoinTrackModel", "doubtful", "()I"⟩ ∈ gWs := gin4 (i := 223) rfl rfl
theorem tw_984 : Cond.code ⟨"CoinTrackModel", "doubtful", "()I"⟩ prog_8_method_51_code (3 : Nat) (Option.some FieldType.int) ∈ gWs := gin4 (i := 224) rfl rfl
theorem tw_985 : Cond.methodLink "CoinTrackModel" (195 : Nat) ⟨"CoinTrackModel", "ones", "(I)I"⟩ ∈ gWs := gin4 (i := 225) rfl rfl
theorem tw_986 : Cond.static ⟨"CoinTrackModel", "ones", "(I)I"⟩ ∈ gWs := gin4 (i := 226) rfl rfl
theorem tw_987 : Cond.code ⟨"CoinTrackModel", "ones", "(I)I"⟩ prog_8_method_4_code (3 : Nat) (Option.some FieldType.int) ∈ gWs := gin4 (i := 227) rfl rfl
theorem tw_988 : Cond.methodLink "CoinTrackModel" (201 : Nat) ⟨"CoinTrackModel", "priceNow", "()I"⟩ ∈ gWs := gin4 (i := 228) rfl rfl
theorem tw_990 : Cond.instanceMethod ⟨"CoinTrackModel", "priceNow", "()I"⟩ ∈ gWs := gin4 (i := 230) rfl rfl
theorem tw_991 : Cond.code ⟨"CoinTrackModel", "priceNow", "()I"⟩ prog_8_method_34_code (3 : Nat) (Option.some FieldType.int) ∈ gWs := gin4 (i := 231) rfl rfl
theorem tw_992 : Cond.methodLink "CoinTrackModel" (204 : Nat) ⟨"CoinTrackModel", "fewest", "()I"⟩ ∈ gWs := gin4 (i := 232) rfl rfl
theorem tw_994 : Cond.instanceMethod ⟨"CoinTrackModel", "fewest", "()I"⟩ ∈ gWs := gin4 (i := 234) rfl rfl
theorem tw_995 : Cond.code ⟨"CoinTrackModel", "fewest", "()I"⟩ prog_8_method_52_code (4 : Nat) (Option.some FieldType.int) ∈ gWs := gin4 (i := 235) rfl rfl
theorem tw_996 : Cond.methodLink "CoinTrackLaw" (84 : Nat) ⟨"CoinTrackModel", "order", "(I)I"⟩ ∈ gWs := gin4 (i := 236) rfl rfl
theorem tw_997 : Cond.instanceMethod ⟨"CoinTrackModel", "order", "(I)I"⟩ ∈ gWs := gin4 (i := 237) rfl rfl
theorem tw_998 : Cond.selects "CoinTrackModel" ⟨"CoinTrackModel", "order", "(I)I"⟩ ⟨"CoinTrackModel", "order", "(I)I"⟩ ∈ gWs := gin4 (i := 238) rfl rfl
theorem tw_999 : Cond.code ⟨"CoinTrackModel", "order", "(I)I"⟩ prog_8_method_57_code (3 : Nat) (Option.some FieldType.int) ∈ gWs := gin4 (i := 239) rfl rfl
theorem tw_1000 : Cond.methodLink "CoinTrackModel" (214 : Nat) ⟨"CoinTrackModel", "findOrder", "()I"⟩ ∈ gWs := gin5 (i := 0) rfl rfl
theorem tw_1002 : Cond.instanceMethod ⟨"CoinTrackModel", "findOrder", "()I"⟩ ∈ gWs := gin5 (i := 2) rfl rfl
theorem tw_1003 : Cond.code ⟨"CoinTrackModel", "findOrder", "()I"⟩ prog_8_method_56_code (5 : Nat) (Option.some FieldType.int) ∈ gWs := gin5 (i := 3) rfl rfl
theorem tw_1004 : Cond.methodLink "CoinTrackModel" (211 : Nat) ⟨"CoinTrackModel", "nextOrder", "()Z"⟩ ∈ gWs := gin5 (i := 4) rfl rfl
theorem tw_1006 : Cond.instanceMethod ⟨"CoinTrackModel", "nextOrder", "()Z"⟩ ∈ gWs := gin5 (i := 6) rfl rfl
theorem tw_1007 : Cond.code ⟨"CoinTrackModel", "nextOrder", "()Z"⟩ prog_8_method_55_code (4 : Nat) (Option.some FieldType.boolean) ∈ gWs := gin5 (i := 7) rfl rfl
theorem tw_1008 : Cond.methodLink "CoinTrackModel" (207 : Nat) ⟨"CoinTrackModel", "swap", "(II)V"⟩ ∈ gWs := gin5 (i := 8) rfl rfl
theorem tw_1010 : Cond.instanceMethod ⟨"CoinTrackModel", "swap", "(II)V"⟩ ∈ gWs := gin5 (i := 10) rfl rfl
theorem tw_1011 : Cond.code ⟨"CoinTrackModel", "swap", "(II)V"⟩ prog_8_method_54_code (4 : Nat) (Option.none : Option FieldType) ∈ gWs := gin5 (i := 11) rfl rfl
theorem tw_1012 : Cond.methodLink "CoinTrackLaw" (89 : Nat) ⟨"CoinTrackModel", "sees", "(III)I"⟩ ∈ gWs := gin5 (i := 12) rfl rfl
theorem tw_1013 : Cond.instanceMethod ⟨"CoinTrackModel", "sees", "(III)I"⟩ ∈ gWs := gin5 (i := 13) rfl rfl
theorem tw_1014 : Cond.selects "CoinTrackModel" ⟨"CoinTrackModel", "sees", "(III)I"⟩ ⟨"CoinTrackModel", "sees", "(III)I"⟩ ∈ gWs := gin5 (i := 14) rfl rfl
theorem tw_1015 : Cond.code ⟨"CoinTrackModel", "sees", "(III)I"⟩ prog_8_method_58_code (4 : Nat) (Option.some FieldType.int) ∈ gWs := gin5 (i := 15) rfl rfl
theorem tw_1016 : Cond.methodLink "CoinTrackLaw" (93 : Nat) ⟨"CoinTrackModel", "forget", "()I"⟩ ∈ gWs := gin5 (i := 16) rfl rfl
theorem tw_1017 : Cond.instanceMethod ⟨"CoinTrackModel", "forget", "()I"⟩ ∈ gWs := gin5 (i := 17) rfl rfl
theorem tw_1018 : Cond.selects "CoinTrackModel" ⟨"CoinTrackModel", "forget", "()I"⟩ ⟨"CoinTrackModel", "forget", "()I"⟩ ∈ gWs := gin5 (i := 18) rfl rfl
theorem tw_1019 : Cond.code ⟨"CoinTrackModel", "forget", "()I"⟩ prog_8_method_59_code (2 : Nat) (Option.some FieldType.int) ∈ gWs := gin5 (i := 19) rfl rfl
theorem tw_1020 : Cond.methodLink "CoinTrackLaw" (97 : Nat) ⟨"CoinTrackModel", "suspects", "(I)I"⟩ ∈ gWs := gin5 (i := 20) rfl rfl
theorem tw_1021 : Cond.instanceMethod ⟨"CoinTrackModel", "suspects", "(I)I"⟩ ∈ gWs := gin5 (i := 21) rfl rfl
theorem tw_1022 : Cond.selects "CoinTrackModel" ⟨"CoinTrackModel", "suspects", "(I)I"⟩ ⟨"CoinTrackModel", "suspects", "(I)I"⟩ ∈ gWs := gin5 (i := 22) rfl rfl
theorem tw_1023 : Cond.code ⟨"CoinTrackModel", "suspects", "(I)I"⟩ prog_8_method_64_code (2 : Nat) (Option.some FieldType.int) ∈ gWs := gin5 (i := 23) rfl rfl
theorem tw_1024 : Cond.constant "CoinTrackModel" (232 : Nat) (-1000000 : Int32) ∈ gWs := gin5 (i := 24) rfl rfl
theorem tw_1025 : Cond.methodLink "CoinTrackModel" (233 : Nat) ⟨"CoinTrackModel", "findSuspects", "()V"⟩ ∈ gWs := gin5 (i := 25) rfl rfl
theorem tw_1027 : Cond.instanceMethod ⟨"CoinTrackModel", "findSuspects", "()V"⟩ ∈ gWs := gin5 (i := 27) rfl rfl
theorem tw_1028 : Cond.code ⟨"CoinTrackModel", "findSuspects", "()V"⟩ prog_8_method_63_code (2 : Nat) (Option.none : Option FieldType) ∈ gWs := gin5 (i := 28) rfl rfl
theorem tw_1029 : Cond.methodLink "CoinTrackModel" (226 : Nat) ⟨"CoinTrackModel", "takeSuspect", "(I)Z"⟩ ∈ gWs := gin5 (i := 29) rfl rfl
theorem tw_1031 : Cond.instanceMethod ⟨"CoinTrackModel", "takeSuspect", "(I)Z"⟩ ∈ gWs := gin5 (i := 31) rfl rfl
theorem tw_1032 : Cond.code ⟨"CoinTrackModel", "takeSuspect", "(I)Z"⟩ prog_8_method_62_code (2 : Nat) (Option.some FieldType.boolean) ∈ gWs := gin5 (i := 32) rfl rfl
theorem tw_1033 : Cond.methodLink "CoinTrackModel" (229 : Nat) ⟨"CoinTrackModel", "areSo", "()Z"⟩ ∈ gWs := gin5 (i := 33) rfl rfl
theorem tw_1035 : Cond.instanceMethod ⟨"CoinTrackModel", "areSo", "()Z"⟩ ∈ gWs := gin5 (i := 35) rfl rfl
theorem tw_1036 : Cond.code ⟨"CoinTrackModel", "areSo", "()Z"⟩ prog_8_method_61_code (3 : Nat) (Option.some FieldType.boolean) ∈ gWs := gin5 (i := 36) rfl rfl
theorem tw_1037 : Cond.methodLink "CoinTrackModel" (220 : Nat) ⟨"CoinTrackModel", "isSo", "(I)Z"⟩ ∈ gWs := gin5 (i := 37) rfl rfl
theorem tw_1039 : Cond.instanceMethod ⟨"CoinTrackModel", "isSo", "(I)Z"⟩ ∈ gWs := gin5 (i := 39) rfl rfl
theorem tw_1040 : Cond.code ⟨"CoinTrackModel", "isSo", "(I)Z"⟩ prog_8_method_60_code (5 : Nat) (Option.some FieldType.boolean) ∈ gWs := gin5 (i := 40) rfl rfl
theorem tw_1041 : Cond.methodLink "CoinTrackLaw" (101 : Nat) ⟨"CoinTrackModel", "look", "()I"⟩ ∈ gWs := gin5 (i := 41) rfl rfl
theorem tw_1042 : Cond.instanceMethod ⟨"CoinTrackModel", "look", "()I"⟩ ∈ gWs := gin5 (i := 42) rfl rfl
theorem tw_1043 : Cond.selects "CoinTrackModel" ⟨"CoinTrackModel", "look", "()I"⟩ ⟨"CoinTrackModel", "look", "()I"⟩ ∈ gWs := gin5 (i := 43) rfl rfl
theorem tw_1044 : Cond.code ⟨"CoinTrackModel", "look", "()I"⟩ prog_8_method_66_code (6 : Nat) (Option.some FieldType.int) ∈ gWs := gin5 (i := 44) rfl rfl
theorem tw_1045 : Cond.methodLink "CoinTrackModel" (236 : Nat) ⟨"CoinTrackModel", "mostBy", "(II)I"⟩ ∈ gWs := gin5 (i := 45) rfl rfl
theorem tw_1047 : Cond.instanceMethod ⟨"CoinTrackModel", "mostBy", "(II)I"⟩ ∈ gWs := gin5 (i := 47) rfl rfl
theorem tw_1048 : Cond.code ⟨"CoinTrackModel", "mostBy", "(II)I"⟩ prog_8_method_65_code (7 : Nat) (Option.some FieldType.int) ∈ gWs := gin5 (i := 48) rfl rfl
theorem tw_1049 : Cond.methodLink "CoinTrackLaw" (105 : Nat) ⟨"CoinTrackModel", "keep", "(I)I"⟩ ∈ gWs := gin5 (i := 49) rfl rfl
theorem tw_1050 : Cond.instanceMethod ⟨"CoinTrackModel", "keep", "(I)I"⟩ ∈ gWs := gin5 (i := 50) rfl rfl
theorem tw_1051 : Cond.selects "CoinTrackModel" ⟨"CoinTrackModel", "keep", "(I)I"⟩ ⟨"CoinTrackModel", "keep", "(I)I"⟩ ∈ gWs := gin5 (i := 51) rfl rfl
theorem tw_1052 : Cond.code ⟨"CoinTrackModel", "keep", "(I)I"⟩ prog_8_method_67_code (2 : Nat) (Option.some FieldType.int) ∈ gWs := gin5 (i := 52) rfl rfl
theorem tw_1053 : Cond.methodLink "CoinTrackLaw" (109 : Nat) ⟨"CoinTrackModel", "back", "(I)I"⟩ ∈ gWs := gin5 (i := 53) rfl rfl
theorem tw_1054 : Cond.instanceMethod ⟨"CoinTrackModel", "back", "(I)I"⟩ ∈ gWs := gin5 (i := 54) rfl rfl
theorem tw_1055 : Cond.selects "CoinTrackModel" ⟨"CoinTrackModel", "back", "(I)I"⟩ ⟨"CoinTrackModel", "back", "(I)I"⟩ ∈ gWs := gin5 (i := 55) rfl rfl
theorem tw_1056 : Cond.code ⟨"CoinTrackModel", "back", "(I)I"⟩ prog_8_method_68_code (2 : Nat) (Option.some FieldType.int) ∈ gWs := gin5 (i := 56) rfl rfl
theorem tw_1057 : Cond.methodLink "CoinTrackLaw" (113 : Nat) ⟨"CoinTrackModel", "count", "(I)I"⟩ ∈ gWs := gin5 (i := 57) rfl rfl
theorem tw_1058 : Cond.instanceMethod ⟨"CoinTrackModel", "count", "(I)I"⟩ ∈ gWs := gin5 (i := 58) rfl rfl
theorem tw_1059 : Cond.selects "CoinTrackModel" ⟨"CoinTrackModel", "count", "(I)I"⟩ ⟨"CoinTrackModel", "count", "(I)I"⟩ ∈ gWs := gin5 (i := 59) rfl rfl
theorem tw_1060 : Cond.code ⟨"CoinTrackModel", "count", "(I)I"⟩ prog_8_method_70_code (2 : Nat) (Option.some FieldType.int) ∈ gWs := gin5 (i := 60) rfl rfl
theorem tw_1061 : Cond.methodLink "CoinTrackModel" (239 : Nat) ⟨"CoinTrackModel", "coins", "()I"⟩ ∈ gWs := gin5 (i := 61) rfl rfl
theorem tw_1063 : Cond.instanceMethod ⟨"CoinTrackModel", "coins", "()I"⟩ ∈ gWs := gin5 (i := 63) rfl rfl
theorem tw_1064 : Cond.code ⟨"CoinTrackModel", "coins", "()I"⟩ prog_8_method_69_code (3 : Nat) (Option.some FieldType.int) ∈ gWs := gin5 (i := 64) rfl rfl
theorem tw_1065 : Cond.fieldLink "java/lang/String" (9 : Nat) "java/lang/String" "value" "[B" ∈ gWs := gin5 (i := 65) rfl rfl
theorem tw_1066 : Cond.fieldLink "java/lang/String" (15 : Nat) "java/lang/String" "coder" "B" ∈ gWs := gin5 (i := 66) rfl rfl
theorem inWX0 : ∀ w ∈ u_ws RX0 TX0 3, w ∈ gWs := List.forall_mem_cons.mpr ⟨tw_115, List.forall_mem_cons.mpr ⟨tw_117, List.forall_mem_cons.mpr ⟨tw_119, fun _ h => absurd h List.not_mem_nil⟩⟩⟩
theorem inWX1 : ∀ w ∈ u_ws RX1 TX1 5, w ∈ gWs := List.forall_mem_cons.mpr ⟨tw_165, List.forall_mem_cons.mpr ⟨tw_167, List.forall_mem_cons.mpr ⟨tw_169, List.forall_mem_cons.mpr ⟨tw_171, List.forall_mem_cons.mpr ⟨tw_173, fun _ h => absurd h List.not_mem_nil⟩⟩⟩⟩⟩
theorem inWX2 : ∀ w ∈ u_ws RX2 TX2 7, w ∈ gWs := List.forall_mem_cons.mpr ⟨tw_139, List.forall_mem_cons.mpr ⟨tw_141, List.forall_mem_cons.mpr ⟨tw_143, List.forall_mem_cons.mpr ⟨tw_145, List.forall_mem_cons.mpr ⟨tw_147, List.forall_mem_cons.mpr ⟨tw_149, List.forall_mem_cons.mpr ⟨tw_151, fun _ h => absurd h List.not_mem_nil⟩⟩⟩⟩⟩⟩⟩
theorem inWX3 : ∀ w ∈ u_ws RX3 TX3 7, w ∈ gWs := List.forall_mem_cons.mpr ⟨tw_87, List.forall_mem_cons.mpr ⟨tw_89, List.forall_mem_cons.mpr ⟨tw_91, List.forall_mem_cons.mpr ⟨tw_93, List.forall_mem_cons.mpr ⟨tw_95, List.forall_mem_cons.mpr ⟨tw_97, List.forall_mem_cons.mpr ⟨tw_99, fun _ h => absurd h List.not_mem_nil⟩⟩⟩⟩⟩⟩⟩
theorem inWX4 : ∀ w ∈ u_ws RX4 TX4 5, w ∈ gWs := List.forall_mem_cons.mpr ⟨tw_189, List.forall_mem_cons.mpr ⟨tw_191, List.forall_mem_cons.mpr ⟨tw_193, List.forall_mem_cons.mpr ⟨tw_195, List.forall_mem_cons.mpr ⟨tw_197, fun _ h => absurd h List.not_mem_nil⟩⟩⟩⟩⟩
theorem inWX5 : ∀ w ∈ u_ws RX5 TX5 6, w ∈ gWs := List.forall_mem_cons.mpr ⟨tw_206, List.forall_mem_cons.mpr ⟨tw_208, List.forall_mem_cons.mpr ⟨tw_210, List.forall_mem_cons.mpr ⟨tw_212, List.forall_mem_cons.mpr ⟨tw_214, List.forall_mem_cons.mpr ⟨tw_216, fun _ h => absurd h List.not_mem_nil⟩⟩⟩⟩⟩⟩
theorem inWX6 : ∀ w ∈ u_ws RX6 TX6 23, w ∈ gWs := List.forall_mem_cons.mpr ⟨tw_746, List.forall_mem_cons.mpr ⟨tw_748, List.forall_mem_cons.mpr ⟨tw_750, List.forall_mem_cons.mpr ⟨tw_752, List.forall_mem_cons.mpr ⟨tw_754, List.forall_mem_cons.mpr ⟨tw_756, List.forall_mem_cons.mpr ⟨tw_758, List.forall_mem_cons.mpr ⟨tw_760, List.forall_mem_cons.mpr ⟨tw_762, List.forall_mem_cons.mpr ⟨tw_764, List.forall_mem_cons.mpr ⟨tw_766, List.forall_mem_cons.mpr ⟨tw_768, List.forall_mem_cons.mpr ⟨tw_770, List.forall_mem_cons.mpr ⟨tw_772, List.forall_mem_cons.mpr ⟨tw_774, List.forall_mem_cons.mpr ⟨tw_776, List.forall_mem_cons.mpr ⟨tw_778, List.forall_mem_cons.mpr ⟨tw_780, List.forall_mem_cons.mpr ⟨tw_782, List.forall_mem_cons.mpr ⟨tw_784, List.forall_mem_cons.mpr ⟨tw_786, List.forall_mem_cons.mpr ⟨tw_788, List.forall_mem_cons.mpr ⟨tw_790, fun _ h => absurd h List.not_mem_nil⟩⟩⟩⟩⟩⟩⟩⟩⟩⟩⟩⟩⟩⟩⟩⟩⟩⟩⟩⟩⟩⟩⟩
theorem nw_0 : (("CoinTrack", 11, ⟨"CoinTrack$Track", "<init>", "()V"⟩, "CoinTrack") : String × Nat × MethodName × String) ∈ gNl := List.mem_of_getElem? (i := 0) rfl
theorem nw_1 : (("CoinTrack", 18, ⟨"CoinTrack$History", "<init>", "()V"⟩, "CoinTrack") : String × Nat × MethodName × String) ∈ gNl := List.mem_of_getElem? (i := 1) rfl
theorem nw_2 : (("CoinTrack", 29, ⟨"CoinTrack$Teller", "<init>", "()V"⟩, "CoinTrack") : String × Nat × MethodName × String) ∈ gNl := List.mem_of_getElem? (i := 2) rfl
theorem nw_3 : (("CoinTrack$Teller", 20, ⟨"CoinTrack$Track", "<init>", "()V"⟩, "CoinTrack") : String × Nat × MethodName × String) ∈ gNl := List.mem_of_getElem? (i := 3) rfl
theorem nw_4 : (("CoinTrack", 36, ⟨"CoinTrack$Planner", "<init>", "()V"⟩, "CoinTrack") : String × Nat × MethodName × String) ∈ gNl := List.mem_of_getElem? (i := 4) rfl
theorem nw_5 : (("CoinTrack", 43, ⟨"CoinTrack$Witness", "<init>", "()V"⟩, "CoinTrack") : String × Nat × MethodName × String) ∈ gNl := List.mem_of_getElem? (i := 5) rfl
theorem nw_6 : (("CoinTrack$Teller", 103, ⟨"CoinTrack", "within", "(III)Z"⟩, "CoinTrack") : String × Nat × MethodName × String) ∈ gNl := List.mem_of_getElem? (i := 6) rfl
theorem nw_7 : (("CoinTrack$Teller", 109, ⟨"CoinTrack", "wearFits", "(II)Z"⟩, "CoinTrack") : String × Nat × MethodName × String) ∈ gNl := List.mem_of_getElem? (i := 7) rfl
theorem nw_8 : (("CoinTrack$Teller", 106, ⟨"CoinTrack", "boundFits", "(II)Z"⟩, "CoinTrack") : String × Nat × MethodName × String) ∈ gNl := List.mem_of_getElem? (i := 8) rfl
theorem nw_9 : (("CoinTrack$History", 28, ⟨"CoinTrack$Track", "<init>", "()V"⟩, "CoinTrack") : String × Nat × MethodName × String) ∈ gNl := List.mem_of_getElem? (i := 9) rfl
theorem nw_10 : (("CoinTrack$Track", 51, ⟨"CoinTrack", "within", "(III)Z"⟩, "CoinTrack") : String × Nat × MethodName × String) ∈ gNl := List.mem_of_getElem? (i := 10) rfl
theorem nw_11 : (("CoinTrack$Track", 94, ⟨"CoinTrack", "isOneAtMost", "(I)Z"⟩, "CoinTrack") : String × Nat × MethodName × String) ∈ gNl := List.mem_of_getElem? (i := 11) rfl
theorem nw_12 : (("CoinTrack$Planner", 64, ⟨"CoinTrack", "isOneAtMost", "(I)Z"⟩, "CoinTrack") : String × Nat × MethodName × String) ∈ gNl := List.mem_of_getElem? (i := 12) rfl
def gMno : gM := (⟨"", "", ""⟩, ⟨#[]⟩, 0, none, "", 0)
def gMn (c : Nat) (a b : Nat → gM) : Nat → gM := fun i => cond (Nat.blt i c) (a i) (b i)
def gMl (c : Nat) (a : gM) : Nat → gM := fun i => cond (Nat.beq i c) a gMno
def gmt : Nat → gM := gMn 92 (gMn 46 (gMn 23 (gMn 11 (gMn 5 (gMn 2 (gMn 1 (gMl 0 (yJ0_length_8abf5, cJ0_length_8abf5, 1, some .int, RJ0, 1)) (gMl 1 (yJ0_charAt_5068e, cJ0_charAt_5068e, 2, some .char, RJ0, 3))) (gMn 3 (gMl 2 (yJ0_coder_7d493, cJ0_coder_7d493, 1, some .byte, RJ0, 0)) (gMn 4 (gMl 3 (yJ0_isLatin1_aae02, cJ0_isLatin1_aae02, 1, some .boolean, RJ0, 0)) (gMl 4 (yJ0_checkIndex_df160, cJ0_checkIndex_df160, 2, none, RJ0, 1))))) (gMn 8 (gMn 6 (gMl 5 (yJ1_charAt_3b067, cJ1_charAt_3b067, 2, some .char, RJ1, 2)) (gMn 7 (gMl 6 (yJ3_checkIndex_8e157, cJ3_checkIndex_8e157, 3, some .int, RJ3, 0)) (gMl 7 (yJ6_bitCount_0f7a4, cJ6_bitCount_0f7a4, 1, some .int, RJ6, 0)))) (gMn 9 (gMl 8 (yL_law, cL_law, 4, some .boolean, RL, 9)) (gMn 10 (gMl 9 (yX0_init, cX0_init, 1, none, RX0, 1)) (gMl 10 (yX0_remember, cX0_remember, 3, none, RX0, 2)))))) (gMn 17 (gMn 14 (gMn 12 (gMl 11 (yX0_recall, cX0_recall, 3, some .boolean, RX0, 2)) (gMn 13 (gMl 12 (yX0_isPlace, cX0_isPlace, 2, some .boolean, RX0, 0)) (gMl 13 (yX1_init, cX1_init, 1, none, RX1, 1)))) (gMn 15 (gMl 14 (yX1_study, cX1_study, 7, none, RX1, 2)) (gMn 16 (gMl 15 (yX1_appendVariety, cX1_appendVariety, 3, none, RX1, 0)) (gMl 16 (yX1_fewest, cX1_fewest, 5, some .int, RX1, 3))))) (gMn 20 (gMn 18 (gMl 17 (yX1_apartBy, cX1_apartBy, 6, some .boolean, RX1, 2)) (gMn 19 (gMl 18 (yX1_plan, cX1_plan, 4, some .int, RX1, 3)) (gMl 19 (yX1_planBehind, cX1_planBehind, 8, none, RX1, 2)))) (gMn 21 (gMl 20 (yX1_priceBy, cX1_priceBy, 6, some .int, RX1, 1)) (gMn 22 (gMl 21 (yX1_kindsRolling, cX1_kindsRolling, 2, some .int, RX1, 1)) (gMl 22 (yX1_kindsFalling, cX1_kindsFalling, 5, some .int, RX1, 0))))))) (gMn 34 (gMn 28 (gMn 25 (gMn 24 (gMl 23 (yX1_shareOf, cX1_shareOf, 5, some .int, RX1, 1)) (gMl 24 (yX1_placed, cX1_placed, 5, some .int, RX1, 1))) (gMn 26 (gMl 25 (yX1_testBehind, cX1_testBehind, 2, some .int, RX1, 0)) (gMn 27 (gMl 26 (yX2_init, cX2_init, 1, none, RX2, 2)) (gMl 27 (yX2_append, cX2_append, 2, some .boolean, RX2, 0))))) (gMn 31 (gMn 29 (gMl 28 (yX2_letterAt, cX2_letterAt, 2, some .int, RX2, 0)) (gMn 30 (gMl 29 (yX2_readAll, cX2_readAll, 2, some .int, RX2, 7)) (gMl 30 (yX2_readItem, cX2_readItem, 4, some .boolean, RX2, 6)))) (gMn 32 (gMl 31 (yX2_itemOfWord, cX2_itemOfWord, 1, some .int, RX2, 5)) (gMn 33 (gMl 32 (yX2_spells, cX2_spells, 3, some .boolean, RX2, 4)) (gMl 33 (yX2_mayCome, cX2_mayCome, 2, some .boolean, RX2, 0)))))) (gMn 40 (gMn 37 (gMn 35 (gMl 34 (yX2_fits, cX2_fits, 4, some .boolean, RX2, 3)) (gMn 36 (gMl 35 (yX2_fitsCoin, cX2_fitsCoin, 3, some .boolean, RX2, 2)) (gMl 36 (yX2_putItem, cX2_putItem, 2, none, RX2, 3)))) (gMn 38 (gMl 37 (yX2_readToken, cX2_readToken, 1, none, RX2, 2)) (gMn 39 (gMl 38 (yX2_isPlainNumber, cX2_isPlainNumber, 2, some .boolean, RX2, 1)) (gMl 39 (yX2_numberRead, cX2_numberRead, 3, some .int, RX2, 1))))) (gMn 43 (gMn 41 (gMl 40 (yX2_isSmallLetter, cX2_isSmallLetter, 1, some .boolean, RX2, 1)) (gMn 42 (gMl 41 (yX2_isFigure, cX2_isFigure, 1, some .boolean, RX2, 1)) (gMl 42 (yX3_init, cX3_init, 1, none, RX3, 1)))) (gMn 44 (gMl 43 (yX3_reset, cX3_reset, 1, none, RX3, 1)) (gMn 45 (gMl 44 (yX3_copyFrom, cX3_copyFrom, 2, none, RX3, 1)) (gMl 45 (yX3_hasKind, cX3_hasKind, 2, some .boolean, RX3, 0)))))))) (gMn 69 (gMn 57 (gMn 51 (gMn 48 (gMn 47 (gMl 46 (yX3_hasCoin, cX3_hasCoin, 3, some .boolean, RX3, 1)) (gMl 47 (yX3_hasTest, cX3_hasTest, 2, some .boolean, RX3, 0))) (gMn 49 (gMl 48 (yX3_hasBin, cX3_hasBin, 2, some .boolean, RX3, 0)) (gMn 50 (gMl 49 (yX3_ofKind, cX3_ofKind, 4, some .int, RX3, 0)) (gMl 50 (yX3_putOfKind, cX3_putOfKind, 5, none, RX3, 0))))) (gMn 54 (gMn 52 (gMl 51 (yX3_ofTest, cX3_ofTest, 4, some .int, RX3, 0)) (gMn 53 (gMl 52 (yX3_putOfTest, cX3_putOfTest, 5, none, RX3, 0)) (gMl 53 (yX3_appendKind, cX3_appendKind, 6, none, RX3, 1)))) (gMn 55 (gMl 54 (yX3_insertTest, cX3_insertTest, 6, none, RX3, 2)) (gMn 56 (gMl 55 (yX3_removeTest, cX3_removeTest, 3, none, RX3, 2)) (gMl 56 (yX3_copyTest, cX3_copyTest, 4, none, RX3, 1)))))) (gMn 63 (gMn 60 (gMn 58 (gMl 57 (yX3_coinsIn, cX3_coinsIn, 2, some .int, RX3, 0)) (gMn 59 (gMl 58 (yX3_coinsInAll, cX3_coinsInAll, 3, some .int, RX3, 0)) (gMl 59 (yX3_emptyBin, cX3_emptyBin, 2, none, RX3, 0)))) (gMn 61 (gMl 60 (yX3_emptyAll, cX3_emptyAll, 2, none, RX3, 0)) (gMn 62 (gMl 61 (yX3_takeIn, cX3_takeIn, 2, some .boolean, RX3, 0)) (gMl 62 (yX3_letsFall, cX3_letsFall, 8, some .boolean, RX3, 0))))) (gMn 66 (gMn 64 (gMl 63 (yX3_binOf, cX3_binOf, 6, some .int, RX3, 1)) (gMn 65 (gMl 64 (yX3_shiftOf, cX3_shiftOf, 2, some .int, RX3, 0)) (gMl 65 (yX3_binOfCoin, cX3_binOfCoin, 4, some .int, RX3, 2)))) (gMn 67 (gMl 66 (yX3_stopsOf, cX3_stopsOf, 8, some .int, RX3, 1)) (gMn 68 (gMl 67 (yX3_binsOf, cX3_binsOf, 5, some .int, RX3, 3)) (gMl 68 (yX3_kindsOf, cX3_kindsOf, 4, some .int, RX3, 4))))))) (gMn 80 (gMn 74 (gMn 71 (gMn 70 (gMl 69 (yX3_apart, cX3_apart, 1, some .boolean, RX3, 5)) (gMl 70 (yX3_binsOfAllBut, cX3_binsOfAllBut, 5, some .int, RX3, 4))) (gMn 72 (gMl 71 (yX3_bears, cX3_bears, 6, some .int, RX3, 5)) (gMn 73 (gMl 72 (yX3_doubtful, cX3_doubtful, 4, some .int, RX3, 4)) (gMl 73 (yX3_tollTo, cX3_tollTo, 4, some .int, RX3, 1))))) (gMn 77 (gMn 75 (gMl 74 (yX3_greatestToll, cX3_greatestToll, 5, some .int, RX3, 4)) (gMn 76 (gMl 75 (yX3_price, cX3_price, 3, some .int, RX3, 5)) (gMl 76 (yX4_init, cX4_init, 1, none, RX4, 1)))) (gMn 78 (gMl 77 (yX4_append, cX4_append, 5, some .boolean, RX4, 0)) (gMn 79 (gMl 78 (yX4_gather, cX4_gather, 3, none, RX4, 5)) (gMl 79 (yX4_accuse, cX4_accuse, 3, none, RX4, 4)))))) (gMn 86 (gMn 83 (gMn 81 (gMl 80 (yX4_explainsAll, cX4_explainsAll, 6, some .boolean, RX4, 3)) (gMn 82 (gMl 81 (yX4_firstSuspect, cX4_firstSuspect, 1, some .int, RX4, 0)) (gMl 82 (yX4_tellingCoin, cX4_tellingCoin, 8, some .int, RX4, 4)))) (gMn 84 (gMl 83 (yX4_mostAgreeing, cX4_mostAgreeing, 7, some .int, RX4, 3)) (gMn 85 (gMl 84 (yX5_init, cX5_init, 1, none, RX5, 3)) (gMl 85 (yX5_type, cX5_type, 2, some .int, RX5, 1))))) (gMn 89 (gMn 87 (gMl 86 (yX5_clear, cX5_clear, 2, some .int, RX5, 0)) (gMn 88 (gMl 87 (yX5_tells, cX5_tells, 2, some .int, RX5, 8)) (gMl 88 (yX5_drops, cX5_drops, 4, some .int, RX5, 3)))) (gMn 90 (gMl 89 (yX5_frees, cX5_frees, 2, some .int, RX5, 3)) (gMn 91 (gMl 90 (yX5_empties, cX5_empties, 3, some .int, RX5, 3)) (gMl 91 (yX5_puts, cX5_puts, 5, some .int, RX5, 3))))))))) (gMn 138 (gMn 115 (gMn 103 (gMn 97 (gMn 94 (gMn 93 (gMl 92 (yX5_takes, cX5_takes, 2, some .int, RX5, 3)) (gMl 93 (yX5_sets, cX5_sets, 4, some .int, RX5, 3))) (gMn 95 (gMl 94 (yX5_adds, cX5_adds, 5, some .int, RX5, 3)) (gMn 96 (gMl 95 (yX5_undo, cX5_undo, 1, some .int, RX5, 3)) (gMl 96 (yX5_kind, cX5_kind, 3, some .int, RX5, 6))))) (gMn 100 (gMn 98 (gMl 97 (yX5_test, cX5_test, 3, some .int, RX5, 1)) (gMn 99 (gMl 98 (yX5_bin, cX5_bin, 3, some .int, RX5, 5)) (gMl 99 (yX5_coin, cX5_coin, 6, some .int, RX5, 5)))) (gMn 101 (gMl 100 (yX5_track, cX5_track, 2, some .int, RX5, 6)) (gMn 102 (gMl 101 (yX5_order, cX5_order, 3, some .int, RX5, 4)) (gMl 102 (yX5_sees, cX5_sees, 4, some .int, RX5, 1)))))) (gMn 109 (gMn 106 (gMn 104 (gMl 103 (yX5_forget, cX5_forget, 2, some .int, RX5, 0)) (gMn 105 (gMl 104 (yX5_suspects, cX5_suspects, 2, some .int, RX5, 6)) (gMl 105 (yX5_look, cX5_look, 1, some .int, RX5, 6)))) (gMn 107 (gMl 106 (yX5_keep, cX5_keep, 2, some .int, RX5, 2)) (gMn 108 (gMl 107 (yX5_back, cX5_back, 2, some .int, RX5, 2)) (gMl 108 (yX5_count, cX5_count, 2, some .int, RX5, 1))))) (gMn 112 (gMn 110 (gMl 109 (yX5_hasImage, cX5_hasImage, 2, some .boolean, RX5, 0)) (gMn 111 (gMl 110 (yX5_within, cX5_within, 3, some .boolean, RX5, 0)) (gMl 111 (yX5_boundFits, cX5_boundFits, 2, some .boolean, RX5, 1)))) (gMn 113 (gMl 112 (yX5_coinFits, cX5_coinFits, 3, some .boolean, RX5, 1)) (gMn 114 (gMl 113 (yX5_wearFits, cX5_wearFits, 2, some .boolean, RX5, 1)) (gMl 114 (yX5_isOneAtMost, cX5_isOneAtMost, 1, some .boolean, RX5, 0))))))) (gMn 126 (gMn 120 (gMn 117 (gMn 116 (gMl 115 (yX6_init, cX6_init, 1, none, RX6, 1)) (gMl 116 (yX6_in, cX6_in, 3, some .boolean, RX6, 0))) (gMn 118 (gMl 117 (yX6_has, cX6_has, 2, some .boolean, RX6, 0)) (gMn 119 (gMl 118 (yX6_ones, cX6_ones, 3, some .int, RX6, 0)) (gMl 119 (yX6_bring, cX6_bring, 5, none, RX6, 0))))) (gMn 123 (gMn 121 (gMl 120 (yX6_note, cX6_note, 2, none, RX6, 1)) (gMn 122 (gMl 121 (yX6_beginRead, cX6_beginRead, 2, none, RX6, 0)) (gMl 122 (yX6_isLetter, cX6_isLetter, 1, some .boolean, RX6, 1)))) (gMn 124 (gMl 123 (yX6_isFigure, cX6_isFigure, 1, some .boolean, RX6, 1)) (gMn 125 (gMl 124 (yX6_wordTo, cX6_wordTo, 4, some .int, RX6, 0)) (gMl 125 (yX6_next, cX6_next, 1, none, RX6, 2)))))) (gMn 132 (gMn 129 (gMn 127 (gMl 126 (yX6_readNumber, cX6_readNumber, 5, some .boolean, RX6, 3)) (gMn 128 (gMl 127 (yX6_readCoin, cX6_readCoin, 3, some .boolean, RX6, 4)) (gMl 128 (yX6_readTest, cX6_readTest, 3, some .boolean, RX6, 4)))) (gMn 130 (gMl 129 (yX6_leastOf, cX6_leastOf, 1, some .int, RX6, 0)) (gMn 131 (gMl 130 (yX6_mostOf, cX6_mostOf, 1, some .int, RX6, 0)) (gMl 131 (yX6_readItem, cX6_readItem, 1, some .boolean, RX6, 5))))) (gMn 135 (gMn 133 (gMl 132 (yX6_readText, cX6_readText, 1, some .int, RX6, 6)) (gMn 134 (gMl 133 (yX6_type, cX6_type, 2, some .int, RX6, 1)) (gMl 134 (yX6_clear, cX6_clear, 2, some .int, RX6, 0)))) (gMn 136 (gMl 135 (yX6_tells, cX6_tells, 2, some .int, RX6, 7)) (gMn 137 (gMl 136 (yX6_isKind, cX6_isKind, 2, some .boolean, RX6, 1)) (gMl 137 (yX6_isTest, cX6_isTest, 2, some .boolean, RX6, 1)))))))) (gMn 161 (gMn 149 (gMn 143 (gMn 140 (gMn 139 (gMl 138 (yX6_ofKind, cX6_ofKind, 3, some .int, RX6, 0)) (gMl 139 (yX6_ofTest, cX6_ofTest, 3, some .int, RX6, 0))) (gMn 141 (gMl 140 (yX6_asTold, cX6_asTold, 2, none, RX6, 0)) (gMn 142 (gMl 141 (yX6_falls, cX6_falls, 7, some .boolean, RX6, 1)) (gMl 142 (yX6_binOf, cX6_binOf, 5, some .int, RX6, 2))))) (gMn 146 (gMn 144 (gMl 143 (yX6_binBy, cX6_binBy, 3, some .int, RX6, 3)) (gMn 145 (gMl 144 (yX6_tollTo, cX6_tollTo, 4, some .int, RX6, 1)) (gMl 145 (yX6_binsOf, cX6_binsOf, 5, some .int, RX6, 4)))) (gMn 147 (gMl 146 (yX6_tollOf, cX6_tollOf, 5, some .int, RX6, 4)) (gMn 148 (gMl 147 (yX6_areApart, cX6_areApart, 7, some .boolean, RX6, 5)) (gMl 148 (yX6_priceNow, cX6_priceNow, 3, some .int, RX6, 5)))))) (gMn 155 (gMn 152 (gMn 150 (gMl 149 (yX6_kindsOf, cX6_kindsOf, 4, some .int, RX6, 5)) (gMn 151 (gMl 150 (yX6_drops, cX6_drops, 4, some .int, RX6, 4)) (gMl 151 (yX6_frees, cX6_frees, 2, some .int, RX6, 2)))) (gMn 153 (gMl 152 (yX6_isBin, cX6_isBin, 2, some .boolean, RX6, 1)) (gMn 154 (gMl 153 (yX6_empties, cX6_empties, 3, some .int, RX6, 2)) (gMl 154 (yX6_emptyAll, cX6_emptyAll, 2, none, RX6, 0))))) (gMn 158 (gMn 156 (gMl 155 (yX6_puts, cX6_puts, 6, some .int, RX6, 2)) (gMn 157 (gMl 156 (yX6_takes, cX6_takes, 3, some .int, RX6, 2)) (gMl 157 (yX6_sets, cX6_sets, 4, some .int, RX6, 2)))) (gMn 159 (gMl 158 (yX6_adds, cX6_adds, 6, some .int, RX6, 2)) (gMn 160 (gMl 159 (yX6_undo, cX6_undo, 1, some .int, RX6, 1)) (gMl 160 (yX6_bearsOf, cX6_bearsOf, 4, some .int, RX6, 6))))))) (gMn 173 (gMn 167 (gMn 164 (gMn 162 (gMl 161 (yX6_kind, cX6_kind, 3, some .int, RX6, 7)) (gMn 163 (gMl 162 (yX6_test, cX6_test, 3, some .int, RX6, 2)) (gMl 163 (yX6_bin, cX6_bin, 3, some .int, RX6, 6)))) (gMn 165 (gMl 164 (yX6_coin, cX6_coin, 6, some .int, RX6, 6)) (gMn 166 (gMl 165 (yX6_doubtful, cX6_doubtful, 3, some .int, RX6, 5)) (gMl 166 (yX6_fewest, cX6_fewest, 4, some .int, RX6, 6))))) (gMn 170 (gMn 168 (gMl 167 (yX6_track, cX6_track, 2, some .int, RX6, 7)) (gMn 169 (gMl 168 (yX6_swap, cX6_swap, 4, none, RX6, 0)) (gMl 169 (yX6_nextOrder, cX6_nextOrder, 4, some .boolean, RX6, 1)))) (gMn 171 (gMl 170 (yX6_findOrder, cX6_findOrder, 5, some .int, RX6, 6)) (gMn 172 (gMl 171 (yX6_order, cX6_order, 3, some .int, RX6, 7)) (gMl 172 (yX6_sees, cX6_sees, 4, some .int, RX6, 1)))))) (gMn 179 (gMn 176 (gMn 174 (gMl 173 (yX6_forget, cX6_forget, 2, some .int, RX6, 0)) (gMn 175 (gMl 174 (yX6_isSo, cX6_isSo, 5, some .boolean, RX6, 4)) (gMl 175 (yX6_areSo, cX6_areSo, 3, some .boolean, RX6, 5)))) (gMn 177 (gMl 176 (yX6_takeSuspect, cX6_takeSuspect, 2, some .boolean, RX6, 1)) (gMn 178 (gMl 177 (yX6_findSuspects, cX6_findSuspects, 2, none, RX6, 6)) (gMl 178 (yX6_suspects, cX6_suspects, 2, some .int, RX6, 7))))) (gMn 182 (gMn 180 (gMl 179 (yX6_mostBy, cX6_mostBy, 7, some .int, RX6, 4)) (gMn 181 (gMl 180 (yX6_look, cX6_look, 6, some .int, RX6, 7)) (gMl 181 (yX6_keep, cX6_keep, 2, some .int, RX6, 1)))) (gMn 183 (gMl 182 (yX6_back, cX6_back, 2, some .int, RX6, 1)) (gMn 184 (gMl 183 (yX6_coins, cX6_coins, 3, some .int, RX6, 0)) (gMl 184 (yX6_count, cX6_count, 2, some .int, RX6, 1)))))))))
theorem hM_J0_length_8abf5 : gmt 0 = (yJ0_length_8abf5, cJ0_length_8abf5, 1, some .int, RJ0, 1) := rfl
theorem hp_J0_length_8abf5 : plainName yJ0_length_8abf5.cls = true := by decide +kernel
theorem hd_J0_length_8abf5 : yJ0_length_8abf5.cls ≠ "java/lang/invoke/MethodHandle" ∧ yJ0_length_8abf5.cls ≠ "java/lang/invoke/VarHandle" ∧ (parseMethodDescriptor yJ0_length_8abf5.desc).map (fun d => d.parameters.length) = some 0 := by decide +kernel
theorem hM_J0_charAt_5068e : gmt 1 = (yJ0_charAt_5068e, cJ0_charAt_5068e, 2, some .char, RJ0, 3) := rfl
theorem hp_J0_charAt_5068e : plainName yJ0_charAt_5068e.cls = true := by decide +kernel
theorem hd_J0_charAt_5068e : yJ0_charAt_5068e.cls ≠ "java/lang/invoke/MethodHandle" ∧ yJ0_charAt_5068e.cls ≠ "java/lang/invoke/VarHandle" ∧ (parseMethodDescriptor yJ0_charAt_5068e.desc).map (fun d => d.parameters.length) = some 1 := by decide +kernel
theorem hM_J0_coder_7d493 : gmt 2 = (yJ0_coder_7d493, cJ0_coder_7d493, 1, some .byte, RJ0, 0) := rfl
theorem hp_J0_coder_7d493 : plainName yJ0_coder_7d493.cls = true := by decide +kernel
theorem hd_J0_coder_7d493 : yJ0_coder_7d493.cls ≠ "java/lang/invoke/MethodHandle" ∧ yJ0_coder_7d493.cls ≠ "java/lang/invoke/VarHandle" ∧ (parseMethodDescriptor yJ0_coder_7d493.desc).map (fun d => d.parameters.length) = some 0 := by decide +kernel
theorem hM_J0_isLatin1_aae02 : gmt 3 = (yJ0_isLatin1_aae02, cJ0_isLatin1_aae02, 1, some .boolean, RJ0, 0) := rfl
theorem hp_J0_isLatin1_aae02 : plainName yJ0_isLatin1_aae02.cls = true := by decide +kernel
theorem hd_J0_isLatin1_aae02 : yJ0_isLatin1_aae02.cls ≠ "java/lang/invoke/MethodHandle" ∧ yJ0_isLatin1_aae02.cls ≠ "java/lang/invoke/VarHandle" ∧ (parseMethodDescriptor yJ0_isLatin1_aae02.desc).map (fun d => d.parameters.length) = some 0 := by decide +kernel
theorem hM_J0_checkIndex_df160 : gmt 4 = (yJ0_checkIndex_df160, cJ0_checkIndex_df160, 2, none, RJ0, 1) := rfl
theorem hp_J0_checkIndex_df160 : plainName yJ0_checkIndex_df160.cls = true := by decide +kernel
theorem hd_J0_checkIndex_df160 : yJ0_checkIndex_df160.cls ≠ "java/lang/invoke/MethodHandle" ∧ yJ0_checkIndex_df160.cls ≠ "java/lang/invoke/VarHandle" ∧ (parseMethodDescriptor yJ0_checkIndex_df160.desc).map (fun d => d.parameters.length) = some 2 := by decide +kernel
theorem hM_J1_charAt_3b067 : gmt 5 = (yJ1_charAt_3b067, cJ1_charAt_3b067, 2, some .char, RJ1, 2) := rfl
theorem hp_J1_charAt_3b067 : plainName yJ1_charAt_3b067.cls = true := by decide +kernel
theorem hd_J1_charAt_3b067 : yJ1_charAt_3b067.cls ≠ "java/lang/invoke/MethodHandle" ∧ yJ1_charAt_3b067.cls ≠ "java/lang/invoke/VarHandle" ∧ (parseMethodDescriptor yJ1_charAt_3b067.desc).map (fun d => d.parameters.length) = some 2 := by decide +kernel
theorem hM_J3_checkIndex_8e157 : gmt 6 = (yJ3_checkIndex_8e157, cJ3_checkIndex_8e157, 3, some .int, RJ3, 0) := rfl
theorem hp_J3_checkIndex_8e157 : plainName yJ3_checkIndex_8e157.cls = true := by decide +kernel
theorem hd_J3_checkIndex_8e157 : yJ3_checkIndex_8e157.cls ≠ "java/lang/invoke/MethodHandle" ∧ yJ3_checkIndex_8e157.cls ≠ "java/lang/invoke/VarHandle" ∧ (parseMethodDescriptor yJ3_checkIndex_8e157.desc).map (fun d => d.parameters.length) = some 3 := by decide +kernel
theorem hM_J6_bitCount_0f7a4 : gmt 7 = (yJ6_bitCount_0f7a4, cJ6_bitCount_0f7a4, 1, some .int, RJ6, 0) := rfl
theorem hp_J6_bitCount_0f7a4 : plainName yJ6_bitCount_0f7a4.cls = true := by decide +kernel
theorem hd_J6_bitCount_0f7a4 : yJ6_bitCount_0f7a4.cls ≠ "java/lang/invoke/MethodHandle" ∧ yJ6_bitCount_0f7a4.cls ≠ "java/lang/invoke/VarHandle" ∧ (parseMethodDescriptor yJ6_bitCount_0f7a4.desc).map (fun d => d.parameters.length) = some 1 := by decide +kernel
theorem hM_L_law : gmt 8 = (yL_law, cL_law, 4, some .boolean, RL, 9) := rfl
theorem hM_X0_init : gmt 9 = (yX0_init, cX0_init, 1, none, RX0, 1) := rfl
theorem hp_X0_init : plainName yX0_init.cls = true := by decide +kernel
theorem hd_X0_init : yX0_init.cls ≠ "java/lang/invoke/MethodHandle" ∧ yX0_init.cls ≠ "java/lang/invoke/VarHandle" ∧ (parseMethodDescriptor yX0_init.desc).map (fun d => d.parameters.length) = some 0 := by decide +kernel
theorem hM_X0_remember : gmt 10 = (yX0_remember, cX0_remember, 3, none, RX0, 2) := rfl
theorem hp_X0_remember : plainName yX0_remember.cls = true := by decide +kernel
theorem hd_X0_remember : yX0_remember.cls ≠ "java/lang/invoke/MethodHandle" ∧ yX0_remember.cls ≠ "java/lang/invoke/VarHandle" ∧ (parseMethodDescriptor yX0_remember.desc).map (fun d => d.parameters.length) = some 1 := by decide +kernel
theorem hM_X0_recall : gmt 11 = (yX0_recall, cX0_recall, 3, some .boolean, RX0, 2) := rfl
theorem hp_X0_recall : plainName yX0_recall.cls = true := by decide +kernel
theorem hd_X0_recall : yX0_recall.cls ≠ "java/lang/invoke/MethodHandle" ∧ yX0_recall.cls ≠ "java/lang/invoke/VarHandle" ∧ (parseMethodDescriptor yX0_recall.desc).map (fun d => d.parameters.length) = some 1 := by decide +kernel
theorem hM_X0_isPlace : gmt 12 = (yX0_isPlace, cX0_isPlace, 2, some .boolean, RX0, 0) := rfl
theorem hp_X0_isPlace : plainName yX0_isPlace.cls = true := by decide +kernel
theorem hd_X0_isPlace : yX0_isPlace.cls ≠ "java/lang/invoke/MethodHandle" ∧ yX0_isPlace.cls ≠ "java/lang/invoke/VarHandle" ∧ (parseMethodDescriptor yX0_isPlace.desc).map (fun d => d.parameters.length) = some 1 := by decide +kernel
theorem hM_X1_init : gmt 13 = (yX1_init, cX1_init, 1, none, RX1, 1) := rfl
theorem hp_X1_init : plainName yX1_init.cls = true := by decide +kernel
theorem hd_X1_init : yX1_init.cls ≠ "java/lang/invoke/MethodHandle" ∧ yX1_init.cls ≠ "java/lang/invoke/VarHandle" ∧ (parseMethodDescriptor yX1_init.desc).map (fun d => d.parameters.length) = some 0 := by decide +kernel
theorem hM_X1_study : gmt 14 = (yX1_study, cX1_study, 7, none, RX1, 2) := rfl
theorem hp_X1_study : plainName yX1_study.cls = true := by decide +kernel
theorem hd_X1_study : yX1_study.cls ≠ "java/lang/invoke/MethodHandle" ∧ yX1_study.cls ≠ "java/lang/invoke/VarHandle" ∧ (parseMethodDescriptor yX1_study.desc).map (fun d => d.parameters.length) = some 1 := by decide +kernel
theorem hM_X1_appendVariety : gmt 15 = (yX1_appendVariety, cX1_appendVariety, 3, none, RX1, 0) := rfl
theorem hp_X1_appendVariety : plainName yX1_appendVariety.cls = true := by decide +kernel
theorem hd_X1_appendVariety : yX1_appendVariety.cls ≠ "java/lang/invoke/MethodHandle" ∧ yX1_appendVariety.cls ≠ "java/lang/invoke/VarHandle" ∧ (parseMethodDescriptor yX1_appendVariety.desc).map (fun d => d.parameters.length) = some 2 := by decide +kernel
theorem hM_X1_fewest : gmt 16 = (yX1_fewest, cX1_fewest, 5, some .int, RX1, 3) := rfl
theorem hp_X1_fewest : plainName yX1_fewest.cls = true := by decide +kernel
theorem hd_X1_fewest : yX1_fewest.cls ≠ "java/lang/invoke/MethodHandle" ∧ yX1_fewest.cls ≠ "java/lang/invoke/VarHandle" ∧ (parseMethodDescriptor yX1_fewest.desc).map (fun d => d.parameters.length) = some 1 := by decide +kernel
theorem hM_X1_apartBy : gmt 17 = (yX1_apartBy, cX1_apartBy, 6, some .boolean, RX1, 2) := rfl
theorem hp_X1_apartBy : plainName yX1_apartBy.cls = true := by decide +kernel
theorem hd_X1_apartBy : yX1_apartBy.cls ≠ "java/lang/invoke/MethodHandle" ∧ yX1_apartBy.cls ≠ "java/lang/invoke/VarHandle" ∧ (parseMethodDescriptor yX1_apartBy.desc).map (fun d => d.parameters.length) = some 2 := by decide +kernel
theorem hM_X1_plan : gmt 18 = (yX1_plan, cX1_plan, 4, some .int, RX1, 3) := rfl
theorem hp_X1_plan : plainName yX1_plan.cls = true := by decide +kernel
theorem hd_X1_plan : yX1_plan.cls ≠ "java/lang/invoke/MethodHandle" ∧ yX1_plan.cls ≠ "java/lang/invoke/VarHandle" ∧ (parseMethodDescriptor yX1_plan.desc).map (fun d => d.parameters.length) = some 1 := by decide +kernel
theorem hM_X1_planBehind : gmt 19 = (yX1_planBehind, cX1_planBehind, 8, none, RX1, 2) := rfl
theorem hp_X1_planBehind : plainName yX1_planBehind.cls = true := by decide +kernel
theorem hd_X1_planBehind : yX1_planBehind.cls ≠ "java/lang/invoke/MethodHandle" ∧ yX1_planBehind.cls ≠ "java/lang/invoke/VarHandle" ∧ (parseMethodDescriptor yX1_planBehind.desc).map (fun d => d.parameters.length) = some 3 := by decide +kernel
theorem hM_X1_priceBy : gmt 20 = (yX1_priceBy, cX1_priceBy, 6, some .int, RX1, 1) := rfl
theorem hp_X1_priceBy : plainName yX1_priceBy.cls = true := by decide +kernel
theorem hd_X1_priceBy : yX1_priceBy.cls ≠ "java/lang/invoke/MethodHandle" ∧ yX1_priceBy.cls ≠ "java/lang/invoke/VarHandle" ∧ (parseMethodDescriptor yX1_priceBy.desc).map (fun d => d.parameters.length) = some 4 := by decide +kernel
theorem hM_X1_kindsRolling : gmt 21 = (yX1_kindsRolling, cX1_kindsRolling, 2, some .int, RX1, 1) := rfl
theorem hp_X1_kindsRolling : plainName yX1_kindsRolling.cls = true := by decide +kernel
theorem hd_X1_kindsRolling : yX1_kindsRolling.cls ≠ "java/lang/invoke/MethodHandle" ∧ yX1_kindsRolling.cls ≠ "java/lang/invoke/VarHandle" ∧ (parseMethodDescriptor yX1_kindsRolling.desc).map (fun d => d.parameters.length) = some 1 := by decide +kernel
theorem hM_X1_kindsFalling : gmt 22 = (yX1_kindsFalling, cX1_kindsFalling, 5, some .int, RX1, 0) := rfl
theorem hp_X1_kindsFalling : plainName yX1_kindsFalling.cls = true := by decide +kernel
theorem hd_X1_kindsFalling : yX1_kindsFalling.cls ≠ "java/lang/invoke/MethodHandle" ∧ yX1_kindsFalling.cls ≠ "java/lang/invoke/VarHandle" ∧ (parseMethodDescriptor yX1_kindsFalling.desc).map (fun d => d.parameters.length) = some 2 := by decide +kernel
theorem hM_X1_shareOf : gmt 23 = (yX1_shareOf, cX1_shareOf, 5, some .int, RX1, 1) := rfl
theorem hp_X1_shareOf : plainName yX1_shareOf.cls = true := by decide +kernel
theorem hd_X1_shareOf : yX1_shareOf.cls ≠ "java/lang/invoke/MethodHandle" ∧ yX1_shareOf.cls ≠ "java/lang/invoke/VarHandle" ∧ (parseMethodDescriptor yX1_shareOf.desc).map (fun d => d.parameters.length) = some 2 := by decide +kernel
theorem hM_X1_placed : gmt 24 = (yX1_placed, cX1_placed, 5, some .int, RX1, 1) := rfl
theorem hp_X1_placed : plainName yX1_placed.cls = true := by decide +kernel
theorem hd_X1_placed : yX1_placed.cls ≠ "java/lang/invoke/MethodHandle" ∧ yX1_placed.cls ≠ "java/lang/invoke/VarHandle" ∧ (parseMethodDescriptor yX1_placed.desc).map (fun d => d.parameters.length) = some 2 := by decide +kernel
theorem hM_X1_testBehind : gmt 25 = (yX1_testBehind, cX1_testBehind, 2, some .int, RX1, 0) := rfl
theorem hp_X1_testBehind : plainName yX1_testBehind.cls = true := by decide +kernel
theorem hd_X1_testBehind : yX1_testBehind.cls ≠ "java/lang/invoke/MethodHandle" ∧ yX1_testBehind.cls ≠ "java/lang/invoke/VarHandle" ∧ (parseMethodDescriptor yX1_testBehind.desc).map (fun d => d.parameters.length) = some 1 := by decide +kernel
theorem hM_X2_init : gmt 26 = (yX2_init, cX2_init, 1, none, RX2, 2) := rfl
theorem hp_X2_init : plainName yX2_init.cls = true := by decide +kernel
theorem hd_X2_init : yX2_init.cls ≠ "java/lang/invoke/MethodHandle" ∧ yX2_init.cls ≠ "java/lang/invoke/VarHandle" ∧ (parseMethodDescriptor yX2_init.desc).map (fun d => d.parameters.length) = some 0 := by decide +kernel
theorem hM_X2_append : gmt 27 = (yX2_append, cX2_append, 2, some .boolean, RX2, 0) := rfl
theorem hp_X2_append : plainName yX2_append.cls = true := by decide +kernel
theorem hd_X2_append : yX2_append.cls ≠ "java/lang/invoke/MethodHandle" ∧ yX2_append.cls ≠ "java/lang/invoke/VarHandle" ∧ (parseMethodDescriptor yX2_append.desc).map (fun d => d.parameters.length) = some 1 := by decide +kernel
theorem hM_X2_letterAt : gmt 28 = (yX2_letterAt, cX2_letterAt, 2, some .int, RX2, 0) := rfl
theorem hp_X2_letterAt : plainName yX2_letterAt.cls = true := by decide +kernel
theorem hd_X2_letterAt : yX2_letterAt.cls ≠ "java/lang/invoke/MethodHandle" ∧ yX2_letterAt.cls ≠ "java/lang/invoke/VarHandle" ∧ (parseMethodDescriptor yX2_letterAt.desc).map (fun d => d.parameters.length) = some 1 := by decide +kernel
theorem hM_X2_readAll : gmt 29 = (yX2_readAll, cX2_readAll, 2, some .int, RX2, 7) := rfl
theorem hp_X2_readAll : plainName yX2_readAll.cls = true := by decide +kernel
theorem hd_X2_readAll : yX2_readAll.cls ≠ "java/lang/invoke/MethodHandle" ∧ yX2_readAll.cls ≠ "java/lang/invoke/VarHandle" ∧ (parseMethodDescriptor yX2_readAll.desc).map (fun d => d.parameters.length) = some 0 := by decide +kernel
theorem hM_X2_readItem : gmt 30 = (yX2_readItem, cX2_readItem, 4, some .boolean, RX2, 6) := rfl
theorem hp_X2_readItem : plainName yX2_readItem.cls = true := by decide +kernel
theorem hd_X2_readItem : yX2_readItem.cls ≠ "java/lang/invoke/MethodHandle" ∧ yX2_readItem.cls ≠ "java/lang/invoke/VarHandle" ∧ (parseMethodDescriptor yX2_readItem.desc).map (fun d => d.parameters.length) = some 0 := by decide +kernel
theorem hM_X2_itemOfWord : gmt 31 = (yX2_itemOfWord, cX2_itemOfWord, 1, some .int, RX2, 5) := rfl
theorem hp_X2_itemOfWord : plainName yX2_itemOfWord.cls = true := by decide +kernel
theorem hd_X2_itemOfWord : yX2_itemOfWord.cls ≠ "java/lang/invoke/MethodHandle" ∧ yX2_itemOfWord.cls ≠ "java/lang/invoke/VarHandle" ∧ (parseMethodDescriptor yX2_itemOfWord.desc).map (fun d => d.parameters.length) = some 0 := by decide +kernel
theorem hM_X2_spells : gmt 32 = (yX2_spells, cX2_spells, 3, some .boolean, RX2, 4) := rfl
theorem hp_X2_spells : plainName yX2_spells.cls = true := by decide +kernel
theorem hd_X2_spells : yX2_spells.cls ≠ "java/lang/invoke/MethodHandle" ∧ yX2_spells.cls ≠ "java/lang/invoke/VarHandle" ∧ (parseMethodDescriptor yX2_spells.desc).map (fun d => d.parameters.length) = some 1 := by decide +kernel
theorem hM_X2_mayCome : gmt 33 = (yX2_mayCome, cX2_mayCome, 2, some .boolean, RX2, 0) := rfl
theorem hp_X2_mayCome : plainName yX2_mayCome.cls = true := by decide +kernel
theorem hd_X2_mayCome : yX2_mayCome.cls ≠ "java/lang/invoke/MethodHandle" ∧ yX2_mayCome.cls ≠ "java/lang/invoke/VarHandle" ∧ (parseMethodDescriptor yX2_mayCome.desc).map (fun d => d.parameters.length) = some 1 := by decide +kernel
theorem hM_X2_fits : gmt 34 = (yX2_fits, cX2_fits, 4, some .boolean, RX2, 3) := rfl
theorem hp_X2_fits : plainName yX2_fits.cls = true := by decide +kernel
theorem hd_X2_fits : yX2_fits.cls ≠ "java/lang/invoke/MethodHandle" ∧ yX2_fits.cls ≠ "java/lang/invoke/VarHandle" ∧ (parseMethodDescriptor yX2_fits.desc).map (fun d => d.parameters.length) = some 3 := by decide +kernel
theorem hM_X2_fitsCoin : gmt 35 = (yX2_fitsCoin, cX2_fitsCoin, 3, some .boolean, RX2, 2) := rfl
theorem hp_X2_fitsCoin : plainName yX2_fitsCoin.cls = true := by decide +kernel
theorem hd_X2_fitsCoin : yX2_fitsCoin.cls ≠ "java/lang/invoke/MethodHandle" ∧ yX2_fitsCoin.cls ≠ "java/lang/invoke/VarHandle" ∧ (parseMethodDescriptor yX2_fitsCoin.desc).map (fun d => d.parameters.length) = some 2 := by decide +kernel
theorem hM_X2_putItem : gmt 36 = (yX2_putItem, cX2_putItem, 2, none, RX2, 3) := rfl
theorem hp_X2_putItem : plainName yX2_putItem.cls = true := by decide +kernel
theorem hd_X2_putItem : yX2_putItem.cls ≠ "java/lang/invoke/MethodHandle" ∧ yX2_putItem.cls ≠ "java/lang/invoke/VarHandle" ∧ (parseMethodDescriptor yX2_putItem.desc).map (fun d => d.parameters.length) = some 1 := by decide +kernel
theorem hM_X2_readToken : gmt 37 = (yX2_readToken, cX2_readToken, 1, none, RX2, 2) := rfl
theorem hp_X2_readToken : plainName yX2_readToken.cls = true := by decide +kernel
theorem hd_X2_readToken : yX2_readToken.cls ≠ "java/lang/invoke/MethodHandle" ∧ yX2_readToken.cls ≠ "java/lang/invoke/VarHandle" ∧ (parseMethodDescriptor yX2_readToken.desc).map (fun d => d.parameters.length) = some 0 := by decide +kernel
theorem hM_X2_isPlainNumber : gmt 38 = (yX2_isPlainNumber, cX2_isPlainNumber, 2, some .boolean, RX2, 1) := rfl
theorem hp_X2_isPlainNumber : plainName yX2_isPlainNumber.cls = true := by decide +kernel
theorem hd_X2_isPlainNumber : yX2_isPlainNumber.cls ≠ "java/lang/invoke/MethodHandle" ∧ yX2_isPlainNumber.cls ≠ "java/lang/invoke/VarHandle" ∧ (parseMethodDescriptor yX2_isPlainNumber.desc).map (fun d => d.parameters.length) = some 0 := by decide +kernel
theorem hM_X2_numberRead : gmt 39 = (yX2_numberRead, cX2_numberRead, 3, some .int, RX2, 1) := rfl
theorem hp_X2_numberRead : plainName yX2_numberRead.cls = true := by decide +kernel
theorem hd_X2_numberRead : yX2_numberRead.cls ≠ "java/lang/invoke/MethodHandle" ∧ yX2_numberRead.cls ≠ "java/lang/invoke/VarHandle" ∧ (parseMethodDescriptor yX2_numberRead.desc).map (fun d => d.parameters.length) = some 0 := by decide +kernel
theorem hM_X2_isSmallLetter : gmt 40 = (yX2_isSmallLetter, cX2_isSmallLetter, 1, some .boolean, RX2, 1) := rfl
theorem hp_X2_isSmallLetter : plainName yX2_isSmallLetter.cls = true := by decide +kernel
theorem hd_X2_isSmallLetter : yX2_isSmallLetter.cls ≠ "java/lang/invoke/MethodHandle" ∧ yX2_isSmallLetter.cls ≠ "java/lang/invoke/VarHandle" ∧ (parseMethodDescriptor yX2_isSmallLetter.desc).map (fun d => d.parameters.length) = some 1 := by decide +kernel
theorem hM_X2_isFigure : gmt 41 = (yX2_isFigure, cX2_isFigure, 1, some .boolean, RX2, 1) := rfl
theorem hp_X2_isFigure : plainName yX2_isFigure.cls = true := by decide +kernel
theorem hd_X2_isFigure : yX2_isFigure.cls ≠ "java/lang/invoke/MethodHandle" ∧ yX2_isFigure.cls ≠ "java/lang/invoke/VarHandle" ∧ (parseMethodDescriptor yX2_isFigure.desc).map (fun d => d.parameters.length) = some 1 := by decide +kernel
theorem hM_X3_init : gmt 42 = (yX3_init, cX3_init, 1, none, RX3, 1) := rfl
theorem hp_X3_init : plainName yX3_init.cls = true := by decide +kernel
theorem hd_X3_init : yX3_init.cls ≠ "java/lang/invoke/MethodHandle" ∧ yX3_init.cls ≠ "java/lang/invoke/VarHandle" ∧ (parseMethodDescriptor yX3_init.desc).map (fun d => d.parameters.length) = some 0 := by decide +kernel
theorem hM_X3_reset : gmt 43 = (yX3_reset, cX3_reset, 1, none, RX3, 1) := rfl
theorem hp_X3_reset : plainName yX3_reset.cls = true := by decide +kernel
theorem hd_X3_reset : yX3_reset.cls ≠ "java/lang/invoke/MethodHandle" ∧ yX3_reset.cls ≠ "java/lang/invoke/VarHandle" ∧ (parseMethodDescriptor yX3_reset.desc).map (fun d => d.parameters.length) = some 0 := by decide +kernel
theorem hM_X3_copyFrom : gmt 44 = (yX3_copyFrom, cX3_copyFrom, 2, none, RX3, 1) := rfl
theorem hp_X3_copyFrom : plainName yX3_copyFrom.cls = true := by decide +kernel
theorem hd_X3_copyFrom : yX3_copyFrom.cls ≠ "java/lang/invoke/MethodHandle" ∧ yX3_copyFrom.cls ≠ "java/lang/invoke/VarHandle" ∧ (parseMethodDescriptor yX3_copyFrom.desc).map (fun d => d.parameters.length) = some 1 := by decide +kernel
theorem hM_X3_hasKind : gmt 45 = (yX3_hasKind, cX3_hasKind, 2, some .boolean, RX3, 0) := rfl
theorem hp_X3_hasKind : plainName yX3_hasKind.cls = true := by decide +kernel
theorem hd_X3_hasKind : yX3_hasKind.cls ≠ "java/lang/invoke/MethodHandle" ∧ yX3_hasKind.cls ≠ "java/lang/invoke/VarHandle" ∧ (parseMethodDescriptor yX3_hasKind.desc).map (fun d => d.parameters.length) = some 1 := by decide +kernel
theorem hM_X3_hasCoin : gmt 46 = (yX3_hasCoin, cX3_hasCoin, 3, some .boolean, RX3, 1) := rfl
theorem hp_X3_hasCoin : plainName yX3_hasCoin.cls = true := by decide +kernel
theorem hd_X3_hasCoin : yX3_hasCoin.cls ≠ "java/lang/invoke/MethodHandle" ∧ yX3_hasCoin.cls ≠ "java/lang/invoke/VarHandle" ∧ (parseMethodDescriptor yX3_hasCoin.desc).map (fun d => d.parameters.length) = some 2 := by decide +kernel
theorem hM_X3_hasTest : gmt 47 = (yX3_hasTest, cX3_hasTest, 2, some .boolean, RX3, 0) := rfl
theorem hp_X3_hasTest : plainName yX3_hasTest.cls = true := by decide +kernel
theorem hd_X3_hasTest : yX3_hasTest.cls ≠ "java/lang/invoke/MethodHandle" ∧ yX3_hasTest.cls ≠ "java/lang/invoke/VarHandle" ∧ (parseMethodDescriptor yX3_hasTest.desc).map (fun d => d.parameters.length) = some 1 := by decide +kernel
theorem hM_X3_hasBin : gmt 48 = (yX3_hasBin, cX3_hasBin, 2, some .boolean, RX3, 0) := rfl
theorem hp_X3_hasBin : plainName yX3_hasBin.cls = true := by decide +kernel
theorem hd_X3_hasBin : yX3_hasBin.cls ≠ "java/lang/invoke/MethodHandle" ∧ yX3_hasBin.cls ≠ "java/lang/invoke/VarHandle" ∧ (parseMethodDescriptor yX3_hasBin.desc).map (fun d => d.parameters.length) = some 1 := by decide +kernel
theorem hM_X3_ofKind : gmt 49 = (yX3_ofKind, cX3_ofKind, 4, some .int, RX3, 0) := rfl
theorem hp_X3_ofKind : plainName yX3_ofKind.cls = true := by decide +kernel
theorem hd_X3_ofKind : yX3_ofKind.cls ≠ "java/lang/invoke/MethodHandle" ∧ yX3_ofKind.cls ≠ "java/lang/invoke/VarHandle" ∧ (parseMethodDescriptor yX3_ofKind.desc).map (fun d => d.parameters.length) = some 2 := by decide +kernel
theorem hM_X3_putOfKind : gmt 50 = (yX3_putOfKind, cX3_putOfKind, 5, none, RX3, 0) := rfl
theorem hp_X3_putOfKind : plainName yX3_putOfKind.cls = true := by decide +kernel
theorem hd_X3_putOfKind : yX3_putOfKind.cls ≠ "java/lang/invoke/MethodHandle" ∧ yX3_putOfKind.cls ≠ "java/lang/invoke/VarHandle" ∧ (parseMethodDescriptor yX3_putOfKind.desc).map (fun d => d.parameters.length) = some 3 := by decide +kernel
theorem hM_X3_ofTest : gmt 51 = (yX3_ofTest, cX3_ofTest, 4, some .int, RX3, 0) := rfl
theorem hp_X3_ofTest : plainName yX3_ofTest.cls = true := by decide +kernel
theorem hd_X3_ofTest : yX3_ofTest.cls ≠ "java/lang/invoke/MethodHandle" ∧ yX3_ofTest.cls ≠ "java/lang/invoke/VarHandle" ∧ (parseMethodDescriptor yX3_ofTest.desc).map (fun d => d.parameters.length) = some 2 := by decide +kernel
theorem hM_X3_putOfTest : gmt 52 = (yX3_putOfTest, cX3_putOfTest, 5, none, RX3, 0) := rfl
theorem hp_X3_putOfTest : plainName yX3_putOfTest.cls = true := by decide +kernel
theorem hd_X3_putOfTest : yX3_putOfTest.cls ≠ "java/lang/invoke/MethodHandle" ∧ yX3_putOfTest.cls ≠ "java/lang/invoke/VarHandle" ∧ (parseMethodDescriptor yX3_putOfTest.desc).map (fun d => d.parameters.length) = some 3 := by decide +kernel
theorem hM_X3_appendKind : gmt 53 = (yX3_appendKind, cX3_appendKind, 6, none, RX3, 1) := rfl
theorem hp_X3_appendKind : plainName yX3_appendKind.cls = true := by decide +kernel
theorem hd_X3_appendKind : yX3_appendKind.cls ≠ "java/lang/invoke/MethodHandle" ∧ yX3_appendKind.cls ≠ "java/lang/invoke/VarHandle" ∧ (parseMethodDescriptor yX3_appendKind.desc).map (fun d => d.parameters.length) = some 5 := by decide +kernel
theorem hM_X3_insertTest : gmt 54 = (yX3_insertTest, cX3_insertTest, 6, none, RX3, 2) := rfl
theorem hp_X3_insertTest : plainName yX3_insertTest.cls = true := by decide +kernel
theorem hd_X3_insertTest : yX3_insertTest.cls ≠ "java/lang/invoke/MethodHandle" ∧ yX3_insertTest.cls ≠ "java/lang/invoke/VarHandle" ∧ (parseMethodDescriptor yX3_insertTest.desc).map (fun d => d.parameters.length) = some 4 := by decide +kernel
theorem hM_X3_removeTest : gmt 55 = (yX3_removeTest, cX3_removeTest, 3, none, RX3, 2) := rfl
theorem hp_X3_removeTest : plainName yX3_removeTest.cls = true := by decide +kernel
theorem hd_X3_removeTest : yX3_removeTest.cls ≠ "java/lang/invoke/MethodHandle" ∧ yX3_removeTest.cls ≠ "java/lang/invoke/VarHandle" ∧ (parseMethodDescriptor yX3_removeTest.desc).map (fun d => d.parameters.length) = some 1 := by decide +kernel
theorem hM_X3_copyTest : gmt 56 = (yX3_copyTest, cX3_copyTest, 4, none, RX3, 1) := rfl
theorem hp_X3_copyTest : plainName yX3_copyTest.cls = true := by decide +kernel
theorem hd_X3_copyTest : yX3_copyTest.cls ≠ "java/lang/invoke/MethodHandle" ∧ yX3_copyTest.cls ≠ "java/lang/invoke/VarHandle" ∧ (parseMethodDescriptor yX3_copyTest.desc).map (fun d => d.parameters.length) = some 2 := by decide +kernel
theorem hM_X3_coinsIn : gmt 57 = (yX3_coinsIn, cX3_coinsIn, 2, some .int, RX3, 0) := rfl
theorem hp_X3_coinsIn : plainName yX3_coinsIn.cls = true := by decide +kernel
theorem hd_X3_coinsIn : yX3_coinsIn.cls ≠ "java/lang/invoke/MethodHandle" ∧ yX3_coinsIn.cls ≠ "java/lang/invoke/VarHandle" ∧ (parseMethodDescriptor yX3_coinsIn.desc).map (fun d => d.parameters.length) = some 1 := by decide +kernel
theorem hM_X3_coinsInAll : gmt 58 = (yX3_coinsInAll, cX3_coinsInAll, 3, some .int, RX3, 0) := rfl
theorem hp_X3_coinsInAll : plainName yX3_coinsInAll.cls = true := by decide +kernel
theorem hd_X3_coinsInAll : yX3_coinsInAll.cls ≠ "java/lang/invoke/MethodHandle" ∧ yX3_coinsInAll.cls ≠ "java/lang/invoke/VarHandle" ∧ (parseMethodDescriptor yX3_coinsInAll.desc).map (fun d => d.parameters.length) = some 0 := by decide +kernel
theorem hM_X3_emptyBin : gmt 59 = (yX3_emptyBin, cX3_emptyBin, 2, none, RX3, 0) := rfl
theorem hp_X3_emptyBin : plainName yX3_emptyBin.cls = true := by decide +kernel
theorem hd_X3_emptyBin : yX3_emptyBin.cls ≠ "java/lang/invoke/MethodHandle" ∧ yX3_emptyBin.cls ≠ "java/lang/invoke/VarHandle" ∧ (parseMethodDescriptor yX3_emptyBin.desc).map (fun d => d.parameters.length) = some 1 := by decide +kernel
theorem hM_X3_emptyAll : gmt 60 = (yX3_emptyAll, cX3_emptyAll, 2, none, RX3, 0) := rfl
theorem hp_X3_emptyAll : plainName yX3_emptyAll.cls = true := by decide +kernel
theorem hd_X3_emptyAll : yX3_emptyAll.cls ≠ "java/lang/invoke/MethodHandle" ∧ yX3_emptyAll.cls ≠ "java/lang/invoke/VarHandle" ∧ (parseMethodDescriptor yX3_emptyAll.desc).map (fun d => d.parameters.length) = some 0 := by decide +kernel
theorem hM_X3_takeIn : gmt 61 = (yX3_takeIn, cX3_takeIn, 2, some .boolean, RX3, 0) := rfl
theorem hp_X3_takeIn : plainName yX3_takeIn.cls = true := by decide +kernel
theorem hd_X3_takeIn : yX3_takeIn.cls ≠ "java/lang/invoke/MethodHandle" ∧ yX3_takeIn.cls ≠ "java/lang/invoke/VarHandle" ∧ (parseMethodDescriptor yX3_takeIn.desc).map (fun d => d.parameters.length) = some 1 := by decide +kernel
theorem hM_X3_letsFall : gmt 62 = (yX3_letsFall, cX3_letsFall, 8, some .boolean, RX3, 0) := rfl
theorem hp_X3_letsFall : plainName yX3_letsFall.cls = true := by decide +kernel
theorem hd_X3_letsFall : yX3_letsFall.cls ≠ "java/lang/invoke/MethodHandle" ∧ yX3_letsFall.cls ≠ "java/lang/invoke/VarHandle" ∧ (parseMethodDescriptor yX3_letsFall.desc).map (fun d => d.parameters.length) = some 5 := by decide +kernel
theorem hM_X3_binOf : gmt 63 = (yX3_binOf, cX3_binOf, 6, some .int, RX3, 1) := rfl
theorem hp_X3_binOf : plainName yX3_binOf.cls = true := by decide +kernel
theorem hd_X3_binOf : yX3_binOf.cls ≠ "java/lang/invoke/MethodHandle" ∧ yX3_binOf.cls ≠ "java/lang/invoke/VarHandle" ∧ (parseMethodDescriptor yX3_binOf.desc).map (fun d => d.parameters.length) = some 4 := by decide +kernel
theorem hM_X3_shiftOf : gmt 64 = (yX3_shiftOf, cX3_shiftOf, 2, some .int, RX3, 0) := rfl
theorem hp_X3_shiftOf : plainName yX3_shiftOf.cls = true := by decide +kernel
theorem hd_X3_shiftOf : yX3_shiftOf.cls ≠ "java/lang/invoke/MethodHandle" ∧ yX3_shiftOf.cls ≠ "java/lang/invoke/VarHandle" ∧ (parseMethodDescriptor yX3_shiftOf.desc).map (fun d => d.parameters.length) = some 2 := by decide +kernel
theorem hM_X3_binOfCoin : gmt 65 = (yX3_binOfCoin, cX3_binOfCoin, 4, some .int, RX3, 2) := rfl
theorem hp_X3_binOfCoin : plainName yX3_binOfCoin.cls = true := by decide +kernel
theorem hd_X3_binOfCoin : yX3_binOfCoin.cls ≠ "java/lang/invoke/MethodHandle" ∧ yX3_binOfCoin.cls ≠ "java/lang/invoke/VarHandle" ∧ (parseMethodDescriptor yX3_binOfCoin.desc).map (fun d => d.parameters.length) = some 3 := by decide +kernel
theorem hM_X3_stopsOf : gmt 66 = (yX3_stopsOf, cX3_stopsOf, 8, some .int, RX3, 1) := rfl
theorem hp_X3_stopsOf : plainName yX3_stopsOf.cls = true := by decide +kernel
theorem hd_X3_stopsOf : yX3_stopsOf.cls ≠ "java/lang/invoke/MethodHandle" ∧ yX3_stopsOf.cls ≠ "java/lang/invoke/VarHandle" ∧ (parseMethodDescriptor yX3_stopsOf.desc).map (fun d => d.parameters.length) = some 2 := by decide +kernel
theorem hM_X3_binsOf : gmt 67 = (yX3_binsOf, cX3_binsOf, 5, some .int, RX3, 3) := rfl
theorem hp_X3_binsOf : plainName yX3_binsOf.cls = true := by decide +kernel
theorem hd_X3_binsOf : yX3_binsOf.cls ≠ "java/lang/invoke/MethodHandle" ∧ yX3_binsOf.cls ≠ "java/lang/invoke/VarHandle" ∧ (parseMethodDescriptor yX3_binsOf.desc).map (fun d => d.parameters.length) = some 1 := by decide +kernel
theorem hM_X3_kindsOf : gmt 68 = (yX3_kindsOf, cX3_kindsOf, 4, some .int, RX3, 4) := rfl
theorem hp_X3_kindsOf : plainName yX3_kindsOf.cls = true := by decide +kernel
theorem hd_X3_kindsOf : yX3_kindsOf.cls ≠ "java/lang/invoke/MethodHandle" ∧ yX3_kindsOf.cls ≠ "java/lang/invoke/VarHandle" ∧ (parseMethodDescriptor yX3_kindsOf.desc).map (fun d => d.parameters.length) = some 1 := by decide +kernel
theorem hM_X3_apart : gmt 69 = (yX3_apart, cX3_apart, 1, some .boolean, RX3, 5) := rfl
theorem hp_X3_apart : plainName yX3_apart.cls = true := by decide +kernel
theorem hd_X3_apart : yX3_apart.cls ≠ "java/lang/invoke/MethodHandle" ∧ yX3_apart.cls ≠ "java/lang/invoke/VarHandle" ∧ (parseMethodDescriptor yX3_apart.desc).map (fun d => d.parameters.length) = some 0 := by decide +kernel
theorem hM_X3_binsOfAllBut : gmt 70 = (yX3_binsOfAllBut, cX3_binsOfAllBut, 5, some .int, RX3, 4) := rfl
theorem hp_X3_binsOfAllBut : plainName yX3_binsOfAllBut.cls = true := by decide +kernel
theorem hd_X3_binsOfAllBut : yX3_binsOfAllBut.cls ≠ "java/lang/invoke/MethodHandle" ∧ yX3_binsOfAllBut.cls ≠ "java/lang/invoke/VarHandle" ∧ (parseMethodDescriptor yX3_binsOfAllBut.desc).map (fun d => d.parameters.length) = some 1 := by decide +kernel
theorem hM_X3_bears : gmt 71 = (yX3_bears, cX3_bears, 6, some .int, RX3, 5) := rfl
theorem hp_X3_bears : plainName yX3_bears.cls = true := by decide +kernel
theorem hd_X3_bears : yX3_bears.cls ≠ "java/lang/invoke/MethodHandle" ∧ yX3_bears.cls ≠ "java/lang/invoke/VarHandle" ∧ (parseMethodDescriptor yX3_bears.desc).map (fun d => d.parameters.length) = some 1 := by decide +kernel
theorem hM_X3_doubtful : gmt 72 = (yX3_doubtful, cX3_doubtful, 4, some .int, RX3, 4) := rfl
theorem hp_X3_doubtful : plainName yX3_doubtful.cls = true := by decide +kernel
theorem hd_X3_doubtful : yX3_doubtful.cls ≠ "java/lang/invoke/MethodHandle" ∧ yX3_doubtful.cls ≠ "java/lang/invoke/VarHandle" ∧ (parseMethodDescriptor yX3_doubtful.desc).map (fun d => d.parameters.length) = some 0 := by decide +kernel
theorem hM_X3_tollTo : gmt 73 = (yX3_tollTo, cX3_tollTo, 4, some .int, RX3, 1) := rfl
theorem hp_X3_tollTo : plainName yX3_tollTo.cls = true := by decide +kernel
theorem hd_X3_tollTo : yX3_tollTo.cls ≠ "java/lang/invoke/MethodHandle" ∧ yX3_tollTo.cls ≠ "java/lang/invoke/VarHandle" ∧ (parseMethodDescriptor yX3_tollTo.desc).map (fun d => d.parameters.length) = some 1 := by decide +kernel
theorem hM_X3_greatestToll : gmt 74 = (yX3_greatestToll, cX3_greatestToll, 5, some .int, RX3, 4) := rfl
theorem hp_X3_greatestToll : plainName yX3_greatestToll.cls = true := by decide +kernel
theorem hd_X3_greatestToll : yX3_greatestToll.cls ≠ "java/lang/invoke/MethodHandle" ∧ yX3_greatestToll.cls ≠ "java/lang/invoke/VarHandle" ∧ (parseMethodDescriptor yX3_greatestToll.desc).map (fun d => d.parameters.length) = some 1 := by decide +kernel
theorem hM_X3_price : gmt 75 = (yX3_price, cX3_price, 3, some .int, RX3, 5) := rfl
theorem hp_X3_price : plainName yX3_price.cls = true := by decide +kernel
theorem hd_X3_price : yX3_price.cls ≠ "java/lang/invoke/MethodHandle" ∧ yX3_price.cls ≠ "java/lang/invoke/VarHandle" ∧ (parseMethodDescriptor yX3_price.desc).map (fun d => d.parameters.length) = some 0 := by decide +kernel
theorem hM_X4_init : gmt 76 = (yX4_init, cX4_init, 1, none, RX4, 1) := rfl
theorem hp_X4_init : plainName yX4_init.cls = true := by decide +kernel
theorem hd_X4_init : yX4_init.cls ≠ "java/lang/invoke/MethodHandle" ∧ yX4_init.cls ≠ "java/lang/invoke/VarHandle" ∧ (parseMethodDescriptor yX4_init.desc).map (fun d => d.parameters.length) = some 0 := by decide +kernel
theorem hM_X4_append : gmt 77 = (yX4_append, cX4_append, 5, some .boolean, RX4, 0) := rfl
theorem hp_X4_append : plainName yX4_append.cls = true := by decide +kernel
theorem hd_X4_append : yX4_append.cls ≠ "java/lang/invoke/MethodHandle" ∧ yX4_append.cls ≠ "java/lang/invoke/VarHandle" ∧ (parseMethodDescriptor yX4_append.desc).map (fun d => d.parameters.length) = some 3 := by decide +kernel
theorem hM_X4_gather : gmt 78 = (yX4_gather, cX4_gather, 3, none, RX4, 5) := rfl
theorem hp_X4_gather : plainName yX4_gather.cls = true := by decide +kernel
theorem hd_X4_gather : yX4_gather.cls ≠ "java/lang/invoke/MethodHandle" ∧ yX4_gather.cls ≠ "java/lang/invoke/VarHandle" ∧ (parseMethodDescriptor yX4_gather.desc).map (fun d => d.parameters.length) = some 1 := by decide +kernel
theorem hM_X4_accuse : gmt 79 = (yX4_accuse, cX4_accuse, 3, none, RX4, 4) := rfl
theorem hp_X4_accuse : plainName yX4_accuse.cls = true := by decide +kernel
theorem hd_X4_accuse : yX4_accuse.cls ≠ "java/lang/invoke/MethodHandle" ∧ yX4_accuse.cls ≠ "java/lang/invoke/VarHandle" ∧ (parseMethodDescriptor yX4_accuse.desc).map (fun d => d.parameters.length) = some 2 := by decide +kernel
theorem hM_X4_explainsAll : gmt 80 = (yX4_explainsAll, cX4_explainsAll, 6, some .boolean, RX4, 3) := rfl
theorem hp_X4_explainsAll : plainName yX4_explainsAll.cls = true := by decide +kernel
theorem hd_X4_explainsAll : yX4_explainsAll.cls ≠ "java/lang/invoke/MethodHandle" ∧ yX4_explainsAll.cls ≠ "java/lang/invoke/VarHandle" ∧ (parseMethodDescriptor yX4_explainsAll.desc).map (fun d => d.parameters.length) = some 2 := by decide +kernel
theorem hM_X4_firstSuspect : gmt 81 = (yX4_firstSuspect, cX4_firstSuspect, 1, some .int, RX4, 0) := rfl
theorem hp_X4_firstSuspect : plainName yX4_firstSuspect.cls = true := by decide +kernel
theorem hd_X4_firstSuspect : yX4_firstSuspect.cls ≠ "java/lang/invoke/MethodHandle" ∧ yX4_firstSuspect.cls ≠ "java/lang/invoke/VarHandle" ∧ (parseMethodDescriptor yX4_firstSuspect.desc).map (fun d => d.parameters.length) = some 0 := by decide +kernel
theorem hM_X4_tellingCoin : gmt 82 = (yX4_tellingCoin, cX4_tellingCoin, 8, some .int, RX4, 4) := rfl
theorem hp_X4_tellingCoin : plainName yX4_tellingCoin.cls = true := by decide +kernel
theorem hd_X4_tellingCoin : yX4_tellingCoin.cls ≠ "java/lang/invoke/MethodHandle" ∧ yX4_tellingCoin.cls ≠ "java/lang/invoke/VarHandle" ∧ (parseMethodDescriptor yX4_tellingCoin.desc).map (fun d => d.parameters.length) = some 1 := by decide +kernel
theorem hM_X4_mostAgreeing : gmt 83 = (yX4_mostAgreeing, cX4_mostAgreeing, 7, some .int, RX4, 3) := rfl
theorem hp_X4_mostAgreeing : plainName yX4_mostAgreeing.cls = true := by decide +kernel
theorem hd_X4_mostAgreeing : yX4_mostAgreeing.cls ≠ "java/lang/invoke/MethodHandle" ∧ yX4_mostAgreeing.cls ≠ "java/lang/invoke/VarHandle" ∧ (parseMethodDescriptor yX4_mostAgreeing.desc).map (fun d => d.parameters.length) = some 3 := by decide +kernel
theorem hM_X5_init : gmt 84 = (yX5_init, cX5_init, 1, none, RX5, 3) := rfl
theorem hp_X5_init : plainName yX5_init.cls = true := by decide +kernel
theorem hd_X5_init : yX5_init.cls ≠ "java/lang/invoke/MethodHandle" ∧ yX5_init.cls ≠ "java/lang/invoke/VarHandle" ∧ (parseMethodDescriptor yX5_init.desc).map (fun d => d.parameters.length) = some 0 := by decide +kernel
theorem hM_X5_type : gmt 85 = (yX5_type, cX5_type, 2, some .int, RX5, 1) := rfl
theorem hp_X5_type : plainName yX5_type.cls = true := by decide +kernel
theorem hd_X5_type : yX5_type.cls ≠ "java/lang/invoke/MethodHandle" ∧ yX5_type.cls ≠ "java/lang/invoke/VarHandle" ∧ (parseMethodDescriptor yX5_type.desc).map (fun d => d.parameters.length) = some 1 := by decide +kernel
theorem hM_X5_clear : gmt 86 = (yX5_clear, cX5_clear, 2, some .int, RX5, 0) := rfl
theorem hp_X5_clear : plainName yX5_clear.cls = true := by decide +kernel
theorem hd_X5_clear : yX5_clear.cls ≠ "java/lang/invoke/MethodHandle" ∧ yX5_clear.cls ≠ "java/lang/invoke/VarHandle" ∧ (parseMethodDescriptor yX5_clear.desc).map (fun d => d.parameters.length) = some 0 := by decide +kernel
theorem hM_X5_tells : gmt 87 = (yX5_tells, cX5_tells, 2, some .int, RX5, 8) := rfl
theorem hp_X5_tells : plainName yX5_tells.cls = true := by decide +kernel
theorem hd_X5_tells : yX5_tells.cls ≠ "java/lang/invoke/MethodHandle" ∧ yX5_tells.cls ≠ "java/lang/invoke/VarHandle" ∧ (parseMethodDescriptor yX5_tells.desc).map (fun d => d.parameters.length) = some 0 := by decide +kernel
theorem hM_X5_drops : gmt 88 = (yX5_drops, cX5_drops, 4, some .int, RX5, 3) := rfl
theorem hp_X5_drops : plainName yX5_drops.cls = true := by decide +kernel
theorem hd_X5_drops : yX5_drops.cls ≠ "java/lang/invoke/MethodHandle" ∧ yX5_drops.cls ≠ "java/lang/invoke/VarHandle" ∧ (parseMethodDescriptor yX5_drops.desc).map (fun d => d.parameters.length) = some 2 := by decide +kernel
theorem hM_X5_frees : gmt 89 = (yX5_frees, cX5_frees, 2, some .int, RX5, 3) := rfl
theorem hp_X5_frees : plainName yX5_frees.cls = true := by decide +kernel
theorem hd_X5_frees : yX5_frees.cls ≠ "java/lang/invoke/MethodHandle" ∧ yX5_frees.cls ≠ "java/lang/invoke/VarHandle" ∧ (parseMethodDescriptor yX5_frees.desc).map (fun d => d.parameters.length) = some 0 := by decide +kernel
theorem hM_X5_empties : gmt 90 = (yX5_empties, cX5_empties, 3, some .int, RX5, 3) := rfl
theorem hp_X5_empties : plainName yX5_empties.cls = true := by decide +kernel
theorem hd_X5_empties : yX5_empties.cls ≠ "java/lang/invoke/MethodHandle" ∧ yX5_empties.cls ≠ "java/lang/invoke/VarHandle" ∧ (parseMethodDescriptor yX5_empties.desc).map (fun d => d.parameters.length) = some 1 := by decide +kernel
theorem hM_X5_puts : gmt 91 = (yX5_puts, cX5_puts, 5, some .int, RX5, 3) := rfl
theorem hp_X5_puts : plainName yX5_puts.cls = true := by decide +kernel
theorem hd_X5_puts : yX5_puts.cls ≠ "java/lang/invoke/MethodHandle" ∧ yX5_puts.cls ≠ "java/lang/invoke/VarHandle" ∧ (parseMethodDescriptor yX5_puts.desc).map (fun d => d.parameters.length) = some 4 := by decide +kernel
theorem hM_X5_takes : gmt 92 = (yX5_takes, cX5_takes, 2, some .int, RX5, 3) := rfl
theorem hp_X5_takes : plainName yX5_takes.cls = true := by decide +kernel
theorem hd_X5_takes : yX5_takes.cls ≠ "java/lang/invoke/MethodHandle" ∧ yX5_takes.cls ≠ "java/lang/invoke/VarHandle" ∧ (parseMethodDescriptor yX5_takes.desc).map (fun d => d.parameters.length) = some 1 := by decide +kernel
theorem hM_X5_sets : gmt 93 = (yX5_sets, cX5_sets, 4, some .int, RX5, 3) := rfl
theorem hp_X5_sets : plainName yX5_sets.cls = true := by decide +kernel
theorem hd_X5_sets : yX5_sets.cls ≠ "java/lang/invoke/MethodHandle" ∧ yX5_sets.cls ≠ "java/lang/invoke/VarHandle" ∧ (parseMethodDescriptor yX5_sets.desc).map (fun d => d.parameters.length) = some 2 := by decide +kernel
theorem hM_X5_adds : gmt 94 = (yX5_adds, cX5_adds, 5, some .int, RX5, 3) := rfl
theorem hp_X5_adds : plainName yX5_adds.cls = true := by decide +kernel
theorem hd_X5_adds : yX5_adds.cls ≠ "java/lang/invoke/MethodHandle" ∧ yX5_adds.cls ≠ "java/lang/invoke/VarHandle" ∧ (parseMethodDescriptor yX5_adds.desc).map (fun d => d.parameters.length) = some 4 := by decide +kernel
theorem hM_X5_undo : gmt 95 = (yX5_undo, cX5_undo, 1, some .int, RX5, 3) := rfl
theorem hp_X5_undo : plainName yX5_undo.cls = true := by decide +kernel
theorem hd_X5_undo : yX5_undo.cls ≠ "java/lang/invoke/MethodHandle" ∧ yX5_undo.cls ≠ "java/lang/invoke/VarHandle" ∧ (parseMethodDescriptor yX5_undo.desc).map (fun d => d.parameters.length) = some 0 := by decide +kernel
theorem hM_X5_kind : gmt 96 = (yX5_kind, cX5_kind, 3, some .int, RX5, 6) := rfl
theorem hp_X5_kind : plainName yX5_kind.cls = true := by decide +kernel
theorem hd_X5_kind : yX5_kind.cls ≠ "java/lang/invoke/MethodHandle" ∧ yX5_kind.cls ≠ "java/lang/invoke/VarHandle" ∧ (parseMethodDescriptor yX5_kind.desc).map (fun d => d.parameters.length) = some 2 := by decide +kernel
theorem hM_X5_test : gmt 97 = (yX5_test, cX5_test, 3, some .int, RX5, 1) := rfl
theorem hp_X5_test : plainName yX5_test.cls = true := by decide +kernel
theorem hd_X5_test : yX5_test.cls ≠ "java/lang/invoke/MethodHandle" ∧ yX5_test.cls ≠ "java/lang/invoke/VarHandle" ∧ (parseMethodDescriptor yX5_test.desc).map (fun d => d.parameters.length) = some 2 := by decide +kernel
theorem hM_X5_bin : gmt 98 = (yX5_bin, cX5_bin, 3, some .int, RX5, 5) := rfl
theorem hp_X5_bin : plainName yX5_bin.cls = true := by decide +kernel
theorem hd_X5_bin : yX5_bin.cls ≠ "java/lang/invoke/MethodHandle" ∧ yX5_bin.cls ≠ "java/lang/invoke/VarHandle" ∧ (parseMethodDescriptor yX5_bin.desc).map (fun d => d.parameters.length) = some 2 := by decide +kernel
theorem hM_X5_coin : gmt 99 = (yX5_coin, cX5_coin, 6, some .int, RX5, 5) := rfl
theorem hp_X5_coin : plainName yX5_coin.cls = true := by decide +kernel
theorem hd_X5_coin : yX5_coin.cls ≠ "java/lang/invoke/MethodHandle" ∧ yX5_coin.cls ≠ "java/lang/invoke/VarHandle" ∧ (parseMethodDescriptor yX5_coin.desc).map (fun d => d.parameters.length) = some 4 := by decide +kernel
theorem hM_X5_track : gmt 100 = (yX5_track, cX5_track, 2, some .int, RX5, 6) := rfl
theorem hp_X5_track : plainName yX5_track.cls = true := by decide +kernel
theorem hd_X5_track : yX5_track.cls ≠ "java/lang/invoke/MethodHandle" ∧ yX5_track.cls ≠ "java/lang/invoke/VarHandle" ∧ (parseMethodDescriptor yX5_track.desc).map (fun d => d.parameters.length) = some 1 := by decide +kernel
theorem hM_X5_order : gmt 101 = (yX5_order, cX5_order, 3, some .int, RX5, 4) := rfl
theorem hp_X5_order : plainName yX5_order.cls = true := by decide +kernel
theorem hd_X5_order : yX5_order.cls ≠ "java/lang/invoke/MethodHandle" ∧ yX5_order.cls ≠ "java/lang/invoke/VarHandle" ∧ (parseMethodDescriptor yX5_order.desc).map (fun d => d.parameters.length) = some 1 := by decide +kernel
theorem hM_X5_sees : gmt 102 = (yX5_sees, cX5_sees, 4, some .int, RX5, 1) := rfl
theorem hp_X5_sees : plainName yX5_sees.cls = true := by decide +kernel
theorem hd_X5_sees : yX5_sees.cls ≠ "java/lang/invoke/MethodHandle" ∧ yX5_sees.cls ≠ "java/lang/invoke/VarHandle" ∧ (parseMethodDescriptor yX5_sees.desc).map (fun d => d.parameters.length) = some 3 := by decide +kernel
theorem hM_X5_forget : gmt 103 = (yX5_forget, cX5_forget, 2, some .int, RX5, 0) := rfl
theorem hp_X5_forget : plainName yX5_forget.cls = true := by decide +kernel
theorem hd_X5_forget : yX5_forget.cls ≠ "java/lang/invoke/MethodHandle" ∧ yX5_forget.cls ≠ "java/lang/invoke/VarHandle" ∧ (parseMethodDescriptor yX5_forget.desc).map (fun d => d.parameters.length) = some 0 := by decide +kernel
theorem hM_X5_suspects : gmt 104 = (yX5_suspects, cX5_suspects, 2, some .int, RX5, 6) := rfl
theorem hp_X5_suspects : plainName yX5_suspects.cls = true := by decide +kernel
theorem hd_X5_suspects : yX5_suspects.cls ≠ "java/lang/invoke/MethodHandle" ∧ yX5_suspects.cls ≠ "java/lang/invoke/VarHandle" ∧ (parseMethodDescriptor yX5_suspects.desc).map (fun d => d.parameters.length) = some 1 := by decide +kernel
theorem hM_X5_look : gmt 105 = (yX5_look, cX5_look, 1, some .int, RX5, 6) := rfl
theorem hp_X5_look : plainName yX5_look.cls = true := by decide +kernel
theorem hd_X5_look : yX5_look.cls ≠ "java/lang/invoke/MethodHandle" ∧ yX5_look.cls ≠ "java/lang/invoke/VarHandle" ∧ (parseMethodDescriptor yX5_look.desc).map (fun d => d.parameters.length) = some 0 := by decide +kernel
theorem hM_X5_keep : gmt 106 = (yX5_keep, cX5_keep, 2, some .int, RX5, 2) := rfl
theorem hp_X5_keep : plainName yX5_keep.cls = true := by decide +kernel
theorem hd_X5_keep : yX5_keep.cls ≠ "java/lang/invoke/MethodHandle" ∧ yX5_keep.cls ≠ "java/lang/invoke/VarHandle" ∧ (parseMethodDescriptor yX5_keep.desc).map (fun d => d.parameters.length) = some 1 := by decide +kernel
theorem hM_X5_back : gmt 107 = (yX5_back, cX5_back, 2, some .int, RX5, 2) := rfl
theorem hp_X5_back : plainName yX5_back.cls = true := by decide +kernel
theorem hd_X5_back : yX5_back.cls ≠ "java/lang/invoke/MethodHandle" ∧ yX5_back.cls ≠ "java/lang/invoke/VarHandle" ∧ (parseMethodDescriptor yX5_back.desc).map (fun d => d.parameters.length) = some 1 := by decide +kernel
theorem hM_X5_count : gmt 108 = (yX5_count, cX5_count, 2, some .int, RX5, 1) := rfl
theorem hp_X5_count : plainName yX5_count.cls = true := by decide +kernel
theorem hd_X5_count : yX5_count.cls ≠ "java/lang/invoke/MethodHandle" ∧ yX5_count.cls ≠ "java/lang/invoke/VarHandle" ∧ (parseMethodDescriptor yX5_count.desc).map (fun d => d.parameters.length) = some 1 := by decide +kernel
theorem hM_X5_hasImage : gmt 109 = (yX5_hasImage, cX5_hasImage, 2, some .boolean, RX5, 0) := rfl
theorem hp_X5_hasImage : plainName yX5_hasImage.cls = true := by decide +kernel
theorem hd_X5_hasImage : yX5_hasImage.cls ≠ "java/lang/invoke/MethodHandle" ∧ yX5_hasImage.cls ≠ "java/lang/invoke/VarHandle" ∧ (parseMethodDescriptor yX5_hasImage.desc).map (fun d => d.parameters.length) = some 1 := by decide +kernel
theorem hM_X5_within : gmt 110 = (yX5_within, cX5_within, 3, some .boolean, RX5, 0) := rfl
theorem hp_X5_within : plainName yX5_within.cls = true := by decide +kernel
theorem hd_X5_within : yX5_within.cls ≠ "java/lang/invoke/MethodHandle" ∧ yX5_within.cls ≠ "java/lang/invoke/VarHandle" ∧ (parseMethodDescriptor yX5_within.desc).map (fun d => d.parameters.length) = some 3 := by decide +kernel
theorem hM_X5_boundFits : gmt 111 = (yX5_boundFits, cX5_boundFits, 2, some .boolean, RX5, 1) := rfl
theorem hp_X5_boundFits : plainName yX5_boundFits.cls = true := by decide +kernel
theorem hd_X5_boundFits : yX5_boundFits.cls ≠ "java/lang/invoke/MethodHandle" ∧ yX5_boundFits.cls ≠ "java/lang/invoke/VarHandle" ∧ (parseMethodDescriptor yX5_boundFits.desc).map (fun d => d.parameters.length) = some 2 := by decide +kernel
theorem hM_X5_coinFits : gmt 112 = (yX5_coinFits, cX5_coinFits, 3, some .boolean, RX5, 1) := rfl
theorem hp_X5_coinFits : plainName yX5_coinFits.cls = true := by decide +kernel
theorem hd_X5_coinFits : yX5_coinFits.cls ≠ "java/lang/invoke/MethodHandle" ∧ yX5_coinFits.cls ≠ "java/lang/invoke/VarHandle" ∧ (parseMethodDescriptor yX5_coinFits.desc).map (fun d => d.parameters.length) = some 3 := by decide +kernel
theorem hM_X5_wearFits : gmt 113 = (yX5_wearFits, cX5_wearFits, 2, some .boolean, RX5, 1) := rfl
theorem hp_X5_wearFits : plainName yX5_wearFits.cls = true := by decide +kernel
theorem hd_X5_wearFits : yX5_wearFits.cls ≠ "java/lang/invoke/MethodHandle" ∧ yX5_wearFits.cls ≠ "java/lang/invoke/VarHandle" ∧ (parseMethodDescriptor yX5_wearFits.desc).map (fun d => d.parameters.length) = some 2 := by decide +kernel
theorem hM_X5_isOneAtMost : gmt 114 = (yX5_isOneAtMost, cX5_isOneAtMost, 1, some .boolean, RX5, 0) := rfl
theorem hp_X5_isOneAtMost : plainName yX5_isOneAtMost.cls = true := by decide +kernel
theorem hd_X5_isOneAtMost : yX5_isOneAtMost.cls ≠ "java/lang/invoke/MethodHandle" ∧ yX5_isOneAtMost.cls ≠ "java/lang/invoke/VarHandle" ∧ (parseMethodDescriptor yX5_isOneAtMost.desc).map (fun d => d.parameters.length) = some 1 := by decide +kernel
theorem hM_X6_init : gmt 115 = (yX6_init, cX6_init, 1, none, RX6, 1) := rfl
theorem hp_X6_init : plainName yX6_init.cls = true := by decide +kernel
theorem hd_X6_init : yX6_init.cls ≠ "java/lang/invoke/MethodHandle" ∧ yX6_init.cls ≠ "java/lang/invoke/VarHandle" ∧ (parseMethodDescriptor yX6_init.desc).map (fun d => d.parameters.length) = some 0 := by decide +kernel
theorem hM_X6_in : gmt 116 = (yX6_in, cX6_in, 3, some .boolean, RX6, 0) := rfl
theorem hp_X6_in : plainName yX6_in.cls = true := by decide +kernel
theorem hd_X6_in : yX6_in.cls ≠ "java/lang/invoke/MethodHandle" ∧ yX6_in.cls ≠ "java/lang/invoke/VarHandle" ∧ (parseMethodDescriptor yX6_in.desc).map (fun d => d.parameters.length) = some 3 := by decide +kernel
theorem hM_X6_has : gmt 117 = (yX6_has, cX6_has, 2, some .boolean, RX6, 0) := rfl
theorem hp_X6_has : plainName yX6_has.cls = true := by decide +kernel
theorem hd_X6_has : yX6_has.cls ≠ "java/lang/invoke/MethodHandle" ∧ yX6_has.cls ≠ "java/lang/invoke/VarHandle" ∧ (parseMethodDescriptor yX6_has.desc).map (fun d => d.parameters.length) = some 2 := by decide +kernel
theorem hM_X6_ones : gmt 118 = (yX6_ones, cX6_ones, 3, some .int, RX6, 0) := rfl
theorem hp_X6_ones : plainName yX6_ones.cls = true := by decide +kernel
theorem hd_X6_ones : yX6_ones.cls ≠ "java/lang/invoke/MethodHandle" ∧ yX6_ones.cls ≠ "java/lang/invoke/VarHandle" ∧ (parseMethodDescriptor yX6_ones.desc).map (fun d => d.parameters.length) = some 1 := by decide +kernel
theorem hM_X6_bring : gmt 119 = (yX6_bring, cX6_bring, 5, none, RX6, 0) := rfl
theorem hp_X6_bring : plainName yX6_bring.cls = true := by decide +kernel
theorem hd_X6_bring : yX6_bring.cls ≠ "java/lang/invoke/MethodHandle" ∧ yX6_bring.cls ≠ "java/lang/invoke/VarHandle" ∧ (parseMethodDescriptor yX6_bring.desc).map (fun d => d.parameters.length) = some 4 := by decide +kernel
theorem hM_X6_note : gmt 120 = (yX6_note, cX6_note, 2, none, RX6, 1) := rfl
theorem hp_X6_note : plainName yX6_note.cls = true := by decide +kernel
theorem hd_X6_note : yX6_note.cls ≠ "java/lang/invoke/MethodHandle" ∧ yX6_note.cls ≠ "java/lang/invoke/VarHandle" ∧ (parseMethodDescriptor yX6_note.desc).map (fun d => d.parameters.length) = some 0 := by decide +kernel
theorem hM_X6_beginRead : gmt 121 = (yX6_beginRead, cX6_beginRead, 2, none, RX6, 0) := rfl
theorem hp_X6_beginRead : plainName yX6_beginRead.cls = true := by decide +kernel
theorem hd_X6_beginRead : yX6_beginRead.cls ≠ "java/lang/invoke/MethodHandle" ∧ yX6_beginRead.cls ≠ "java/lang/invoke/VarHandle" ∧ (parseMethodDescriptor yX6_beginRead.desc).map (fun d => d.parameters.length) = some 0 := by decide +kernel
theorem hM_X6_isLetter : gmt 122 = (yX6_isLetter, cX6_isLetter, 1, some .boolean, RX6, 1) := rfl
theorem hp_X6_isLetter : plainName yX6_isLetter.cls = true := by decide +kernel
theorem hd_X6_isLetter : yX6_isLetter.cls ≠ "java/lang/invoke/MethodHandle" ∧ yX6_isLetter.cls ≠ "java/lang/invoke/VarHandle" ∧ (parseMethodDescriptor yX6_isLetter.desc).map (fun d => d.parameters.length) = some 0 := by decide +kernel
theorem hM_X6_isFigure : gmt 123 = (yX6_isFigure, cX6_isFigure, 1, some .boolean, RX6, 1) := rfl
theorem hp_X6_isFigure : plainName yX6_isFigure.cls = true := by decide +kernel
theorem hd_X6_isFigure : yX6_isFigure.cls ≠ "java/lang/invoke/MethodHandle" ∧ yX6_isFigure.cls ≠ "java/lang/invoke/VarHandle" ∧ (parseMethodDescriptor yX6_isFigure.desc).map (fun d => d.parameters.length) = some 0 := by decide +kernel
theorem hM_X6_wordTo : gmt 124 = (yX6_wordTo, cX6_wordTo, 4, some .int, RX6, 0) := rfl
theorem hp_X6_wordTo : plainName yX6_wordTo.cls = true := by decide +kernel
theorem hd_X6_wordTo : yX6_wordTo.cls ≠ "java/lang/invoke/MethodHandle" ∧ yX6_wordTo.cls ≠ "java/lang/invoke/VarHandle" ∧ (parseMethodDescriptor yX6_wordTo.desc).map (fun d => d.parameters.length) = some 0 := by decide +kernel
theorem hM_X6_next : gmt 125 = (yX6_next, cX6_next, 1, none, RX6, 2) := rfl
theorem hp_X6_next : plainName yX6_next.cls = true := by decide +kernel
theorem hd_X6_next : yX6_next.cls ≠ "java/lang/invoke/MethodHandle" ∧ yX6_next.cls ≠ "java/lang/invoke/VarHandle" ∧ (parseMethodDescriptor yX6_next.desc).map (fun d => d.parameters.length) = some 0 := by decide +kernel
theorem hM_X6_readNumber : gmt 126 = (yX6_readNumber, cX6_readNumber, 5, some .boolean, RX6, 3) := rfl
theorem hp_X6_readNumber : plainName yX6_readNumber.cls = true := by decide +kernel
theorem hd_X6_readNumber : yX6_readNumber.cls ≠ "java/lang/invoke/MethodHandle" ∧ yX6_readNumber.cls ≠ "java/lang/invoke/VarHandle" ∧ (parseMethodDescriptor yX6_readNumber.desc).map (fun d => d.parameters.length) = some 3 := by decide +kernel
theorem hM_X6_readCoin : gmt 127 = (yX6_readCoin, cX6_readCoin, 3, some .boolean, RX6, 4) := rfl
theorem hp_X6_readCoin : plainName yX6_readCoin.cls = true := by decide +kernel
theorem hd_X6_readCoin : yX6_readCoin.cls ≠ "java/lang/invoke/MethodHandle" ∧ yX6_readCoin.cls ≠ "java/lang/invoke/VarHandle" ∧ (parseMethodDescriptor yX6_readCoin.desc).map (fun d => d.parameters.length) = some 0 := by decide +kernel
theorem hM_X6_readTest : gmt 128 = (yX6_readTest, cX6_readTest, 3, some .boolean, RX6, 4) := rfl
theorem hp_X6_readTest : plainName yX6_readTest.cls = true := by decide +kernel
theorem hd_X6_readTest : yX6_readTest.cls ≠ "java/lang/invoke/MethodHandle" ∧ yX6_readTest.cls ≠ "java/lang/invoke/VarHandle" ∧ (parseMethodDescriptor yX6_readTest.desc).map (fun d => d.parameters.length) = some 1 := by decide +kernel
theorem hM_X6_leastOf : gmt 129 = (yX6_leastOf, cX6_leastOf, 1, some .int, RX6, 0) := rfl
theorem hp_X6_leastOf : plainName yX6_leastOf.cls = true := by decide +kernel
theorem hd_X6_leastOf : yX6_leastOf.cls ≠ "java/lang/invoke/MethodHandle" ∧ yX6_leastOf.cls ≠ "java/lang/invoke/VarHandle" ∧ (parseMethodDescriptor yX6_leastOf.desc).map (fun d => d.parameters.length) = some 1 := by decide +kernel
theorem hM_X6_mostOf : gmt 130 = (yX6_mostOf, cX6_mostOf, 1, some .int, RX6, 0) := rfl
theorem hp_X6_mostOf : plainName yX6_mostOf.cls = true := by decide +kernel
theorem hd_X6_mostOf : yX6_mostOf.cls ≠ "java/lang/invoke/MethodHandle" ∧ yX6_mostOf.cls ≠ "java/lang/invoke/VarHandle" ∧ (parseMethodDescriptor yX6_mostOf.desc).map (fun d => d.parameters.length) = some 1 := by decide +kernel
theorem hM_X6_readItem : gmt 131 = (yX6_readItem, cX6_readItem, 1, some .boolean, RX6, 5) := rfl
theorem hp_X6_readItem : plainName yX6_readItem.cls = true := by decide +kernel
theorem hd_X6_readItem : yX6_readItem.cls ≠ "java/lang/invoke/MethodHandle" ∧ yX6_readItem.cls ≠ "java/lang/invoke/VarHandle" ∧ (parseMethodDescriptor yX6_readItem.desc).map (fun d => d.parameters.length) = some 0 := by decide +kernel
theorem hM_X6_readText : gmt 132 = (yX6_readText, cX6_readText, 1, some .int, RX6, 6) := rfl
theorem hp_X6_readText : plainName yX6_readText.cls = true := by decide +kernel
theorem hd_X6_readText : yX6_readText.cls ≠ "java/lang/invoke/MethodHandle" ∧ yX6_readText.cls ≠ "java/lang/invoke/VarHandle" ∧ (parseMethodDescriptor yX6_readText.desc).map (fun d => d.parameters.length) = some 0 := by decide +kernel
theorem hM_X6_type : gmt 133 = (yX6_type, cX6_type, 2, some .int, RX6, 1) := rfl
theorem hp_X6_type : plainName yX6_type.cls = true := by decide +kernel
theorem hd_X6_type : yX6_type.cls ≠ "java/lang/invoke/MethodHandle" ∧ yX6_type.cls ≠ "java/lang/invoke/VarHandle" ∧ (parseMethodDescriptor yX6_type.desc).map (fun d => d.parameters.length) = some 1 := by decide +kernel
theorem hM_X6_clear : gmt 134 = (yX6_clear, cX6_clear, 2, some .int, RX6, 0) := rfl
theorem hp_X6_clear : plainName yX6_clear.cls = true := by decide +kernel
theorem hd_X6_clear : yX6_clear.cls ≠ "java/lang/invoke/MethodHandle" ∧ yX6_clear.cls ≠ "java/lang/invoke/VarHandle" ∧ (parseMethodDescriptor yX6_clear.desc).map (fun d => d.parameters.length) = some 0 := by decide +kernel
theorem hM_X6_tells : gmt 135 = (yX6_tells, cX6_tells, 2, some .int, RX6, 7) := rfl
theorem hp_X6_tells : plainName yX6_tells.cls = true := by decide +kernel
theorem hd_X6_tells : yX6_tells.cls ≠ "java/lang/invoke/MethodHandle" ∧ yX6_tells.cls ≠ "java/lang/invoke/VarHandle" ∧ (parseMethodDescriptor yX6_tells.desc).map (fun d => d.parameters.length) = some 0 := by decide +kernel
theorem hM_X6_isKind : gmt 136 = (yX6_isKind, cX6_isKind, 2, some .boolean, RX6, 1) := rfl
theorem hp_X6_isKind : plainName yX6_isKind.cls = true := by decide +kernel
theorem hd_X6_isKind : yX6_isKind.cls ≠ "java/lang/invoke/MethodHandle" ∧ yX6_isKind.cls ≠ "java/lang/invoke/VarHandle" ∧ (parseMethodDescriptor yX6_isKind.desc).map (fun d => d.parameters.length) = some 1 := by decide +kernel
theorem hM_X6_isTest : gmt 137 = (yX6_isTest, cX6_isTest, 2, some .boolean, RX6, 1) := rfl
theorem hp_X6_isTest : plainName yX6_isTest.cls = true := by decide +kernel
theorem hd_X6_isTest : yX6_isTest.cls ≠ "java/lang/invoke/MethodHandle" ∧ yX6_isTest.cls ≠ "java/lang/invoke/VarHandle" ∧ (parseMethodDescriptor yX6_isTest.desc).map (fun d => d.parameters.length) = some 1 := by decide +kernel
theorem hM_X6_ofKind : gmt 138 = (yX6_ofKind, cX6_ofKind, 3, some .int, RX6, 0) := rfl
theorem hp_X6_ofKind : plainName yX6_ofKind.cls = true := by decide +kernel
theorem hd_X6_ofKind : yX6_ofKind.cls ≠ "java/lang/invoke/MethodHandle" ∧ yX6_ofKind.cls ≠ "java/lang/invoke/VarHandle" ∧ (parseMethodDescriptor yX6_ofKind.desc).map (fun d => d.parameters.length) = some 2 := by decide +kernel
theorem hM_X6_ofTest : gmt 139 = (yX6_ofTest, cX6_ofTest, 3, some .int, RX6, 0) := rfl
theorem hp_X6_ofTest : plainName yX6_ofTest.cls = true := by decide +kernel
theorem hd_X6_ofTest : yX6_ofTest.cls ≠ "java/lang/invoke/MethodHandle" ∧ yX6_ofTest.cls ≠ "java/lang/invoke/VarHandle" ∧ (parseMethodDescriptor yX6_ofTest.desc).map (fun d => d.parameters.length) = some 2 := by decide +kernel
theorem hM_X6_asTold : gmt 140 = (yX6_asTold, cX6_asTold, 2, none, RX6, 0) := rfl
theorem hp_X6_asTold : plainName yX6_asTold.cls = true := by decide +kernel
theorem hd_X6_asTold : yX6_asTold.cls ≠ "java/lang/invoke/MethodHandle" ∧ yX6_asTold.cls ≠ "java/lang/invoke/VarHandle" ∧ (parseMethodDescriptor yX6_asTold.desc).map (fun d => d.parameters.length) = some 0 := by decide +kernel
theorem hM_X6_falls : gmt 141 = (yX6_falls, cX6_falls, 7, some .boolean, RX6, 1) := rfl
theorem hp_X6_falls : plainName yX6_falls.cls = true := by decide +kernel
theorem hd_X6_falls : yX6_falls.cls ≠ "java/lang/invoke/MethodHandle" ∧ yX6_falls.cls ≠ "java/lang/invoke/VarHandle" ∧ (parseMethodDescriptor yX6_falls.desc).map (fun d => d.parameters.length) = some 4 := by decide +kernel
theorem hM_X6_binOf : gmt 142 = (yX6_binOf, cX6_binOf, 5, some .int, RX6, 2) := rfl
theorem hp_X6_binOf : plainName yX6_binOf.cls = true := by decide +kernel
theorem hd_X6_binOf : yX6_binOf.cls ≠ "java/lang/invoke/MethodHandle" ∧ yX6_binOf.cls ≠ "java/lang/invoke/VarHandle" ∧ (parseMethodDescriptor yX6_binOf.desc).map (fun d => d.parameters.length) = some 3 := by decide +kernel
theorem hM_X6_binBy : gmt 143 = (yX6_binBy, cX6_binBy, 3, some .int, RX6, 3) := rfl
theorem hp_X6_binBy : plainName yX6_binBy.cls = true := by decide +kernel
theorem hd_X6_binBy : yX6_binBy.cls ≠ "java/lang/invoke/MethodHandle" ∧ yX6_binBy.cls ≠ "java/lang/invoke/VarHandle" ∧ (parseMethodDescriptor yX6_binBy.desc).map (fun d => d.parameters.length) = some 2 := by decide +kernel
theorem hM_X6_tollTo : gmt 144 = (yX6_tollTo, cX6_tollTo, 4, some .int, RX6, 1) := rfl
theorem hp_X6_tollTo : plainName yX6_tollTo.cls = true := by decide +kernel
theorem hd_X6_tollTo : yX6_tollTo.cls ≠ "java/lang/invoke/MethodHandle" ∧ yX6_tollTo.cls ≠ "java/lang/invoke/VarHandle" ∧ (parseMethodDescriptor yX6_tollTo.desc).map (fun d => d.parameters.length) = some 1 := by decide +kernel
theorem hM_X6_binsOf : gmt 145 = (yX6_binsOf, cX6_binsOf, 5, some .int, RX6, 4) := rfl
theorem hp_X6_binsOf : plainName yX6_binsOf.cls = true := by decide +kernel
theorem hd_X6_binsOf : yX6_binsOf.cls ≠ "java/lang/invoke/MethodHandle" ∧ yX6_binsOf.cls ≠ "java/lang/invoke/VarHandle" ∧ (parseMethodDescriptor yX6_binsOf.desc).map (fun d => d.parameters.length) = some 2 := by decide +kernel
theorem hM_X6_tollOf : gmt 146 = (yX6_tollOf, cX6_tollOf, 5, some .int, RX6, 4) := rfl
theorem hp_X6_tollOf : plainName yX6_tollOf.cls = true := by decide +kernel
theorem hd_X6_tollOf : yX6_tollOf.cls ≠ "java/lang/invoke/MethodHandle" ∧ yX6_tollOf.cls ≠ "java/lang/invoke/VarHandle" ∧ (parseMethodDescriptor yX6_tollOf.desc).map (fun d => d.parameters.length) = some 1 := by decide +kernel
theorem hM_X6_areApart : gmt 147 = (yX6_areApart, cX6_areApart, 7, some .boolean, RX6, 5) := rfl
theorem hp_X6_areApart : plainName yX6_areApart.cls = true := by decide +kernel
theorem hd_X6_areApart : yX6_areApart.cls ≠ "java/lang/invoke/MethodHandle" ∧ yX6_areApart.cls ≠ "java/lang/invoke/VarHandle" ∧ (parseMethodDescriptor yX6_areApart.desc).map (fun d => d.parameters.length) = some 2 := by decide +kernel
theorem hM_X6_priceNow : gmt 148 = (yX6_priceNow, cX6_priceNow, 3, some .int, RX6, 5) := rfl
theorem hp_X6_priceNow : plainName yX6_priceNow.cls = true := by decide +kernel
theorem hd_X6_priceNow : yX6_priceNow.cls ≠ "java/lang/invoke/MethodHandle" ∧ yX6_priceNow.cls ≠ "java/lang/invoke/VarHandle" ∧ (parseMethodDescriptor yX6_priceNow.desc).map (fun d => d.parameters.length) = some 0 := by decide +kernel
theorem hM_X6_kindsOf : gmt 149 = (yX6_kindsOf, cX6_kindsOf, 4, some .int, RX6, 5) := rfl
theorem hp_X6_kindsOf : plainName yX6_kindsOf.cls = true := by decide +kernel
theorem hd_X6_kindsOf : yX6_kindsOf.cls ≠ "java/lang/invoke/MethodHandle" ∧ yX6_kindsOf.cls ≠ "java/lang/invoke/VarHandle" ∧ (parseMethodDescriptor yX6_kindsOf.desc).map (fun d => d.parameters.length) = some 1 := by decide +kernel
theorem hM_X6_drops : gmt 150 = (yX6_drops, cX6_drops, 4, some .int, RX6, 4) := rfl
theorem hp_X6_drops : plainName yX6_drops.cls = true := by decide +kernel
theorem hd_X6_drops : yX6_drops.cls ≠ "java/lang/invoke/MethodHandle" ∧ yX6_drops.cls ≠ "java/lang/invoke/VarHandle" ∧ (parseMethodDescriptor yX6_drops.desc).map (fun d => d.parameters.length) = some 2 := by decide +kernel
theorem hM_X6_frees : gmt 151 = (yX6_frees, cX6_frees, 2, some .int, RX6, 2) := rfl
theorem hp_X6_frees : plainName yX6_frees.cls = true := by decide +kernel
theorem hd_X6_frees : yX6_frees.cls ≠ "java/lang/invoke/MethodHandle" ∧ yX6_frees.cls ≠ "java/lang/invoke/VarHandle" ∧ (parseMethodDescriptor yX6_frees.desc).map (fun d => d.parameters.length) = some 0 := by decide +kernel
theorem hM_X6_isBin : gmt 152 = (yX6_isBin, cX6_isBin, 2, some .boolean, RX6, 1) := rfl
theorem hp_X6_isBin : plainName yX6_isBin.cls = true := by decide +kernel
theorem hd_X6_isBin : yX6_isBin.cls ≠ "java/lang/invoke/MethodHandle" ∧ yX6_isBin.cls ≠ "java/lang/invoke/VarHandle" ∧ (parseMethodDescriptor yX6_isBin.desc).map (fun d => d.parameters.length) = some 1 := by decide +kernel
theorem hM_X6_empties : gmt 153 = (yX6_empties, cX6_empties, 3, some .int, RX6, 2) := rfl
theorem hp_X6_empties : plainName yX6_empties.cls = true := by decide +kernel
theorem hd_X6_empties : yX6_empties.cls ≠ "java/lang/invoke/MethodHandle" ∧ yX6_empties.cls ≠ "java/lang/invoke/VarHandle" ∧ (parseMethodDescriptor yX6_empties.desc).map (fun d => d.parameters.length) = some 1 := by decide +kernel
theorem hM_X6_emptyAll : gmt 154 = (yX6_emptyAll, cX6_emptyAll, 2, none, RX6, 0) := rfl
theorem hp_X6_emptyAll : plainName yX6_emptyAll.cls = true := by decide +kernel
theorem hd_X6_emptyAll : yX6_emptyAll.cls ≠ "java/lang/invoke/MethodHandle" ∧ yX6_emptyAll.cls ≠ "java/lang/invoke/VarHandle" ∧ (parseMethodDescriptor yX6_emptyAll.desc).map (fun d => d.parameters.length) = some 0 := by decide +kernel
theorem hM_X6_puts : gmt 155 = (yX6_puts, cX6_puts, 6, some .int, RX6, 2) := rfl
theorem hp_X6_puts : plainName yX6_puts.cls = true := by decide +kernel
theorem hd_X6_puts : yX6_puts.cls ≠ "java/lang/invoke/MethodHandle" ∧ yX6_puts.cls ≠ "java/lang/invoke/VarHandle" ∧ (parseMethodDescriptor yX6_puts.desc).map (fun d => d.parameters.length) = some 4 := by decide +kernel
theorem hM_X6_takes : gmt 156 = (yX6_takes, cX6_takes, 3, some .int, RX6, 2) := rfl
theorem hp_X6_takes : plainName yX6_takes.cls = true := by decide +kernel
theorem hd_X6_takes : yX6_takes.cls ≠ "java/lang/invoke/MethodHandle" ∧ yX6_takes.cls ≠ "java/lang/invoke/VarHandle" ∧ (parseMethodDescriptor yX6_takes.desc).map (fun d => d.parameters.length) = some 1 := by decide +kernel
theorem hM_X6_sets : gmt 157 = (yX6_sets, cX6_sets, 4, some .int, RX6, 2) := rfl
theorem hp_X6_sets : plainName yX6_sets.cls = true := by decide +kernel
theorem hd_X6_sets : yX6_sets.cls ≠ "java/lang/invoke/MethodHandle" ∧ yX6_sets.cls ≠ "java/lang/invoke/VarHandle" ∧ (parseMethodDescriptor yX6_sets.desc).map (fun d => d.parameters.length) = some 2 := by decide +kernel
theorem hM_X6_adds : gmt 158 = (yX6_adds, cX6_adds, 6, some .int, RX6, 2) := rfl
theorem hp_X6_adds : plainName yX6_adds.cls = true := by decide +kernel
theorem hd_X6_adds : yX6_adds.cls ≠ "java/lang/invoke/MethodHandle" ∧ yX6_adds.cls ≠ "java/lang/invoke/VarHandle" ∧ (parseMethodDescriptor yX6_adds.desc).map (fun d => d.parameters.length) = some 4 := by decide +kernel
theorem hM_X6_undo : gmt 159 = (yX6_undo, cX6_undo, 1, some .int, RX6, 1) := rfl
theorem hp_X6_undo : plainName yX6_undo.cls = true := by decide +kernel
theorem hd_X6_undo : yX6_undo.cls ≠ "java/lang/invoke/MethodHandle" ∧ yX6_undo.cls ≠ "java/lang/invoke/VarHandle" ∧ (parseMethodDescriptor yX6_undo.desc).map (fun d => d.parameters.length) = some 0 := by decide +kernel
theorem hM_X6_bearsOf : gmt 160 = (yX6_bearsOf, cX6_bearsOf, 4, some .int, RX6, 6) := rfl
theorem hp_X6_bearsOf : plainName yX6_bearsOf.cls = true := by decide +kernel
theorem hd_X6_bearsOf : yX6_bearsOf.cls ≠ "java/lang/invoke/MethodHandle" ∧ yX6_bearsOf.cls ≠ "java/lang/invoke/VarHandle" ∧ (parseMethodDescriptor yX6_bearsOf.desc).map (fun d => d.parameters.length) = some 1 := by decide +kernel
theorem hM_X6_kind : gmt 161 = (yX6_kind, cX6_kind, 3, some .int, RX6, 7) := rfl
theorem hp_X6_kind : plainName yX6_kind.cls = true := by decide +kernel
theorem hd_X6_kind : yX6_kind.cls ≠ "java/lang/invoke/MethodHandle" ∧ yX6_kind.cls ≠ "java/lang/invoke/VarHandle" ∧ (parseMethodDescriptor yX6_kind.desc).map (fun d => d.parameters.length) = some 2 := by decide +kernel
theorem hM_X6_test : gmt 162 = (yX6_test, cX6_test, 3, some .int, RX6, 2) := rfl
theorem hp_X6_test : plainName yX6_test.cls = true := by decide +kernel
theorem hd_X6_test : yX6_test.cls ≠ "java/lang/invoke/MethodHandle" ∧ yX6_test.cls ≠ "java/lang/invoke/VarHandle" ∧ (parseMethodDescriptor yX6_test.desc).map (fun d => d.parameters.length) = some 2 := by decide +kernel
theorem hM_X6_bin : gmt 163 = (yX6_bin, cX6_bin, 3, some .int, RX6, 6) := rfl
theorem hp_X6_bin : plainName yX6_bin.cls = true := by decide +kernel
theorem hd_X6_bin : yX6_bin.cls ≠ "java/lang/invoke/MethodHandle" ∧ yX6_bin.cls ≠ "java/lang/invoke/VarHandle" ∧ (parseMethodDescriptor yX6_bin.desc).map (fun d => d.parameters.length) = some 2 := by decide +kernel
theorem hM_X6_coin : gmt 164 = (yX6_coin, cX6_coin, 6, some .int, RX6, 6) := rfl
theorem hp_X6_coin : plainName yX6_coin.cls = true := by decide +kernel
theorem hd_X6_coin : yX6_coin.cls ≠ "java/lang/invoke/MethodHandle" ∧ yX6_coin.cls ≠ "java/lang/invoke/VarHandle" ∧ (parseMethodDescriptor yX6_coin.desc).map (fun d => d.parameters.length) = some 4 := by decide +kernel
theorem hM_X6_doubtful : gmt 165 = (yX6_doubtful, cX6_doubtful, 3, some .int, RX6, 5) := rfl
theorem hp_X6_doubtful : plainName yX6_doubtful.cls = true := by decide +kernel
theorem hd_X6_doubtful : yX6_doubtful.cls ≠ "java/lang/invoke/MethodHandle" ∧ yX6_doubtful.cls ≠ "java/lang/invoke/VarHandle" ∧ (parseMethodDescriptor yX6_doubtful.desc).map (fun d => d.parameters.length) = some 0 := by decide +kernel
theorem hM_X6_fewest : gmt 166 = (yX6_fewest, cX6_fewest, 4, some .int, RX6, 6) := rfl
theorem hp_X6_fewest : plainName yX6_fewest.cls = true := by decide +kernel
theorem hd_X6_fewest : yX6_fewest.cls ≠ "java/lang/invoke/MethodHandle" ∧ yX6_fewest.cls ≠ "java/lang/invoke/VarHandle" ∧ (parseMethodDescriptor yX6_fewest.desc).map (fun d => d.parameters.length) = some 0 := by decide +kernel
theorem hM_X6_track : gmt 167 = (yX6_track, cX6_track, 2, some .int, RX6, 7) := rfl
theorem hp_X6_track : plainName yX6_track.cls = true := by decide +kernel
theorem hd_X6_track : yX6_track.cls ≠ "java/lang/invoke/MethodHandle" ∧ yX6_track.cls ≠ "java/lang/invoke/VarHandle" ∧ (parseMethodDescriptor yX6_track.desc).map (fun d => d.parameters.length) = some 1 := by decide +kernel
theorem hM_X6_swap : gmt 168 = (yX6_swap, cX6_swap, 4, none, RX6, 0) := rfl
theorem hp_X6_swap : plainName yX6_swap.cls = true := by decide +kernel
theorem hd_X6_swap : yX6_swap.cls ≠ "java/lang/invoke/MethodHandle" ∧ yX6_swap.cls ≠ "java/lang/invoke/VarHandle" ∧ (parseMethodDescriptor yX6_swap.desc).map (fun d => d.parameters.length) = some 2 := by decide +kernel
theorem hM_X6_nextOrder : gmt 169 = (yX6_nextOrder, cX6_nextOrder, 4, some .boolean, RX6, 1) := rfl
theorem hp_X6_nextOrder : plainName yX6_nextOrder.cls = true := by decide +kernel
theorem hd_X6_nextOrder : yX6_nextOrder.cls ≠ "java/lang/invoke/MethodHandle" ∧ yX6_nextOrder.cls ≠ "java/lang/invoke/VarHandle" ∧ (parseMethodDescriptor yX6_nextOrder.desc).map (fun d => d.parameters.length) = some 0 := by decide +kernel
theorem hM_X6_findOrder : gmt 170 = (yX6_findOrder, cX6_findOrder, 5, some .int, RX6, 6) := rfl
theorem hp_X6_findOrder : plainName yX6_findOrder.cls = true := by decide +kernel
theorem hd_X6_findOrder : yX6_findOrder.cls ≠ "java/lang/invoke/MethodHandle" ∧ yX6_findOrder.cls ≠ "java/lang/invoke/VarHandle" ∧ (parseMethodDescriptor yX6_findOrder.desc).map (fun d => d.parameters.length) = some 0 := by decide +kernel
theorem hM_X6_order : gmt 171 = (yX6_order, cX6_order, 3, some .int, RX6, 7) := rfl
theorem hp_X6_order : plainName yX6_order.cls = true := by decide +kernel
theorem hd_X6_order : yX6_order.cls ≠ "java/lang/invoke/MethodHandle" ∧ yX6_order.cls ≠ "java/lang/invoke/VarHandle" ∧ (parseMethodDescriptor yX6_order.desc).map (fun d => d.parameters.length) = some 1 := by decide +kernel
theorem hM_X6_sees : gmt 172 = (yX6_sees, cX6_sees, 4, some .int, RX6, 1) := rfl
theorem hp_X6_sees : plainName yX6_sees.cls = true := by decide +kernel
theorem hd_X6_sees : yX6_sees.cls ≠ "java/lang/invoke/MethodHandle" ∧ yX6_sees.cls ≠ "java/lang/invoke/VarHandle" ∧ (parseMethodDescriptor yX6_sees.desc).map (fun d => d.parameters.length) = some 3 := by decide +kernel
theorem hM_X6_forget : gmt 173 = (yX6_forget, cX6_forget, 2, some .int, RX6, 0) := rfl
theorem hp_X6_forget : plainName yX6_forget.cls = true := by decide +kernel
theorem hd_X6_forget : yX6_forget.cls ≠ "java/lang/invoke/MethodHandle" ∧ yX6_forget.cls ≠ "java/lang/invoke/VarHandle" ∧ (parseMethodDescriptor yX6_forget.desc).map (fun d => d.parameters.length) = some 0 := by decide +kernel
theorem hM_X6_isSo : gmt 174 = (yX6_isSo, cX6_isSo, 5, some .boolean, RX6, 4) := rfl
theorem hp_X6_isSo : plainName yX6_isSo.cls = true := by decide +kernel
theorem hd_X6_isSo : yX6_isSo.cls ≠ "java/lang/invoke/MethodHandle" ∧ yX6_isSo.cls ≠ "java/lang/invoke/VarHandle" ∧ (parseMethodDescriptor yX6_isSo.desc).map (fun d => d.parameters.length) = some 1 := by decide +kernel
theorem hM_X6_areSo : gmt 175 = (yX6_areSo, cX6_areSo, 3, some .boolean, RX6, 5) := rfl
theorem hp_X6_areSo : plainName yX6_areSo.cls = true := by decide +kernel
theorem hd_X6_areSo : yX6_areSo.cls ≠ "java/lang/invoke/MethodHandle" ∧ yX6_areSo.cls ≠ "java/lang/invoke/VarHandle" ∧ (parseMethodDescriptor yX6_areSo.desc).map (fun d => d.parameters.length) = some 0 := by decide +kernel
theorem hM_X6_takeSuspect : gmt 176 = (yX6_takeSuspect, cX6_takeSuspect, 2, some .boolean, RX6, 1) := rfl
theorem hp_X6_takeSuspect : plainName yX6_takeSuspect.cls = true := by decide +kernel
theorem hd_X6_takeSuspect : yX6_takeSuspect.cls ≠ "java/lang/invoke/MethodHandle" ∧ yX6_takeSuspect.cls ≠ "java/lang/invoke/VarHandle" ∧ (parseMethodDescriptor yX6_takeSuspect.desc).map (fun d => d.parameters.length) = some 1 := by decide +kernel
theorem hM_X6_findSuspects : gmt 177 = (yX6_findSuspects, cX6_findSuspects, 2, none, RX6, 6) := rfl
theorem hp_X6_findSuspects : plainName yX6_findSuspects.cls = true := by decide +kernel
theorem hd_X6_findSuspects : yX6_findSuspects.cls ≠ "java/lang/invoke/MethodHandle" ∧ yX6_findSuspects.cls ≠ "java/lang/invoke/VarHandle" ∧ (parseMethodDescriptor yX6_findSuspects.desc).map (fun d => d.parameters.length) = some 0 := by decide +kernel
theorem hM_X6_suspects : gmt 178 = (yX6_suspects, cX6_suspects, 2, some .int, RX6, 7) := rfl
theorem hp_X6_suspects : plainName yX6_suspects.cls = true := by decide +kernel
theorem hd_X6_suspects : yX6_suspects.cls ≠ "java/lang/invoke/MethodHandle" ∧ yX6_suspects.cls ≠ "java/lang/invoke/VarHandle" ∧ (parseMethodDescriptor yX6_suspects.desc).map (fun d => d.parameters.length) = some 1 := by decide +kernel
theorem hM_X6_mostBy : gmt 179 = (yX6_mostBy, cX6_mostBy, 7, some .int, RX6, 4) := rfl
theorem hp_X6_mostBy : plainName yX6_mostBy.cls = true := by decide +kernel
theorem hd_X6_mostBy : yX6_mostBy.cls ≠ "java/lang/invoke/MethodHandle" ∧ yX6_mostBy.cls ≠ "java/lang/invoke/VarHandle" ∧ (parseMethodDescriptor yX6_mostBy.desc).map (fun d => d.parameters.length) = some 2 := by decide +kernel
theorem hM_X6_look : gmt 180 = (yX6_look, cX6_look, 6, some .int, RX6, 7) := rfl
theorem hp_X6_look : plainName yX6_look.cls = true := by decide +kernel
theorem hd_X6_look : yX6_look.cls ≠ "java/lang/invoke/MethodHandle" ∧ yX6_look.cls ≠ "java/lang/invoke/VarHandle" ∧ (parseMethodDescriptor yX6_look.desc).map (fun d => d.parameters.length) = some 0 := by decide +kernel
theorem hM_X6_keep : gmt 181 = (yX6_keep, cX6_keep, 2, some .int, RX6, 1) := rfl
theorem hp_X6_keep : plainName yX6_keep.cls = true := by decide +kernel
theorem hd_X6_keep : yX6_keep.cls ≠ "java/lang/invoke/MethodHandle" ∧ yX6_keep.cls ≠ "java/lang/invoke/VarHandle" ∧ (parseMethodDescriptor yX6_keep.desc).map (fun d => d.parameters.length) = some 1 := by decide +kernel
theorem hM_X6_back : gmt 182 = (yX6_back, cX6_back, 2, some .int, RX6, 1) := rfl
theorem hp_X6_back : plainName yX6_back.cls = true := by decide +kernel
theorem hd_X6_back : yX6_back.cls ≠ "java/lang/invoke/MethodHandle" ∧ yX6_back.cls ≠ "java/lang/invoke/VarHandle" ∧ (parseMethodDescriptor yX6_back.desc).map (fun d => d.parameters.length) = some 1 := by decide +kernel
theorem hM_X6_coins : gmt 183 = (yX6_coins, cX6_coins, 3, some .int, RX6, 0) := rfl
theorem hp_X6_coins : plainName yX6_coins.cls = true := by decide +kernel
theorem hd_X6_coins : yX6_coins.cls ≠ "java/lang/invoke/MethodHandle" ∧ yX6_coins.cls ≠ "java/lang/invoke/VarHandle" ∧ (parseMethodDescriptor yX6_coins.desc).map (fun d => d.parameters.length) = some 0 := by decide +kernel
theorem hM_X6_count : gmt 184 = (yX6_count, cX6_count, 2, some .int, RX6, 1) := rfl
theorem hp_X6_count : plainName yX6_count.cls = true := by decide +kernel
theorem hd_X6_count : yX6_count.cls ≠ "java/lang/invoke/MethodHandle" ∧ yX6_count.cls ≠ "java/lang/invoke/VarHandle" ∧ (parseMethodDescriptor yX6_count.desc).map (fun d => d.parameters.length) = some 1 := by decide +kernel
def gNo : gO := .inl (fun _ => none)
def gN (c : Nat) (a b : Nat → gO) : Nat → gO := fun pc => cond (Nat.blt pc c) (a pc) (b pc)
def gLf (c : Nat) (o : gO) : Nat → gO := fun pc => cond (Nat.beq pc c) o gNo
def gTn (c : Nat) (a b : Nat → Nat → gO) : Nat → Nat → gO := fun i => cond (Nat.blt i c) (a i) (b i)
def gTl (c : Nat) (a : Nat → gO) : Nat → Nat → gO := fun i => cond (Nat.beq i c) a (fun _ => gNo)
theorem gAt_no {mt : Nat → gM} {X : gX} {i pc : Nat} : gAt mt X i pc gNo := fun _ _ _ h => by cases h
theorem gAt_N {mt : Nat → gM} {X : gX} {i c : Nat} {a b : Nat → gO} (ha : ∀ pc, gAt mt X i pc (a pc)) (hb : ∀ pc, gAt mt X i pc (b pc)) : ∀ pc, gAt mt X i pc (gN c a b pc) := by
  intro pc
  unfold gN
  cases Nat.blt pc c
  · exact hb pc
  · exact ha pc
theorem gAt_L {mt : Nat → gM} {X : gX} {i c : Nat} {o : gO} (h : gAt mt X i c o) : ∀ pc, gAt mt X i pc (gLf c o pc) := by
  intro pc
  unfold gLf
  cases hb : Nat.beq pc c
  · exact gAt_no
  · have := Nat.eq_of_beq_eq_true hb
    subst this
    exact h
theorem gAt_Tn {mt : Nat → gM} {X : gX} {c : Nat} {a b : Nat → Nat → gO} (ha : ∀ i pc, gAt mt X i pc (a i pc)) (hb : ∀ i pc, gAt mt X i pc (b i pc)) : ∀ i pc, gAt mt X i pc (gTn c a b i pc) := by
  intro i pc
  unfold gTn
  cases Nat.blt i c
  · exact hb i pc
  · exact ha i pc
theorem gAt_Tl {mt : Nat → gM} {X : gX} {c : Nat} {a : Nat → gO} (h : ∀ pc, gAt mt X c pc (a pc)) : ∀ i pc, gAt mt X i pc (gTl c a i pc) := by
  intro i pc
  unfold gTl
  cases hb : Nat.beq i c
  · exact gAt_no
  · have := Nat.eq_of_beq_eq_true hb
    subst this
    exact h pc
