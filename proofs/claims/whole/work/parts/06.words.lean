/-! words among the tables': each by its place -/
theorem lw_t1 {w : Cond} (h : w ∈ tables_1_1) : w ∈ lw_tbl := List.mem_append_right _ (List.mem_append_left _ h)
theorem lw_t2 {w : Cond} (h : w ∈ tables_1_2) : w ∈ lw_tbl := List.mem_append_right _ (List.mem_append_right _ (List.mem_append_left _ h))
theorem lw_t3 {w : Cond} (h : w ∈ tables_1_3) : w ∈ lw_tbl := List.mem_append_right _ (List.mem_append_right _ (List.mem_append_right _ h))
theorem lw_s1 {q : MethodName × Nat} (h : q ∈ lw_privs_1) : Cond.selects q.1.cls q.1 q.1 ∈ lw_tbl := List.mem_append_left _ (List.mem_map.mpr ⟨q, List.mem_append_left _ h, rfl⟩)
theorem lw_s2 {q : MethodName × Nat} (h : q ∈ lw_privs_2) : Cond.selects q.1.cls q.1 q.1 ∈ lw_tbl := List.mem_append_left _ (List.mem_map.mpr ⟨q, List.mem_append_right _ h, rfl⟩)
theorem lk_V {own C : String} {idx : Nat} {y : MethodName} {w0 : Cond} (h1 : Cond.methodLink own idx y ∈ tb) (h2 : Cond.instanceMethod y ∈ tb) (h3 : Cond.selects C y y ∈ tb) (h4 : Cond.initialized C ∈ tb) (h5 : w0 ∈ tb) : ∀ w ∈ wsV own idx C y [w0], w ∈ tb := List.forall_mem_cons.mpr ⟨h1, List.forall_mem_cons.mpr ⟨h2, List.forall_mem_cons.mpr ⟨h3, List.forall_mem_cons.mpr ⟨h4, List.forall_mem_cons.mpr ⟨h5, fun _ h => absurd h List.not_mem_nil⟩⟩⟩⟩⟩
theorem lk_S {own : String} {idx : Nat} {y : MethodName} {w0 : Cond} (h1 : Cond.methodLink own idx y ∈ tb) (h2 : Cond.static y ∈ tb) (h3 : Cond.initialized y.cls ∈ tb) (h4 : w0 ∈ tb) : ∀ w ∈ va_wsS own idx y [w0], w ∈ tb := List.forall_mem_cons.mpr ⟨h1, List.forall_mem_cons.mpr ⟨h2, List.forall_mem_cons.mpr ⟨h3, List.forall_mem_cons.mpr ⟨h4, fun _ h => absurd h List.not_mem_nil⟩⟩⟩⟩
theorem wd_1_0 : Cond.initialized "LevelTypesLaw" ∈ tb := tb_in (lw_t1 (List.mem_of_getElem? (i := 0) (by decide +kernel))) rfl
theorem wd_1_1 : Cond.initialized "LevelTypes" ∈ tb := tb_in (lw_t1 (List.mem_of_getElem? (i := 1) (by decide +kernel))) rfl
theorem wd_1_2 : Cond.initialized "java/util/AbstractCollection" ∈ tb := tb_in (lw_t1 (List.mem_of_getElem? (i := 2) (by decide +kernel))) rfl
theorem wd_1_3 : Cond.initialized "java/util/AbstractList" ∈ tb := tb_in (lw_t1 (List.mem_of_getElem? (i := 3) (by decide +kernel))) rfl
theorem wd_1_4 : Cond.initialized "java/util/ArrayList" ∈ tb := tb_in (lw_t1 (List.mem_of_getElem? (i := 4) (by decide +kernel))) rfl
theorem wd_1_5 : Cond.initialized "LevelTypesModel" ∈ tb := tb_in (lw_t1 (List.mem_of_getElem? (i := 5) (by decide +kernel))) rfl
theorem wd_1_6 : Cond.initialized "LevelTypes$Type" ∈ tb := tb_in (lw_t1 (List.mem_of_getElem? (i := 6) (by decide +kernel))) rfl
theorem wd_1_7 : Cond.initialized "java/util/Objects" ∈ tb := tb_in (lw_t1 (List.mem_of_getElem? (i := 7) (by decide +kernel))) rfl
theorem wd_1_8 : Cond.initialized "jdk/internal/util/Preconditions" ∈ tb := tb_in (lw_t1 (List.mem_of_getElem? (i := 8) (by decide +kernel))) rfl
theorem wd_1_9 : Cond.initialized "LevelTypes$Definition" ∈ tb := tb_in (lw_t1 (List.mem_of_getElem? (i := 9) (by decide +kernel))) rfl
theorem wd_1_10 : Cond.initialized "jdk/internal/util/ArraysSupport" ∈ tb := tb_in (lw_t1 (List.mem_of_getElem? (i := 10) (by decide +kernel))) rfl
theorem wd_1_11 : Cond.initialized "java/lang/Math" ∈ tb := tb_in (lw_t1 (List.mem_of_getElem? (i := 11) (by decide +kernel))) rfl
theorem wd_1_12 : Cond.initialized "java/util/Arrays" ∈ tb := tb_in (lw_t1 (List.mem_of_getElem? (i := 12) (by decide +kernel))) rfl
theorem wd_1_13 : Cond.initialized "java/lang/System" ∈ tb := tb_in (lw_t1 (List.mem_of_getElem? (i := 13) (by decide +kernel))) rfl
theorem wd_1_14 : Cond.initialized "LevelTypes$Kind" ∈ tb := tb_in (lw_t1 (List.mem_of_getElem? (i := 14) (by decide +kernel))) rfl
theorem wd_1_15 : Cond.initialized "LevelTypes$Node" ∈ tb := tb_in (lw_t1 (List.mem_of_getElem? (i := 15) (by decide +kernel))) rfl
theorem wd_1_16 : Cond.classLink "LevelTypesLaw" 7 "LevelTypes" ∈ tb := tb_in (lw_t1 (List.mem_of_getElem? (i := 16) (by decide +kernel))) rfl
theorem wd_1_17 : Cond.instantiable "LevelTypes" 6 ∈ tb := tb_in (lw_t1 (List.mem_of_getElem? (i := 17) (by decide +kernel))) rfl
theorem wd_1_18 : Cond.methodLink "LevelTypesLaw" 9 ⟨"LevelTypes", "<init>", "()V"⟩ ∈ tb := tb_in (lw_t1 (List.mem_of_getElem? (i := 18) (by decide +kernel))) rfl
theorem wd_1_19 : Cond.instanceMethod ⟨"LevelTypes", "<init>", "()V"⟩ ∈ tb := tb_in (lw_t1 (List.mem_of_getElem? (i := 19) (by decide +kernel))) rfl
theorem wd_1_20 : Cond.code ⟨"LevelTypes", "<init>", "()V"⟩ prog_1_method_1_code 1 none ∈ tb := tb_in (lw_t1 (List.mem_of_getElem? (i := 20) rfl)) rfl
theorem wd_1_21 : Cond.methodLink "LevelTypes" 1 ⟨"java/lang/Object", "<init>", "()V"⟩ ∈ tb := tb_in (lw_t1 (List.mem_of_getElem? (i := 21) (by decide +kernel))) rfl
theorem wd_1_22 : Cond.instanceMethod ⟨"java/lang/Object", "<init>", "()V"⟩ ∈ tb := tb_in (lw_t1 (List.mem_of_getElem? (i := 22) (by decide +kernel))) rfl
theorem wd_1_23 : Cond.code ⟨"java/lang/Object", "<init>", "()V"⟩ object_method_1_code 1 none ∈ tb := tb_in (lw_t1 (List.mem_of_getElem? (i := 23) rfl)) rfl
theorem wd_1_24 : Cond.classLink "LevelTypes" 7 "java/util/ArrayList" ∈ tb := tb_in (lw_t1 (List.mem_of_getElem? (i := 24) (by decide +kernel))) rfl
theorem wd_1_25 : Cond.instantiable "java/util/ArrayList" 3 ∈ tb := tb_in (lw_t1 (List.mem_of_getElem? (i := 25) (by decide +kernel))) rfl
theorem wd_1_26 : Cond.methodLink "LevelTypes" 9 ⟨"java/util/ArrayList", "<init>", "()V"⟩ ∈ tb := tb_in (lw_t1 (List.mem_of_getElem? (i := 26) (by decide +kernel))) rfl
theorem wd_1_27 : Cond.instanceMethod ⟨"java/util/ArrayList", "<init>", "()V"⟩ ∈ tb := tb_in (lw_t1 (List.mem_of_getElem? (i := 27) (by decide +kernel))) rfl
theorem wd_1_28 : Cond.code ⟨"java/util/ArrayList", "<init>", "()V"⟩ prog_15_method_2_code 1 none ∈ tb := tb_in (lw_t1 (List.mem_of_getElem? (i := 28) rfl)) rfl
theorem wd_1_29 : Cond.methodLink "java/util/ArrayList" 1 ⟨"java/util/AbstractList", "<init>", "()V"⟩ ∈ tb := tb_in (lw_t1 (List.mem_of_getElem? (i := 29) (by decide +kernel))) rfl
theorem wd_1_30 : Cond.instanceMethod ⟨"java/util/AbstractList", "<init>", "()V"⟩ ∈ tb := tb_in (lw_t1 (List.mem_of_getElem? (i := 30) (by decide +kernel))) rfl
theorem wd_1_31 : Cond.code ⟨"java/util/AbstractList", "<init>", "()V"⟩ prog_14_method_1_code 1 none ∈ tb := tb_in (lw_t1 (List.mem_of_getElem? (i := 31) rfl)) rfl
theorem wd_1_32 : Cond.methodLink "java/util/AbstractList" 1 ⟨"java/util/AbstractCollection", "<init>", "()V"⟩ ∈ tb := tb_in (lw_t1 (List.mem_of_getElem? (i := 32) (by decide +kernel))) rfl
theorem wd_1_33 : Cond.instanceMethod ⟨"java/util/AbstractCollection", "<init>", "()V"⟩ ∈ tb := tb_in (lw_t1 (List.mem_of_getElem? (i := 33) (by decide +kernel))) rfl
theorem wd_1_34 : Cond.code ⟨"java/util/AbstractCollection", "<init>", "()V"⟩ prog_13_method_1_code 1 none ∈ tb := tb_in (lw_t1 (List.mem_of_getElem? (i := 34) rfl)) rfl
theorem wd_1_35 : Cond.methodLink "java/util/AbstractCollection" 1 ⟨"java/lang/Object", "<init>", "()V"⟩ ∈ tb := tb_in (lw_t1 (List.mem_of_getElem? (i := 35) (by decide +kernel))) rfl
theorem wd_1_36 : Cond.fieldLink "java/util/ArrayList" 39 "java/util/ArrayList" "DEFAULTCAPACITY_EMPTY_ELEMENTDATA" "[Ljava/lang/Object;" ∈ tb := tb_in (lw_t1 (List.mem_of_getElem? (i := 36) (by decide +kernel))) rfl
theorem wd_1_38 : Cond.fieldLink "java/util/ArrayList" 9 "java/util/ArrayList" "elementData" "[Ljava/lang/Object;" ∈ tb := tb_in (lw_t1 (List.mem_of_getElem? (i := 38) (by decide +kernel))) rfl
theorem wd_1_39 : Cond.fieldLink "java/util/ArrayList" 48 "java/util/ArrayList" "size" "I" ∈ tb := tb_in (lw_t1 (List.mem_of_getElem? (i := 39) (by decide +kernel))) rfl
theorem wd_1_40 : Cond.fieldLink "java/util/AbstractList" 7 "java/util/AbstractList" "modCount" "I" ∈ tb := tb_in (lw_t1 (List.mem_of_getElem? (i := 40) (by decide +kernel))) rfl
theorem wd_1_41 : Cond.fieldLink "java/util/ArrayList" 63 "java/util/ArrayList" "modCount" "I" ∈ tb := tb_in (lw_t1 (List.mem_of_getElem? (i := 41) (by decide +kernel))) rfl
theorem wd_1_42 : Cond.sameField "java/util/ArrayList" "java/util/AbstractList" "modCount" "I" ∈ tb := tb_in (lw_t1 (List.mem_of_getElem? (i := 42) (by decide +kernel))) rfl
theorem wd_1_43 : Cond.lays "java/util/ArrayList" "java/util/ArrayList" "elementData" "[Ljava/lang/Object;" ∈ tb := tb_in (lw_t1 (List.mem_of_getElem? (i := 43) (by decide +kernel))) rfl
theorem wd_1_45 : Cond.lays "java/util/ArrayList" "java/util/ArrayList" "size" "I" ∈ tb := tb_in (lw_t1 (List.mem_of_getElem? (i := 45) (by decide +kernel))) rfl
theorem wd_1_47 : Cond.lays "java/util/ArrayList" "java/util/AbstractList" "modCount" "I" ∈ tb := tb_in (lw_t1 (List.mem_of_getElem? (i := 47) (by decide +kernel))) rfl
theorem wd_1_49 : Cond.superclass "java/util/ArrayList" "java/util/AbstractList" ∈ tb := tb_in (lw_t1 (List.mem_of_getElem? (i := 49) (by decide +kernel))) rfl
theorem wd_1_50 : Cond.fieldLink "LevelTypes" 10 "LevelTypes" "definitions" "Ljava/util/ArrayList;" ∈ tb := tb_in (lw_t1 (List.mem_of_getElem? (i := 50) (by decide +kernel))) rfl
theorem wd_1_51 : Cond.fieldLink "LevelTypes" 16 "LevelTypes" "nodes" "Ljava/util/ArrayList;" ∈ tb := tb_in (lw_t1 (List.mem_of_getElem? (i := 51) (by decide +kernel))) rfl
theorem wd_1_52 : Cond.fieldLink "LevelTypes" 19 "LevelTypes" "known" "Z" ∈ tb := tb_in (lw_t1 (List.mem_of_getElem? (i := 52) (by decide +kernel))) rfl
theorem wd_1_53 : Cond.fieldLink "LevelTypes" 23 "LevelTypes" "fault" "I" ∈ tb := tb_in (lw_t1 (List.mem_of_getElem? (i := 53) (by decide +kernel))) rfl
theorem wd_1_54 : Cond.fieldLink "LevelTypes" 27 "LevelTypes" "faultNode" "I" ∈ tb := tb_in (lw_t1 (List.mem_of_getElem? (i := 54) (by decide +kernel))) rfl
theorem wd_1_55 : Cond.fieldLink "LevelTypes" 30 "LevelTypes" "mostVariables" "I" ∈ tb := tb_in (lw_t1 (List.mem_of_getElem? (i := 55) (by decide +kernel))) rfl
theorem wd_1_56 : Cond.laysFinal "LevelTypes" "LevelTypes" "definitions" "Ljava/util/ArrayList;" ∈ tb := tb_in (lw_t1 (List.mem_of_getElem? (i := 56) (by decide +kernel))) rfl
theorem wd_1_58 : Cond.laysFinal "LevelTypes" "LevelTypes" "nodes" "Ljava/util/ArrayList;" ∈ tb := tb_in (lw_t1 (List.mem_of_getElem? (i := 58) (by decide +kernel))) rfl
theorem wd_1_60 : Cond.lays "LevelTypes" "LevelTypes" "known" "Z" ∈ tb := tb_in (lw_t1 (List.mem_of_getElem? (i := 60) (by decide +kernel))) rfl
theorem wd_1_62 : Cond.lays "LevelTypes" "LevelTypes" "fault" "I" ∈ tb := tb_in (lw_t1 (List.mem_of_getElem? (i := 62) (by decide +kernel))) rfl
theorem wd_1_64 : Cond.lays "LevelTypes" "LevelTypes" "faultNode" "I" ∈ tb := tb_in (lw_t1 (List.mem_of_getElem? (i := 64) (by decide +kernel))) rfl
theorem wd_1_66 : Cond.lays "LevelTypes" "LevelTypes" "mostVariables" "I" ∈ tb := tb_in (lw_t1 (List.mem_of_getElem? (i := 66) (by decide +kernel))) rfl
theorem wd_1_68 : Cond.superclass "LevelTypes" "java/lang/Object" ∈ tb := tb_in (lw_t1 (List.mem_of_getElem? (i := 68) (by decide +kernel))) rfl
theorem wd_1_69 : Cond.methodLink "LevelTypesLaw" 13 ⟨"LevelTypes", "clear", "()V"⟩ ∈ tb := tb_in (lw_t1 (List.mem_of_getElem? (i := 69) (by decide +kernel))) rfl
theorem wd_1_70 : Cond.instanceMethod ⟨"LevelTypes", "clear", "()V"⟩ ∈ tb := tb_in (lw_t1 (List.mem_of_getElem? (i := 70) (by decide +kernel))) rfl
theorem wd_1_71 : Cond.selects "LevelTypes" ⟨"LevelTypes", "clear", "()V"⟩ ⟨"LevelTypes", "clear", "()V"⟩ ∈ tb := tb_in (lw_t1 (List.mem_of_getElem? (i := 71) (by decide +kernel))) rfl
theorem wd_1_72 : Cond.code ⟨"LevelTypes", "clear", "()V"⟩ prog_1_method_2_code 1 none ∈ tb := tb_in (lw_t1 (List.mem_of_getElem? (i := 72) rfl)) rfl
theorem wd_1_73 : Cond.methodLink "LevelTypes" 33 ⟨"java/util/ArrayList", "clear", "()V"⟩ ∈ tb := tb_in (lw_t1 (List.mem_of_getElem? (i := 73) (by decide +kernel))) rfl
theorem wd_1_74 : Cond.instanceMethod ⟨"java/util/ArrayList", "clear", "()V"⟩ ∈ tb := tb_in (lw_t1 (List.mem_of_getElem? (i := 74) (by decide +kernel))) rfl
theorem wd_1_75 : Cond.selects "java/util/ArrayList" ⟨"java/util/ArrayList", "clear", "()V"⟩ ⟨"java/util/ArrayList", "clear", "()V"⟩ ∈ tb := tb_in (lw_t1 (List.mem_of_getElem? (i := 75) (by decide +kernel))) rfl
theorem wd_1_76 : Cond.code ⟨"java/util/ArrayList", "clear", "()V"⟩ prog_15_method_40_code 4 none ∈ tb := tb_in (lw_t1 (List.mem_of_getElem? (i := 76) rfl)) rfl
theorem wd_1_77 : Cond.methodLink "LevelTypesLaw" 19 ⟨"LevelTypes", "define", "(ZJI)I"⟩ ∈ tb := tb_in (lw_t1 (List.mem_of_getElem? (i := 77) (by decide +kernel))) rfl
theorem wd_1_78 : Cond.instanceMethod ⟨"LevelTypes", "define", "(ZJI)I"⟩ ∈ tb := tb_in (lw_t1 (List.mem_of_getElem? (i := 78) (by decide +kernel))) rfl
theorem wd_1_79 : Cond.selects "LevelTypes" ⟨"LevelTypes", "define", "(ZJI)I"⟩ ⟨"LevelTypes", "define", "(ZJI)I"⟩ ∈ tb := tb_in (lw_t1 (List.mem_of_getElem? (i := 79) (by decide +kernel))) rfl
theorem wd_1_80 : Cond.code ⟨"LevelTypes", "define", "(ZJI)I"⟩ prog_1_method_3_code 7 (some .int) ∈ tb := tb_in (lw_t1 (List.mem_of_getElem? (i := 80) rfl)) rfl
theorem wd_1_81 : Cond.methodLink "LevelTypes" 36 ⟨"LevelTypes$Type", "isWritten", "(I)Z"⟩ ∈ tb := tb_in (lw_t1 (List.mem_of_getElem? (i := 81) (by decide +kernel))) rfl
theorem wd_1_82 : Cond.static ⟨"LevelTypes$Type", "isWritten", "(I)Z"⟩ ∈ tb := tb_in (lw_t1 (List.mem_of_getElem? (i := 82) (by decide +kernel))) rfl
theorem wd_1_83 : Cond.code ⟨"LevelTypes$Type", "isWritten", "(I)Z"⟩ prog_5_method_3_code 1 (some .boolean) ∈ tb := tb_in (lw_t1 (List.mem_of_getElem? (i := 83) rfl)) rfl
theorem wd_1_84 : Cond.methodLink "LevelTypes" 42 ⟨"LevelTypes$Type", "isType", "(I)Z"⟩ ∈ tb := tb_in (lw_t1 (List.mem_of_getElem? (i := 84) (by decide +kernel))) rfl
theorem wd_1_85 : Cond.static ⟨"LevelTypes$Type", "isType", "(I)Z"⟩ ∈ tb := tb_in (lw_t1 (List.mem_of_getElem? (i := 85) (by decide +kernel))) rfl
theorem wd_1_86 : Cond.code ⟨"LevelTypes$Type", "isType", "(I)Z"⟩ prog_5_method_2_code 1 (some .boolean) ∈ tb := tb_in (lw_t1 (List.mem_of_getElem? (i := 86) rfl)) rfl
theorem wd_1_87 : Cond.methodLink "LevelTypes" 45 ⟨"LevelTypes", "lastIsWhole", "()Z"⟩ ∈ tb := tb_in (lw_t1 (List.mem_of_getElem? (i := 87) (by decide +kernel))) rfl
theorem wd_1_89 : Cond.instanceMethod ⟨"LevelTypes", "lastIsWhole", "()Z"⟩ ∈ tb := tb_in (lw_t1 (List.mem_of_getElem? (i := 89) (by decide +kernel))) rfl
theorem wd_1_90 : Cond.code ⟨"LevelTypes", "lastIsWhole", "()Z"⟩ prog_1_method_13_code 2 (some .boolean) ∈ tb := tb_in (lw_t1 (List.mem_of_getElem? (i := 90) rfl)) rfl
theorem wd_1_91 : Cond.methodLink "LevelTypes" 69 ⟨"LevelTypes", "lastDefinition", "()LLevelTypes$Definition;"⟩ ∈ tb := tb_in (lw_t1 (List.mem_of_getElem? (i := 91) (by decide +kernel))) rfl
theorem wd_1_93 : Cond.instanceMethod ⟨"LevelTypes", "lastDefinition", "()LLevelTypes$Definition;"⟩ ∈ tb := tb_in (lw_t1 (List.mem_of_getElem? (i := 93) (by decide +kernel))) rfl
theorem wd_1_94 : Cond.code ⟨"LevelTypes", "lastDefinition", "()LLevelTypes$Definition;"⟩ prog_1_method_12_code 2 (some (.object "LevelTypes$Definition")) ∈ tb := tb_in (lw_t1 (List.mem_of_getElem? (i := 94) rfl)) rfl
theorem wd_1_95 : Cond.methodLink "LevelTypes" 49 ⟨"java/util/ArrayList", "size", "()I"⟩ ∈ tb := tb_in (lw_t1 (List.mem_of_getElem? (i := 95) (by decide +kernel))) rfl
theorem wd_1_96 : Cond.instanceMethod ⟨"java/util/ArrayList", "size", "()I"⟩ ∈ tb := tb_in (lw_t1 (List.mem_of_getElem? (i := 96) (by decide +kernel))) rfl
theorem wd_1_97 : Cond.selects "java/util/ArrayList" ⟨"java/util/ArrayList", "size", "()I"⟩ ⟨"java/util/ArrayList", "size", "()I"⟩ ∈ tb := tb_in (lw_t1 (List.mem_of_getElem? (i := 97) (by decide +kernel))) rfl
theorem wd_1_98 : Cond.code ⟨"java/util/ArrayList", "size", "()I"⟩ prog_15_method_8_code 1 (some .int) ∈ tb := tb_in (lw_t1 (List.mem_of_getElem? (i := 98) rfl)) rfl
theorem wd_1_99 : Cond.methodLink "LevelTypes" 152 ⟨"java/util/ArrayList", "get", "(I)Ljava/lang/Object;"⟩ ∈ tb := tb_in (lw_t1 (List.mem_of_getElem? (i := 99) (by decide +kernel))) rfl
theorem wd_1_100 : Cond.instanceMethod ⟨"java/util/ArrayList", "get", "(I)Ljava/lang/Object;"⟩ ∈ tb := tb_in (lw_t1 (List.mem_of_getElem? (i := 100) (by decide +kernel))) rfl
theorem wd_1_101 : Cond.selects "java/util/ArrayList" ⟨"java/util/ArrayList", "get", "(I)Ljava/lang/Object;"⟩ ⟨"java/util/ArrayList", "get", "(I)Ljava/lang/Object;"⟩ ∈ tb := tb_in (lw_t1 (List.mem_of_getElem? (i := 101) (by decide +kernel))) rfl
theorem wd_1_102 : Cond.code ⟨"java/util/ArrayList", "get", "(I)Ljava/lang/Object;"⟩ prog_15_method_20_code 2 (some (.object "java/lang/Object")) ∈ tb := tb_in (lw_t1 (List.mem_of_getElem? (i := 102) rfl)) rfl
theorem wd_1_103 : Cond.methodLink "java/util/ArrayList" 118 ⟨"java/util/Objects", "checkIndex", "(II)I"⟩ ∈ tb := tb_in (lw_t1 (List.mem_of_getElem? (i := 103) (by decide +kernel))) rfl
theorem wd_1_104 : Cond.static ⟨"java/util/Objects", "checkIndex", "(II)I"⟩ ∈ tb := tb_in (lw_t1 (List.mem_of_getElem? (i := 104) (by decide +kernel))) rfl
theorem wd_1_105 : Cond.code ⟨"java/util/Objects", "checkIndex", "(II)I"⟩ prog_19_method_17_code 2 (some .int) ∈ tb := tb_in (lw_t1 (List.mem_of_getElem? (i := 105) rfl)) rfl
theorem wd_1_106 : Cond.methodLink "java/util/Objects" 105 ⟨"jdk/internal/util/Preconditions", "checkIndex", "(IILjava/util/function/BiFunction;)I"⟩ ∈ tb := tb_in (lw_t1 (List.mem_of_getElem? (i := 106) (by decide +kernel))) rfl
theorem wd_1_107 : Cond.static ⟨"jdk/internal/util/Preconditions", "checkIndex", "(IILjava/util/function/BiFunction;)I"⟩ ∈ tb := tb_in (lw_t1 (List.mem_of_getElem? (i := 107) (by decide +kernel))) rfl
theorem wd_1_108 : Cond.code ⟨"jdk/internal/util/Preconditions", "checkIndex", "(IILjava/util/function/BiFunction;)I"⟩ prog_23_method_11_code 3 (some .int) ∈ tb := tb_in (lw_t1 (List.mem_of_getElem? (i := 108) rfl)) rfl
theorem wd_1_109 : Cond.methodLink "java/util/ArrayList" 123 ⟨"java/util/ArrayList", "elementData", "(I)Ljava/lang/Object;"⟩ ∈ tb := tb_in (lw_t1 (List.mem_of_getElem? (i := 109) (by decide +kernel))) rfl
theorem wd_1_110 : Cond.instanceMethod ⟨"java/util/ArrayList", "elementData", "(I)Ljava/lang/Object;"⟩ ∈ tb := tb_in (lw_t1 (List.mem_of_getElem? (i := 110) (by decide +kernel))) rfl
theorem wd_1_111 : Cond.selects "java/util/ArrayList" ⟨"java/util/ArrayList", "elementData", "(I)Ljava/lang/Object;"⟩ ⟨"java/util/ArrayList", "elementData", "(I)Ljava/lang/Object;"⟩ ∈ tb := tb_in (lw_t1 (List.mem_of_getElem? (i := 111) (by decide +kernel))) rfl
theorem wd_1_112 : Cond.code ⟨"java/util/ArrayList", "elementData", "(I)Ljava/lang/Object;"⟩ prog_15_method_18_code 2 (some (.object "java/lang/Object")) ∈ tb := tb_in (lw_t1 (List.mem_of_getElem? (i := 112) rfl)) rfl
theorem wd_1_113 : Cond.classLink "LevelTypes" 57 "LevelTypes$Definition" ∈ tb := tb_in (lw_t1 (List.mem_of_getElem? (i := 113) (by decide +kernel))) rfl
theorem wd_1_114 : Cond.methodLink "LevelTypes" 87 ⟨"LevelTypes$Definition", "isWhole", "()Z"⟩ ∈ tb := tb_in (lw_t1 (List.mem_of_getElem? (i := 114) (by decide +kernel))) rfl
theorem wd_1_115 : Cond.instanceMethod ⟨"LevelTypes$Definition", "isWhole", "()Z"⟩ ∈ tb := tb_in (lw_t1 (List.mem_of_getElem? (i := 115) (by decide +kernel))) rfl
theorem wd_1_116 : Cond.selects "LevelTypes$Definition" ⟨"LevelTypes$Definition", "isWhole", "()Z"⟩ ⟨"LevelTypes$Definition", "isWhole", "()Z"⟩ ∈ tb := tb_in (lw_t1 (List.mem_of_getElem? (i := 116) (by decide +kernel))) rfl
theorem wd_1_117 : Cond.code ⟨"LevelTypes$Definition", "isWhole", "()Z"⟩ prog_2_method_2_code 1 (some .boolean) ∈ tb := tb_in (lw_t1 (List.mem_of_getElem? (i := 117) rfl)) rfl
theorem wd_1_118 : Cond.methodLink "LevelTypes" 53 ⟨"LevelTypes", "definitionNamed", "(J)LLevelTypes$Definition;"⟩ ∈ tb := tb_in (lw_t1 (List.mem_of_getElem? (i := 118) (by decide +kernel))) rfl
theorem wd_1_120 : Cond.instanceMethod ⟨"LevelTypes", "definitionNamed", "(J)LLevelTypes$Definition;"⟩ ∈ tb := tb_in (lw_t1 (List.mem_of_getElem? (i := 120) (by decide +kernel))) rfl
theorem wd_1_121 : Cond.code ⟨"LevelTypes", "definitionNamed", "(J)LLevelTypes$Definition;"⟩ prog_1_method_14_code 5 (some (.object "LevelTypes$Definition")) ∈ tb := tb_in (lw_t1 (List.mem_of_getElem? (i := 121) rfl)) rfl
theorem wd_1_122 : Cond.instantiable "LevelTypes$Definition" 9 ∈ tb := tb_in (lw_t1 (List.mem_of_getElem? (i := 122) (by decide +kernel))) rfl
theorem wd_1_123 : Cond.methodLink "LevelTypes" 59 ⟨"LevelTypes$Definition", "<init>", "(IZJI)V"⟩ ∈ tb := tb_in (lw_t1 (List.mem_of_getElem? (i := 123) (by decide +kernel))) rfl
theorem wd_1_124 : Cond.instanceMethod ⟨"LevelTypes$Definition", "<init>", "(IZJI)V"⟩ ∈ tb := tb_in (lw_t1 (List.mem_of_getElem? (i := 124) (by decide +kernel))) rfl
theorem wd_1_125 : Cond.code ⟨"LevelTypes$Definition", "<init>", "(IZJI)V"⟩ prog_2_method_1_code 6 none ∈ tb := tb_in (lw_t1 (List.mem_of_getElem? (i := 125) rfl)) rfl
theorem wd_1_126 : Cond.methodLink "LevelTypes$Definition" 3 ⟨"java/lang/Object", "<init>", "()V"⟩ ∈ tb := tb_in (lw_t1 (List.mem_of_getElem? (i := 126) (by decide +kernel))) rfl
theorem wd_1_127 : Cond.fieldLink "LevelTypes$Definition" 31 "LevelTypes$Definition" "number" "I" ∈ tb := tb_in (lw_t1 (List.mem_of_getElem? (i := 127) (by decide +kernel))) rfl
theorem wd_1_128 : Cond.fieldLink "LevelTypes" 66 "LevelTypes$Definition" "number" "I" ∈ tb := tb_in (lw_t1 (List.mem_of_getElem? (i := 128) (by decide +kernel))) rfl
theorem wd_1_129 : Cond.fieldLink "LevelTypes$Definition" 34 "LevelTypes$Definition" "changes" "Z" ∈ tb := tb_in (lw_t1 (List.mem_of_getElem? (i := 129) (by decide +kernel))) rfl
theorem wd_1_130 : Cond.fieldLink "LevelTypes$Node" 96 "LevelTypes$Definition" "changes" "Z" ∈ tb := tb_in (lw_t1 (List.mem_of_getElem? (i := 130) (by decide +kernel))) rfl
theorem wd_1_131 : Cond.fieldLink "LevelTypes" 166 "LevelTypes$Definition" "changes" "Z" ∈ tb := tb_in (lw_t1 (List.mem_of_getElem? (i := 131) (by decide +kernel))) rfl
theorem wd_1_132 : Cond.fieldLink "LevelTypes$Definition" 37 "LevelTypes$Definition" "name" "J" ∈ tb := tb_in (lw_t1 (List.mem_of_getElem? (i := 132) (by decide +kernel))) rfl
theorem wd_1_133 : Cond.fieldLink "LevelTypes" 156 "LevelTypes$Definition" "name" "J" ∈ tb := tb_in (lw_t1 (List.mem_of_getElem? (i := 133) (by decide +kernel))) rfl
theorem wd_1_134 : Cond.fieldLink "LevelTypes$Definition" 41 "LevelTypes$Definition" "valueType" "I" ∈ tb := tb_in (lw_t1 (List.mem_of_getElem? (i := 134) (by decide +kernel))) rfl
theorem wd_1_135 : Cond.fieldLink "LevelTypes$Node" 100 "LevelTypes$Definition" "valueType" "I" ∈ tb := tb_in (lw_t1 (List.mem_of_getElem? (i := 135) (by decide +kernel))) rfl
theorem wd_1_136 : Cond.fieldLink "LevelTypes" 171 "LevelTypes$Definition" "valueType" "I" ∈ tb := tb_in (lw_t1 (List.mem_of_getElem? (i := 136) (by decide +kernel))) rfl
theorem wd_1_137 : Cond.fieldLink "LevelTypes$Definition" 9 "LevelTypes$Definition" "parameterNames" "[J" ∈ tb := tb_in (lw_t1 (List.mem_of_getElem? (i := 137) (by decide +kernel))) rfl
theorem wd_1_138 : Cond.fieldLink "LevelTypes$Definition" 15 "LevelTypes$Definition" "parameterTypes" "[I" ∈ tb := tb_in (lw_t1 (List.mem_of_getElem? (i := 138) (by decide +kernel))) rfl
theorem wd_1_139 : Cond.fieldLink "LevelTypes$Definition" 19 "LevelTypes$Definition" "parameters" "I" ∈ tb := tb_in (lw_t1 (List.mem_of_getElem? (i := 139) (by decide +kernel))) rfl
theorem wd_1_140 : Cond.fieldLink "LevelTypes$Node" 62 "LevelTypes$Definition" "parameters" "I" ∈ tb := tb_in (lw_t1 (List.mem_of_getElem? (i := 140) (by decide +kernel))) rfl
theorem wd_1_141 : Cond.fieldLink "LevelTypes" 76 "LevelTypes$Definition" "parameters" "I" ∈ tb := tb_in (lw_t1 (List.mem_of_getElem? (i := 141) (by decide +kernel))) rfl
theorem wd_1_142 : Cond.fieldLink "LevelTypes$Definition" 23 "LevelTypes$Definition" "begun" "Z" ∈ tb := tb_in (lw_t1 (List.mem_of_getElem? (i := 142) (by decide +kernel))) rfl
theorem wd_1_143 : Cond.fieldLink "LevelTypes" 73 "LevelTypes$Definition" "begun" "Z" ∈ tb := tb_in (lw_t1 (List.mem_of_getElem? (i := 143) (by decide +kernel))) rfl
theorem wd_1_144 : Cond.fieldLink "LevelTypes$Definition" 27 "LevelTypes$Definition" "open" "LLevelTypes$Node;" ∈ tb := tb_in (lw_t1 (List.mem_of_getElem? (i := 144) (by decide +kernel))) rfl
theorem wd_1_145 : Cond.fieldLink "LevelTypes$Node" 37 "LevelTypes$Definition" "open" "LLevelTypes$Node;" ∈ tb := tb_in (lw_t1 (List.mem_of_getElem? (i := 145) (by decide +kernel))) rfl
theorem wd_1_146 : Cond.laysFinal "LevelTypes$Definition" "LevelTypes$Definition" "number" "I" ∈ tb := tb_in (lw_t1 (List.mem_of_getElem? (i := 146) (by decide +kernel))) rfl
theorem wd_1_148 : Cond.laysFinal "LevelTypes$Definition" "LevelTypes$Definition" "changes" "Z" ∈ tb := tb_in (lw_t1 (List.mem_of_getElem? (i := 148) (by decide +kernel))) rfl
theorem wd_1_150 : Cond.laysFinal "LevelTypes$Definition" "LevelTypes$Definition" "name" "J" ∈ tb := tb_in (lw_t1 (List.mem_of_getElem? (i := 150) (by decide +kernel))) rfl
theorem wd_1_152 : Cond.laysFinal "LevelTypes$Definition" "LevelTypes$Definition" "valueType" "I" ∈ tb := tb_in (lw_t1 (List.mem_of_getElem? (i := 152) (by decide +kernel))) rfl
theorem wd_1_154 : Cond.laysFinal "LevelTypes$Definition" "LevelTypes$Definition" "parameterNames" "[J" ∈ tb := tb_in (lw_t1 (List.mem_of_getElem? (i := 154) (by decide +kernel))) rfl
theorem wd_1_156 : Cond.laysFinal "LevelTypes$Definition" "LevelTypes$Definition" "parameterTypes" "[I" ∈ tb := tb_in (lw_t1 (List.mem_of_getElem? (i := 156) (by decide +kernel))) rfl
theorem wd_1_158 : Cond.lays "LevelTypes$Definition" "LevelTypes$Definition" "parameters" "I" ∈ tb := tb_in (lw_t1 (List.mem_of_getElem? (i := 158) (by decide +kernel))) rfl
theorem wd_1_160 : Cond.lays "LevelTypes$Definition" "LevelTypes$Definition" "begun" "Z" ∈ tb := tb_in (lw_t1 (List.mem_of_getElem? (i := 160) (by decide +kernel))) rfl
theorem wd_1_162 : Cond.lays "LevelTypes$Definition" "LevelTypes$Definition" "open" "LLevelTypes$Node;" ∈ tb := tb_in (lw_t1 (List.mem_of_getElem? (i := 162) (by decide +kernel))) rfl
theorem wd_1_164 : Cond.superclass "LevelTypes$Definition" "java/lang/Object" ∈ tb := tb_in (lw_t1 (List.mem_of_getElem? (i := 164) (by decide +kernel))) rfl
theorem wd_1_165 : Cond.arrayClass .long ∈ tb := tb_in (lw_t1 (List.mem_of_getElem? (i := 165) (by decide +kernel))) rfl
theorem wd_1_166 : Cond.arrayClass .int ∈ tb := tb_in (lw_t1 (List.mem_of_getElem? (i := 166) (by decide +kernel))) rfl
theorem wd_1_167 : Cond.methodLink "LevelTypes" 62 ⟨"java/util/ArrayList", "add", "(Ljava/lang/Object;)Z"⟩ ∈ tb := tb_in (lw_t1 (List.mem_of_getElem? (i := 167) (by decide +kernel))) rfl
theorem wd_1_168 : Cond.instanceMethod ⟨"java/util/ArrayList", "add", "(Ljava/lang/Object;)Z"⟩ ∈ tb := tb_in (lw_t1 (List.mem_of_getElem? (i := 168) (by decide +kernel))) rfl
theorem wd_1_169 : Cond.selects "java/util/ArrayList" ⟨"java/util/ArrayList", "add", "(Ljava/lang/Object;)Z"⟩ ⟨"java/util/ArrayList", "add", "(Ljava/lang/Object;)Z"⟩ ∈ tb := tb_in (lw_t1 (List.mem_of_getElem? (i := 169) (by decide +kernel))) rfl
theorem wd_1_170 : Cond.code ⟨"java/util/ArrayList", "add", "(Ljava/lang/Object;)Z"⟩ prog_15_method_25_code 2 (some .boolean) ∈ tb := tb_in (lw_t1 (List.mem_of_getElem? (i := 170) rfl)) rfl
theorem wd_1_171 : Cond.methodLink "java/util/ArrayList" 131 ⟨"java/util/ArrayList", "add", "(Ljava/lang/Object;[Ljava/lang/Object;I)V"⟩ ∈ tb := tb_in (lw_t1 (List.mem_of_getElem? (i := 171) (by decide +kernel))) rfl
theorem wd_1_173 : Cond.instanceMethod ⟨"java/util/ArrayList", "add", "(Ljava/lang/Object;[Ljava/lang/Object;I)V"⟩ ∈ tb := tb_in (lw_t1 (List.mem_of_getElem? (i := 173) (by decide +kernel))) rfl
theorem wd_1_174 : Cond.code ⟨"java/util/ArrayList", "add", "(Ljava/lang/Object;[Ljava/lang/Object;I)V"⟩ prog_15_method_24_code 4 none ∈ tb := tb_in (lw_t1 (List.mem_of_getElem? (i := 174) rfl)) rfl
theorem wd_1_175 : Cond.methodLink "java/util/ArrayList" 129 ⟨"java/util/ArrayList", "grow", "()[Ljava/lang/Object;"⟩ ∈ tb := tb_in (lw_t1 (List.mem_of_getElem? (i := 175) (by decide +kernel))) rfl
theorem wd_1_177 : Cond.instanceMethod ⟨"java/util/ArrayList", "grow", "()[Ljava/lang/Object;"⟩ ∈ tb := tb_in (lw_t1 (List.mem_of_getElem? (i := 177) (by decide +kernel))) rfl
theorem wd_1_178 : Cond.code ⟨"java/util/ArrayList", "grow", "()[Ljava/lang/Object;"⟩ prog_15_method_7_code 1 (some (.array (.object "java/lang/Object"))) ∈ tb := tb_in (lw_t1 (List.mem_of_getElem? (i := 178) rfl)) rfl
theorem wd_1_179 : Cond.methodLink "java/util/ArrayList" 69 ⟨"java/util/ArrayList", "grow", "(I)[Ljava/lang/Object;"⟩ ∈ tb := tb_in (lw_t1 (List.mem_of_getElem? (i := 179) (by decide +kernel))) rfl
theorem wd_1_181 : Cond.instanceMethod ⟨"java/util/ArrayList", "grow", "(I)[Ljava/lang/Object;"⟩ ∈ tb := tb_in (lw_t1 (List.mem_of_getElem? (i := 181) (by decide +kernel))) rfl
theorem wd_1_182 : Cond.code ⟨"java/util/ArrayList", "grow", "(I)[Ljava/lang/Object;"⟩ prog_15_method_6_code 4 (some (.array (.object "java/lang/Object"))) ∈ tb := tb_in (lw_t1 (List.mem_of_getElem? (i := 182) rfl)) rfl
theorem wd_1_183 : Cond.methodLink "java/util/ArrayList" 73 ⟨"jdk/internal/util/ArraysSupport", "newLength", "(III)I"⟩ ∈ tb := tb_in (lw_t1 (List.mem_of_getElem? (i := 183) (by decide +kernel))) rfl
theorem wd_1_184 : Cond.static ⟨"jdk/internal/util/ArraysSupport", "newLength", "(III)I"⟩ ∈ tb := tb_in (lw_t1 (List.mem_of_getElem? (i := 184) (by decide +kernel))) rfl
theorem wd_1_185 : Cond.code ⟨"jdk/internal/util/ArraysSupport", "newLength", "(III)I"⟩ prog_22_method_27_code 4 (some .int) ∈ tb := tb_in (lw_t1 (List.mem_of_getElem? (i := 185) rfl)) rfl
theorem wd_1_186 : Cond.methodLink "jdk/internal/util/ArraysSupport" 194 ⟨"java/lang/Math", "max", "(II)I"⟩ ∈ tb := tb_in (lw_t1 (List.mem_of_getElem? (i := 186) (by decide +kernel))) rfl
theorem wd_1_187 : Cond.static ⟨"java/lang/Math", "max", "(II)I"⟩ ∈ tb := tb_in (lw_t1 (List.mem_of_getElem? (i := 187) (by decide +kernel))) rfl
theorem wd_1_188 : Cond.code ⟨"java/lang/Math", "max", "(II)I"⟩ prog_11_method_65_code 2 (some .int) ∈ tb := tb_in (lw_t1 (List.mem_of_getElem? (i := 188) rfl)) rfl
theorem wd_1_189 : Cond.constant "jdk/internal/util/ArraysSupport" 200 2147483639 ∈ tb := tb_in (lw_t1 (List.mem_of_getElem? (i := 189) (by decide +kernel))) rfl
theorem wd_1_190 : Cond.methodLink "jdk/internal/util/ArraysSupport" 201 ⟨"jdk/internal/util/ArraysSupport", "hugeLength", "(II)I"⟩ ∈ tb := tb_in (lw_t1 (List.mem_of_getElem? (i := 190) (by decide +kernel))) rfl
theorem wd_1_191 : Cond.static ⟨"jdk/internal/util/ArraysSupport", "hugeLength", "(II)I"⟩ ∈ tb := tb_in (lw_t1 (List.mem_of_getElem? (i := 191) (by decide +kernel))) rfl
theorem wd_1_192 : Cond.code ⟨"jdk/internal/util/ArraysSupport", "hugeLength", "(II)I"⟩ prog_22_method_28_code 3 (some .int) ∈ tb := tb_in (lw_t1 (List.mem_of_getElem? (i := 192) rfl)) rfl
theorem wd_1_193 : Cond.methodLink "java/util/ArrayList" 66 ⟨"java/util/Arrays", "copyOf", "([Ljava/lang/Object;I)[Ljava/lang/Object;"⟩ ∈ tb := tb_in (lw_t1 (List.mem_of_getElem? (i := 193) (by decide +kernel))) rfl
theorem wd_1_194 : Cond.static ⟨"java/util/Arrays", "copyOf", "([Ljava/lang/Object;I)[Ljava/lang/Object;"⟩ ∈ tb := tb_in (lw_t1 (List.mem_of_getElem? (i := 194) (by decide +kernel))) rfl
theorem wd_1_195 : Cond.code ⟨"java/util/Arrays", "copyOf", "([Ljava/lang/Object;I)[Ljava/lang/Object;"⟩ prog_16_method_119_code 2 (some (.array (.object "java/lang/Object"))) ∈ tb := tb_in (lw_t1 (List.mem_of_getElem? (i := 195) rfl)) rfl
theorem wd_1_196 : Cond.methodLink "java/util/Arrays" 86 ⟨"java/lang/Object", "getClass", "()Ljava/lang/Class;"⟩ ∈ tb := tb_in (lw_t1 (List.mem_of_getElem? (i := 196) (by decide +kernel))) rfl
theorem wd_1_197 : Cond.instanceMethod ⟨"java/lang/Object", "getClass", "()Ljava/lang/Class;"⟩ ∈ tb := tb_in (lw_t1 (List.mem_of_getElem? (i := 197) (by decide +kernel))) rfl
theorem wd_1_198 : Cond.sameMethod "java/lang/Object" "java/lang/Object" "getClass" "()Ljava/lang/Class;" ∈ tb := tb_in (lw_t1 (List.mem_of_getElem? (i := 198) (by decide +kernel))) rfl
theorem wd_1_199 : Cond.selects "LevelTypes" ⟨"java/lang/Object", "getClass", "()Ljava/lang/Class;"⟩ ⟨"java/lang/Object", "getClass", "()Ljava/lang/Class;"⟩ ∈ tb := tb_in (lw_t1 (List.mem_of_getElem? (i := 199) (by decide +kernel))) rfl
theorem wd_1_200 : Cond.selects "LevelTypes$Definition" ⟨"java/lang/Object", "getClass", "()Ljava/lang/Class;"⟩ ⟨"java/lang/Object", "getClass", "()Ljava/lang/Class;"⟩ ∈ tb := tb_in (lw_t1 (List.mem_of_getElem? (i := 200) (by decide +kernel))) rfl
theorem wd_1_201 : Cond.selects "LevelTypes$Node" ⟨"java/lang/Object", "getClass", "()Ljava/lang/Class;"⟩ ⟨"java/lang/Object", "getClass", "()Ljava/lang/Class;"⟩ ∈ tb := tb_in (lw_t1 (List.mem_of_getElem? (i := 201) (by decide +kernel))) rfl
theorem wd_1_202 : Cond.selects "LevelTypesModel" ⟨"java/lang/Object", "getClass", "()Ljava/lang/Class;"⟩ ⟨"java/lang/Object", "getClass", "()Ljava/lang/Class;"⟩ ∈ tb := tb_in (lw_t1 (List.mem_of_getElem? (i := 202) (by decide +kernel))) rfl
theorem wd_1_203 : Cond.selects "java/util/ArrayList" ⟨"java/lang/Object", "getClass", "()Ljava/lang/Class;"⟩ ⟨"java/lang/Object", "getClass", "()Ljava/lang/Class;"⟩ ∈ tb := tb_in (lw_t1 (List.mem_of_getElem? (i := 203) (by decide +kernel))) rfl
theorem wd_1_204 : Cond.native ⟨"java/lang/Object", "getClass", "()Ljava/lang/Class;"⟩ ∈ tb := tb_in (lw_t1 (List.mem_of_getElem? (i := 204) (by decide +kernel))) rfl
theorem wd_1_205 : Cond.methodLink "java/util/Arrays" 300 ⟨"java/util/Arrays", "copyOf", "([Ljava/lang/Object;ILjava/lang/Class;)[Ljava/lang/Object;"⟩ ∈ tb := tb_in (lw_t1 (List.mem_of_getElem? (i := 205) (by decide +kernel))) rfl
theorem wd_1_206 : Cond.static ⟨"java/util/Arrays", "copyOf", "([Ljava/lang/Object;ILjava/lang/Class;)[Ljava/lang/Object;"⟩ ∈ tb := tb_in (lw_t1 (List.mem_of_getElem? (i := 206) (by decide +kernel))) rfl
theorem wd_1_207 : Cond.code ⟨"java/util/Arrays", "copyOf", "([Ljava/lang/Object;ILjava/lang/Class;)[Ljava/lang/Object;"⟩ prog_16_method_120_code 4 (some (.array (.object "java/lang/Object"))) ∈ tb := tb_in (lw_t1 (List.mem_of_getElem? (i := 207) rfl)) rfl
theorem wd_1_208 : Cond.classLink "java/util/Arrays" 110 "[Ljava/lang/Object;" ∈ tb := tb_in (lw_t1 (List.mem_of_getElem? (i := 208) (by decide +kernel))) rfl
theorem wd_1_210 : Cond.classLink "java/util/Arrays" 2 "java/lang/Object" ∈ tb := tb_in (lw_t1 (List.mem_of_getElem? (i := 210) (by decide +kernel))) rfl
theorem wd_1_211 : Cond.methodLink "java/util/Arrays" 304 ⟨"java/lang/Math", "min", "(II)I"⟩ ∈ tb := tb_in (lw_t1 (List.mem_of_getElem? (i := 211) (by decide +kernel))) rfl
theorem wd_1_212 : Cond.static ⟨"java/lang/Math", "min", "(II)I"⟩ ∈ tb := tb_in (lw_t1 (List.mem_of_getElem? (i := 212) (by decide +kernel))) rfl
theorem wd_1_213 : Cond.code ⟨"java/lang/Math", "min", "(II)I"⟩ prog_11_method_69_code 2 (some .int) ∈ tb := tb_in (lw_t1 (List.mem_of_getElem? (i := 213) rfl)) rfl
theorem wd_1_214 : Cond.methodLink "java/util/Arrays" 150 ⟨"java/lang/System", "arraycopy", "(Ljava/lang/Object;ILjava/lang/Object;II)V"⟩ ∈ tb := tb_in (lw_t1 (List.mem_of_getElem? (i := 214) (by decide +kernel))) rfl
theorem wd_1_215 : Cond.static ⟨"java/lang/System", "arraycopy", "(Ljava/lang/Object;ILjava/lang/Object;II)V"⟩ ∈ tb := tb_in (lw_t1 (List.mem_of_getElem? (i := 215) (by decide +kernel))) rfl
theorem wd_1_216 : Cond.native ⟨"java/lang/System", "arraycopy", "(Ljava/lang/Object;ILjava/lang/Object;II)V"⟩ ∈ tb := tb_in (lw_t1 (List.mem_of_getElem? (i := 216) (by decide +kernel))) rfl
theorem wd_1_217 : Cond.methodLink "java/util/ArrayList" 79 ⟨"java/lang/Math", "max", "(II)I"⟩ ∈ tb := tb_in (lw_t1 (List.mem_of_getElem? (i := 217) (by decide +kernel))) rfl
theorem wd_1_218 : Cond.classLink "java/util/ArrayList" 7 "java/lang/Object" ∈ tb := tb_in (lw_t1 (List.mem_of_getElem? (i := 218) (by decide +kernel))) rfl
theorem wd_1_219 : Cond.methodLink "LevelTypesLaw" 24 ⟨"LevelTypes", "parameter", "(JI)I"⟩ ∈ tb := tb_in (lw_t1 (List.mem_of_getElem? (i := 219) (by decide +kernel))) rfl
theorem wd_1_220 : Cond.instanceMethod ⟨"LevelTypes", "parameter", "(JI)I"⟩ ∈ tb := tb_in (lw_t1 (List.mem_of_getElem? (i := 220) (by decide +kernel))) rfl
theorem wd_1_221 : Cond.selects "LevelTypes" ⟨"LevelTypes", "parameter", "(JI)I"⟩ ⟨"LevelTypes", "parameter", "(JI)I"⟩ ∈ tb := tb_in (lw_t1 (List.mem_of_getElem? (i := 221) (by decide +kernel))) rfl
theorem wd_1_222 : Cond.code ⟨"LevelTypes", "parameter", "(JI)I"⟩ prog_1_method_4_code 5 (some .int) ∈ tb := tb_in (lw_t1 (List.mem_of_getElem? (i := 222) rfl)) rfl
theorem wd_1_223 : Cond.methodLink "LevelTypes" 79 ⟨"LevelTypes$Definition", "indexOfParameter", "(J)I"⟩ ∈ tb := tb_in (lw_t1 (List.mem_of_getElem? (i := 223) (by decide +kernel))) rfl
theorem wd_1_224 : Cond.instanceMethod ⟨"LevelTypes$Definition", "indexOfParameter", "(J)I"⟩ ∈ tb := tb_in (lw_t1 (List.mem_of_getElem? (i := 224) (by decide +kernel))) rfl
theorem wd_1_225 : Cond.selects "LevelTypes$Definition" ⟨"LevelTypes$Definition", "indexOfParameter", "(J)I"⟩ ⟨"LevelTypes$Definition", "indexOfParameter", "(J)I"⟩ ∈ tb := tb_in (lw_t1 (List.mem_of_getElem? (i := 225) (by decide +kernel))) rfl
theorem wd_1_226 : Cond.code ⟨"LevelTypes$Definition", "indexOfParameter", "(J)I"⟩ prog_2_method_5_code 4 (some .int) ∈ tb := tb_in (lw_t1 (List.mem_of_getElem? (i := 226) rfl)) rfl
theorem wd_1_227 : Cond.methodLink "LevelTypes" 83 ⟨"LevelTypes$Definition", "addParameter", "(JI)V"⟩ ∈ tb := tb_in (lw_t1 (List.mem_of_getElem? (i := 227) (by decide +kernel))) rfl
theorem wd_1_228 : Cond.instanceMethod ⟨"LevelTypes$Definition", "addParameter", "(JI)V"⟩ ∈ tb := tb_in (lw_t1 (List.mem_of_getElem? (i := 228) (by decide +kernel))) rfl
theorem wd_1_229 : Cond.selects "LevelTypes$Definition" ⟨"LevelTypes$Definition", "addParameter", "(JI)V"⟩ ⟨"LevelTypes$Definition", "addParameter", "(JI)V"⟩ ∈ tb := tb_in (lw_t1 (List.mem_of_getElem? (i := 229) (by decide +kernel))) rfl
theorem wd_1_230 : Cond.code ⟨"LevelTypes$Definition", "addParameter", "(JI)V"⟩ prog_2_method_4_code 4 none ∈ tb := tb_in (lw_t1 (List.mem_of_getElem? (i := 230) rfl)) rfl
theorem wd_1_231 : Cond.methodLink "LevelTypesLaw" 29 ⟨"LevelTypes", "node", "(IJJI)I"⟩ ∈ tb := tb_in (lw_t1 (List.mem_of_getElem? (i := 231) (by decide +kernel))) rfl
theorem wd_1_232 : Cond.instanceMethod ⟨"LevelTypes", "node", "(IJJI)I"⟩ ∈ tb := tb_in (lw_t1 (List.mem_of_getElem? (i := 232) (by decide +kernel))) rfl
theorem wd_1_233 : Cond.selects "LevelTypes" ⟨"LevelTypes", "node", "(IJJI)I"⟩ ⟨"LevelTypes", "node", "(IJJI)I"⟩ ∈ tb := tb_in (lw_t1 (List.mem_of_getElem? (i := 233) (by decide +kernel))) rfl
theorem wd_1_234 : Cond.code ⟨"LevelTypes", "node", "(IJJI)I"⟩ prog_1_method_5_code 9 (some .int) ∈ tb := tb_in (lw_t1 (List.mem_of_getElem? (i := 234) rfl)) rfl
theorem wd_1_235 : Cond.methodLink "LevelTypes" 90 ⟨"LevelTypes$Kind", "isKind", "(I)Z"⟩ ∈ tb := tb_in (lw_t1 (List.mem_of_getElem? (i := 235) (by decide +kernel))) rfl
theorem wd_1_236 : Cond.static ⟨"LevelTypes$Kind", "isKind", "(I)Z"⟩ ∈ tb := tb_in (lw_t1 (List.mem_of_getElem? (i := 236) (by decide +kernel))) rfl
theorem wd_1_237 : Cond.code ⟨"LevelTypes$Kind", "isKind", "(I)Z"⟩ prog_3_method_2_code 1 (some .boolean) ∈ tb := tb_in (lw_t1 (List.mem_of_getElem? (i := 237) rfl)) rfl
theorem wd_1_238 : Cond.methodLink "LevelTypes" 95 ⟨"LevelTypes$Kind", "isChange", "(I)Z"⟩ ∈ tb := tb_in (lw_t1 (List.mem_of_getElem? (i := 238) (by decide +kernel))) rfl
theorem wd_1_239 : Cond.static ⟨"LevelTypes$Kind", "isChange", "(I)Z"⟩ ∈ tb := tb_in (lw_t1 (List.mem_of_getElem? (i := 239) (by decide +kernel))) rfl
theorem wd_2_0 : Cond.code ⟨"LevelTypes$Kind", "isChange", "(I)Z"⟩ prog_3_method_3_code 1 (some .boolean) ∈ tb := tb_in (lw_t2 (List.mem_of_getElem? (i := 0) rfl)) rfl
theorem wd_2_1 : Cond.methodLink "LevelTypes" 98 ⟨"LevelTypes$Definition", "wantsChange", "()Z"⟩ ∈ tb := tb_in (lw_t2 (List.mem_of_getElem? (i := 1) (by decide +kernel))) rfl
theorem wd_2_2 : Cond.instanceMethod ⟨"LevelTypes$Definition", "wantsChange", "()Z"⟩ ∈ tb := tb_in (lw_t2 (List.mem_of_getElem? (i := 2) (by decide +kernel))) rfl
theorem wd_2_3 : Cond.selects "LevelTypes$Definition" ⟨"LevelTypes$Definition", "wantsChange", "()Z"⟩ ⟨"LevelTypes$Definition", "wantsChange", "()Z"⟩ ∈ tb := tb_in (lw_t2 (List.mem_of_getElem? (i := 3) (by decide +kernel))) rfl
theorem wd_2_4 : Cond.code ⟨"LevelTypes$Definition", "wantsChange", "()Z"⟩ prog_2_method_3_code 1 (some .boolean) ∈ tb := tb_in (lw_t2 (List.mem_of_getElem? (i := 4) rfl)) rfl
theorem wd_2_5 : Cond.methodLink "LevelTypes$Definition" 52 ⟨"LevelTypes$Kind", "wantsChange", "(II)Z"⟩ ∈ tb := tb_in (lw_t2 (List.mem_of_getElem? (i := 5) (by decide +kernel))) rfl
theorem wd_2_6 : Cond.static ⟨"LevelTypes$Kind", "wantsChange", "(II)Z"⟩ ∈ tb := tb_in (lw_t2 (List.mem_of_getElem? (i := 6) (by decide +kernel))) rfl
theorem wd_2_7 : Cond.code ⟨"LevelTypes$Kind", "wantsChange", "(II)Z"⟩ prog_3_method_9_code 2 (some .boolean) ∈ tb := tb_in (lw_t2 (List.mem_of_getElem? (i := 7) rfl)) rfl
theorem wd_2_8 : Cond.methodLink "LevelTypes" 101 ⟨"LevelTypes$Kind", "partsFit", "(II)Z"⟩ ∈ tb := tb_in (lw_t2 (List.mem_of_getElem? (i := 8) (by decide +kernel))) rfl
theorem wd_2_9 : Cond.static ⟨"LevelTypes$Kind", "partsFit", "(II)Z"⟩ ∈ tb := tb_in (lw_t2 (List.mem_of_getElem? (i := 9) (by decide +kernel))) rfl
theorem wd_2_10 : Cond.code ⟨"LevelTypes$Kind", "partsFit", "(II)Z"⟩ prog_3_method_10_code 2 (some .boolean) ∈ tb := tb_in (lw_t2 (List.mem_of_getElem? (i := 10) rfl)) rfl
theorem wd_2_11 : Cond.methodLink "LevelTypes$Kind" 11 ⟨"LevelTypes$Kind", "isKind", "(I)Z"⟩ ∈ tb := tb_in (lw_t2 (List.mem_of_getElem? (i := 11) (by decide +kernel))) rfl
theorem wd_2_12 : Cond.fieldLink "LevelTypes$Kind" 15 "LevelTypes$Kind" "PARTS" "[I" ∈ tb := tb_in (lw_t2 (List.mem_of_getElem? (i := 12) (by decide +kernel))) rfl
theorem wd_2_14 : Cond.methodLink "LevelTypes" 105 ⟨"LevelTypes$Kind", "namesFit", "(IJJ)Z"⟩ ∈ tb := tb_in (lw_t2 (List.mem_of_getElem? (i := 14) (by decide +kernel))) rfl
theorem wd_2_15 : Cond.static ⟨"LevelTypes$Kind", "namesFit", "(IJJ)Z"⟩ ∈ tb := tb_in (lw_t2 (List.mem_of_getElem? (i := 15) (by decide +kernel))) rfl
theorem wd_2_16 : Cond.code ⟨"LevelTypes$Kind", "namesFit", "(IJJ)Z"⟩ prog_3_method_11_code 8 (some .boolean) ∈ tb := tb_in (lw_t2 (List.mem_of_getElem? (i := 16) rfl)) rfl
theorem wd_2_17 : Cond.methodLink "LevelTypes$Kind" 19 ⟨"LevelTypes$Kind", "isBinder", "(I)Z"⟩ ∈ tb := tb_in (lw_t2 (List.mem_of_getElem? (i := 17) (by decide +kernel))) rfl
theorem wd_2_18 : Cond.static ⟨"LevelTypes$Kind", "isBinder", "(I)Z"⟩ ∈ tb := tb_in (lw_t2 (List.mem_of_getElem? (i := 18) (by decide +kernel))) rfl
theorem wd_2_19 : Cond.code ⟨"LevelTypes$Kind", "isBinder", "(I)Z"⟩ prog_3_method_7_code 1 (some .boolean) ∈ tb := tb_in (lw_t2 (List.mem_of_getElem? (i := 19) rfl)) rfl
theorem wd_2_20 : Cond.methodLink "LevelTypes$Kind" 22 ⟨"LevelTypes$Kind", "isCall", "(I)Z"⟩ ∈ tb := tb_in (lw_t2 (List.mem_of_getElem? (i := 20) (by decide +kernel))) rfl
theorem wd_2_21 : Cond.static ⟨"LevelTypes$Kind", "isCall", "(I)Z"⟩ ∈ tb := tb_in (lw_t2 (List.mem_of_getElem? (i := 21) (by decide +kernel))) rfl
theorem wd_2_22 : Cond.code ⟨"LevelTypes$Kind", "isCall", "(I)Z"⟩ prog_3_method_4_code 1 (some .boolean) ∈ tb := tb_in (lw_t2 (List.mem_of_getElem? (i := 22) rfl)) rfl
theorem wd_2_23 : Cond.methodLink "LevelTypes$Kind" 25 ⟨"LevelTypes$Kind", "isCase", "(I)Z"⟩ ∈ tb := tb_in (lw_t2 (List.mem_of_getElem? (i := 23) (by decide +kernel))) rfl
theorem wd_2_24 : Cond.static ⟨"LevelTypes$Kind", "isCase", "(I)Z"⟩ ∈ tb := tb_in (lw_t2 (List.mem_of_getElem? (i := 24) (by decide +kernel))) rfl
theorem wd_2_25 : Cond.code ⟨"LevelTypes$Kind", "isCase", "(I)Z"⟩ prog_3_method_5_code 1 (some .boolean) ∈ tb := tb_in (lw_t2 (List.mem_of_getElem? (i := 25) rfl)) rfl
theorem wd_2_26 : Cond.classLink "LevelTypes" 109 "LevelTypes$Node" ∈ tb := tb_in (lw_t2 (List.mem_of_getElem? (i := 26) (by decide +kernel))) rfl
theorem wd_2_27 : Cond.instantiable "LevelTypes$Node" 14 ∈ tb := tb_in (lw_t2 (List.mem_of_getElem? (i := 27) (by decide +kernel))) rfl
theorem wd_2_28 : Cond.methodLink "LevelTypes" 111 ⟨"LevelTypes$Node", "<init>", "(ILLevelTypes$Definition;IJJI)V"⟩ ∈ tb := tb_in (lw_t2 (List.mem_of_getElem? (i := 28) (by decide +kernel))) rfl
theorem wd_2_29 : Cond.instanceMethod ⟨"LevelTypes$Node", "<init>", "(ILLevelTypes$Definition;IJJI)V"⟩ ∈ tb := tb_in (lw_t2 (List.mem_of_getElem? (i := 29) (by decide +kernel))) rfl
theorem wd_2_30 : Cond.code ⟨"LevelTypes$Node", "<init>", "(ILLevelTypes$Definition;IJJI)V"⟩ prog_4_method_1_code 9 none ∈ tb := tb_in (lw_t2 (List.mem_of_getElem? (i := 30) rfl)) rfl
theorem wd_2_31 : Cond.methodLink "LevelTypes$Node" 3 ⟨"java/lang/Object", "<init>", "()V"⟩ ∈ tb := tb_in (lw_t2 (List.mem_of_getElem? (i := 31) (by decide +kernel))) rfl
theorem wd_2_32 : Cond.fieldLink "LevelTypes$Node" 31 "LevelTypes$Node" "number" "I" ∈ tb := tb_in (lw_t2 (List.mem_of_getElem? (i := 32) (by decide +kernel))) rfl
theorem wd_2_33 : Cond.fieldLink "LevelTypes" 118 "LevelTypes$Node" "number" "I" ∈ tb := tb_in (lw_t2 (List.mem_of_getElem? (i := 33) (by decide +kernel))) rfl
theorem wd_2_34 : Cond.fieldLink "LevelTypes$Node" 34 "LevelTypes$Node" "home" "LLevelTypes$Definition;" ∈ tb := tb_in (lw_t2 (List.mem_of_getElem? (i := 34) (by decide +kernel))) rfl
theorem wd_2_35 : Cond.fieldLink "LevelTypes" 149 "LevelTypes$Node" "home" "LLevelTypes$Definition;" ∈ tb := tb_in (lw_t2 (List.mem_of_getElem? (i := 35) (by decide +kernel))) rfl
theorem wd_2_36 : Cond.fieldLink "LevelTypes$Node" 43 "LevelTypes$Node" "parent" "LLevelTypes$Node;" ∈ tb := tb_in (lw_t2 (List.mem_of_getElem? (i := 36) (by decide +kernel))) rfl
theorem wd_2_37 : Cond.fieldLink "LevelTypes$Definition" 61 "LevelTypes$Node" "parent" "LLevelTypes$Node;" ∈ tb := tb_in (lw_t2 (List.mem_of_getElem? (i := 37) (by decide +kernel))) rfl
theorem wd_2_38 : Cond.fieldLink "LevelTypes" 145 "LevelTypes$Node" "parent" "LLevelTypes$Node;" ∈ tb := tb_in (lw_t2 (List.mem_of_getElem? (i := 38) (by decide +kernel))) rfl
theorem wd_2_39 : Cond.fieldLink "LevelTypes$Node" 46 "LevelTypes$Node" "place" "I" ∈ tb := tb_in (lw_t2 (List.mem_of_getElem? (i := 39) (by decide +kernel))) rfl
theorem wd_2_40 : Cond.fieldLink "LevelTypes" 215 "LevelTypes$Node" "place" "I" ∈ tb := tb_in (lw_t2 (List.mem_of_getElem? (i := 40) (by decide +kernel))) rfl
theorem wd_2_41 : Cond.fieldLink "LevelTypes$Node" 49 "LevelTypes$Node" "kind" "I" ∈ tb := tb_in (lw_t2 (List.mem_of_getElem? (i := 41) (by decide +kernel))) rfl
theorem wd_2_42 : Cond.fieldLink "LevelTypes$Definition" 44 "LevelTypes$Node" "kind" "I" ∈ tb := tb_in (lw_t2 (List.mem_of_getElem? (i := 42) (by decide +kernel))) rfl
theorem wd_2_43 : Cond.fieldLink "LevelTypes" 139 "LevelTypes$Node" "kind" "I" ∈ tb := tb_in (lw_t2 (List.mem_of_getElem? (i := 43) (by decide +kernel))) rfl
theorem wd_2_44 : Cond.fieldLink "LevelTypes$Node" 52 "LevelTypes$Node" "first" "J" ∈ tb := tb_in (lw_t2 (List.mem_of_getElem? (i := 44) (by decide +kernel))) rfl
theorem wd_2_45 : Cond.fieldLink "LevelTypes" 202 "LevelTypes$Node" "first" "J" ∈ tb := tb_in (lw_t2 (List.mem_of_getElem? (i := 45) (by decide +kernel))) rfl
theorem wd_2_46 : Cond.fieldLink "LevelTypes$Node" 56 "LevelTypes$Node" "second" "J" ∈ tb := tb_in (lw_t2 (List.mem_of_getElem? (i := 46) (by decide +kernel))) rfl
theorem wd_2_47 : Cond.fieldLink "LevelTypes$Node" 59 "LevelTypes$Node" "parts" "I" ∈ tb := tb_in (lw_t2 (List.mem_of_getElem? (i := 47) (by decide +kernel))) rfl
theorem wd_2_48 : Cond.fieldLink "LevelTypes$Definition" 58 "LevelTypes$Node" "parts" "I" ∈ tb := tb_in (lw_t2 (List.mem_of_getElem? (i := 48) (by decide +kernel))) rfl
theorem wd_2_49 : Cond.fieldLink "LevelTypes" 142 "LevelTypes$Node" "parts" "I" ∈ tb := tb_in (lw_t2 (List.mem_of_getElem? (i := 49) (by decide +kernel))) rfl
theorem wd_2_50 : Cond.fieldLink "LevelTypes$Node" 9 "LevelTypes$Node" "filled" "I" ∈ tb := tb_in (lw_t2 (List.mem_of_getElem? (i := 50) (by decide +kernel))) rfl
theorem wd_2_51 : Cond.fieldLink "LevelTypes$Definition" 49 "LevelTypes$Node" "filled" "I" ∈ tb := tb_in (lw_t2 (List.mem_of_getElem? (i := 51) (by decide +kernel))) rfl
theorem wd_2_52 : Cond.fieldLink "LevelTypes$Node" 15 "LevelTypes$Node" "valueType" "I" ∈ tb := tb_in (lw_t2 (List.mem_of_getElem? (i := 52) (by decide +kernel))) rfl
theorem wd_2_53 : Cond.fieldLink "LevelTypes" 126 "LevelTypes$Node" "valueType" "I" ∈ tb := tb_in (lw_t2 (List.mem_of_getElem? (i := 53) (by decide +kernel))) rfl
theorem wd_2_54 : Cond.fieldLink "LevelTypes$Node" 18 "LevelTypes$Node" "typeOfX" "I" ∈ tb := tb_in (lw_t2 (List.mem_of_getElem? (i := 54) (by decide +kernel))) rfl
theorem wd_2_55 : Cond.fieldLink "LevelTypes$Node" 21 "LevelTypes$Node" "boundBy" "I" ∈ tb := tb_in (lw_t2 (List.mem_of_getElem? (i := 55) (by decide +kernel))) rfl
theorem wd_2_56 : Cond.fieldLink "LevelTypes" 129 "LevelTypes$Node" "boundBy" "I" ∈ tb := tb_in (lw_t2 (List.mem_of_getElem? (i := 56) (by decide +kernel))) rfl
theorem wd_2_57 : Cond.fieldLink "LevelTypes$Node" 24 "LevelTypes$Node" "callee" "LLevelTypes$Definition;" ∈ tb := tb_in (lw_t2 (List.mem_of_getElem? (i := 57) (by decide +kernel))) rfl
theorem wd_2_58 : Cond.fieldLink "LevelTypes" 132 "LevelTypes$Node" "callee" "LLevelTypes$Definition;" ∈ tb := tb_in (lw_t2 (List.mem_of_getElem? (i := 58) (by decide +kernel))) rfl
theorem wd_2_59 : Cond.fieldLink "LevelTypes$Node" 28 "LevelTypes$Node" "variables" "I" ∈ tb := tb_in (lw_t2 (List.mem_of_getElem? (i := 59) (by decide +kernel))) rfl
theorem wd_2_60 : Cond.fieldLink "LevelTypes" 180 "LevelTypes$Node" "variables" "I" ∈ tb := tb_in (lw_t2 (List.mem_of_getElem? (i := 60) (by decide +kernel))) rfl
theorem wd_2_61 : Cond.laysFinal "LevelTypes$Node" "LevelTypes$Node" "number" "I" ∈ tb := tb_in (lw_t2 (List.mem_of_getElem? (i := 61) (by decide +kernel))) rfl
theorem wd_2_63 : Cond.laysFinal "LevelTypes$Node" "LevelTypes$Node" "home" "LLevelTypes$Definition;" ∈ tb := tb_in (lw_t2 (List.mem_of_getElem? (i := 63) (by decide +kernel))) rfl
theorem wd_2_65 : Cond.laysFinal "LevelTypes$Node" "LevelTypes$Node" "parent" "LLevelTypes$Node;" ∈ tb := tb_in (lw_t2 (List.mem_of_getElem? (i := 65) (by decide +kernel))) rfl
theorem wd_2_67 : Cond.laysFinal "LevelTypes$Node" "LevelTypes$Node" "place" "I" ∈ tb := tb_in (lw_t2 (List.mem_of_getElem? (i := 67) (by decide +kernel))) rfl
theorem wd_2_69 : Cond.laysFinal "LevelTypes$Node" "LevelTypes$Node" "kind" "I" ∈ tb := tb_in (lw_t2 (List.mem_of_getElem? (i := 69) (by decide +kernel))) rfl
theorem wd_2_71 : Cond.laysFinal "LevelTypes$Node" "LevelTypes$Node" "first" "J" ∈ tb := tb_in (lw_t2 (List.mem_of_getElem? (i := 71) (by decide +kernel))) rfl
theorem wd_2_73 : Cond.laysFinal "LevelTypes$Node" "LevelTypes$Node" "second" "J" ∈ tb := tb_in (lw_t2 (List.mem_of_getElem? (i := 73) (by decide +kernel))) rfl
theorem wd_2_75 : Cond.laysFinal "LevelTypes$Node" "LevelTypes$Node" "parts" "I" ∈ tb := tb_in (lw_t2 (List.mem_of_getElem? (i := 75) (by decide +kernel))) rfl
theorem wd_2_77 : Cond.lays "LevelTypes$Node" "LevelTypes$Node" "filled" "I" ∈ tb := tb_in (lw_t2 (List.mem_of_getElem? (i := 77) (by decide +kernel))) rfl
theorem wd_2_79 : Cond.lays "LevelTypes$Node" "LevelTypes$Node" "valueType" "I" ∈ tb := tb_in (lw_t2 (List.mem_of_getElem? (i := 79) (by decide +kernel))) rfl
theorem wd_2_81 : Cond.lays "LevelTypes$Node" "LevelTypes$Node" "typeOfX" "I" ∈ tb := tb_in (lw_t2 (List.mem_of_getElem? (i := 81) (by decide +kernel))) rfl
theorem wd_2_83 : Cond.lays "LevelTypes$Node" "LevelTypes$Node" "boundBy" "I" ∈ tb := tb_in (lw_t2 (List.mem_of_getElem? (i := 83) (by decide +kernel))) rfl
theorem wd_2_85 : Cond.lays "LevelTypes$Node" "LevelTypes$Node" "callee" "LLevelTypes$Definition;" ∈ tb := tb_in (lw_t2 (List.mem_of_getElem? (i := 85) (by decide +kernel))) rfl
theorem wd_2_87 : Cond.lays "LevelTypes$Node" "LevelTypes$Node" "variables" "I" ∈ tb := tb_in (lw_t2 (List.mem_of_getElem? (i := 87) (by decide +kernel))) rfl
theorem wd_2_89 : Cond.superclass "LevelTypes$Node" "java/lang/Object" ∈ tb := tb_in (lw_t2 (List.mem_of_getElem? (i := 89) (by decide +kernel))) rfl
theorem wd_2_90 : Cond.methodLink "LevelTypes" 114 ⟨"LevelTypes$Definition", "take", "(LLevelTypes$Node;)V"⟩ ∈ tb := tb_in (lw_t2 (List.mem_of_getElem? (i := 90) (by decide +kernel))) rfl
theorem wd_2_91 : Cond.instanceMethod ⟨"LevelTypes$Definition", "take", "(LLevelTypes$Node;)V"⟩ ∈ tb := tb_in (lw_t2 (List.mem_of_getElem? (i := 91) (by decide +kernel))) rfl
theorem wd_2_92 : Cond.selects "LevelTypes$Definition" ⟨"LevelTypes$Definition", "take", "(LLevelTypes$Node;)V"⟩ ⟨"LevelTypes$Definition", "take", "(LLevelTypes$Node;)V"⟩ ∈ tb := tb_in (lw_t2 (List.mem_of_getElem? (i := 92) (by decide +kernel))) rfl
theorem wd_2_93 : Cond.code ⟨"LevelTypes$Definition", "take", "(LLevelTypes$Node;)V"⟩ prog_2_method_7_code 2 none ∈ tb := tb_in (lw_t2 (List.mem_of_getElem? (i := 93) rfl)) rfl
theorem wd_2_94 : Cond.methodLink "LevelTypesLaw" 34 ⟨"LevelTypes", "check", "()I"⟩ ∈ tb := tb_in (lw_t2 (List.mem_of_getElem? (i := 94) (by decide +kernel))) rfl
theorem wd_2_95 : Cond.instanceMethod ⟨"LevelTypes", "check", "()I"⟩ ∈ tb := tb_in (lw_t2 (List.mem_of_getElem? (i := 95) (by decide +kernel))) rfl
theorem wd_2_96 : Cond.selects "LevelTypes" ⟨"LevelTypes", "check", "()I"⟩ ⟨"LevelTypes", "check", "()I"⟩ ∈ tb := tb_in (lw_t2 (List.mem_of_getElem? (i := 96) (by decide +kernel))) rfl
theorem wd_2_97 : Cond.code ⟨"LevelTypes", "check", "()I"⟩ prog_1_method_6_code 1 (some .int) ∈ tb := tb_in (lw_t2 (List.mem_of_getElem? (i := 97) rfl)) rfl
theorem wd_2_98 : Cond.methodLink "LevelTypes" 119 ⟨"LevelTypes", "lookAtAll", "()V"⟩ ∈ tb := tb_in (lw_t2 (List.mem_of_getElem? (i := 98) (by decide +kernel))) rfl
theorem wd_2_100 : Cond.instanceMethod ⟨"LevelTypes", "lookAtAll", "()V"⟩ ∈ tb := tb_in (lw_t2 (List.mem_of_getElem? (i := 100) (by decide +kernel))) rfl
theorem wd_2_101 : Cond.code ⟨"LevelTypes", "lookAtAll", "()V"⟩ prog_1_method_17_code 2 none ∈ tb := tb_in (lw_t2 (List.mem_of_getElem? (i := 101) rfl)) rfl
theorem wd_2_102 : Cond.methodLink "LevelTypes" 160 ⟨"LevelTypes", "endsInMain", "()Z"⟩ ∈ tb := tb_in (lw_t2 (List.mem_of_getElem? (i := 102) (by decide +kernel))) rfl
theorem wd_2_104 : Cond.instanceMethod ⟨"LevelTypes", "endsInMain", "()Z"⟩ ∈ tb := tb_in (lw_t2 (List.mem_of_getElem? (i := 104) (by decide +kernel))) rfl
theorem wd_2_105 : Cond.code ⟨"LevelTypes", "endsInMain", "()Z"⟩ prog_1_method_18_code 2 (some .boolean) ∈ tb := tb_in (lw_t2 (List.mem_of_getElem? (i := 105) rfl)) rfl
theorem wd_2_106 : Cond.constantLong "LevelTypes" 169 427310 ∈ tb := tb_in (lw_t2 (List.mem_of_getElem? (i := 106) (by decide +kernel))) rfl
theorem wd_2_107 : Cond.methodLink "LevelTypes" 172 ⟨"LevelTypes$Definition", "parameterType", "(I)I"⟩ ∈ tb := tb_in (lw_t2 (List.mem_of_getElem? (i := 107) (by decide +kernel))) rfl
theorem wd_2_108 : Cond.instanceMethod ⟨"LevelTypes$Definition", "parameterType", "(I)I"⟩ ∈ tb := tb_in (lw_t2 (List.mem_of_getElem? (i := 108) (by decide +kernel))) rfl
theorem wd_2_109 : Cond.selects "LevelTypes$Definition" ⟨"LevelTypes$Definition", "parameterType", "(I)I"⟩ ⟨"LevelTypes$Definition", "parameterType", "(I)I"⟩ ∈ tb := tb_in (lw_t2 (List.mem_of_getElem? (i := 109) (by decide +kernel))) rfl
theorem wd_2_110 : Cond.code ⟨"LevelTypes$Definition", "parameterType", "(I)I"⟩ prog_2_method_6_code 2 (some .int) ∈ tb := tb_in (lw_t2 (List.mem_of_getElem? (i := 110) rfl)) rfl
theorem wd_2_111 : Cond.methodLink "LevelTypes" 163 ⟨"LevelTypes", "lookAt", "(LLevelTypes$Node;)V"⟩ ∈ tb := tb_in (lw_t2 (List.mem_of_getElem? (i := 111) (by decide +kernel))) rfl
theorem wd_2_113 : Cond.instanceMethod ⟨"LevelTypes", "lookAt", "(LLevelTypes$Node;)V"⟩ ∈ tb := tb_in (lw_t2 (List.mem_of_getElem? (i := 113) (by decide +kernel))) rfl
theorem wd_2_114 : Cond.code ⟨"LevelTypes", "lookAt", "(LLevelTypes$Node;)V"⟩ prog_1_method_19_code 3 none ∈ tb := tb_in (lw_t2 (List.mem_of_getElem? (i := 114) rfl)) rfl
theorem wd_2_115 : Cond.methodLink "LevelTypes" 176 ⟨"LevelTypes", "arriveAt", "(LLevelTypes$Node;)Z"⟩ ∈ tb := tb_in (lw_t2 (List.mem_of_getElem? (i := 115) (by decide +kernel))) rfl
theorem wd_2_117 : Cond.instanceMethod ⟨"LevelTypes", "arriveAt", "(LLevelTypes$Node;)Z"⟩ ∈ tb := tb_in (lw_t2 (List.mem_of_getElem? (i := 117) (by decide +kernel))) rfl
theorem wd_2_118 : Cond.code ⟨"LevelTypes", "arriveAt", "(LLevelTypes$Node;)Z"⟩ prog_1_method_20_code 2 (some .boolean) ∈ tb := tb_in (lw_t2 (List.mem_of_getElem? (i := 118) rfl)) rfl
theorem wd_2_119 : Cond.methodLink "LevelTypes" 193 ⟨"LevelTypes$Node", "countVariables", "()V"⟩ ∈ tb := tb_in (lw_t2 (List.mem_of_getElem? (i := 119) (by decide +kernel))) rfl
theorem wd_2_120 : Cond.instanceMethod ⟨"LevelTypes$Node", "countVariables", "()V"⟩ ∈ tb := tb_in (lw_t2 (List.mem_of_getElem? (i := 120) (by decide +kernel))) rfl
theorem wd_2_121 : Cond.selects "LevelTypes$Node" ⟨"LevelTypes$Node", "countVariables", "()V"⟩ ⟨"LevelTypes$Node", "countVariables", "()V"⟩ ∈ tb := tb_in (lw_t2 (List.mem_of_getElem? (i := 121) (by decide +kernel))) rfl
theorem wd_2_122 : Cond.code ⟨"LevelTypes$Node", "countVariables", "()V"⟩ prog_4_method_3_code 1 none ∈ tb := tb_in (lw_t2 (List.mem_of_getElem? (i := 122) rfl)) rfl
theorem wd_2_123 : Cond.methodLink "LevelTypes$Node" 65 ⟨"LevelTypes$Node", "isLastPart", "()Z"⟩ ∈ tb := tb_in (lw_t2 (List.mem_of_getElem? (i := 123) (by decide +kernel))) rfl
theorem wd_2_124 : Cond.instanceMethod ⟨"LevelTypes$Node", "isLastPart", "()Z"⟩ ∈ tb := tb_in (lw_t2 (List.mem_of_getElem? (i := 124) (by decide +kernel))) rfl
theorem wd_2_125 : Cond.selects "LevelTypes$Node" ⟨"LevelTypes$Node", "isLastPart", "()Z"⟩ ⟨"LevelTypes$Node", "isLastPart", "()Z"⟩ ∈ tb := tb_in (lw_t2 (List.mem_of_getElem? (i := 125) (by decide +kernel))) rfl
theorem wd_2_126 : Cond.code ⟨"LevelTypes$Node", "isLastPart", "()Z"⟩ prog_4_method_2_code 1 (some .boolean) ∈ tb := tb_in (lw_t2 (List.mem_of_getElem? (i := 126) rfl)) rfl
theorem wd_2_127 : Cond.methodLink "LevelTypes$Node" 69 ⟨"LevelTypes$Node", "variablesOfLastPart", "()I"⟩ ∈ tb := tb_in (lw_t2 (List.mem_of_getElem? (i := 127) (by decide +kernel))) rfl
theorem wd_2_128 : Cond.instanceMethod ⟨"LevelTypes$Node", "variablesOfLastPart", "()I"⟩ ∈ tb := tb_in (lw_t2 (List.mem_of_getElem? (i := 128) (by decide +kernel))) rfl
theorem wd_2_129 : Cond.selects "LevelTypes$Node" ⟨"LevelTypes$Node", "variablesOfLastPart", "()I"⟩ ⟨"LevelTypes$Node", "variablesOfLastPart", "()I"⟩ ∈ tb := tb_in (lw_t2 (List.mem_of_getElem? (i := 129) (by decide +kernel))) rfl
theorem wd_2_130 : Cond.code ⟨"LevelTypes$Node", "variablesOfLastPart", "()I"⟩ prog_4_method_4_code 1 (some .int) ∈ tb := tb_in (lw_t2 (List.mem_of_getElem? (i := 130) rfl)) rfl
theorem wd_2_131 : Cond.methodLink "LevelTypes$Node" 73 ⟨"LevelTypes$Kind", "isBinder", "(I)Z"⟩ ∈ tb := tb_in (lw_t2 (List.mem_of_getElem? (i := 131) (by decide +kernel))) rfl
theorem wd_2_132 : Cond.methodLink "LevelTypes$Node" 79 ⟨"LevelTypes$Kind", "isCase", "(I)Z"⟩ ∈ tb := tb_in (lw_t2 (List.mem_of_getElem? (i := 132) (by decide +kernel))) rfl
theorem wd_2_133 : Cond.methodLink "LevelTypes" 196 ⟨"LevelTypes$Node", "bind", "()Z"⟩ ∈ tb := tb_in (lw_t2 (List.mem_of_getElem? (i := 133) (by decide +kernel))) rfl
theorem wd_2_134 : Cond.instanceMethod ⟨"LevelTypes$Node", "bind", "()Z"⟩ ∈ tb := tb_in (lw_t2 (List.mem_of_getElem? (i := 134) (by decide +kernel))) rfl
theorem wd_2_135 : Cond.selects "LevelTypes$Node" ⟨"LevelTypes$Node", "bind", "()Z"⟩ ⟨"LevelTypes$Node", "bind", "()Z"⟩ ∈ tb := tb_in (lw_t2 (List.mem_of_getElem? (i := 135) (by decide +kernel))) rfl
theorem wd_2_136 : Cond.code ⟨"LevelTypes$Node", "bind", "()Z"⟩ prog_4_method_6_code 3 (some .boolean) ∈ tb := tb_in (lw_t2 (List.mem_of_getElem? (i := 136) rfl)) rfl
theorem wd_2_137 : Cond.methodLink "LevelTypes$Node" 82 ⟨"LevelTypes$Node", "bindsInLastPart", "(J)Z"⟩ ∈ tb := tb_in (lw_t2 (List.mem_of_getElem? (i := 137) (by decide +kernel))) rfl
theorem wd_2_138 : Cond.instanceMethod ⟨"LevelTypes$Node", "bindsInLastPart", "(J)Z"⟩ ∈ tb := tb_in (lw_t2 (List.mem_of_getElem? (i := 138) (by decide +kernel))) rfl
theorem wd_2_139 : Cond.selects "LevelTypes$Node" ⟨"LevelTypes$Node", "bindsInLastPart", "(J)Z"⟩ ⟨"LevelTypes$Node", "bindsInLastPart", "(J)Z"⟩ ∈ tb := tb_in (lw_t2 (List.mem_of_getElem? (i := 139) (by decide +kernel))) rfl
theorem wd_2_140 : Cond.code ⟨"LevelTypes$Node", "bindsInLastPart", "(J)Z"⟩ prog_4_method_5_code 3 (some .boolean) ∈ tb := tb_in (lw_t2 (List.mem_of_getElem? (i := 140) rfl)) rfl
theorem wd_2_141 : Cond.methodLink "LevelTypes$Node" 88 ⟨"LevelTypes$Definition", "indexOfParameter", "(J)I"⟩ ∈ tb := tb_in (lw_t2 (List.mem_of_getElem? (i := 141) (by decide +kernel))) rfl
theorem wd_2_142 : Cond.methodLink "LevelTypes$Node" 92 ⟨"LevelTypes$Definition", "parameterType", "(I)I"⟩ ∈ tb := tb_in (lw_t2 (List.mem_of_getElem? (i := 142) (by decide +kernel))) rfl
theorem wd_2_143 : Cond.methodLink "LevelTypes" 199 ⟨"LevelTypes$Kind", "isCall", "(I)Z"⟩ ∈ tb := tb_in (lw_t2 (List.mem_of_getElem? (i := 143) (by decide +kernel))) rfl
theorem wd_2_144 : Cond.methodLink "LevelTypes" 205 ⟨"LevelTypes$Node", "aimAt", "(LLevelTypes$Definition;)Z"⟩ ∈ tb := tb_in (lw_t2 (List.mem_of_getElem? (i := 144) (by decide +kernel))) rfl
theorem wd_2_145 : Cond.instanceMethod ⟨"LevelTypes$Node", "aimAt", "(LLevelTypes$Definition;)Z"⟩ ∈ tb := tb_in (lw_t2 (List.mem_of_getElem? (i := 145) (by decide +kernel))) rfl
theorem wd_2_146 : Cond.selects "LevelTypes$Node" ⟨"LevelTypes$Node", "aimAt", "(LLevelTypes$Definition;)Z"⟩ ⟨"LevelTypes$Node", "aimAt", "(LLevelTypes$Definition;)Z"⟩ ∈ tb := tb_in (lw_t2 (List.mem_of_getElem? (i := 146) (by decide +kernel))) rfl
theorem wd_2_147 : Cond.code ⟨"LevelTypes$Node", "aimAt", "(LLevelTypes$Definition;)Z"⟩ prog_4_method_7_code 3 (some .boolean) ∈ tb := tb_in (lw_t2 (List.mem_of_getElem? (i := 147) rfl)) rfl
theorem wd_2_148 : Cond.methodLink "LevelTypes" 209 ⟨"LevelTypes$Kind", "ownType", "(I)I"⟩ ∈ tb := tb_in (lw_t2 (List.mem_of_getElem? (i := 148) (by decide +kernel))) rfl
theorem wd_2_149 : Cond.static ⟨"LevelTypes$Kind", "ownType", "(I)I"⟩ ∈ tb := tb_in (lw_t2 (List.mem_of_getElem? (i := 149) (by decide +kernel))) rfl
theorem wd_2_150 : Cond.code ⟨"LevelTypes$Kind", "ownType", "(I)I"⟩ prog_3_method_12_code 1 (some .int) ∈ tb := tb_in (lw_t2 (List.mem_of_getElem? (i := 150) rfl)) rfl
theorem wd_2_151 : Cond.methodLink "LevelTypes" 183 ⟨"java/lang/Math", "max", "(II)I"⟩ ∈ tb := tb_in (lw_t2 (List.mem_of_getElem? (i := 151) (by decide +kernel))) rfl
theorem wd_2_152 : Cond.methodLink "LevelTypes" 189 ⟨"LevelTypes", "firstMisfit", "(LLevelTypes$Node;)LLevelTypes$Node;"⟩ ∈ tb := tb_in (lw_t2 (List.mem_of_getElem? (i := 152) (by decide +kernel))) rfl
theorem wd_2_153 : Cond.static ⟨"LevelTypes", "firstMisfit", "(LLevelTypes$Node;)LLevelTypes$Node;"⟩ ∈ tb := tb_in (lw_t2 (List.mem_of_getElem? (i := 153) (by decide +kernel))) rfl
theorem wd_2_154 : Cond.code ⟨"LevelTypes", "firstMisfit", "(LLevelTypes$Node;)LLevelTypes$Node;"⟩ prog_1_method_21_code 2 (some (.object "LevelTypes$Node")) ∈ tb := tb_in (lw_t2 (List.mem_of_getElem? (i := 154) rfl)) rfl
theorem wd_2_155 : Cond.methodLink "LevelTypes" 212 ⟨"LevelTypes$Node", "fits", "()Z"⟩ ∈ tb := tb_in (lw_t2 (List.mem_of_getElem? (i := 155) (by decide +kernel))) rfl
theorem wd_2_156 : Cond.instanceMethod ⟨"LevelTypes$Node", "fits", "()Z"⟩ ∈ tb := tb_in (lw_t2 (List.mem_of_getElem? (i := 156) (by decide +kernel))) rfl
theorem wd_2_157 : Cond.selects "LevelTypes$Node" ⟨"LevelTypes$Node", "fits", "()Z"⟩ ⟨"LevelTypes$Node", "fits", "()Z"⟩ ∈ tb := tb_in (lw_t2 (List.mem_of_getElem? (i := 157) (by decide +kernel))) rfl
theorem wd_2_158 : Cond.code ⟨"LevelTypes$Node", "fits", "()Z"⟩ prog_4_method_8_code 1 (some .boolean) ∈ tb := tb_in (lw_t2 (List.mem_of_getElem? (i := 158) rfl)) rfl
theorem wd_2_159 : Cond.methodLink "LevelTypes$Node" 101 ⟨"LevelTypes$Node", "admits", "(II)Z"⟩ ∈ tb := tb_in (lw_t2 (List.mem_of_getElem? (i := 159) (by decide +kernel))) rfl
theorem wd_2_161 : Cond.instanceMethod ⟨"LevelTypes$Node", "admits", "(II)Z"⟩ ∈ tb := tb_in (lw_t2 (List.mem_of_getElem? (i := 161) (by decide +kernel))) rfl
theorem wd_2_162 : Cond.code ⟨"LevelTypes$Node", "admits", "(II)Z"⟩ prog_4_method_9_code 3 (some .boolean) ∈ tb := tb_in (lw_t2 (List.mem_of_getElem? (i := 162) rfl)) rfl
theorem wd_2_163 : Cond.methodLink "LevelTypes$Node" 105 ⟨"LevelTypes$Type", "isWritten", "(I)Z"⟩ ∈ tb := tb_in (lw_t2 (List.mem_of_getElem? (i := 163) (by decide +kernel))) rfl
theorem wd_2_164 : Cond.methodLink "LevelTypes" 218 ⟨"LevelTypes$Node", "hearOf", "(II)V"⟩ ∈ tb := tb_in (lw_t2 (List.mem_of_getElem? (i := 164) (by decide +kernel))) rfl
theorem wd_2_165 : Cond.instanceMethod ⟨"LevelTypes$Node", "hearOf", "(II)V"⟩ ∈ tb := tb_in (lw_t2 (List.mem_of_getElem? (i := 165) (by decide +kernel))) rfl
theorem wd_2_166 : Cond.selects "LevelTypes$Node" ⟨"LevelTypes$Node", "hearOf", "(II)V"⟩ ⟨"LevelTypes$Node", "hearOf", "(II)V"⟩ ∈ tb := tb_in (lw_t2 (List.mem_of_getElem? (i := 166) (by decide +kernel))) rfl
theorem wd_2_167 : Cond.code ⟨"LevelTypes$Node", "hearOf", "(II)V"⟩ prog_4_method_10_code 3 none ∈ tb := tb_in (lw_t2 (List.mem_of_getElem? (i := 167) rfl)) rfl
theorem wd_2_168 : Cond.methodLink "LevelTypes$Node" 108 ⟨"LevelTypes$Node", "typeOfXAfter", "(I)I"⟩ ∈ tb := tb_in (lw_t2 (List.mem_of_getElem? (i := 168) (by decide +kernel))) rfl
theorem wd_2_170 : Cond.instanceMethod ⟨"LevelTypes$Node", "typeOfXAfter", "(I)I"⟩ ∈ tb := tb_in (lw_t2 (List.mem_of_getElem? (i := 170) (by decide +kernel))) rfl
theorem wd_2_171 : Cond.code ⟨"LevelTypes$Node", "typeOfXAfter", "(I)I"⟩ prog_4_method_11_code 2 (some .int) ∈ tb := tb_in (lw_t2 (List.mem_of_getElem? (i := 171) rfl)) rfl
theorem wd_2_172 : Cond.methodLink "LevelTypes$Node" 114 ⟨"LevelTypes$Kind", "isLet", "(I)Z"⟩ ∈ tb := tb_in (lw_t2 (List.mem_of_getElem? (i := 172) (by decide +kernel))) rfl
theorem wd_2_173 : Cond.static ⟨"LevelTypes$Kind", "isLet", "(I)Z"⟩ ∈ tb := tb_in (lw_t2 (List.mem_of_getElem? (i := 173) (by decide +kernel))) rfl
theorem wd_2_174 : Cond.code ⟨"LevelTypes$Kind", "isLet", "(I)Z"⟩ prog_3_method_6_code 1 (some .boolean) ∈ tb := tb_in (lw_t2 (List.mem_of_getElem? (i := 174) rfl)) rfl
theorem wd_2_175 : Cond.methodLink "LevelTypes$Node" 111 ⟨"LevelTypes$Kind", "isAsLastPart", "(I)Z"⟩ ∈ tb := tb_in (lw_t2 (List.mem_of_getElem? (i := 175) (by decide +kernel))) rfl
theorem wd_2_176 : Cond.static ⟨"LevelTypes$Kind", "isAsLastPart", "(I)Z"⟩ ∈ tb := tb_in (lw_t2 (List.mem_of_getElem? (i := 176) (by decide +kernel))) rfl
theorem wd_2_177 : Cond.code ⟨"LevelTypes$Kind", "isAsLastPart", "(I)Z"⟩ prog_3_method_8_code 1 (some .boolean) ∈ tb := tb_in (lw_t2 (List.mem_of_getElem? (i := 177) rfl)) rfl
theorem wd_2_178 : Cond.methodLink "LevelTypes" 222 ⟨"LevelTypes$Node", "isLastPart", "()Z"⟩ ∈ tb := tb_in (lw_t2 (List.mem_of_getElem? (i := 178) (by decide +kernel))) rfl
theorem wd_2_179 : Cond.methodLink "LevelTypesLaw" 39 ⟨"LevelTypes", "type", "(I)I"⟩ ∈ tb := tb_in (lw_t2 (List.mem_of_getElem? (i := 179) (by decide +kernel))) rfl
theorem wd_2_180 : Cond.instanceMethod ⟨"LevelTypes", "type", "(I)I"⟩ ∈ tb := tb_in (lw_t2 (List.mem_of_getElem? (i := 180) (by decide +kernel))) rfl
theorem wd_2_181 : Cond.selects "LevelTypes" ⟨"LevelTypes", "type", "(I)I"⟩ ⟨"LevelTypes", "type", "(I)I"⟩ ∈ tb := tb_in (lw_t2 (List.mem_of_getElem? (i := 181) (by decide +kernel))) rfl
theorem wd_2_182 : Cond.code ⟨"LevelTypes", "type", "(I)I"⟩ prog_1_method_7_code 3 (some .int) ∈ tb := tb_in (lw_t2 (List.mem_of_getElem? (i := 182) rfl)) rfl
theorem wd_2_183 : Cond.methodLink "LevelTypes" 122 ⟨"LevelTypes", "knownNode", "(I)LLevelTypes$Node;"⟩ ∈ tb := tb_in (lw_t2 (List.mem_of_getElem? (i := 183) (by decide +kernel))) rfl
theorem wd_2_185 : Cond.instanceMethod ⟨"LevelTypes", "knownNode", "(I)LLevelTypes$Node;"⟩ ∈ tb := tb_in (lw_t2 (List.mem_of_getElem? (i := 185) (by decide +kernel))) rfl
theorem wd_2_186 : Cond.code ⟨"LevelTypes", "knownNode", "(I)LLevelTypes$Node;"⟩ prog_1_method_16_code 2 (some (.object "LevelTypes$Node")) ∈ tb := tb_in (lw_t2 (List.mem_of_getElem? (i := 186) rfl)) rfl
theorem wd_2_187 : Cond.methodLink "LevelTypes" 136 ⟨"LevelTypes", "nodeAt", "(I)LLevelTypes$Node;"⟩ ∈ tb := tb_in (lw_t2 (List.mem_of_getElem? (i := 187) (by decide +kernel))) rfl
theorem wd_2_189 : Cond.instanceMethod ⟨"LevelTypes", "nodeAt", "(I)LLevelTypes$Node;"⟩ ∈ tb := tb_in (lw_t2 (List.mem_of_getElem? (i := 189) (by decide +kernel))) rfl
theorem wd_2_190 : Cond.code ⟨"LevelTypes", "nodeAt", "(I)LLevelTypes$Node;"⟩ prog_1_method_15_code 2 (some (.object "LevelTypes$Node")) ∈ tb := tb_in (lw_t2 (List.mem_of_getElem? (i := 190) rfl)) rfl
theorem wd_2_191 : Cond.methodLink "LevelTypesLaw" 44 ⟨"LevelTypes", "binder", "(I)I"⟩ ∈ tb := tb_in (lw_t2 (List.mem_of_getElem? (i := 191) (by decide +kernel))) rfl
theorem wd_2_192 : Cond.instanceMethod ⟨"LevelTypes", "binder", "(I)I"⟩ ∈ tb := tb_in (lw_t2 (List.mem_of_getElem? (i := 192) (by decide +kernel))) rfl
theorem wd_2_193 : Cond.selects "LevelTypes" ⟨"LevelTypes", "binder", "(I)I"⟩ ⟨"LevelTypes", "binder", "(I)I"⟩ ∈ tb := tb_in (lw_t2 (List.mem_of_getElem? (i := 193) (by decide +kernel))) rfl
theorem wd_2_194 : Cond.code ⟨"LevelTypes", "binder", "(I)I"⟩ prog_1_method_8_code 3 (some .int) ∈ tb := tb_in (lw_t2 (List.mem_of_getElem? (i := 194) rfl)) rfl
theorem wd_2_195 : Cond.methodLink "LevelTypesLaw" 48 ⟨"LevelTypes", "target", "(I)I"⟩ ∈ tb := tb_in (lw_t2 (List.mem_of_getElem? (i := 195) (by decide +kernel))) rfl
theorem wd_2_196 : Cond.instanceMethod ⟨"LevelTypes", "target", "(I)I"⟩ ∈ tb := tb_in (lw_t2 (List.mem_of_getElem? (i := 196) (by decide +kernel))) rfl
theorem wd_2_197 : Cond.selects "LevelTypes" ⟨"LevelTypes", "target", "(I)I"⟩ ⟨"LevelTypes", "target", "(I)I"⟩ ∈ tb := tb_in (lw_t2 (List.mem_of_getElem? (i := 197) (by decide +kernel))) rfl
theorem wd_2_198 : Cond.code ⟨"LevelTypes", "target", "(I)I"⟩ prog_1_method_9_code 3 (some .int) ∈ tb := tb_in (lw_t2 (List.mem_of_getElem? (i := 198) rfl)) rfl
theorem wd_2_199 : Cond.methodLink "LevelTypesLaw" 52 ⟨"LevelTypes", "of", "(II)I"⟩ ∈ tb := tb_in (lw_t2 (List.mem_of_getElem? (i := 199) (by decide +kernel))) rfl
theorem wd_2_200 : Cond.instanceMethod ⟨"LevelTypes", "of", "(II)I"⟩ ∈ tb := tb_in (lw_t2 (List.mem_of_getElem? (i := 200) (by decide +kernel))) rfl
theorem wd_2_201 : Cond.selects "LevelTypes" ⟨"LevelTypes", "of", "(II)I"⟩ ⟨"LevelTypes", "of", "(II)I"⟩ ∈ tb := tb_in (lw_t2 (List.mem_of_getElem? (i := 201) (by decide +kernel))) rfl
theorem wd_2_202 : Cond.code ⟨"LevelTypes", "of", "(II)I"⟩ prog_1_method_10_code 4 (some .int) ∈ tb := tb_in (lw_t2 (List.mem_of_getElem? (i := 202) rfl)) rfl
theorem wd_2_203 : Cond.methodLink "LevelTypesLaw" 57 ⟨"LevelTypes", "look", "(I)I"⟩ ∈ tb := tb_in (lw_t2 (List.mem_of_getElem? (i := 203) (by decide +kernel))) rfl
theorem wd_2_204 : Cond.instanceMethod ⟨"LevelTypes", "look", "(I)I"⟩ ∈ tb := tb_in (lw_t2 (List.mem_of_getElem? (i := 204) (by decide +kernel))) rfl
theorem wd_2_205 : Cond.selects "LevelTypes" ⟨"LevelTypes", "look", "(I)I"⟩ ⟨"LevelTypes", "look", "(I)I"⟩ ∈ tb := tb_in (lw_t2 (List.mem_of_getElem? (i := 205) (by decide +kernel))) rfl
theorem wd_2_206 : Cond.code ⟨"LevelTypes", "look", "(I)I"⟩ prog_1_method_11_code 2 (some .int) ∈ tb := tb_in (lw_t2 (List.mem_of_getElem? (i := 206) rfl)) rfl
theorem wd_2_207 : Cond.classLink "LevelTypesLaw" 10 "LevelTypesModel" ∈ tb := tb_in (lw_t2 (List.mem_of_getElem? (i := 207) (by decide +kernel))) rfl
theorem wd_2_208 : Cond.instantiable "LevelTypesModel" 25 ∈ tb := tb_in (lw_t2 (List.mem_of_getElem? (i := 208) (by decide +kernel))) rfl
theorem wd_2_209 : Cond.methodLink "LevelTypesLaw" 12 ⟨"LevelTypesModel", "<init>", "()V"⟩ ∈ tb := tb_in (lw_t2 (List.mem_of_getElem? (i := 209) (by decide +kernel))) rfl
theorem wd_2_210 : Cond.instanceMethod ⟨"LevelTypesModel", "<init>", "()V"⟩ ∈ tb := tb_in (lw_t2 (List.mem_of_getElem? (i := 210) (by decide +kernel))) rfl
theorem wd_2_211 : Cond.code ⟨"LevelTypesModel", "<init>", "()V"⟩ prog_7_method_1_code 1 none ∈ tb := tb_in (lw_t2 (List.mem_of_getElem? (i := 211) rfl)) rfl
theorem wd_2_212 : Cond.methodLink "LevelTypesModel" 1 ⟨"java/lang/Object", "<init>", "()V"⟩ ∈ tb := tb_in (lw_t2 (List.mem_of_getElem? (i := 212) (by decide +kernel))) rfl
theorem wd_2_213 : Cond.fieldLink "LevelTypesModel" 70 "LevelTypesModel" "thrown" "I" ∈ tb := tb_in (lw_t2 (List.mem_of_getElem? (i := 213) (by decide +kernel))) rfl
theorem wd_2_214 : Cond.fieldLink "LevelTypesModel" 73 "LevelTypesModel" "many" "I" ∈ tb := tb_in (lw_t2 (List.mem_of_getElem? (i := 214) (by decide +kernel))) rfl
theorem wd_2_215 : Cond.fieldLink "LevelTypesModel" 7 "LevelTypesModel" "isChg" "[Z" ∈ tb := tb_in (lw_t2 (List.mem_of_getElem? (i := 215) (by decide +kernel))) rfl
theorem wd_2_216 : Cond.fieldLink "LevelTypesModel" 13 "LevelTypesModel" "titles" "[J" ∈ tb := tb_in (lw_t2 (List.mem_of_getElem? (i := 216) (by decide +kernel))) rfl
theorem wd_2_217 : Cond.fieldLink "LevelTypesModel" 17 "LevelTypesModel" "results" "[I" ∈ tb := tb_in (lw_t2 (List.mem_of_getElem? (i := 217) (by decide +kernel))) rfl
theorem wd_2_218 : Cond.fieldLink "LevelTypesModel" 21 "LevelTypesModel" "parameterMany" "[I" ∈ tb := tb_in (lw_t2 (List.mem_of_getElem? (i := 218) (by decide +kernel))) rfl
theorem wd_2_219 : Cond.fieldLink "LevelTypesModel" 24 "LevelTypesModel" "parameterNames" "[J" ∈ tb := tb_in (lw_t2 (List.mem_of_getElem? (i := 219) (by decide +kernel))) rfl
theorem wd_2_220 : Cond.fieldLink "LevelTypesModel" 27 "LevelTypesModel" "parameterTypes" "[I" ∈ tb := tb_in (lw_t2 (List.mem_of_getElem? (i := 220) (by decide +kernel))) rfl
theorem wd_2_221 : Cond.fieldLink "LevelTypesModel" 30 "LevelTypesModel" "begins" "[I" ∈ tb := tb_in (lw_t2 (List.mem_of_getElem? (i := 221) (by decide +kernel))) rfl
theorem wd_2_222 : Cond.fieldLink "LevelTypesModel" 76 "LevelTypesModel" "nodes" "I" ∈ tb := tb_in (lw_t2 (List.mem_of_getElem? (i := 222) (by decide +kernel))) rfl
theorem wd_2_223 : Cond.fieldLink "LevelTypesModel" 33 "LevelTypesModel" "kinds" "[I" ∈ tb := tb_in (lw_t2 (List.mem_of_getElem? (i := 223) (by decide +kernel))) rfl
theorem wd_2_224 : Cond.fieldLink "LevelTypesModel" 36 "LevelTypesModel" "firsts" "[J" ∈ tb := tb_in (lw_t2 (List.mem_of_getElem? (i := 224) (by decide +kernel))) rfl
theorem wd_2_225 : Cond.fieldLink "LevelTypesModel" 39 "LevelTypesModel" "seconds" "[J" ∈ tb := tb_in (lw_t2 (List.mem_of_getElem? (i := 225) (by decide +kernel))) rfl
theorem wd_2_226 : Cond.fieldLink "LevelTypesModel" 42 "LevelTypesModel" "parts" "[I" ∈ tb := tb_in (lw_t2 (List.mem_of_getElem? (i := 226) (by decide +kernel))) rfl
theorem wd_2_227 : Cond.fieldLink "LevelTypesModel" 45 "LevelTypesModel" "parents" "[I" ∈ tb := tb_in (lw_t2 (List.mem_of_getElem? (i := 227) (by decide +kernel))) rfl
theorem wd_2_228 : Cond.fieldLink "LevelTypesModel" 48 "LevelTypesModel" "parted" "[I" ∈ tb := tb_in (lw_t2 (List.mem_of_getElem? (i := 228) (by decide +kernel))) rfl
theorem wd_2_229 : Cond.fieldLink "LevelTypesModel" 51 "LevelTypesModel" "owners" "[I" ∈ tb := tb_in (lw_t2 (List.mem_of_getElem? (i := 229) (by decide +kernel))) rfl
theorem wd_2_230 : Cond.fieldLink "LevelTypesModel" 54 "LevelTypesModel" "has" "[I" ∈ tb := tb_in (lw_t2 (List.mem_of_getElem? (i := 230) (by decide +kernel))) rfl
theorem wd_2_231 : Cond.fieldLink "LevelTypesModel" 57 "LevelTypesModel" "types" "[I" ∈ tb := tb_in (lw_t2 (List.mem_of_getElem? (i := 231) (by decide +kernel))) rfl
theorem wd_2_232 : Cond.fieldLink "LevelTypesModel" 60 "LevelTypesModel" "binders" "[I" ∈ tb := tb_in (lw_t2 (List.mem_of_getElem? (i := 232) (by decide +kernel))) rfl
theorem wd_2_233 : Cond.fieldLink "LevelTypesModel" 63 "LevelTypesModel" "targets" "[I" ∈ tb := tb_in (lw_t2 (List.mem_of_getElem? (i := 233) (by decide +kernel))) rfl
theorem wd_2_234 : Cond.fieldLink "LevelTypesModel" 79 "LevelTypesModel" "known" "Z" ∈ tb := tb_in (lw_t2 (List.mem_of_getElem? (i := 234) (by decide +kernel))) rfl
theorem wd_2_235 : Cond.fieldLink "LevelTypesModel" 83 "LevelTypesModel" "fault" "I" ∈ tb := tb_in (lw_t2 (List.mem_of_getElem? (i := 235) (by decide +kernel))) rfl
theorem wd_2_236 : Cond.fieldLink "LevelTypesModel" 66 "LevelTypesModel" "faultNode" "I" ∈ tb := tb_in (lw_t2 (List.mem_of_getElem? (i := 236) (by decide +kernel))) rfl
theorem wd_2_237 : Cond.fieldLink "LevelTypesModel" 119 "LevelTypesModel" "most" "I" ∈ tb := tb_in (lw_t2 (List.mem_of_getElem? (i := 237) (by decide +kernel))) rfl
theorem wd_2_238 : Cond.lays "LevelTypesModel" "LevelTypesModel" "thrown" "I" ∈ tb := tb_in (lw_t2 (List.mem_of_getElem? (i := 238) (by decide +kernel))) rfl
theorem wd_3_0 : Cond.lays "LevelTypesModel" "LevelTypesModel" "many" "I" ∈ tb := tb_in (lw_t3 (List.mem_of_getElem? (i := 0) (by decide +kernel))) rfl
theorem wd_3_2 : Cond.laysFinal "LevelTypesModel" "LevelTypesModel" "isChg" "[Z" ∈ tb := tb_in (lw_t3 (List.mem_of_getElem? (i := 2) (by decide +kernel))) rfl
theorem wd_3_4 : Cond.laysFinal "LevelTypesModel" "LevelTypesModel" "titles" "[J" ∈ tb := tb_in (lw_t3 (List.mem_of_getElem? (i := 4) (by decide +kernel))) rfl
theorem wd_3_6 : Cond.laysFinal "LevelTypesModel" "LevelTypesModel" "results" "[I" ∈ tb := tb_in (lw_t3 (List.mem_of_getElem? (i := 6) (by decide +kernel))) rfl
theorem wd_3_8 : Cond.laysFinal "LevelTypesModel" "LevelTypesModel" "parameterMany" "[I" ∈ tb := tb_in (lw_t3 (List.mem_of_getElem? (i := 8) (by decide +kernel))) rfl
theorem wd_3_10 : Cond.laysFinal "LevelTypesModel" "LevelTypesModel" "parameterNames" "[J" ∈ tb := tb_in (lw_t3 (List.mem_of_getElem? (i := 10) (by decide +kernel))) rfl
theorem wd_3_12 : Cond.laysFinal "LevelTypesModel" "LevelTypesModel" "parameterTypes" "[I" ∈ tb := tb_in (lw_t3 (List.mem_of_getElem? (i := 12) (by decide +kernel))) rfl
theorem wd_3_14 : Cond.laysFinal "LevelTypesModel" "LevelTypesModel" "begins" "[I" ∈ tb := tb_in (lw_t3 (List.mem_of_getElem? (i := 14) (by decide +kernel))) rfl
theorem wd_3_16 : Cond.lays "LevelTypesModel" "LevelTypesModel" "nodes" "I" ∈ tb := tb_in (lw_t3 (List.mem_of_getElem? (i := 16) (by decide +kernel))) rfl
theorem wd_3_18 : Cond.laysFinal "LevelTypesModel" "LevelTypesModel" "kinds" "[I" ∈ tb := tb_in (lw_t3 (List.mem_of_getElem? (i := 18) (by decide +kernel))) rfl
theorem wd_3_20 : Cond.laysFinal "LevelTypesModel" "LevelTypesModel" "firsts" "[J" ∈ tb := tb_in (lw_t3 (List.mem_of_getElem? (i := 20) (by decide +kernel))) rfl
theorem wd_3_22 : Cond.laysFinal "LevelTypesModel" "LevelTypesModel" "seconds" "[J" ∈ tb := tb_in (lw_t3 (List.mem_of_getElem? (i := 22) (by decide +kernel))) rfl
theorem wd_3_24 : Cond.laysFinal "LevelTypesModel" "LevelTypesModel" "parts" "[I" ∈ tb := tb_in (lw_t3 (List.mem_of_getElem? (i := 24) (by decide +kernel))) rfl
theorem wd_3_26 : Cond.laysFinal "LevelTypesModel" "LevelTypesModel" "parents" "[I" ∈ tb := tb_in (lw_t3 (List.mem_of_getElem? (i := 26) (by decide +kernel))) rfl
theorem wd_3_28 : Cond.laysFinal "LevelTypesModel" "LevelTypesModel" "parted" "[I" ∈ tb := tb_in (lw_t3 (List.mem_of_getElem? (i := 28) (by decide +kernel))) rfl
theorem wd_3_30 : Cond.laysFinal "LevelTypesModel" "LevelTypesModel" "owners" "[I" ∈ tb := tb_in (lw_t3 (List.mem_of_getElem? (i := 30) (by decide +kernel))) rfl
theorem wd_3_32 : Cond.laysFinal "LevelTypesModel" "LevelTypesModel" "has" "[I" ∈ tb := tb_in (lw_t3 (List.mem_of_getElem? (i := 32) (by decide +kernel))) rfl
theorem wd_3_34 : Cond.laysFinal "LevelTypesModel" "LevelTypesModel" "types" "[I" ∈ tb := tb_in (lw_t3 (List.mem_of_getElem? (i := 34) (by decide +kernel))) rfl
theorem wd_3_36 : Cond.laysFinal "LevelTypesModel" "LevelTypesModel" "binders" "[I" ∈ tb := tb_in (lw_t3 (List.mem_of_getElem? (i := 36) (by decide +kernel))) rfl
theorem wd_3_38 : Cond.laysFinal "LevelTypesModel" "LevelTypesModel" "targets" "[I" ∈ tb := tb_in (lw_t3 (List.mem_of_getElem? (i := 38) (by decide +kernel))) rfl
theorem wd_3_40 : Cond.lays "LevelTypesModel" "LevelTypesModel" "known" "Z" ∈ tb := tb_in (lw_t3 (List.mem_of_getElem? (i := 40) (by decide +kernel))) rfl
theorem wd_3_42 : Cond.lays "LevelTypesModel" "LevelTypesModel" "fault" "I" ∈ tb := tb_in (lw_t3 (List.mem_of_getElem? (i := 42) (by decide +kernel))) rfl
theorem wd_3_44 : Cond.lays "LevelTypesModel" "LevelTypesModel" "faultNode" "I" ∈ tb := tb_in (lw_t3 (List.mem_of_getElem? (i := 44) (by decide +kernel))) rfl
theorem wd_3_46 : Cond.lays "LevelTypesModel" "LevelTypesModel" "most" "I" ∈ tb := tb_in (lw_t3 (List.mem_of_getElem? (i := 46) (by decide +kernel))) rfl
theorem wd_3_48 : Cond.superclass "LevelTypesModel" "java/lang/Object" ∈ tb := tb_in (lw_t3 (List.mem_of_getElem? (i := 48) (by decide +kernel))) rfl
theorem wd_3_49 : Cond.arrayClass .boolean ∈ tb := tb_in (lw_t3 (List.mem_of_getElem? (i := 49) (by decide +kernel))) rfl
theorem wd_3_50 : Cond.methodLink "LevelTypesLaw" 16 ⟨"LevelTypesModel", "clear", "()V"⟩ ∈ tb := tb_in (lw_t3 (List.mem_of_getElem? (i := 50) (by decide +kernel))) rfl
theorem wd_3_51 : Cond.instanceMethod ⟨"LevelTypesModel", "clear", "()V"⟩ ∈ tb := tb_in (lw_t3 (List.mem_of_getElem? (i := 51) (by decide +kernel))) rfl
theorem wd_3_52 : Cond.selects "LevelTypesModel" ⟨"LevelTypesModel", "clear", "()V"⟩ ⟨"LevelTypesModel", "clear", "()V"⟩ ∈ tb := tb_in (lw_t3 (List.mem_of_getElem? (i := 52) (by decide +kernel))) rfl
theorem wd_3_53 : Cond.code ⟨"LevelTypesModel", "clear", "()V"⟩ prog_7_method_3_code 1 none ∈ tb := tb_in (lw_t3 (List.mem_of_getElem? (i := 53) rfl)) rfl
theorem wd_3_54 : Cond.methodLink "LevelTypesLaw" 23 ⟨"LevelTypesModel", "define", "(ZJI)I"⟩ ∈ tb := tb_in (lw_t3 (List.mem_of_getElem? (i := 54) (by decide +kernel))) rfl
theorem wd_3_55 : Cond.instanceMethod ⟨"LevelTypesModel", "define", "(ZJI)I"⟩ ∈ tb := tb_in (lw_t3 (List.mem_of_getElem? (i := 55) (by decide +kernel))) rfl
theorem wd_3_56 : Cond.selects "LevelTypesModel" ⟨"LevelTypesModel", "define", "(ZJI)I"⟩ ⟨"LevelTypesModel", "define", "(ZJI)I"⟩ ∈ tb := tb_in (lw_t3 (List.mem_of_getElem? (i := 56) (by decide +kernel))) rfl
theorem wd_3_57 : Cond.code ⟨"LevelTypesModel", "define", "(ZJI)I"⟩ prog_7_method_6_code 7 (some .int) ∈ tb := tb_in (lw_t3 (List.mem_of_getElem? (i := 57) rfl)) rfl
theorem wd_3_58 : Cond.methodLink "LevelTypesModel" 90 ⟨"LevelTypesModel", "isWhole", "()Z"⟩ ∈ tb := tb_in (lw_t3 (List.mem_of_getElem? (i := 58) (by decide +kernel))) rfl
theorem wd_3_60 : Cond.instanceMethod ⟨"LevelTypesModel", "isWhole", "()Z"⟩ ∈ tb := tb_in (lw_t3 (List.mem_of_getElem? (i := 60) (by decide +kernel))) rfl
theorem wd_3_61 : Cond.code ⟨"LevelTypesModel", "isWhole", "()Z"⟩ prog_7_method_5_code 1 (some .boolean) ∈ tb := tb_in (lw_t3 (List.mem_of_getElem? (i := 61) rfl)) rfl
theorem wd_3_62 : Cond.methodLink "LevelTypesModel" 86 ⟨"LevelTypesModel", "lacking", "()I"⟩ ∈ tb := tb_in (lw_t3 (List.mem_of_getElem? (i := 62) (by decide +kernel))) rfl
theorem wd_3_64 : Cond.instanceMethod ⟨"LevelTypesModel", "lacking", "()I"⟩ ∈ tb := tb_in (lw_t3 (List.mem_of_getElem? (i := 64) (by decide +kernel))) rfl
theorem wd_3_65 : Cond.code ⟨"LevelTypesModel", "lacking", "()I"⟩ prog_7_method_4_code 2 (some .int) ∈ tb := tb_in (lw_t3 (List.mem_of_getElem? (i := 65) rfl)) rfl
theorem wd_3_66 : Cond.methodLink "LevelTypesLaw" 28 ⟨"LevelTypesModel", "parameter", "(JI)I"⟩ ∈ tb := tb_in (lw_t3 (List.mem_of_getElem? (i := 66) (by decide +kernel))) rfl
theorem wd_3_67 : Cond.instanceMethod ⟨"LevelTypesModel", "parameter", "(JI)I"⟩ ∈ tb := tb_in (lw_t3 (List.mem_of_getElem? (i := 67) (by decide +kernel))) rfl
theorem wd_3_68 : Cond.selects "LevelTypesModel" ⟨"LevelTypesModel", "parameter", "(JI)I"⟩ ⟨"LevelTypesModel", "parameter", "(JI)I"⟩ ∈ tb := tb_in (lw_t3 (List.mem_of_getElem? (i := 68) (by decide +kernel))) rfl
theorem wd_3_69 : Cond.code ⟨"LevelTypesModel", "parameter", "(JI)I"⟩ prog_7_method_7_code 6 (some .int) ∈ tb := tb_in (lw_t3 (List.mem_of_getElem? (i := 69) rfl)) rfl
theorem wd_3_70 : Cond.methodLink "LevelTypesLaw" 33 ⟨"LevelTypesModel", "node", "(IJJI)I"⟩ ∈ tb := tb_in (lw_t3 (List.mem_of_getElem? (i := 70) (by decide +kernel))) rfl
theorem wd_3_71 : Cond.instanceMethod ⟨"LevelTypesModel", "node", "(IJJI)I"⟩ ∈ tb := tb_in (lw_t3 (List.mem_of_getElem? (i := 71) (by decide +kernel))) rfl
theorem wd_3_72 : Cond.selects "LevelTypesModel" ⟨"LevelTypesModel", "node", "(IJJI)I"⟩ ⟨"LevelTypesModel", "node", "(IJJI)I"⟩ ∈ tb := tb_in (lw_t3 (List.mem_of_getElem? (i := 72) (by decide +kernel))) rfl
theorem wd_3_73 : Cond.code ⟨"LevelTypesModel", "node", "(IJJI)I"⟩ prog_7_method_13_code 12 (some .int) ∈ tb := tb_in (lw_t3 (List.mem_of_getElem? (i := 73) rfl)) rfl
theorem wd_3_74 : Cond.methodLink "LevelTypesModel" 105 ⟨"LevelTypesModel", "isNode", "(IJJI)Z"⟩ ∈ tb := tb_in (lw_t3 (List.mem_of_getElem? (i := 74) (by decide +kernel))) rfl
theorem wd_3_75 : Cond.static ⟨"LevelTypesModel", "isNode", "(IJJI)Z"⟩ ∈ tb := tb_in (lw_t3 (List.mem_of_getElem? (i := 75) (by decide +kernel))) rfl
theorem wd_3_76 : Cond.code ⟨"LevelTypesModel", "isNode", "(IJJI)Z"⟩ prog_7_method_12_code 7 (some .boolean) ∈ tb := tb_in (lw_t3 (List.mem_of_getElem? (i := 76) rfl)) rfl
theorem wd_3_77 : Cond.methodLink "LevelTypesModel" 94 ⟨"LevelTypesModel", "hasFirst", "(I)Z"⟩ ∈ tb := tb_in (lw_t3 (List.mem_of_getElem? (i := 77) (by decide +kernel))) rfl
theorem wd_3_78 : Cond.static ⟨"LevelTypesModel", "hasFirst", "(I)Z"⟩ ∈ tb := tb_in (lw_t3 (List.mem_of_getElem? (i := 78) (by decide +kernel))) rfl
theorem wd_3_79 : Cond.code ⟨"LevelTypesModel", "hasFirst", "(I)Z"⟩ prog_7_method_10_code 1 (some .boolean) ∈ tb := tb_in (lw_t3 (List.mem_of_getElem? (i := 79) rfl)) rfl
theorem wd_3_80 : Cond.methodLink "LevelTypesModel" 98 ⟨"LevelTypesModel", "hasSecond", "(I)Z"⟩ ∈ tb := tb_in (lw_t3 (List.mem_of_getElem? (i := 80) (by decide +kernel))) rfl
theorem wd_3_81 : Cond.static ⟨"LevelTypesModel", "hasSecond", "(I)Z"⟩ ∈ tb := tb_in (lw_t3 (List.mem_of_getElem? (i := 81) (by decide +kernel))) rfl
theorem wd_3_82 : Cond.code ⟨"LevelTypesModel", "hasSecond", "(I)Z"⟩ prog_7_method_11_code 1 (some .boolean) ∈ tb := tb_in (lw_t3 (List.mem_of_getElem? (i := 82) rfl)) rfl
theorem wd_3_83 : Cond.methodLink "LevelTypesModel" 101 ⟨"LevelTypesModel", "due", "(I)I"⟩ ∈ tb := tb_in (lw_t3 (List.mem_of_getElem? (i := 83) (by decide +kernel))) rfl
theorem wd_3_84 : Cond.static ⟨"LevelTypesModel", "due", "(I)I"⟩ ∈ tb := tb_in (lw_t3 (List.mem_of_getElem? (i := 84) (by decide +kernel))) rfl
theorem wd_3_85 : Cond.code ⟨"LevelTypesModel", "due", "(I)I"⟩ prog_7_method_8_code 1 (some .int) ∈ tb := tb_in (lw_t3 (List.mem_of_getElem? (i := 85) rfl)) rfl
theorem wd_3_86 : Cond.methodLink "LevelTypesModel" 109 ⟨"LevelTypesModel", "isChangeable", "(II)Z"⟩ ∈ tb := tb_in (lw_t3 (List.mem_of_getElem? (i := 86) (by decide +kernel))) rfl
theorem wd_3_87 : Cond.static ⟨"LevelTypesModel", "isChangeable", "(II)Z"⟩ ∈ tb := tb_in (lw_t3 (List.mem_of_getElem? (i := 87) (by decide +kernel))) rfl
theorem wd_3_88 : Cond.code ⟨"LevelTypesModel", "isChangeable", "(II)Z"⟩ prog_7_method_9_code 2 (some .boolean) ∈ tb := tb_in (lw_t3 (List.mem_of_getElem? (i := 88) rfl)) rfl
theorem wd_3_89 : Cond.methodLink "LevelTypesLaw" 38 ⟨"LevelTypesModel", "check", "()I"⟩ ∈ tb := tb_in (lw_t3 (List.mem_of_getElem? (i := 89) (by decide +kernel))) rfl
theorem wd_3_90 : Cond.instanceMethod ⟨"LevelTypesModel", "check", "()I"⟩ ∈ tb := tb_in (lw_t3 (List.mem_of_getElem? (i := 90) (by decide +kernel))) rfl
theorem wd_3_91 : Cond.selects "LevelTypesModel" ⟨"LevelTypesModel", "check", "()I"⟩ ⟨"LevelTypesModel", "check", "()I"⟩ ∈ tb := tb_in (lw_t3 (List.mem_of_getElem? (i := 91) (by decide +kernel))) rfl
theorem wd_3_92 : Cond.code ⟨"LevelTypesModel", "check", "()I"⟩ prog_7_method_27_code 3 (some .int) ∈ tb := tb_in (lw_t3 (List.mem_of_getElem? (i := 92) rfl)) rfl
theorem wd_3_93 : Cond.methodLink "LevelTypesModel" 147 ⟨"LevelTypesModel", "isMain", "()Z"⟩ ∈ tb := tb_in (lw_t3 (List.mem_of_getElem? (i := 93) (by decide +kernel))) rfl
theorem wd_3_95 : Cond.instanceMethod ⟨"LevelTypesModel", "isMain", "()Z"⟩ ∈ tb := tb_in (lw_t3 (List.mem_of_getElem? (i := 95) (by decide +kernel))) rfl
theorem wd_3_96 : Cond.code ⟨"LevelTypesModel", "isMain", "()Z"⟩ prog_7_method_26_code 2 (some .boolean) ∈ tb := tb_in (lw_t3 (List.mem_of_getElem? (i := 96) rfl)) rfl
theorem wd_3_97 : Cond.constantLong "LevelTypesModel" 145 427310 ∈ tb := tb_in (lw_t3 (List.mem_of_getElem? (i := 97) (by decide +kernel))) rfl
theorem wd_3_98 : Cond.methodLink "LevelTypesModel" 126 ⟨"LevelTypesModel", "wrong", "(II)I"⟩ ∈ tb := tb_in (lw_t3 (List.mem_of_getElem? (i := 98) (by decide +kernel))) rfl
theorem wd_3_100 : Cond.instanceMethod ⟨"LevelTypesModel", "wrong", "(II)I"⟩ ∈ tb := tb_in (lw_t3 (List.mem_of_getElem? (i := 100) (by decide +kernel))) rfl
theorem wd_3_101 : Cond.code ⟨"LevelTypesModel", "wrong", "(II)I"⟩ prog_7_method_14_code 3 (some .int) ∈ tb := tb_in (lw_t3 (List.mem_of_getElem? (i := 101) rfl)) rfl
theorem wd_3_102 : Cond.methodLink "LevelTypesModel" 150 ⟨"LevelTypesModel", "comeTo", "(I)V"⟩ ∈ tb := tb_in (lw_t3 (List.mem_of_getElem? (i := 102) (by decide +kernel))) rfl
theorem wd_3_104 : Cond.instanceMethod ⟨"LevelTypesModel", "comeTo", "(I)V"⟩ ∈ tb := tb_in (lw_t3 (List.mem_of_getElem? (i := 104) (by decide +kernel))) rfl
theorem wd_3_105 : Cond.code ⟨"LevelTypesModel", "comeTo", "(I)V"⟩ prog_7_method_20_code 5 none ∈ tb := tb_in (lw_t3 (List.mem_of_getElem? (i := 105) rfl)) rfl
theorem wd_3_106 : Cond.methodLink "LevelTypesModel" 116 ⟨"LevelTypesModel", "there", "(I)I"⟩ ∈ tb := tb_in (lw_t3 (List.mem_of_getElem? (i := 106) (by decide +kernel))) rfl
theorem wd_3_108 : Cond.instanceMethod ⟨"LevelTypesModel", "there", "(I)I"⟩ ∈ tb := tb_in (lw_t3 (List.mem_of_getElem? (i := 108) (by decide +kernel))) rfl
theorem wd_3_109 : Cond.code ⟨"LevelTypesModel", "there", "(I)I"⟩ prog_7_method_16_code 4 (some .int) ∈ tb := tb_in (lw_t3 (List.mem_of_getElem? (i := 109) rfl)) rfl
theorem wd_3_110 : Cond.methodLink "LevelTypesModel" 113 ⟨"LevelTypesModel", "bindsIn", "(II)Z"⟩ ∈ tb := tb_in (lw_t3 (List.mem_of_getElem? (i := 110) (by decide +kernel))) rfl
theorem wd_3_112 : Cond.instanceMethod ⟨"LevelTypesModel", "bindsIn", "(II)Z"⟩ ∈ tb := tb_in (lw_t3 (List.mem_of_getElem? (i := 112) (by decide +kernel))) rfl
theorem wd_3_113 : Cond.code ⟨"LevelTypesModel", "bindsIn", "(II)Z"⟩ prog_7_method_15_code 4 (some .boolean) ∈ tb := tb_in (lw_t3 (List.mem_of_getElem? (i := 113) rfl)) rfl
theorem wd_3_114 : Cond.methodLink "LevelTypesModel" 122 ⟨"LevelTypesModel", "binderOf", "(IJ)I"⟩ ∈ tb := tb_in (lw_t3 (List.mem_of_getElem? (i := 114) (by decide +kernel))) rfl
theorem wd_3_116 : Cond.instanceMethod ⟨"LevelTypesModel", "binderOf", "(IJ)I"⟩ ∈ tb := tb_in (lw_t3 (List.mem_of_getElem? (i := 116) (by decide +kernel))) rfl
theorem wd_3_117 : Cond.code ⟨"LevelTypesModel", "binderOf", "(IJ)I"⟩ prog_7_method_17_code 6 (some .int) ∈ tb := tb_in (lw_t3 (List.mem_of_getElem? (i := 117) rfl)) rfl
theorem wd_3_118 : Cond.methodLink "LevelTypesModel" 130 ⟨"LevelTypesModel", "targetOf", "(I)I"⟩ ∈ tb := tb_in (lw_t3 (List.mem_of_getElem? (i := 118) (by decide +kernel))) rfl
theorem wd_3_120 : Cond.instanceMethod ⟨"LevelTypesModel", "targetOf", "(I)I"⟩ ∈ tb := tb_in (lw_t3 (List.mem_of_getElem? (i := 120) (by decide +kernel))) rfl
theorem wd_3_121 : Cond.code ⟨"LevelTypesModel", "targetOf", "(I)I"⟩ prog_7_method_18_code 4 (some .int) ∈ tb := tb_in (lw_t3 (List.mem_of_getElem? (i := 121) rfl)) rfl
theorem wd_3_122 : Cond.methodLink "LevelTypesModel" 154 ⟨"LevelTypesModel", "isEnd", "(III)Z"⟩ ∈ tb := tb_in (lw_t3 (List.mem_of_getElem? (i := 122) (by decide +kernel))) rfl
theorem wd_3_124 : Cond.instanceMethod ⟨"LevelTypesModel", "isEnd", "(III)Z"⟩ ∈ tb := tb_in (lw_t3 (List.mem_of_getElem? (i := 124) (by decide +kernel))) rfl
theorem wd_3_125 : Cond.code ⟨"LevelTypesModel", "isEnd", "(III)Z"⟩ prog_7_method_25_code 4 (some .boolean) ∈ tb := tb_in (lw_t3 (List.mem_of_getElem? (i := 125) rfl)) rfl
theorem wd_3_126 : Cond.methodLink "LevelTypesModel" 158 ⟨"LevelTypesModel", "leave", "(I)V"⟩ ∈ tb := tb_in (lw_t3 (List.mem_of_getElem? (i := 126) (by decide +kernel))) rfl
theorem wd_3_128 : Cond.instanceMethod ⟨"LevelTypesModel", "leave", "(I)V"⟩ ∈ tb := tb_in (lw_t3 (List.mem_of_getElem? (i := 128) (by decide +kernel))) rfl
theorem wd_3_129 : Cond.code ⟨"LevelTypesModel", "leave", "(I)V"⟩ prog_7_method_24_code 3 none ∈ tb := tb_in (lw_t3 (List.mem_of_getElem? (i := 129) rfl)) rfl
theorem wd_3_130 : Cond.methodLink "LevelTypesModel" 139 ⟨"LevelTypesModel", "typeOf", "(I)I"⟩ ∈ tb := tb_in (lw_t3 (List.mem_of_getElem? (i := 130) (by decide +kernel))) rfl
theorem wd_3_132 : Cond.instanceMethod ⟨"LevelTypesModel", "typeOf", "(I)I"⟩ ∈ tb := tb_in (lw_t3 (List.mem_of_getElem? (i := 132) (by decide +kernel))) rfl
theorem wd_3_133 : Cond.code ⟨"LevelTypesModel", "typeOf", "(I)I"⟩ prog_7_method_22_code 3 (some .int) ∈ tb := tb_in (lw_t3 (List.mem_of_getElem? (i := 133) rfl)) rfl
theorem wd_3_134 : Cond.methodLink "LevelTypesModel" 136 ⟨"LevelTypesModel", "typeOfVariable", "(I)I"⟩ ∈ tb := tb_in (lw_t3 (List.mem_of_getElem? (i := 134) (by decide +kernel))) rfl
theorem wd_3_136 : Cond.instanceMethod ⟨"LevelTypesModel", "typeOfVariable", "(I)I"⟩ ∈ tb := tb_in (lw_t3 (List.mem_of_getElem? (i := 136) (by decide +kernel))) rfl
theorem wd_3_137 : Cond.code ⟨"LevelTypesModel", "typeOfVariable", "(I)I"⟩ prog_7_method_21_code 4 (some .int) ∈ tb := tb_in (lw_t3 (List.mem_of_getElem? (i := 137) rfl)) rfl
theorem wd_3_138 : Cond.methodLink "LevelTypesModel" 133 ⟨"LevelTypesModel", "partOf", "(II)I"⟩ ∈ tb := tb_in (lw_t3 (List.mem_of_getElem? (i := 138) (by decide +kernel))) rfl
theorem wd_3_140 : Cond.instanceMethod ⟨"LevelTypesModel", "partOf", "(II)I"⟩ ∈ tb := tb_in (lw_t3 (List.mem_of_getElem? (i := 140) (by decide +kernel))) rfl
theorem wd_3_141 : Cond.code ⟨"LevelTypesModel", "partOf", "(II)I"⟩ prog_7_method_19_code 4 (some .int) ∈ tb := tb_in (lw_t3 (List.mem_of_getElem? (i := 141) rfl)) rfl
theorem wd_3_142 : Cond.methodLink "LevelTypesModel" 142 ⟨"LevelTypesModel", "canStand", "(II)Z"⟩ ∈ tb := tb_in (lw_t3 (List.mem_of_getElem? (i := 142) (by decide +kernel))) rfl
theorem wd_3_144 : Cond.instanceMethod ⟨"LevelTypesModel", "canStand", "(II)Z"⟩ ∈ tb := tb_in (lw_t3 (List.mem_of_getElem? (i := 144) (by decide +kernel))) rfl
theorem wd_3_145 : Cond.code ⟨"LevelTypesModel", "canStand", "(II)Z"⟩ prog_7_method_23_code 6 (some .boolean) ∈ tb := tb_in (lw_t3 (List.mem_of_getElem? (i := 145) rfl)) rfl
theorem wd_3_146 : Cond.methodLink "LevelTypesLaw" 43 ⟨"LevelTypesModel", "type", "(I)I"⟩ ∈ tb := tb_in (lw_t3 (List.mem_of_getElem? (i := 146) (by decide +kernel))) rfl
theorem wd_3_147 : Cond.instanceMethod ⟨"LevelTypesModel", "type", "(I)I"⟩ ∈ tb := tb_in (lw_t3 (List.mem_of_getElem? (i := 147) (by decide +kernel))) rfl
theorem wd_3_148 : Cond.selects "LevelTypesModel" ⟨"LevelTypesModel", "type", "(I)I"⟩ ⟨"LevelTypesModel", "type", "(I)I"⟩ ∈ tb := tb_in (lw_t3 (List.mem_of_getElem? (i := 148) (by decide +kernel))) rfl
theorem wd_3_149 : Cond.code ⟨"LevelTypesModel", "type", "(I)I"⟩ prog_7_method_29_code 2 (some .int) ∈ tb := tb_in (lw_t3 (List.mem_of_getElem? (i := 149) rfl)) rfl
theorem wd_3_150 : Cond.methodLink "LevelTypesModel" 161 ⟨"LevelTypesModel", "isKnown", "(I)Z"⟩ ∈ tb := tb_in (lw_t3 (List.mem_of_getElem? (i := 150) (by decide +kernel))) rfl
theorem wd_3_152 : Cond.instanceMethod ⟨"LevelTypesModel", "isKnown", "(I)Z"⟩ ∈ tb := tb_in (lw_t3 (List.mem_of_getElem? (i := 152) (by decide +kernel))) rfl
theorem wd_3_153 : Cond.code ⟨"LevelTypesModel", "isKnown", "(I)Z"⟩ prog_7_method_28_code 2 (some .boolean) ∈ tb := tb_in (lw_t3 (List.mem_of_getElem? (i := 153) rfl)) rfl
theorem wd_3_154 : Cond.methodLink "LevelTypesLaw" 47 ⟨"LevelTypesModel", "binder", "(I)I"⟩ ∈ tb := tb_in (lw_t3 (List.mem_of_getElem? (i := 154) (by decide +kernel))) rfl
theorem wd_3_155 : Cond.instanceMethod ⟨"LevelTypesModel", "binder", "(I)I"⟩ ∈ tb := tb_in (lw_t3 (List.mem_of_getElem? (i := 155) (by decide +kernel))) rfl
theorem wd_3_156 : Cond.selects "LevelTypesModel" ⟨"LevelTypesModel", "binder", "(I)I"⟩ ⟨"LevelTypesModel", "binder", "(I)I"⟩ ∈ tb := tb_in (lw_t3 (List.mem_of_getElem? (i := 156) (by decide +kernel))) rfl
theorem wd_3_157 : Cond.code ⟨"LevelTypesModel", "binder", "(I)I"⟩ prog_7_method_30_code 2 (some .int) ∈ tb := tb_in (lw_t3 (List.mem_of_getElem? (i := 157) rfl)) rfl
theorem wd_3_158 : Cond.methodLink "LevelTypesLaw" 51 ⟨"LevelTypesModel", "target", "(I)I"⟩ ∈ tb := tb_in (lw_t3 (List.mem_of_getElem? (i := 158) (by decide +kernel))) rfl
theorem wd_3_159 : Cond.instanceMethod ⟨"LevelTypesModel", "target", "(I)I"⟩ ∈ tb := tb_in (lw_t3 (List.mem_of_getElem? (i := 159) (by decide +kernel))) rfl
theorem wd_3_160 : Cond.selects "LevelTypesModel" ⟨"LevelTypesModel", "target", "(I)I"⟩ ⟨"LevelTypesModel", "target", "(I)I"⟩ ∈ tb := tb_in (lw_t3 (List.mem_of_getElem? (i := 160) (by decide +kernel))) rfl
theorem wd_3_161 : Cond.code ⟨"LevelTypesModel", "target", "(I)I"⟩ prog_7_method_31_code 2 (some .int) ∈ tb := tb_in (lw_t3 (List.mem_of_getElem? (i := 161) rfl)) rfl
theorem wd_3_162 : Cond.methodLink "LevelTypesLaw" 56 ⟨"LevelTypesModel", "of", "(II)I"⟩ ∈ tb := tb_in (lw_t3 (List.mem_of_getElem? (i := 162) (by decide +kernel))) rfl
theorem wd_3_163 : Cond.instanceMethod ⟨"LevelTypesModel", "of", "(II)I"⟩ ∈ tb := tb_in (lw_t3 (List.mem_of_getElem? (i := 163) (by decide +kernel))) rfl
theorem wd_3_164 : Cond.selects "LevelTypesModel" ⟨"LevelTypesModel", "of", "(II)I"⟩ ⟨"LevelTypesModel", "of", "(II)I"⟩ ∈ tb := tb_in (lw_t3 (List.mem_of_getElem? (i := 164) (by decide +kernel))) rfl
theorem wd_3_165 : Cond.code ⟨"LevelTypesModel", "of", "(II)I"⟩ prog_7_method_32_code 3 (some .int) ∈ tb := tb_in (lw_t3 (List.mem_of_getElem? (i := 165) rfl)) rfl
theorem wd_3_166 : Cond.methodLink "LevelTypesLaw" 60 ⟨"LevelTypesModel", "look", "(I)I"⟩ ∈ tb := tb_in (lw_t3 (List.mem_of_getElem? (i := 166) (by decide +kernel))) rfl
theorem wd_3_167 : Cond.instanceMethod ⟨"LevelTypesModel", "look", "(I)I"⟩ ∈ tb := tb_in (lw_t3 (List.mem_of_getElem? (i := 167) (by decide +kernel))) rfl
theorem wd_3_168 : Cond.selects "LevelTypesModel" ⟨"LevelTypesModel", "look", "(I)I"⟩ ⟨"LevelTypesModel", "look", "(I)I"⟩ ∈ tb := tb_in (lw_t3 (List.mem_of_getElem? (i := 168) (by decide +kernel))) rfl
theorem wd_3_169 : Cond.code ⟨"LevelTypesModel", "look", "(I)I"⟩ prog_7_method_33_code 2 (some .int) ∈ tb := tb_in (lw_t3 (List.mem_of_getElem? (i := 169) rfl)) rfl
theorem wd_3_170 : Cond.constantLong "LevelTypesLaw" 17 4294967295 ∈ tb := tb_in (lw_t3 (List.mem_of_getElem? (i := 170) (by decide +kernel))) rfl
theorem wd_3_173 : Cond.sameMethod "[Ljava/lang/Object;" "java/lang/Object" "getClass" "()Ljava/lang/Class;" ∈ tb := tb_in (lw_t3 (List.mem_of_getElem? (i := 173) (by decide +kernel))) rfl
theorem wd_3_174 : Cond.selects "[Ljava/lang/Object;" ⟨"java/lang/Object", "getClass", "()Ljava/lang/Class;"⟩ ⟨"java/lang/Object", "getClass", "()Ljava/lang/Class;"⟩ ∈ tb := tb_in (lw_t3 (List.mem_of_getElem? (i := 174) (by decide +kernel))) rfl
theorem wd_p1_0 : Cond.selects "LevelTypes" ⟨"LevelTypes", "lastIsWhole", "()Z"⟩ ⟨"LevelTypes", "lastIsWhole", "()Z"⟩ ∈ tb := tb_in (lw_s1 (List.mem_of_getElem? (i := 0) rfl)) rfl
theorem wd_p1_1 : Cond.selects "LevelTypes" ⟨"LevelTypes", "lastDefinition", "()LLevelTypes$Definition;"⟩ ⟨"LevelTypes", "lastDefinition", "()LLevelTypes$Definition;"⟩ ∈ tb := tb_in (lw_s1 (List.mem_of_getElem? (i := 1) rfl)) rfl
theorem wd_p1_2 : Cond.selects "LevelTypes" ⟨"LevelTypes", "definitionNamed", "(J)LLevelTypes$Definition;"⟩ ⟨"LevelTypes", "definitionNamed", "(J)LLevelTypes$Definition;"⟩ ∈ tb := tb_in (lw_s1 (List.mem_of_getElem? (i := 2) rfl)) rfl
theorem wd_p1_3 : Cond.selects "java/util/ArrayList" ⟨"java/util/ArrayList", "add", "(Ljava/lang/Object;[Ljava/lang/Object;I)V"⟩ ⟨"java/util/ArrayList", "add", "(Ljava/lang/Object;[Ljava/lang/Object;I)V"⟩ ∈ tb := tb_in (lw_s1 (List.mem_of_getElem? (i := 3) rfl)) rfl
theorem wd_p1_4 : Cond.selects "java/util/ArrayList" ⟨"java/util/ArrayList", "grow", "()[Ljava/lang/Object;"⟩ ⟨"java/util/ArrayList", "grow", "()[Ljava/lang/Object;"⟩ ∈ tb := tb_in (lw_s1 (List.mem_of_getElem? (i := 4) rfl)) rfl
theorem wd_p1_5 : Cond.selects "java/util/ArrayList" ⟨"java/util/ArrayList", "grow", "(I)[Ljava/lang/Object;"⟩ ⟨"java/util/ArrayList", "grow", "(I)[Ljava/lang/Object;"⟩ ∈ tb := tb_in (lw_s1 (List.mem_of_getElem? (i := 5) rfl)) rfl
theorem wd_p1_6 : Cond.selects "LevelTypes" ⟨"LevelTypes", "lookAtAll", "()V"⟩ ⟨"LevelTypes", "lookAtAll", "()V"⟩ ∈ tb := tb_in (lw_s1 (List.mem_of_getElem? (i := 6) rfl)) rfl
theorem wd_p1_7 : Cond.selects "LevelTypes" ⟨"LevelTypes", "endsInMain", "()Z"⟩ ⟨"LevelTypes", "endsInMain", "()Z"⟩ ∈ tb := tb_in (lw_s1 (List.mem_of_getElem? (i := 7) rfl)) rfl
theorem wd_p1_8 : Cond.selects "LevelTypes" ⟨"LevelTypes", "lookAt", "(LLevelTypes$Node;)V"⟩ ⟨"LevelTypes", "lookAt", "(LLevelTypes$Node;)V"⟩ ∈ tb := tb_in (lw_s1 (List.mem_of_getElem? (i := 8) rfl)) rfl
theorem wd_p1_9 : Cond.selects "LevelTypes" ⟨"LevelTypes", "arriveAt", "(LLevelTypes$Node;)Z"⟩ ⟨"LevelTypes", "arriveAt", "(LLevelTypes$Node;)Z"⟩ ∈ tb := tb_in (lw_s1 (List.mem_of_getElem? (i := 9) rfl)) rfl
theorem wd_p1_10 : Cond.selects "LevelTypes$Node" ⟨"LevelTypes$Node", "admits", "(II)Z"⟩ ⟨"LevelTypes$Node", "admits", "(II)Z"⟩ ∈ tb := tb_in (lw_s1 (List.mem_of_getElem? (i := 10) rfl)) rfl
theorem wd_p1_11 : Cond.selects "LevelTypes$Node" ⟨"LevelTypes$Node", "typeOfXAfter", "(I)I"⟩ ⟨"LevelTypes$Node", "typeOfXAfter", "(I)I"⟩ ∈ tb := tb_in (lw_s1 (List.mem_of_getElem? (i := 11) rfl)) rfl
theorem wd_p1_12 : Cond.selects "LevelTypes" ⟨"LevelTypes", "knownNode", "(I)LLevelTypes$Node;"⟩ ⟨"LevelTypes", "knownNode", "(I)LLevelTypes$Node;"⟩ ∈ tb := tb_in (lw_s1 (List.mem_of_getElem? (i := 12) rfl)) rfl
theorem wd_p1_13 : Cond.selects "LevelTypes" ⟨"LevelTypes", "nodeAt", "(I)LLevelTypes$Node;"⟩ ⟨"LevelTypes", "nodeAt", "(I)LLevelTypes$Node;"⟩ ∈ tb := tb_in (lw_s1 (List.mem_of_getElem? (i := 13) rfl)) rfl
theorem wd_p1_14 : Cond.selects "LevelTypesModel" ⟨"LevelTypesModel", "isWhole", "()Z"⟩ ⟨"LevelTypesModel", "isWhole", "()Z"⟩ ∈ tb := tb_in (lw_s1 (List.mem_of_getElem? (i := 14) rfl)) rfl
theorem wd_p1_15 : Cond.selects "LevelTypesModel" ⟨"LevelTypesModel", "lacking", "()I"⟩ ⟨"LevelTypesModel", "lacking", "()I"⟩ ∈ tb := tb_in (lw_s1 (List.mem_of_getElem? (i := 15) rfl)) rfl
theorem wd_p2_0 : Cond.selects "LevelTypesModel" ⟨"LevelTypesModel", "isMain", "()Z"⟩ ⟨"LevelTypesModel", "isMain", "()Z"⟩ ∈ tb := tb_in (lw_s2 (List.mem_of_getElem? (i := 0) rfl)) rfl
theorem wd_p2_1 : Cond.selects "LevelTypesModel" ⟨"LevelTypesModel", "wrong", "(II)I"⟩ ⟨"LevelTypesModel", "wrong", "(II)I"⟩ ∈ tb := tb_in (lw_s2 (List.mem_of_getElem? (i := 1) rfl)) rfl
theorem wd_p2_2 : Cond.selects "LevelTypesModel" ⟨"LevelTypesModel", "comeTo", "(I)V"⟩ ⟨"LevelTypesModel", "comeTo", "(I)V"⟩ ∈ tb := tb_in (lw_s2 (List.mem_of_getElem? (i := 2) rfl)) rfl
theorem wd_p2_3 : Cond.selects "LevelTypesModel" ⟨"LevelTypesModel", "there", "(I)I"⟩ ⟨"LevelTypesModel", "there", "(I)I"⟩ ∈ tb := tb_in (lw_s2 (List.mem_of_getElem? (i := 3) rfl)) rfl
theorem wd_p2_4 : Cond.selects "LevelTypesModel" ⟨"LevelTypesModel", "bindsIn", "(II)Z"⟩ ⟨"LevelTypesModel", "bindsIn", "(II)Z"⟩ ∈ tb := tb_in (lw_s2 (List.mem_of_getElem? (i := 4) rfl)) rfl
theorem wd_p2_5 : Cond.selects "LevelTypesModel" ⟨"LevelTypesModel", "binderOf", "(IJ)I"⟩ ⟨"LevelTypesModel", "binderOf", "(IJ)I"⟩ ∈ tb := tb_in (lw_s2 (List.mem_of_getElem? (i := 5) rfl)) rfl
theorem wd_p2_6 : Cond.selects "LevelTypesModel" ⟨"LevelTypesModel", "targetOf", "(I)I"⟩ ⟨"LevelTypesModel", "targetOf", "(I)I"⟩ ∈ tb := tb_in (lw_s2 (List.mem_of_getElem? (i := 6) rfl)) rfl
theorem wd_p2_7 : Cond.selects "LevelTypesModel" ⟨"LevelTypesModel", "isEnd", "(III)Z"⟩ ⟨"LevelTypesModel", "isEnd", "(III)Z"⟩ ∈ tb := tb_in (lw_s2 (List.mem_of_getElem? (i := 7) rfl)) rfl
theorem wd_p2_8 : Cond.selects "LevelTypesModel" ⟨"LevelTypesModel", "leave", "(I)V"⟩ ⟨"LevelTypesModel", "leave", "(I)V"⟩ ∈ tb := tb_in (lw_s2 (List.mem_of_getElem? (i := 8) rfl)) rfl
theorem wd_p2_9 : Cond.selects "LevelTypesModel" ⟨"LevelTypesModel", "typeOf", "(I)I"⟩ ⟨"LevelTypesModel", "typeOf", "(I)I"⟩ ∈ tb := tb_in (lw_s2 (List.mem_of_getElem? (i := 9) rfl)) rfl
theorem wd_p2_10 : Cond.selects "LevelTypesModel" ⟨"LevelTypesModel", "typeOfVariable", "(I)I"⟩ ⟨"LevelTypesModel", "typeOfVariable", "(I)I"⟩ ∈ tb := tb_in (lw_s2 (List.mem_of_getElem? (i := 10) rfl)) rfl
theorem wd_p2_11 : Cond.selects "LevelTypesModel" ⟨"LevelTypesModel", "partOf", "(II)I"⟩ ⟨"LevelTypesModel", "partOf", "(II)I"⟩ ∈ tb := tb_in (lw_s2 (List.mem_of_getElem? (i := 11) rfl)) rfl
theorem wd_p2_12 : Cond.selects "LevelTypesModel" ⟨"LevelTypesModel", "canStand", "(II)Z"⟩ ⟨"LevelTypesModel", "canStand", "(II)Z"⟩ ∈ tb := tb_in (lw_s2 (List.mem_of_getElem? (i := 12) rfl)) rfl
theorem wd_p2_13 : Cond.selects "LevelTypesModel" ⟨"LevelTypesModel", "isKnown", "(I)Z"⟩ ⟨"LevelTypesModel", "isKnown", "(I)Z"⟩ ∈ tb := tb_in (lw_s2 (List.mem_of_getElem? (i := 13) rfl)) rfl
theorem lk_AR_300 : ∀ w ∈ va_wsS "java/util/Arrays" 300 yy_AR_copyOf3 [Cond.code yy_AR_copyOf3 bb_AR_copyOf3 4 (some (.array (.object "java/lang/Object")))], w ∈ tb := lk_S wd_1_205 wd_1_206 wd_1_12 wd_1_207
theorem lk_AS_201 : ∀ w ∈ va_wsS "jdk/internal/util/ArraysSupport" 201 yy_AS_hugeLength [Cond.code yy_AS_hugeLength bb_AS_hugeLength 3 (some .int)], w ∈ tb := lk_S wd_1_190 wd_1_191 wd_1_10 wd_1_192
theorem lk_A_118 : ∀ w ∈ va_wsS "java/util/ArrayList" 118 yy_OB_checkIndex [Cond.code yy_OB_checkIndex bb_OB_checkIndex 2 (some .int)], w ∈ tb := lk_S wd_1_103 wd_1_104 wd_1_7 wd_1_105
theorem lk_A_123 : ∀ w ∈ wsV "java/util/ArrayList" 123 "java/util/ArrayList" yy_A_elementData [Cond.code yy_A_elementData bb_A_elementData 2 (some (.object "java/lang/Object"))], w ∈ tb := lk_V wd_1_109 wd_1_110 wd_1_111 wd_1_4 wd_1_112
theorem lk_A_129 : ∀ w ∈ wsV "java/util/ArrayList" 129 "java/util/ArrayList" yy_A_grow [Cond.code yy_A_grow bb_A_grow 1 (some (.array (.object "java/lang/Object")))], w ∈ tb := lk_V wd_1_175 wd_1_177 wd_p1_4 wd_1_4 wd_1_178
theorem lk_A_131 : ∀ w ∈ wsV "java/util/ArrayList" 131 "java/util/ArrayList" yy_A_add3 [Cond.code yy_A_add3 bb_A_add3 4 none], w ∈ tb := lk_V wd_1_171 wd_1_173 wd_p1_3 wd_1_4 wd_1_174
theorem lk_A_66 : ∀ w ∈ va_wsS "java/util/ArrayList" 66 yy_AR_copyOf [Cond.code yy_AR_copyOf bb_AR_copyOf 2 (some (.array (.object "java/lang/Object")))], w ∈ tb := lk_S wd_1_193 wd_1_194 wd_1_12 wd_1_195
theorem lk_A_69 : ∀ w ∈ wsV "java/util/ArrayList" 69 "java/util/ArrayList" yy_A_grow1 [Cond.code yy_A_grow1 bb_A_grow1 4 (some (.array (.object "java/lang/Object")))], w ∈ tb := lk_V wd_1_179 wd_1_181 wd_p1_5 wd_1_4 wd_1_182
theorem lk_A_73 : ∀ w ∈ va_wsS "java/util/ArrayList" 73 yy_AS_newLength [Cond.code yy_AS_newLength bb_AS_newLength 4 (some .int)], w ∈ tb := lk_S wd_1_183 wd_1_184 wd_1_10 wd_1_185
theorem lk_D_52 : ∀ w ∈ va_wsS "LevelTypes$Definition" 52 yy_K_wantsChange [Cond.code yy_K_wantsChange bb_K_wantsChange 2 (some .boolean)], w ∈ tb := lk_S wd_2_5 wd_2_6 wd_1_14 wd_2_7
theorem lk_K_11 : ∀ w ∈ va_wsS "LevelTypes$Kind" 11 yy_K_isKind [Cond.code yy_K_isKind bb_K_isKind 1 (some .boolean)], w ∈ tb := lk_S wd_2_11 wd_1_236 wd_1_14 wd_1_237
theorem lk_K_19 : ∀ w ∈ va_wsS "LevelTypes$Kind" 19 yy_K_isBinder [Cond.code yy_K_isBinder bb_K_isBinder 1 (some .boolean)], w ∈ tb := lk_S wd_2_17 wd_2_18 wd_1_14 wd_2_19
theorem lk_K_22 : ∀ w ∈ va_wsS "LevelTypes$Kind" 22 yy_K_isCall [Cond.code yy_K_isCall bb_K_isCall 1 (some .boolean)], w ∈ tb := lk_S wd_2_20 wd_2_21 wd_1_14 wd_2_22
theorem lk_K_25 : ∀ w ∈ va_wsS "LevelTypes$Kind" 25 yy_K_isCase [Cond.code yy_K_isCase bb_K_isCase 1 (some .boolean)], w ∈ tb := lk_S wd_2_23 wd_2_24 wd_1_14 wd_2_25
theorem lk_L_101 : ∀ w ∈ va_wsS "LevelTypes" 101 yy_K_partsFit [Cond.code yy_K_partsFit bb_K_partsFit 2 (some .boolean)], w ∈ tb := lk_S wd_2_8 wd_2_9 wd_1_14 wd_2_10
theorem lk_L_105 : ∀ w ∈ va_wsS "LevelTypes" 105 yy_K_namesFit [Cond.code yy_K_namesFit bb_K_namesFit 8 (some .boolean)], w ∈ tb := lk_S wd_2_14 wd_2_15 wd_1_14 wd_2_16
theorem lk_L_114 : ∀ w ∈ wsV "LevelTypes" 114 "LevelTypes$Definition" yy_D_take [Cond.code yy_D_take bb_D_take 2 none], w ∈ tb := lk_V wd_2_90 wd_2_91 wd_2_92 wd_1_9 wd_2_93
theorem lk_L_119 : ∀ w ∈ wsV "LevelTypes" 119 "LevelTypes" yy_L_lookAtAll [Cond.code yy_L_lookAtAll bb_L_lookAtAll 2 none], w ∈ tb := lk_V wd_2_98 wd_2_100 wd_p1_6 wd_1_1 wd_2_101
theorem lk_L_122 : ∀ w ∈ wsV "LevelTypes" 122 "LevelTypes" yy_L_knownNode [Cond.code yy_L_knownNode bb_L_knownNode 2 (some (.object "LevelTypes$Node"))], w ∈ tb := lk_V wd_2_183 wd_2_185 wd_p1_12 wd_1_1 wd_2_186
theorem lk_L_136 : ∀ w ∈ wsV "LevelTypes" 136 "LevelTypes" yy_L_nodeAt [Cond.code yy_L_nodeAt bb_L_nodeAt 2 (some (.object "LevelTypes$Node"))], w ∈ tb := lk_V wd_2_187 wd_2_189 wd_p1_13 wd_1_1 wd_2_190
theorem lk_L_152 : ∀ w ∈ wsV "LevelTypes" 152 "java/util/ArrayList" yy_A_get [Cond.code yy_A_get bb_A_get 2 (some (.object "java/lang/Object"))], w ∈ tb := lk_V wd_1_99 wd_1_100 wd_1_101 wd_1_4 wd_1_102
theorem lk_L_160 : ∀ w ∈ wsV "LevelTypes" 160 "LevelTypes" yy_L_endsInMain [Cond.code yy_L_endsInMain bb_L_endsInMain 2 (some .boolean)], w ∈ tb := lk_V wd_2_102 wd_2_104 wd_p1_7 wd_1_1 wd_2_105
theorem lk_L_163 : ∀ w ∈ wsV "LevelTypes" 163 "LevelTypes" yy_L_lookAt [Cond.code yy_L_lookAt bb_L_lookAt 3 none], w ∈ tb := lk_V wd_2_111 wd_2_113 wd_p1_8 wd_1_1 wd_2_114
theorem lk_L_172 : ∀ w ∈ wsV "LevelTypes" 172 "LevelTypes$Definition" yy_D_parameterType [Cond.code yy_D_parameterType bb_D_parameterType 2 (some .int)], w ∈ tb := lk_V wd_2_107 wd_2_108 wd_2_109 wd_1_9 wd_2_110
theorem lk_L_176 : ∀ w ∈ wsV "LevelTypes" 176 "LevelTypes" yy_L_arriveAt [Cond.code yy_L_arriveAt bb_L_arriveAt 2 (some .boolean)], w ∈ tb := lk_V wd_2_115 wd_2_117 wd_p1_9 wd_1_1 wd_2_118
theorem lk_L_189 : ∀ w ∈ va_wsS "LevelTypes" 189 yy_L_firstMisfit [Cond.code yy_L_firstMisfit bb_L_firstMisfit 2 (some (.object "LevelTypes$Node"))], w ∈ tb := lk_S wd_2_152 wd_2_153 wd_1_1 wd_2_154
theorem lk_L_193 : ∀ w ∈ wsV "LevelTypes" 193 "LevelTypes$Node" yy_N_countVariables [Cond.code yy_N_countVariables bb_N_countVariables 1 none], w ∈ tb := lk_V wd_2_119 wd_2_120 wd_2_121 wd_1_15 wd_2_122
theorem lk_L_196 : ∀ w ∈ wsV "LevelTypes" 196 "LevelTypes$Node" yy_N_bind [Cond.code yy_N_bind bb_N_bind 3 (some .boolean)], w ∈ tb := lk_V wd_2_133 wd_2_134 wd_2_135 wd_1_15 wd_2_136
theorem lk_L_199 : ∀ w ∈ va_wsS "LevelTypes" 199 yy_K_isCall [Cond.code yy_K_isCall bb_K_isCall 1 (some .boolean)], w ∈ tb := lk_S wd_2_143 wd_2_21 wd_1_14 wd_2_22
theorem lk_L_205 : ∀ w ∈ wsV "LevelTypes" 205 "LevelTypes$Node" yy_N_aimAt [Cond.code yy_N_aimAt bb_N_aimAt 3 (some .boolean)], w ∈ tb := lk_V wd_2_144 wd_2_145 wd_2_146 wd_1_15 wd_2_147
theorem lk_L_209 : ∀ w ∈ va_wsS "LevelTypes" 209 yy_K_ownType [Cond.code yy_K_ownType bb_K_ownType 1 (some .int)], w ∈ tb := lk_S wd_2_148 wd_2_149 wd_1_14 wd_2_150
theorem lk_L_212 : ∀ w ∈ wsV "LevelTypes" 212 "LevelTypes$Node" yy_N_fits [Cond.code yy_N_fits bb_N_fits 1 (some .boolean)], w ∈ tb := lk_V wd_2_155 wd_2_156 wd_2_157 wd_1_15 wd_2_158
theorem lk_L_218 : ∀ w ∈ wsV "LevelTypes" 218 "LevelTypes$Node" yy_N_hearOf [Cond.code yy_N_hearOf bb_N_hearOf 3 none], w ∈ tb := lk_V wd_2_164 wd_2_165 wd_2_166 wd_1_15 wd_2_167
theorem lk_L_222 : ∀ w ∈ wsV "LevelTypes" 222 "LevelTypes$Node" yy_N_isLastPart [Cond.code yy_N_isLastPart bb_N_isLastPart 1 (some .boolean)], w ∈ tb := lk_V wd_2_178 wd_2_124 wd_2_125 wd_1_15 wd_2_126
theorem lk_L_33 : ∀ w ∈ wsV "LevelTypes" 33 "java/util/ArrayList" yy_A_clear [Cond.code yy_A_clear bb_A_clear 4 none], w ∈ tb := lk_V wd_1_73 wd_1_74 wd_1_75 wd_1_4 wd_1_76
theorem lk_L_36 : ∀ w ∈ va_wsS "LevelTypes" 36 yy_T_isWritten [Cond.code yy_T_isWritten bb_T_isWritten 1 (some .boolean)], w ∈ tb := lk_S wd_1_81 wd_1_82 wd_1_6 wd_1_83
theorem lk_L_42 : ∀ w ∈ va_wsS "LevelTypes" 42 yy_T_isType [Cond.code yy_T_isType bb_T_isType 1 (some .boolean)], w ∈ tb := lk_S wd_1_84 wd_1_85 wd_1_6 wd_1_86
theorem lk_L_45 : ∀ w ∈ wsV "LevelTypes" 45 "LevelTypes" yy_L_lastIsWhole [Cond.code yy_L_lastIsWhole bb_L_lastIsWhole 2 (some .boolean)], w ∈ tb := lk_V wd_1_87 wd_1_89 wd_p1_0 wd_1_1 wd_1_90
theorem lk_L_49 : ∀ w ∈ wsV "LevelTypes" 49 "java/util/ArrayList" yy_A_size [Cond.code yy_A_size bb_A_size 1 (some .int)], w ∈ tb := lk_V wd_1_95 wd_1_96 wd_1_97 wd_1_4 wd_1_98
theorem lk_L_53 : ∀ w ∈ wsV "LevelTypes" 53 "LevelTypes" yy_L_definitionNamed [Cond.code yy_L_definitionNamed bb_L_definitionNamed 5 (some (.object "LevelTypes$Definition"))], w ∈ tb := lk_V wd_1_118 wd_1_120 wd_p1_2 wd_1_1 wd_1_121
theorem lk_L_62 : ∀ w ∈ wsV "LevelTypes" 62 "java/util/ArrayList" yy_A_add [Cond.code yy_A_add bb_A_add 2 (some .boolean)], w ∈ tb := lk_V wd_1_167 wd_1_168 wd_1_169 wd_1_4 wd_1_170
theorem lk_L_69 : ∀ w ∈ wsV "LevelTypes" 69 "LevelTypes" yy_L_lastDefinition [Cond.code yy_L_lastDefinition bb_L_lastDefinition 2 (some (.object "LevelTypes$Definition"))], w ∈ tb := lk_V wd_1_91 wd_1_93 wd_p1_1 wd_1_1 wd_1_94
theorem lk_L_79 : ∀ w ∈ wsV "LevelTypes" 79 "LevelTypes$Definition" yy_D_indexOfParameter [Cond.code yy_D_indexOfParameter bb_D_indexOfParameter 4 (some .int)], w ∈ tb := lk_V wd_1_223 wd_1_224 wd_1_225 wd_1_9 wd_1_226
theorem lk_L_83 : ∀ w ∈ wsV "LevelTypes" 83 "LevelTypes$Definition" yy_D_addParameter [Cond.code yy_D_addParameter bb_D_addParameter 4 none], w ∈ tb := lk_V wd_1_227 wd_1_228 wd_1_229 wd_1_9 wd_1_230
theorem lk_L_87 : ∀ w ∈ wsV "LevelTypes" 87 "LevelTypes$Definition" yy_D_isWhole [Cond.code yy_D_isWhole bb_D_isWhole 1 (some .boolean)], w ∈ tb := lk_V wd_1_114 wd_1_115 wd_1_116 wd_1_9 wd_1_117
theorem lk_L_90 : ∀ w ∈ va_wsS "LevelTypes" 90 yy_K_isKind [Cond.code yy_K_isKind bb_K_isKind 1 (some .boolean)], w ∈ tb := lk_S wd_1_235 wd_1_236 wd_1_14 wd_1_237
theorem lk_L_95 : ∀ w ∈ va_wsS "LevelTypes" 95 yy_K_isChange [Cond.code yy_K_isChange bb_K_isChange 1 (some .boolean)], w ∈ tb := lk_S wd_1_238 wd_1_239 wd_1_14 wd_2_0
theorem lk_L_98 : ∀ w ∈ wsV "LevelTypes" 98 "LevelTypes$Definition" yy_D_wantsChange [Cond.code yy_D_wantsChange bb_D_wantsChange 1 (some .boolean)], w ∈ tb := lk_V wd_2_1 wd_2_2 wd_2_3 wd_1_9 wd_2_4
theorem lk_M_101 : ∀ w ∈ va_wsS "LevelTypesModel" 101 yy_M_due [Cond.code yy_M_due bb_M_due 1 (some .int)], w ∈ tb := lk_S wd_3_83 wd_3_84 wd_1_5 wd_3_85
theorem lk_M_105 : ∀ w ∈ va_wsS "LevelTypesModel" 105 yy_M_isNode [Cond.code yy_M_isNode bb_M_isNode 7 (some .boolean)], w ∈ tb := lk_S wd_3_74 wd_3_75 wd_1_5 wd_3_76
theorem lk_M_109 : ∀ w ∈ va_wsS "LevelTypesModel" 109 yy_M_isChangeable [Cond.code yy_M_isChangeable bb_M_isChangeable 2 (some .boolean)], w ∈ tb := lk_S wd_3_86 wd_3_87 wd_1_5 wd_3_88
theorem lk_M_113 : ∀ w ∈ wsV "LevelTypesModel" 113 "LevelTypesModel" yy_M_bindsIn [Cond.code yy_M_bindsIn bb_M_bindsIn 4 (some .boolean)], w ∈ tb := lk_V wd_3_110 wd_3_112 wd_p2_4 wd_1_5 wd_3_113
theorem lk_M_116 : ∀ w ∈ wsV "LevelTypesModel" 116 "LevelTypesModel" yy_M_there [Cond.code yy_M_there bb_M_there 4 (some .int)], w ∈ tb := lk_V wd_3_106 wd_3_108 wd_p2_3 wd_1_5 wd_3_109
theorem lk_M_122 : ∀ w ∈ wsV "LevelTypesModel" 122 "LevelTypesModel" yy_M_binderOf [Cond.code yy_M_binderOf bb_M_binderOf 6 (some .int)], w ∈ tb := lk_V wd_3_114 wd_3_116 wd_p2_5 wd_1_5 wd_3_117
theorem lk_M_126 : ∀ w ∈ wsV "LevelTypesModel" 126 "LevelTypesModel" yy_M_wrong [Cond.code yy_M_wrong bb_M_wrong 3 (some .int)], w ∈ tb := lk_V wd_3_98 wd_3_100 wd_p2_1 wd_1_5 wd_3_101
theorem lk_M_130 : ∀ w ∈ wsV "LevelTypesModel" 130 "LevelTypesModel" yy_M_targetOf [Cond.code yy_M_targetOf bb_M_targetOf 4 (some .int)], w ∈ tb := lk_V wd_3_118 wd_3_120 wd_p2_6 wd_1_5 wd_3_121
theorem lk_M_133 : ∀ w ∈ wsV "LevelTypesModel" 133 "LevelTypesModel" yy_M_partOf [Cond.code yy_M_partOf bb_M_partOf 4 (some .int)], w ∈ tb := lk_V wd_3_138 wd_3_140 wd_p2_11 wd_1_5 wd_3_141
theorem lk_M_136 : ∀ w ∈ wsV "LevelTypesModel" 136 "LevelTypesModel" yy_M_typeOfVariable [Cond.code yy_M_typeOfVariable bb_M_typeOfVariable 4 (some .int)], w ∈ tb := lk_V wd_3_134 wd_3_136 wd_p2_10 wd_1_5 wd_3_137
theorem lk_M_139 : ∀ w ∈ wsV "LevelTypesModel" 139 "LevelTypesModel" yy_M_typeOf [Cond.code yy_M_typeOf bb_M_typeOf 3 (some .int)], w ∈ tb := lk_V wd_3_130 wd_3_132 wd_p2_9 wd_1_5 wd_3_133
theorem lk_M_142 : ∀ w ∈ wsV "LevelTypesModel" 142 "LevelTypesModel" yy_M_canStand [Cond.code yy_M_canStand bb_M_canStand 6 (some .boolean)], w ∈ tb := lk_V wd_3_142 wd_3_144 wd_p2_12 wd_1_5 wd_3_145
theorem lk_M_147 : ∀ w ∈ wsV "LevelTypesModel" 147 "LevelTypesModel" yy_M_isMain [Cond.code yy_M_isMain bb_M_isMain 2 (some .boolean)], w ∈ tb := lk_V wd_3_93 wd_3_95 wd_p2_0 wd_1_5 wd_3_96
theorem lk_M_150 : ∀ w ∈ wsV "LevelTypesModel" 150 "LevelTypesModel" yy_M_comeTo [Cond.code yy_M_comeTo bb_M_comeTo 5 none], w ∈ tb := lk_V wd_3_102 wd_3_104 wd_p2_2 wd_1_5 wd_3_105
theorem lk_M_154 : ∀ w ∈ wsV "LevelTypesModel" 154 "LevelTypesModel" yy_M_isEnd [Cond.code yy_M_isEnd bb_M_isEnd 4 (some .boolean)], w ∈ tb := lk_V wd_3_122 wd_3_124 wd_p2_7 wd_1_5 wd_3_125
theorem lk_M_158 : ∀ w ∈ wsV "LevelTypesModel" 158 "LevelTypesModel" yy_M_leave [Cond.code yy_M_leave bb_M_leave 3 none], w ∈ tb := lk_V wd_3_126 wd_3_128 wd_p2_8 wd_1_5 wd_3_129
theorem lk_M_161 : ∀ w ∈ wsV "LevelTypesModel" 161 "LevelTypesModel" yy_M_isKnown [Cond.code yy_M_isKnown bb_M_isKnown 2 (some .boolean)], w ∈ tb := lk_V wd_3_150 wd_3_152 wd_p2_13 wd_1_5 wd_3_153
theorem lk_M_86 : ∀ w ∈ wsV "LevelTypesModel" 86 "LevelTypesModel" yy_M_lacking [Cond.code yy_M_lacking bb_M_lacking 2 (some .int)], w ∈ tb := lk_V wd_3_62 wd_3_64 wd_p1_15 wd_1_5 wd_3_65
theorem lk_M_90 : ∀ w ∈ wsV "LevelTypesModel" 90 "LevelTypesModel" yy_M_isWhole [Cond.code yy_M_isWhole bb_M_isWhole 1 (some .boolean)], w ∈ tb := lk_V wd_3_58 wd_3_60 wd_p1_14 wd_1_5 wd_3_61
theorem lk_M_94 : ∀ w ∈ va_wsS "LevelTypesModel" 94 yy_M_hasFirst [Cond.code yy_M_hasFirst bb_M_hasFirst 1 (some .boolean)], w ∈ tb := lk_S wd_3_77 wd_3_78 wd_1_5 wd_3_79
theorem lk_M_98 : ∀ w ∈ va_wsS "LevelTypesModel" 98 yy_M_hasSecond [Cond.code yy_M_hasSecond bb_M_hasSecond 1 (some .boolean)], w ∈ tb := lk_S wd_3_80 wd_3_81 wd_1_5 wd_3_82
theorem lk_N_101 : ∀ w ∈ wsV "LevelTypes$Node" 101 "LevelTypes$Node" yy_N_admits [Cond.code yy_N_admits bb_N_admits 3 (some .boolean)], w ∈ tb := lk_V wd_2_159 wd_2_161 wd_p1_10 wd_1_15 wd_2_162
theorem lk_N_105 : ∀ w ∈ va_wsS "LevelTypes$Node" 105 yy_T_isWritten [Cond.code yy_T_isWritten bb_T_isWritten 1 (some .boolean)], w ∈ tb := lk_S wd_2_163 wd_1_82 wd_1_6 wd_1_83
theorem lk_N_108 : ∀ w ∈ wsV "LevelTypes$Node" 108 "LevelTypes$Node" yy_N_typeOfXAfter [Cond.code yy_N_typeOfXAfter bb_N_typeOfXAfter 2 (some .int)], w ∈ tb := lk_V wd_2_168 wd_2_170 wd_p1_11 wd_1_15 wd_2_171
theorem lk_N_111 : ∀ w ∈ va_wsS "LevelTypes$Node" 111 yy_K_isAsLastPart [Cond.code yy_K_isAsLastPart bb_K_isAsLastPart 1 (some .boolean)], w ∈ tb := lk_S wd_2_175 wd_2_176 wd_1_14 wd_2_177
theorem lk_N_114 : ∀ w ∈ va_wsS "LevelTypes$Node" 114 yy_K_isLet [Cond.code yy_K_isLet bb_K_isLet 1 (some .boolean)], w ∈ tb := lk_S wd_2_172 wd_2_173 wd_1_14 wd_2_174
theorem lk_N_65 : ∀ w ∈ wsV "LevelTypes$Node" 65 "LevelTypes$Node" yy_N_isLastPart [Cond.code yy_N_isLastPart bb_N_isLastPart 1 (some .boolean)], w ∈ tb := lk_V wd_2_123 wd_2_124 wd_2_125 wd_1_15 wd_2_126
theorem lk_N_69 : ∀ w ∈ wsV "LevelTypes$Node" 69 "LevelTypes$Node" yy_N_variablesOfLastPart [Cond.code yy_N_variablesOfLastPart bb_N_variablesOfLastPart 1 (some .int)], w ∈ tb := lk_V wd_2_127 wd_2_128 wd_2_129 wd_1_15 wd_2_130
theorem lk_N_73 : ∀ w ∈ va_wsS "LevelTypes$Node" 73 yy_K_isBinder [Cond.code yy_K_isBinder bb_K_isBinder 1 (some .boolean)], w ∈ tb := lk_S wd_2_131 wd_2_18 wd_1_14 wd_2_19
theorem lk_N_79 : ∀ w ∈ va_wsS "LevelTypes$Node" 79 yy_K_isCase [Cond.code yy_K_isCase bb_K_isCase 1 (some .boolean)], w ∈ tb := lk_S wd_2_132 wd_2_24 wd_1_14 wd_2_25
theorem lk_N_82 : ∀ w ∈ wsV "LevelTypes$Node" 82 "LevelTypes$Node" yy_N_bindsInLastPart [Cond.code yy_N_bindsInLastPart bb_N_bindsInLastPart 3 (some .boolean)], w ∈ tb := lk_V wd_2_137 wd_2_138 wd_2_139 wd_1_15 wd_2_140
theorem lk_N_88 : ∀ w ∈ wsV "LevelTypes$Node" 88 "LevelTypes$Definition" yy_D_indexOfParameter [Cond.code yy_D_indexOfParameter bb_D_indexOfParameter 4 (some .int)], w ∈ tb := lk_V wd_2_141 wd_1_224 wd_1_225 wd_1_9 wd_1_226
theorem lk_N_92 : ∀ w ∈ wsV "LevelTypes$Node" 92 "LevelTypes$Definition" yy_D_parameterType [Cond.code yy_D_parameterType bb_D_parameterType 2 (some .int)], w ∈ tb := lk_V wd_2_142 wd_2_108 wd_2_109 wd_1_9 wd_2_110
theorem lk_OB_105 : ∀ w ∈ va_wsS "java/util/Objects" 105 yy_PC_checkIndex [Cond.code yy_PC_checkIndex bb_PC_checkIndex 3 (some .int)], w ∈ tb := lk_S wd_1_106 wd_1_107 wd_1_8 wd_1_108
theorem lk_W_13 : ∀ w ∈ wsV "LevelTypesLaw" 13 "LevelTypes" yy_L_clear [Cond.code yy_L_clear bb_L_clear 1 none], w ∈ tb := lk_V wd_1_69 wd_1_70 wd_1_71 wd_1_1 wd_1_72
theorem lk_W_16 : ∀ w ∈ wsV "LevelTypesLaw" 16 "LevelTypesModel" yy_M_clear [Cond.code yy_M_clear bb_M_clear 1 none], w ∈ tb := lk_V wd_3_50 wd_3_51 wd_3_52 wd_1_5 wd_3_53
theorem lk_W_19 : ∀ w ∈ wsV "LevelTypesLaw" 19 "LevelTypes" yy_L_define [Cond.code yy_L_define bb_L_define 7 (some .int)], w ∈ tb := lk_V wd_1_77 wd_1_78 wd_1_79 wd_1_1 wd_1_80
theorem lk_W_23 : ∀ w ∈ wsV "LevelTypesLaw" 23 "LevelTypesModel" yy_M_define [Cond.code yy_M_define bb_M_define 7 (some .int)], w ∈ tb := lk_V wd_3_54 wd_3_55 wd_3_56 wd_1_5 wd_3_57
theorem lk_W_24 : ∀ w ∈ wsV "LevelTypesLaw" 24 "LevelTypes" yy_L_parameter [Cond.code yy_L_parameter bb_L_parameter 5 (some .int)], w ∈ tb := lk_V wd_1_219 wd_1_220 wd_1_221 wd_1_1 wd_1_222
theorem lk_W_28 : ∀ w ∈ wsV "LevelTypesLaw" 28 "LevelTypesModel" yy_M_parameter [Cond.code yy_M_parameter bb_M_parameter 6 (some .int)], w ∈ tb := lk_V wd_3_66 wd_3_67 wd_3_68 wd_1_5 wd_3_69
theorem lk_W_29 : ∀ w ∈ wsV "LevelTypesLaw" 29 "LevelTypes" yy_L_node [Cond.code yy_L_node bb_L_node 9 (some .int)], w ∈ tb := lk_V wd_1_231 wd_1_232 wd_1_233 wd_1_1 wd_1_234
theorem lk_W_33 : ∀ w ∈ wsV "LevelTypesLaw" 33 "LevelTypesModel" yy_M_node [Cond.code yy_M_node bb_M_node 12 (some .int)], w ∈ tb := lk_V wd_3_70 wd_3_71 wd_3_72 wd_1_5 wd_3_73
theorem lk_W_34 : ∀ w ∈ wsV "LevelTypesLaw" 34 "LevelTypes" yy_L_check [Cond.code yy_L_check bb_L_check 1 (some .int)], w ∈ tb := lk_V wd_2_94 wd_2_95 wd_2_96 wd_1_1 wd_2_97
theorem lk_W_38 : ∀ w ∈ wsV "LevelTypesLaw" 38 "LevelTypesModel" yy_M_check [Cond.code yy_M_check bb_M_check 3 (some .int)], w ∈ tb := lk_V wd_3_89 wd_3_90 wd_3_91 wd_1_5 wd_3_92
theorem lk_W_39 : ∀ w ∈ wsV "LevelTypesLaw" 39 "LevelTypes" yy_L_type [Cond.code yy_L_type bb_L_type 3 (some .int)], w ∈ tb := lk_V wd_2_179 wd_2_180 wd_2_181 wd_1_1 wd_2_182
theorem lk_W_43 : ∀ w ∈ wsV "LevelTypesLaw" 43 "LevelTypesModel" yy_M_type [Cond.code yy_M_type bb_M_type 2 (some .int)], w ∈ tb := lk_V wd_3_146 wd_3_147 wd_3_148 wd_1_5 wd_3_149
theorem lk_W_44 : ∀ w ∈ wsV "LevelTypesLaw" 44 "LevelTypes" yy_L_binder [Cond.code yy_L_binder bb_L_binder 3 (some .int)], w ∈ tb := lk_V wd_2_191 wd_2_192 wd_2_193 wd_1_1 wd_2_194
theorem lk_W_47 : ∀ w ∈ wsV "LevelTypesLaw" 47 "LevelTypesModel" yy_M_binder [Cond.code yy_M_binder bb_M_binder 2 (some .int)], w ∈ tb := lk_V wd_3_154 wd_3_155 wd_3_156 wd_1_5 wd_3_157
theorem lk_W_48 : ∀ w ∈ wsV "LevelTypesLaw" 48 "LevelTypes" yy_L_target [Cond.code yy_L_target bb_L_target 3 (some .int)], w ∈ tb := lk_V wd_2_195 wd_2_196 wd_2_197 wd_1_1 wd_2_198
theorem lk_W_51 : ∀ w ∈ wsV "LevelTypesLaw" 51 "LevelTypesModel" yy_M_target [Cond.code yy_M_target bb_M_target 2 (some .int)], w ∈ tb := lk_V wd_3_158 wd_3_159 wd_3_160 wd_1_5 wd_3_161
theorem lk_W_52 : ∀ w ∈ wsV "LevelTypesLaw" 52 "LevelTypes" yy_L_of [Cond.code yy_L_of bb_L_of 4 (some .int)], w ∈ tb := lk_V wd_2_199 wd_2_200 wd_2_201 wd_1_1 wd_2_202
theorem lk_W_56 : ∀ w ∈ wsV "LevelTypesLaw" 56 "LevelTypesModel" yy_M_of [Cond.code yy_M_of bb_M_of 3 (some .int)], w ∈ tb := lk_V wd_3_162 wd_3_163 wd_3_164 wd_1_5 wd_3_165
theorem lk_W_57 : ∀ w ∈ wsV "LevelTypesLaw" 57 "LevelTypes" yy_L_look [Cond.code yy_L_look bb_L_look 2 (some .int)], w ∈ tb := lk_V wd_2_203 wd_2_204 wd_2_205 wd_1_1 wd_2_206
theorem lk_W_60 : ∀ w ∈ wsV "LevelTypesLaw" 60 "LevelTypesModel" yy_M_look [Cond.code yy_M_look bb_M_look 2 (some .int)], w ∈ tb := lk_V wd_3_166 wd_3_167 wd_3_168 wd_1_5 wd_3_169
theorem ii_L : ∀ w ∈ u_ws RR_L FF_L 6, w ∈ tb := List.forall_mem_cons.mpr ⟨wd_1_56, List.forall_mem_cons.mpr ⟨wd_1_58, List.forall_mem_cons.mpr ⟨wd_1_60, List.forall_mem_cons.mpr ⟨wd_1_62, List.forall_mem_cons.mpr ⟨wd_1_64, List.forall_mem_cons.mpr ⟨wd_1_66, fun _ h => absurd h List.not_mem_nil⟩⟩⟩⟩⟩⟩
theorem ii_D : ∀ w ∈ u_ws RR_D FF_D 9, w ∈ tb := List.forall_mem_cons.mpr ⟨wd_1_146, List.forall_mem_cons.mpr ⟨wd_1_148, List.forall_mem_cons.mpr ⟨wd_1_150, List.forall_mem_cons.mpr ⟨wd_1_152, List.forall_mem_cons.mpr ⟨wd_1_154, List.forall_mem_cons.mpr ⟨wd_1_156, List.forall_mem_cons.mpr ⟨wd_1_158, List.forall_mem_cons.mpr ⟨wd_1_160, List.forall_mem_cons.mpr ⟨wd_1_162, fun _ h => absurd h List.not_mem_nil⟩⟩⟩⟩⟩⟩⟩⟩⟩
theorem ii_N : ∀ w ∈ u_ws RR_N FF_N 14, w ∈ tb := List.forall_mem_cons.mpr ⟨wd_2_61, List.forall_mem_cons.mpr ⟨wd_2_63, List.forall_mem_cons.mpr ⟨wd_2_65, List.forall_mem_cons.mpr ⟨wd_2_67, List.forall_mem_cons.mpr ⟨wd_2_69, List.forall_mem_cons.mpr ⟨wd_2_71, List.forall_mem_cons.mpr ⟨wd_2_73, List.forall_mem_cons.mpr ⟨wd_2_75, List.forall_mem_cons.mpr ⟨wd_2_77, List.forall_mem_cons.mpr ⟨wd_2_79, List.forall_mem_cons.mpr ⟨wd_2_81, List.forall_mem_cons.mpr ⟨wd_2_83, List.forall_mem_cons.mpr ⟨wd_2_85, List.forall_mem_cons.mpr ⟨wd_2_87, fun _ h => absurd h List.not_mem_nil⟩⟩⟩⟩⟩⟩⟩⟩⟩⟩⟩⟩⟩⟩
theorem ii_A : ∀ w ∈ u_ws RR_A FF_A 3, w ∈ tb := List.forall_mem_cons.mpr ⟨wd_1_47, List.forall_mem_cons.mpr ⟨wd_1_43, List.forall_mem_cons.mpr ⟨wd_1_45, fun _ h => absurd h List.not_mem_nil⟩⟩⟩
theorem ii_M : ∀ w ∈ u_ws RR_M FF_M 25, w ∈ tb := List.forall_mem_cons.mpr ⟨wd_2_238, List.forall_mem_cons.mpr ⟨wd_3_0, List.forall_mem_cons.mpr ⟨wd_3_2, List.forall_mem_cons.mpr ⟨wd_3_4, List.forall_mem_cons.mpr ⟨wd_3_6, List.forall_mem_cons.mpr ⟨wd_3_8, List.forall_mem_cons.mpr ⟨wd_3_10, List.forall_mem_cons.mpr ⟨wd_3_12, List.forall_mem_cons.mpr ⟨wd_3_14, List.forall_mem_cons.mpr ⟨wd_3_16, List.forall_mem_cons.mpr ⟨wd_3_18, List.forall_mem_cons.mpr ⟨wd_3_20, List.forall_mem_cons.mpr ⟨wd_3_22, List.forall_mem_cons.mpr ⟨wd_3_24, List.forall_mem_cons.mpr ⟨wd_3_26, List.forall_mem_cons.mpr ⟨wd_3_28, List.forall_mem_cons.mpr ⟨wd_3_30, List.forall_mem_cons.mpr ⟨wd_3_32, List.forall_mem_cons.mpr ⟨wd_3_34, List.forall_mem_cons.mpr ⟨wd_3_36, List.forall_mem_cons.mpr ⟨wd_3_38, List.forall_mem_cons.mpr ⟨wd_3_40, List.forall_mem_cons.mpr ⟨wd_3_42, List.forall_mem_cons.mpr ⟨wd_3_44, List.forall_mem_cons.mpr ⟨wd_3_46, fun _ h => absurd h List.not_mem_nil⟩⟩⟩⟩⟩⟩⟩⟩⟩⟩⟩⟩⟩⟩⟩⟩⟩⟩⟩⟩⟩⟩⟩⟩⟩
