/-! words among the tables': each by its place -/
theorem lw_t1 {w : Cond} (h : w ∈ tables_1_1) : w ∈ lw_tbl := List.mem_append_right _ (List.mem_append_left _ h)
theorem lw_t2 {w : Cond} (h : w ∈ tables_1_2) : w ∈ lw_tbl := List.mem_append_right _ (List.mem_append_right _ (List.mem_append_left _ h))
theorem lw_t3 {w : Cond} (h : w ∈ tables_1_3) : w ∈ lw_tbl := List.mem_append_right _ (List.mem_append_right _ (List.mem_append_right _ h))
theorem lw_s1 {q : MethodName × Nat} (h : q ∈ lw_privs_1) : Cond.selects q.1.cls q.1 q.1 ∈ lw_tbl := List.mem_append_left _ (List.mem_map.mpr ⟨q, List.mem_append_left _ h, rfl⟩)
theorem lw_s2 {q : MethodName × Nat} (h : q ∈ lw_privs_2) : Cond.selects q.1.cls q.1 q.1 ∈ lw_tbl := List.mem_append_left _ (List.mem_map.mpr ⟨q, List.mem_append_right _ h, rfl⟩)
theorem lk_V {own C : String} {idx : Nat} {y : MethodName} {w0 : Cond} (h1 : Cond.methodLink own idx y ∈ tb) (h2 : Cond.instanceMethod y ∈ tb) (h3 : Cond.selects C y y ∈ tb) (h4 : Cond.initialized C ∈ tb) (h5 : w0 ∈ tb) : ∀ w ∈ wsV own idx C y [w0], w ∈ tb := List.forall_mem_cons.mpr ⟨h1, List.forall_mem_cons.mpr ⟨h2, List.forall_mem_cons.mpr ⟨h3, List.forall_mem_cons.mpr ⟨h4, List.forall_mem_cons.mpr ⟨h5, fun _ h => absurd h List.not_mem_nil⟩⟩⟩⟩⟩
theorem lk_S {own : String} {idx : Nat} {y : MethodName} {w0 : Cond} (h1 : Cond.methodLink own idx y ∈ tb) (h2 : Cond.static y ∈ tb) (h3 : Cond.initialized y.cls ∈ tb) (h4 : w0 ∈ tb) : ∀ w ∈ va_wsS own idx y [w0], w ∈ tb := List.forall_mem_cons.mpr ⟨h1, List.forall_mem_cons.mpr ⟨h2, List.forall_mem_cons.mpr ⟨h3, List.forall_mem_cons.mpr ⟨h4, fun _ h => absurd h List.not_mem_nil⟩⟩⟩⟩
theorem wd_1 : Cond.fieldLink "LevelTypes$Node" 49 "LevelTypes$Node" "kind" "I" ∈ tb := tb_in (lw_t2 (List.mem_of_getElem? (i := 41) (by decide +kernel))) rfl
theorem wd_2 : Cond.fieldLink "LevelTypes$Node" 52 "LevelTypes$Node" "first" "J" ∈ tb := tb_in (lw_t2 (List.mem_of_getElem? (i := 44) (by decide +kernel))) rfl
theorem wd_3 : Cond.fieldLink "LevelTypes$Node" 56 "LevelTypes$Node" "second" "J" ∈ tb := tb_in (lw_t2 (List.mem_of_getElem? (i := 46) (by decide +kernel))) rfl
theorem wd_4 : Cond.fieldLink "LevelTypes$Node" 43 "LevelTypes$Node" "parent" "LLevelTypes$Node;" ∈ tb := tb_in (lw_t2 (List.mem_of_getElem? (i := 36) (by decide +kernel))) rfl
theorem wd_5 : Cond.fieldLink "LevelTypes$Node" 46 "LevelTypes$Node" "place" "I" ∈ tb := tb_in (lw_t2 (List.mem_of_getElem? (i := 39) (by decide +kernel))) rfl
theorem wd_6 : Cond.fieldLink "LevelTypes$Node" 59 "LevelTypes$Node" "parts" "I" ∈ tb := tb_in (lw_t2 (List.mem_of_getElem? (i := 47) (by decide +kernel))) rfl
theorem wd_7 : Cond.fieldLink "LevelTypes$Definition" 23 "LevelTypes$Definition" "begun" "Z" ∈ tb := tb_in (lw_t1 (List.mem_of_getElem? (i := 142) (by decide +kernel))) rfl
theorem wd_8 : Cond.fieldLink "LevelTypes$Definition" 27 "LevelTypes$Definition" "open" "LLevelTypes$Node;" ∈ tb := tb_in (lw_t1 (List.mem_of_getElem? (i := 144) (by decide +kernel))) rfl
theorem wd_9 : Cond.fieldLink "LevelTypes$Definition" 44 "LevelTypes$Node" "kind" "I" ∈ tb := tb_in (lw_t2 (List.mem_of_getElem? (i := 42) (by decide +kernel))) rfl
theorem wd_10 : Cond.fieldLink "LevelTypes$Definition" 49 "LevelTypes$Node" "filled" "I" ∈ tb := tb_in (lw_t2 (List.mem_of_getElem? (i := 51) (by decide +kernel))) rfl
theorem wd_11 : Cond.fieldLink "LevelTypes$Definition" 34 "LevelTypes$Definition" "changes" "Z" ∈ tb := tb_in (lw_t1 (List.mem_of_getElem? (i := 129) (by decide +kernel))) rfl
theorem wd_12 : Cond.fieldLink "LevelTypes$Definition" 19 "LevelTypes$Definition" "parameters" "I" ∈ tb := tb_in (lw_t1 (List.mem_of_getElem? (i := 139) (by decide +kernel))) rfl
theorem wd_13 : Cond.fieldLink "LevelTypes$Definition" 15 "LevelTypes$Definition" "parameterTypes" "[I" ∈ tb := tb_in (lw_t1 (List.mem_of_getElem? (i := 138) (by decide +kernel))) rfl
theorem wd_14 : Cond.fieldLink "LevelTypes$Node" 15 "LevelTypes$Node" "valueType" "I" ∈ tb := tb_in (lw_t2 (List.mem_of_getElem? (i := 52) (by decide +kernel))) rfl
theorem wd_15 : Cond.fieldLink "LevelTypes$Node" 24 "LevelTypes$Node" "callee" "LLevelTypes$Definition;" ∈ tb := tb_in (lw_t2 (List.mem_of_getElem? (i := 57) (by decide +kernel))) rfl
theorem wd_16 : Cond.fieldLink "LevelTypes$Definition" 9 "LevelTypes$Definition" "parameterNames" "[J" ∈ tb := tb_in (lw_t1 (List.mem_of_getElem? (i := 137) (by decide +kernel))) rfl
theorem wd_17 : Cond.fieldLink "LevelTypes$Node" 28 "LevelTypes$Node" "variables" "I" ∈ tb := tb_in (lw_t2 (List.mem_of_getElem? (i := 59) (by decide +kernel))) rfl
theorem wd_18 : Cond.fieldLink "LevelTypes$Node" 34 "LevelTypes$Node" "home" "LLevelTypes$Definition;" ∈ tb := tb_in (lw_t2 (List.mem_of_getElem? (i := 34) (by decide +kernel))) rfl
theorem wd_19 : Cond.fieldLink "LevelTypes$Node" 62 "LevelTypes$Definition" "parameters" "I" ∈ tb := tb_in (lw_t1 (List.mem_of_getElem? (i := 140) (by decide +kernel))) rfl
theorem wd_20 : Cond.fieldLink "LevelTypes$Node" 96 "LevelTypes$Definition" "changes" "Z" ∈ tb := tb_in (lw_t1 (List.mem_of_getElem? (i := 130) (by decide +kernel))) rfl
theorem wd_21 : Cond.fieldLink "LevelTypes$Node" 100 "LevelTypes$Definition" "valueType" "I" ∈ tb := tb_in (lw_t1 (List.mem_of_getElem? (i := 135) (by decide +kernel))) rfl
theorem wd_22 : Cond.fieldLink "LevelTypes$Node" 18 "LevelTypes$Node" "typeOfX" "I" ∈ tb := tb_in (lw_t2 (List.mem_of_getElem? (i := 54) (by decide +kernel))) rfl
theorem wd_23 : Cond.methodLink "LevelTypes$Node" 3 ⟨"java/lang/Object", "<init>", "()V"⟩ ∈ tb := tb_in (lw_t2 (List.mem_of_getElem? (i := 31) (by decide +kernel))) rfl
theorem wd_24 : Cond.instanceMethod ⟨"java/lang/Object", "<init>", "()V"⟩ ∈ tb := tb_in (lw_t1 (List.mem_of_getElem? (i := 22) (by decide +kernel))) rfl
theorem wd_25 : Cond.code ⟨"java/lang/Object", "<init>", "()V"⟩ object_method_1_code 1 none ∈ tb := tb_in (lw_t1 (List.mem_of_getElem? (i := 23) rfl)) rfl
theorem wd_26 : Cond.fieldLink "LevelTypes$Node" 9 "LevelTypes$Node" "filled" "I" ∈ tb := tb_in (lw_t2 (List.mem_of_getElem? (i := 50) (by decide +kernel))) rfl
theorem wd_27 : Cond.fieldLink "LevelTypes$Node" 21 "LevelTypes$Node" "boundBy" "I" ∈ tb := tb_in (lw_t2 (List.mem_of_getElem? (i := 55) (by decide +kernel))) rfl
theorem wd_28 : Cond.fieldLink "LevelTypes$Node" 31 "LevelTypes$Node" "number" "I" ∈ tb := tb_in (lw_t2 (List.mem_of_getElem? (i := 32) (by decide +kernel))) rfl
theorem wd_29 : Cond.fieldLink "LevelTypes$Node" 37 "LevelTypes$Definition" "open" "LLevelTypes$Node;" ∈ tb := tb_in (lw_t1 (List.mem_of_getElem? (i := 145) (by decide +kernel))) rfl
theorem wd_30 : Cond.fieldLink "java/util/ArrayList" 48 "java/util/ArrayList" "size" "I" ∈ tb := tb_in (lw_t1 (List.mem_of_getElem? (i := 39) (by decide +kernel))) rfl
theorem wd_31 : Cond.fieldLink "java/util/ArrayList" 9 "java/util/ArrayList" "elementData" "[Ljava/lang/Object;" ∈ tb := tb_in (lw_t1 (List.mem_of_getElem? (i := 38) (by decide +kernel))) rfl
theorem wd_32 : Cond.methodLink "java/util/AbstractCollection" 1 ⟨"java/lang/Object", "<init>", "()V"⟩ ∈ tb := tb_in (lw_t1 (List.mem_of_getElem? (i := 35) (by decide +kernel))) rfl
theorem wd_33 : Cond.code ⟨"java/util/AbstractCollection", "<init>", "()V"⟩ prog_13_method_1_code 1 none ∈ tb := tb_in (lw_t1 (List.mem_of_getElem? (i := 34) rfl)) rfl
theorem wd_34 : Cond.initialized "java/util/AbstractCollection" ∈ tb := tb_in (lw_t1 (List.mem_of_getElem? (i := 2) (by decide +kernel))) rfl
theorem wd_35 : Cond.methodLink "java/util/AbstractList" 1 ⟨"java/util/AbstractCollection", "<init>", "()V"⟩ ∈ tb := tb_in (lw_t1 (List.mem_of_getElem? (i := 32) (by decide +kernel))) rfl
theorem wd_36 : Cond.instanceMethod ⟨"java/util/AbstractCollection", "<init>", "()V"⟩ ∈ tb := tb_in (lw_t1 (List.mem_of_getElem? (i := 33) (by decide +kernel))) rfl
theorem wd_37 : Cond.fieldLink "java/util/AbstractList" 7 "java/util/AbstractList" "modCount" "I" ∈ tb := tb_in (lw_t1 (List.mem_of_getElem? (i := 40) (by decide +kernel))) rfl
theorem wd_38 : Cond.code ⟨"java/util/AbstractList", "<init>", "()V"⟩ prog_14_method_1_code 1 none ∈ tb := tb_in (lw_t1 (List.mem_of_getElem? (i := 31) rfl)) rfl
theorem wd_39 : Cond.initialized "java/util/AbstractList" ∈ tb := tb_in (lw_t1 (List.mem_of_getElem? (i := 3) (by decide +kernel))) rfl
theorem wd_40 : Cond.methodLink "java/util/ArrayList" 1 ⟨"java/util/AbstractList", "<init>", "()V"⟩ ∈ tb := tb_in (lw_t1 (List.mem_of_getElem? (i := 29) (by decide +kernel))) rfl
theorem wd_41 : Cond.instanceMethod ⟨"java/util/AbstractList", "<init>", "()V"⟩ ∈ tb := tb_in (lw_t1 (List.mem_of_getElem? (i := 30) (by decide +kernel))) rfl
theorem wd_42 : Cond.fieldLink "java/util/ArrayList" 39 "java/util/ArrayList" "DEFAULTCAPACITY_EMPTY_ELEMENTDATA" "[Ljava/lang/Object;" ∈ tb := tb_in (lw_t1 (List.mem_of_getElem? (i := 36) (by decide +kernel))) rfl
theorem wd_43 : Cond.methodLink "LevelTypes$Kind" 25 ⟨"LevelTypes$Kind", "isCase", "(I)Z"⟩ ∈ tb := tb_in (lw_t2 (List.mem_of_getElem? (i := 23) (by decide +kernel))) rfl
theorem wd_44 : Cond.static ⟨"LevelTypes$Kind", "isCase", "(I)Z"⟩ ∈ tb := tb_in (lw_t2 (List.mem_of_getElem? (i := 24) (by decide +kernel))) rfl
theorem wd_45 : Cond.initialized "LevelTypes$Kind" ∈ tb := tb_in (lw_t1 (List.mem_of_getElem? (i := 14) (by decide +kernel))) rfl
theorem wd_46 : Cond.code ⟨"LevelTypes$Kind", "isCase", "(I)Z"⟩ prog_3_method_5_code 1 (some .boolean) ∈ tb := tb_in (lw_t2 (List.mem_of_getElem? (i := 25) rfl)) rfl
theorem wd_47 : Cond.methodLink "LevelTypes$Kind" 19 ⟨"LevelTypes$Kind", "isBinder", "(I)Z"⟩ ∈ tb := tb_in (lw_t2 (List.mem_of_getElem? (i := 17) (by decide +kernel))) rfl
theorem wd_48 : Cond.static ⟨"LevelTypes$Kind", "isBinder", "(I)Z"⟩ ∈ tb := tb_in (lw_t2 (List.mem_of_getElem? (i := 18) (by decide +kernel))) rfl
theorem wd_49 : Cond.code ⟨"LevelTypes$Kind", "isBinder", "(I)Z"⟩ prog_3_method_7_code 1 (some .boolean) ∈ tb := tb_in (lw_t2 (List.mem_of_getElem? (i := 19) rfl)) rfl
theorem wd_50 : Cond.methodLink "LevelTypes$Kind" 22 ⟨"LevelTypes$Kind", "isCall", "(I)Z"⟩ ∈ tb := tb_in (lw_t2 (List.mem_of_getElem? (i := 20) (by decide +kernel))) rfl
theorem wd_51 : Cond.static ⟨"LevelTypes$Kind", "isCall", "(I)Z"⟩ ∈ tb := tb_in (lw_t2 (List.mem_of_getElem? (i := 21) (by decide +kernel))) rfl
theorem wd_52 : Cond.code ⟨"LevelTypes$Kind", "isCall", "(I)Z"⟩ prog_3_method_4_code 1 (some .boolean) ∈ tb := tb_in (lw_t2 (List.mem_of_getElem? (i := 22) rfl)) rfl
theorem wd_53 : Cond.methodLink "LevelTypes$Node" 73 ⟨"LevelTypes$Kind", "isBinder", "(I)Z"⟩ ∈ tb := tb_in (lw_t2 (List.mem_of_getElem? (i := 131) (by decide +kernel))) rfl
theorem wd_54 : Cond.methodLink "LevelTypes$Node" 79 ⟨"LevelTypes$Kind", "isCase", "(I)Z"⟩ ∈ tb := tb_in (lw_t2 (List.mem_of_getElem? (i := 132) (by decide +kernel))) rfl
theorem wd_55 : Cond.methodLink "LevelTypes$Node" 114 ⟨"LevelTypes$Kind", "isLet", "(I)Z"⟩ ∈ tb := tb_in (lw_t2 (List.mem_of_getElem? (i := 172) (by decide +kernel))) rfl
theorem wd_56 : Cond.static ⟨"LevelTypes$Kind", "isLet", "(I)Z"⟩ ∈ tb := tb_in (lw_t2 (List.mem_of_getElem? (i := 173) (by decide +kernel))) rfl
theorem wd_57 : Cond.code ⟨"LevelTypes$Kind", "isLet", "(I)Z"⟩ prog_3_method_6_code 1 (some .boolean) ∈ tb := tb_in (lw_t2 (List.mem_of_getElem? (i := 174) rfl)) rfl
theorem wd_58 : Cond.methodLink "LevelTypes$Definition" 52 ⟨"LevelTypes$Kind", "wantsChange", "(II)Z"⟩ ∈ tb := tb_in (lw_t2 (List.mem_of_getElem? (i := 5) (by decide +kernel))) rfl
theorem wd_59 : Cond.static ⟨"LevelTypes$Kind", "wantsChange", "(II)Z"⟩ ∈ tb := tb_in (lw_t2 (List.mem_of_getElem? (i := 6) (by decide +kernel))) rfl
theorem wd_60 : Cond.code ⟨"LevelTypes$Kind", "wantsChange", "(II)Z"⟩ prog_3_method_9_code 2 (some .boolean) ∈ tb := tb_in (lw_t2 (List.mem_of_getElem? (i := 7) rfl)) rfl
theorem wd_61 : Cond.methodLink "LevelTypes$Node" 92 ⟨"LevelTypes$Definition", "parameterType", "(I)I"⟩ ∈ tb := tb_in (lw_t2 (List.mem_of_getElem? (i := 142) (by decide +kernel))) rfl
theorem wd_62 : Cond.instanceMethod ⟨"LevelTypes$Definition", "parameterType", "(I)I"⟩ ∈ tb := tb_in (lw_t2 (List.mem_of_getElem? (i := 108) (by decide +kernel))) rfl
theorem wd_63 : Cond.selects "LevelTypes$Definition" ⟨"LevelTypes$Definition", "parameterType", "(I)I"⟩ ⟨"LevelTypes$Definition", "parameterType", "(I)I"⟩ ∈ tb := tb_in (lw_t2 (List.mem_of_getElem? (i := 109) (by decide +kernel))) rfl
theorem wd_64 : Cond.initialized "LevelTypes$Definition" ∈ tb := tb_in (lw_t1 (List.mem_of_getElem? (i := 9) (by decide +kernel))) rfl
theorem wd_65 : Cond.code ⟨"LevelTypes$Definition", "parameterType", "(I)I"⟩ prog_2_method_6_code 2 (some .int) ∈ tb := tb_in (lw_t2 (List.mem_of_getElem? (i := 110) rfl)) rfl
theorem wd_66 : Cond.methodLink "LevelTypes$Node" 105 ⟨"LevelTypes$Type", "isWritten", "(I)Z"⟩ ∈ tb := tb_in (lw_t2 (List.mem_of_getElem? (i := 163) (by decide +kernel))) rfl
theorem wd_67 : Cond.static ⟨"LevelTypes$Type", "isWritten", "(I)Z"⟩ ∈ tb := tb_in (lw_t1 (List.mem_of_getElem? (i := 82) (by decide +kernel))) rfl
theorem wd_68 : Cond.initialized "LevelTypes$Type" ∈ tb := tb_in (lw_t1 (List.mem_of_getElem? (i := 6) (by decide +kernel))) rfl
theorem wd_69 : Cond.code ⟨"LevelTypes$Type", "isWritten", "(I)Z"⟩ prog_5_method_3_code 1 (some .boolean) ∈ tb := tb_in (lw_t1 (List.mem_of_getElem? (i := 83) rfl)) rfl
theorem wd_70 : Cond.methodLink "LevelTypes$Node" 65 ⟨"LevelTypes$Node", "isLastPart", "()Z"⟩ ∈ tb := tb_in (lw_t2 (List.mem_of_getElem? (i := 123) (by decide +kernel))) rfl
theorem wd_71 : Cond.instanceMethod ⟨"LevelTypes$Node", "isLastPart", "()Z"⟩ ∈ tb := tb_in (lw_t2 (List.mem_of_getElem? (i := 124) (by decide +kernel))) rfl
theorem wd_72 : Cond.selects "LevelTypes$Node" ⟨"LevelTypes$Node", "isLastPart", "()Z"⟩ ⟨"LevelTypes$Node", "isLastPart", "()Z"⟩ ∈ tb := tb_in (lw_t2 (List.mem_of_getElem? (i := 125) (by decide +kernel))) rfl
theorem wd_73 : Cond.initialized "LevelTypes$Node" ∈ tb := tb_in (lw_t1 (List.mem_of_getElem? (i := 15) (by decide +kernel))) rfl
theorem wd_74 : Cond.code ⟨"LevelTypes$Node", "isLastPart", "()Z"⟩ prog_4_method_2_code 1 (some .boolean) ∈ tb := tb_in (lw_t2 (List.mem_of_getElem? (i := 126) rfl)) rfl
theorem wd_75 : Cond.methodLink "LevelTypes$Node" 69 ⟨"LevelTypes$Node", "variablesOfLastPart", "()I"⟩ ∈ tb := tb_in (lw_t2 (List.mem_of_getElem? (i := 127) (by decide +kernel))) rfl
theorem wd_76 : Cond.instanceMethod ⟨"LevelTypes$Node", "variablesOfLastPart", "()I"⟩ ∈ tb := tb_in (lw_t2 (List.mem_of_getElem? (i := 128) (by decide +kernel))) rfl
theorem wd_77 : Cond.selects "LevelTypes$Node" ⟨"LevelTypes$Node", "variablesOfLastPart", "()I"⟩ ⟨"LevelTypes$Node", "variablesOfLastPart", "()I"⟩ ∈ tb := tb_in (lw_t2 (List.mem_of_getElem? (i := 129) (by decide +kernel))) rfl
theorem wd_78 : Cond.code ⟨"LevelTypes$Node", "variablesOfLastPart", "()I"⟩ prog_4_method_4_code 1 (some .int) ∈ tb := tb_in (lw_t2 (List.mem_of_getElem? (i := 130) rfl)) rfl
theorem wd_79 : Cond.methodLink "LevelTypes$Node" 111 ⟨"LevelTypes$Kind", "isAsLastPart", "(I)Z"⟩ ∈ tb := tb_in (lw_t2 (List.mem_of_getElem? (i := 175) (by decide +kernel))) rfl
theorem wd_80 : Cond.static ⟨"LevelTypes$Kind", "isAsLastPart", "(I)Z"⟩ ∈ tb := tb_in (lw_t2 (List.mem_of_getElem? (i := 176) (by decide +kernel))) rfl
theorem wd_81 : Cond.code ⟨"LevelTypes$Kind", "isAsLastPart", "(I)Z"⟩ prog_3_method_8_code 1 (some .boolean) ∈ tb := tb_in (lw_t2 (List.mem_of_getElem? (i := 177) rfl)) rfl
theorem wd_82 : Cond.methodLink "LevelTypes$Node" 108 ⟨"LevelTypes$Node", "typeOfXAfter", "(I)I"⟩ ∈ tb := tb_in (lw_t2 (List.mem_of_getElem? (i := 168) (by decide +kernel))) rfl
theorem wd_83 : Cond.instanceMethod ⟨"LevelTypes$Node", "typeOfXAfter", "(I)I"⟩ ∈ tb := tb_in (lw_t2 (List.mem_of_getElem? (i := 170) (by decide +kernel))) rfl
theorem wd_84 : Cond.selects "LevelTypes$Node" ⟨"LevelTypes$Node", "typeOfXAfter", "(I)I"⟩ ⟨"LevelTypes$Node", "typeOfXAfter", "(I)I"⟩ ∈ tb := tb_in (lw_s1 (List.mem_of_getElem? (i := 11) rfl)) rfl
theorem wd_85 : Cond.code ⟨"LevelTypes$Node", "typeOfXAfter", "(I)I"⟩ prog_4_method_11_code 2 (some .int) ∈ tb := tb_in (lw_t2 (List.mem_of_getElem? (i := 171) rfl)) rfl
theorem wd_86 : Cond.methodLink "java/util/Objects" 105 ⟨"jdk/internal/util/Preconditions", "checkIndex", "(IILjava/util/function/BiFunction;)I"⟩ ∈ tb := tb_in (lw_t1 (List.mem_of_getElem? (i := 106) (by decide +kernel))) rfl
theorem wd_87 : Cond.static ⟨"jdk/internal/util/Preconditions", "checkIndex", "(IILjava/util/function/BiFunction;)I"⟩ ∈ tb := tb_in (lw_t1 (List.mem_of_getElem? (i := 107) (by decide +kernel))) rfl
theorem wd_88 : Cond.initialized "jdk/internal/util/Preconditions" ∈ tb := tb_in (lw_t1 (List.mem_of_getElem? (i := 8) (by decide +kernel))) rfl
theorem wd_89 : Cond.code ⟨"jdk/internal/util/Preconditions", "checkIndex", "(IILjava/util/function/BiFunction;)I"⟩ prog_23_method_11_code 3 (some .int) ∈ tb := tb_in (lw_t1 (List.mem_of_getElem? (i := 108) rfl)) rfl
theorem wd_90 : Cond.methodLink "java/util/ArrayList" 118 ⟨"java/util/Objects", "checkIndex", "(II)I"⟩ ∈ tb := tb_in (lw_t1 (List.mem_of_getElem? (i := 103) (by decide +kernel))) rfl
theorem wd_91 : Cond.static ⟨"java/util/Objects", "checkIndex", "(II)I"⟩ ∈ tb := tb_in (lw_t1 (List.mem_of_getElem? (i := 104) (by decide +kernel))) rfl
theorem wd_92 : Cond.initialized "java/util/Objects" ∈ tb := tb_in (lw_t1 (List.mem_of_getElem? (i := 7) (by decide +kernel))) rfl
theorem wd_93 : Cond.code ⟨"java/util/Objects", "checkIndex", "(II)I"⟩ prog_19_method_17_code 2 (some .int) ∈ tb := tb_in (lw_t1 (List.mem_of_getElem? (i := 105) rfl)) rfl
theorem wd_94 : Cond.methodLink "java/util/ArrayList" 123 ⟨"java/util/ArrayList", "elementData", "(I)Ljava/lang/Object;"⟩ ∈ tb := tb_in (lw_t1 (List.mem_of_getElem? (i := 109) (by decide +kernel))) rfl
theorem wd_95 : Cond.instanceMethod ⟨"java/util/ArrayList", "elementData", "(I)Ljava/lang/Object;"⟩ ∈ tb := tb_in (lw_t1 (List.mem_of_getElem? (i := 110) (by decide +kernel))) rfl
theorem wd_96 : Cond.selects "java/util/ArrayList" ⟨"java/util/ArrayList", "elementData", "(I)Ljava/lang/Object;"⟩ ⟨"java/util/ArrayList", "elementData", "(I)Ljava/lang/Object;"⟩ ∈ tb := tb_in (lw_t1 (List.mem_of_getElem? (i := 111) (by decide +kernel))) rfl
theorem wd_97 : Cond.initialized "java/util/ArrayList" ∈ tb := tb_in (lw_t1 (List.mem_of_getElem? (i := 4) (by decide +kernel))) rfl
theorem wd_98 : Cond.code ⟨"java/util/ArrayList", "elementData", "(I)Ljava/lang/Object;"⟩ prog_15_method_18_code 2 (some (.object "java/lang/Object")) ∈ tb := tb_in (lw_t1 (List.mem_of_getElem? (i := 112) rfl)) rfl
theorem wd_99 : Cond.lays "LevelTypes" "LevelTypes" "mostVariables" "I" ∈ tb := tb_in (lw_t1 (List.mem_of_getElem? (i := 66) (by decide +kernel))) rfl
theorem wd_100 : Cond.lays "LevelTypes" "LevelTypes" "faultNode" "I" ∈ tb := tb_in (lw_t1 (List.mem_of_getElem? (i := 64) (by decide +kernel))) rfl
theorem wd_101 : Cond.lays "LevelTypes" "LevelTypes" "fault" "I" ∈ tb := tb_in (lw_t1 (List.mem_of_getElem? (i := 62) (by decide +kernel))) rfl
theorem wd_102 : Cond.lays "LevelTypes" "LevelTypes" "known" "Z" ∈ tb := tb_in (lw_t1 (List.mem_of_getElem? (i := 60) (by decide +kernel))) rfl
theorem wd_103 : Cond.laysFinal "LevelTypes" "LevelTypes" "nodes" "Ljava/util/ArrayList;" ∈ tb := tb_in (lw_t1 (List.mem_of_getElem? (i := 58) (by decide +kernel))) rfl
theorem wd_104 : Cond.laysFinal "LevelTypes" "LevelTypes" "definitions" "Ljava/util/ArrayList;" ∈ tb := tb_in (lw_t1 (List.mem_of_getElem? (i := 56) (by decide +kernel))) rfl
theorem wd_105 : Cond.lays "LevelTypes$Definition" "LevelTypes$Definition" "open" "LLevelTypes$Node;" ∈ tb := tb_in (lw_t1 (List.mem_of_getElem? (i := 162) (by decide +kernel))) rfl
theorem wd_106 : Cond.lays "LevelTypes$Definition" "LevelTypes$Definition" "begun" "Z" ∈ tb := tb_in (lw_t1 (List.mem_of_getElem? (i := 160) (by decide +kernel))) rfl
theorem wd_107 : Cond.lays "LevelTypes$Definition" "LevelTypes$Definition" "parameters" "I" ∈ tb := tb_in (lw_t1 (List.mem_of_getElem? (i := 158) (by decide +kernel))) rfl
theorem wd_108 : Cond.laysFinal "LevelTypes$Definition" "LevelTypes$Definition" "parameterTypes" "[I" ∈ tb := tb_in (lw_t1 (List.mem_of_getElem? (i := 156) (by decide +kernel))) rfl
theorem wd_109 : Cond.laysFinal "LevelTypes$Definition" "LevelTypes$Definition" "parameterNames" "[J" ∈ tb := tb_in (lw_t1 (List.mem_of_getElem? (i := 154) (by decide +kernel))) rfl
theorem wd_110 : Cond.laysFinal "LevelTypes$Definition" "LevelTypes$Definition" "valueType" "I" ∈ tb := tb_in (lw_t1 (List.mem_of_getElem? (i := 152) (by decide +kernel))) rfl
theorem wd_111 : Cond.laysFinal "LevelTypes$Definition" "LevelTypes$Definition" "name" "J" ∈ tb := tb_in (lw_t1 (List.mem_of_getElem? (i := 150) (by decide +kernel))) rfl
theorem wd_112 : Cond.laysFinal "LevelTypes$Definition" "LevelTypes$Definition" "changes" "Z" ∈ tb := tb_in (lw_t1 (List.mem_of_getElem? (i := 148) (by decide +kernel))) rfl
theorem wd_113 : Cond.laysFinal "LevelTypes$Definition" "LevelTypes$Definition" "number" "I" ∈ tb := tb_in (lw_t1 (List.mem_of_getElem? (i := 146) (by decide +kernel))) rfl
theorem wd_114 : Cond.lays "LevelTypes$Node" "LevelTypes$Node" "variables" "I" ∈ tb := tb_in (lw_t2 (List.mem_of_getElem? (i := 87) (by decide +kernel))) rfl
theorem wd_115 : Cond.lays "LevelTypes$Node" "LevelTypes$Node" "callee" "LLevelTypes$Definition;" ∈ tb := tb_in (lw_t2 (List.mem_of_getElem? (i := 85) (by decide +kernel))) rfl
theorem wd_116 : Cond.lays "LevelTypes$Node" "LevelTypes$Node" "boundBy" "I" ∈ tb := tb_in (lw_t2 (List.mem_of_getElem? (i := 83) (by decide +kernel))) rfl
theorem wd_117 : Cond.lays "LevelTypes$Node" "LevelTypes$Node" "typeOfX" "I" ∈ tb := tb_in (lw_t2 (List.mem_of_getElem? (i := 81) (by decide +kernel))) rfl
theorem wd_118 : Cond.lays "LevelTypes$Node" "LevelTypes$Node" "valueType" "I" ∈ tb := tb_in (lw_t2 (List.mem_of_getElem? (i := 79) (by decide +kernel))) rfl
theorem wd_119 : Cond.lays "LevelTypes$Node" "LevelTypes$Node" "filled" "I" ∈ tb := tb_in (lw_t2 (List.mem_of_getElem? (i := 77) (by decide +kernel))) rfl
theorem wd_120 : Cond.laysFinal "LevelTypes$Node" "LevelTypes$Node" "parts" "I" ∈ tb := tb_in (lw_t2 (List.mem_of_getElem? (i := 75) (by decide +kernel))) rfl
theorem wd_121 : Cond.laysFinal "LevelTypes$Node" "LevelTypes$Node" "second" "J" ∈ tb := tb_in (lw_t2 (List.mem_of_getElem? (i := 73) (by decide +kernel))) rfl
theorem wd_122 : Cond.laysFinal "LevelTypes$Node" "LevelTypes$Node" "first" "J" ∈ tb := tb_in (lw_t2 (List.mem_of_getElem? (i := 71) (by decide +kernel))) rfl
theorem wd_123 : Cond.laysFinal "LevelTypes$Node" "LevelTypes$Node" "kind" "I" ∈ tb := tb_in (lw_t2 (List.mem_of_getElem? (i := 69) (by decide +kernel))) rfl
theorem wd_124 : Cond.laysFinal "LevelTypes$Node" "LevelTypes$Node" "place" "I" ∈ tb := tb_in (lw_t2 (List.mem_of_getElem? (i := 67) (by decide +kernel))) rfl
theorem wd_125 : Cond.laysFinal "LevelTypes$Node" "LevelTypes$Node" "parent" "LLevelTypes$Node;" ∈ tb := tb_in (lw_t2 (List.mem_of_getElem? (i := 65) (by decide +kernel))) rfl
theorem wd_126 : Cond.laysFinal "LevelTypes$Node" "LevelTypes$Node" "home" "LLevelTypes$Definition;" ∈ tb := tb_in (lw_t2 (List.mem_of_getElem? (i := 63) (by decide +kernel))) rfl
theorem wd_127 : Cond.laysFinal "LevelTypes$Node" "LevelTypes$Node" "number" "I" ∈ tb := tb_in (lw_t2 (List.mem_of_getElem? (i := 61) (by decide +kernel))) rfl
theorem wd_128 : Cond.lays "java/util/ArrayList" "java/util/ArrayList" "size" "I" ∈ tb := tb_in (lw_t1 (List.mem_of_getElem? (i := 45) (by decide +kernel))) rfl
theorem wd_129 : Cond.lays "java/util/ArrayList" "java/util/ArrayList" "elementData" "[Ljava/lang/Object;" ∈ tb := tb_in (lw_t1 (List.mem_of_getElem? (i := 43) (by decide +kernel))) rfl
theorem wd_130 : Cond.lays "java/util/ArrayList" "java/util/AbstractList" "modCount" "I" ∈ tb := tb_in (lw_t1 (List.mem_of_getElem? (i := 47) (by decide +kernel))) rfl
theorem wd_131 : Cond.lays "LevelTypesModel" "LevelTypesModel" "most" "I" ∈ tb := tb_in (lw_t3 (List.mem_of_getElem? (i := 46) (by decide +kernel))) rfl
theorem wd_132 : Cond.lays "LevelTypesModel" "LevelTypesModel" "faultNode" "I" ∈ tb := tb_in (lw_t3 (List.mem_of_getElem? (i := 44) (by decide +kernel))) rfl
theorem wd_133 : Cond.lays "LevelTypesModel" "LevelTypesModel" "fault" "I" ∈ tb := tb_in (lw_t3 (List.mem_of_getElem? (i := 42) (by decide +kernel))) rfl
theorem wd_134 : Cond.lays "LevelTypesModel" "LevelTypesModel" "known" "Z" ∈ tb := tb_in (lw_t3 (List.mem_of_getElem? (i := 40) (by decide +kernel))) rfl
theorem wd_135 : Cond.laysFinal "LevelTypesModel" "LevelTypesModel" "targets" "[I" ∈ tb := tb_in (lw_t3 (List.mem_of_getElem? (i := 38) (by decide +kernel))) rfl
theorem wd_136 : Cond.laysFinal "LevelTypesModel" "LevelTypesModel" "binders" "[I" ∈ tb := tb_in (lw_t3 (List.mem_of_getElem? (i := 36) (by decide +kernel))) rfl
theorem wd_137 : Cond.laysFinal "LevelTypesModel" "LevelTypesModel" "types" "[I" ∈ tb := tb_in (lw_t3 (List.mem_of_getElem? (i := 34) (by decide +kernel))) rfl
theorem wd_138 : Cond.laysFinal "LevelTypesModel" "LevelTypesModel" "has" "[I" ∈ tb := tb_in (lw_t3 (List.mem_of_getElem? (i := 32) (by decide +kernel))) rfl
theorem wd_139 : Cond.laysFinal "LevelTypesModel" "LevelTypesModel" "owners" "[I" ∈ tb := tb_in (lw_t3 (List.mem_of_getElem? (i := 30) (by decide +kernel))) rfl
theorem wd_140 : Cond.laysFinal "LevelTypesModel" "LevelTypesModel" "parted" "[I" ∈ tb := tb_in (lw_t3 (List.mem_of_getElem? (i := 28) (by decide +kernel))) rfl
theorem wd_141 : Cond.laysFinal "LevelTypesModel" "LevelTypesModel" "parents" "[I" ∈ tb := tb_in (lw_t3 (List.mem_of_getElem? (i := 26) (by decide +kernel))) rfl
theorem wd_142 : Cond.laysFinal "LevelTypesModel" "LevelTypesModel" "parts" "[I" ∈ tb := tb_in (lw_t3 (List.mem_of_getElem? (i := 24) (by decide +kernel))) rfl
theorem wd_143 : Cond.laysFinal "LevelTypesModel" "LevelTypesModel" "seconds" "[J" ∈ tb := tb_in (lw_t3 (List.mem_of_getElem? (i := 22) (by decide +kernel))) rfl
theorem wd_144 : Cond.laysFinal "LevelTypesModel" "LevelTypesModel" "firsts" "[J" ∈ tb := tb_in (lw_t3 (List.mem_of_getElem? (i := 20) (by decide +kernel))) rfl
theorem wd_145 : Cond.laysFinal "LevelTypesModel" "LevelTypesModel" "kinds" "[I" ∈ tb := tb_in (lw_t3 (List.mem_of_getElem? (i := 18) (by decide +kernel))) rfl
theorem wd_146 : Cond.lays "LevelTypesModel" "LevelTypesModel" "nodes" "I" ∈ tb := tb_in (lw_t3 (List.mem_of_getElem? (i := 16) (by decide +kernel))) rfl
theorem wd_147 : Cond.laysFinal "LevelTypesModel" "LevelTypesModel" "begins" "[I" ∈ tb := tb_in (lw_t3 (List.mem_of_getElem? (i := 14) (by decide +kernel))) rfl
theorem wd_148 : Cond.laysFinal "LevelTypesModel" "LevelTypesModel" "parameterTypes" "[I" ∈ tb := tb_in (lw_t3 (List.mem_of_getElem? (i := 12) (by decide +kernel))) rfl
theorem wd_149 : Cond.laysFinal "LevelTypesModel" "LevelTypesModel" "parameterNames" "[J" ∈ tb := tb_in (lw_t3 (List.mem_of_getElem? (i := 10) (by decide +kernel))) rfl
theorem wd_150 : Cond.laysFinal "LevelTypesModel" "LevelTypesModel" "parameterMany" "[I" ∈ tb := tb_in (lw_t3 (List.mem_of_getElem? (i := 8) (by decide +kernel))) rfl
theorem wd_151 : Cond.laysFinal "LevelTypesModel" "LevelTypesModel" "results" "[I" ∈ tb := tb_in (lw_t3 (List.mem_of_getElem? (i := 6) (by decide +kernel))) rfl
theorem wd_152 : Cond.laysFinal "LevelTypesModel" "LevelTypesModel" "titles" "[J" ∈ tb := tb_in (lw_t3 (List.mem_of_getElem? (i := 4) (by decide +kernel))) rfl
theorem wd_153 : Cond.laysFinal "LevelTypesModel" "LevelTypesModel" "isChg" "[Z" ∈ tb := tb_in (lw_t3 (List.mem_of_getElem? (i := 2) (by decide +kernel))) rfl
theorem wd_154 : Cond.lays "LevelTypesModel" "LevelTypesModel" "many" "I" ∈ tb := tb_in (lw_t3 (List.mem_of_getElem? (i := 0) (by decide +kernel))) rfl
theorem wd_155 : Cond.lays "LevelTypesModel" "LevelTypesModel" "thrown" "I" ∈ tb := tb_in (lw_t2 (List.mem_of_getElem? (i := 238) (by decide +kernel))) rfl
theorem lk_K_25 : ∀ w ∈ va_wsS "LevelTypes$Kind" 25 yy_K_isCase [Cond.code yy_K_isCase bb_K_isCase 1 (some .boolean)], w ∈ tb := lk_S wd_43 wd_44 wd_45 wd_46
theorem lk_K_19 : ∀ w ∈ va_wsS "LevelTypes$Kind" 19 yy_K_isBinder [Cond.code yy_K_isBinder bb_K_isBinder 1 (some .boolean)], w ∈ tb := lk_S wd_47 wd_48 wd_45 wd_49
theorem lk_K_22 : ∀ w ∈ va_wsS "LevelTypes$Kind" 22 yy_K_isCall [Cond.code yy_K_isCall bb_K_isCall 1 (some .boolean)], w ∈ tb := lk_S wd_50 wd_51 wd_45 wd_52
theorem lk_N_73 : ∀ w ∈ va_wsS "LevelTypes$Node" 73 yy_K_isBinder [Cond.code yy_K_isBinder bb_K_isBinder 1 (some .boolean)], w ∈ tb := lk_S wd_53 wd_48 wd_45 wd_49
theorem lk_N_79 : ∀ w ∈ va_wsS "LevelTypes$Node" 79 yy_K_isCase [Cond.code yy_K_isCase bb_K_isCase 1 (some .boolean)], w ∈ tb := lk_S wd_54 wd_44 wd_45 wd_46
theorem lk_N_114 : ∀ w ∈ va_wsS "LevelTypes$Node" 114 yy_K_isLet [Cond.code yy_K_isLet bb_K_isLet 1 (some .boolean)], w ∈ tb := lk_S wd_55 wd_56 wd_45 wd_57
theorem lk_D_52 : ∀ w ∈ va_wsS "LevelTypes$Definition" 52 yy_K_wantsChange [Cond.code yy_K_wantsChange bb_K_wantsChange 2 (some .boolean)], w ∈ tb := lk_S wd_58 wd_59 wd_45 wd_60
theorem lk_N_92 : ∀ w ∈ wsV "LevelTypes$Node" 92 "LevelTypes$Definition" yy_D_parameterType [Cond.code yy_D_parameterType bb_D_parameterType 2 (some .int)], w ∈ tb := lk_V wd_61 wd_62 wd_63 wd_64 wd_65
theorem lk_N_105 : ∀ w ∈ va_wsS "LevelTypes$Node" 105 yy_T_isWritten [Cond.code yy_T_isWritten bb_T_isWritten 1 (some .boolean)], w ∈ tb := lk_S wd_66 wd_67 wd_68 wd_69
theorem lk_N_65 : ∀ w ∈ wsV "LevelTypes$Node" 65 "LevelTypes$Node" yy_N_isLastPart [Cond.code yy_N_isLastPart bb_N_isLastPart 1 (some .boolean)], w ∈ tb := lk_V wd_70 wd_71 wd_72 wd_73 wd_74
theorem lk_N_69 : ∀ w ∈ wsV "LevelTypes$Node" 69 "LevelTypes$Node" yy_N_variablesOfLastPart [Cond.code yy_N_variablesOfLastPart bb_N_variablesOfLastPart 1 (some .int)], w ∈ tb := lk_V wd_75 wd_76 wd_77 wd_73 wd_78
theorem lk_N_111 : ∀ w ∈ va_wsS "LevelTypes$Node" 111 yy_K_isAsLastPart [Cond.code yy_K_isAsLastPart bb_K_isAsLastPart 1 (some .boolean)], w ∈ tb := lk_S wd_79 wd_80 wd_45 wd_81
theorem lk_N_108 : ∀ w ∈ wsV "LevelTypes$Node" 108 "LevelTypes$Node" yy_N_typeOfXAfter [Cond.code yy_N_typeOfXAfter bb_N_typeOfXAfter 2 (some .int)], w ∈ tb := lk_V wd_82 wd_83 wd_84 wd_73 wd_85
theorem lk_OB_105 : ∀ w ∈ va_wsS "java/util/Objects" 105 yy_PC_checkIndex [Cond.code yy_PC_checkIndex bb_PC_checkIndex 3 (some .int)], w ∈ tb := lk_S wd_86 wd_87 wd_88 wd_89
theorem lk_A_118 : ∀ w ∈ va_wsS "java/util/ArrayList" 118 yy_OB_checkIndex [Cond.code yy_OB_checkIndex bb_OB_checkIndex 2 (some .int)], w ∈ tb := lk_S wd_90 wd_91 wd_92 wd_93
theorem lk_A_123 : ∀ w ∈ wsV "java/util/ArrayList" 123 "java/util/ArrayList" yy_A_elementData [Cond.code yy_A_elementData bb_A_elementData 2 (some (.object "java/lang/Object"))], w ∈ tb := lk_V wd_94 wd_95 wd_96 wd_97 wd_98
theorem ii_L : ∀ w ∈ u_ws RR_L FF_L 6, w ∈ tb := List.forall_mem_cons.mpr ⟨wd_104, List.forall_mem_cons.mpr ⟨wd_103, List.forall_mem_cons.mpr ⟨wd_102, List.forall_mem_cons.mpr ⟨wd_101, List.forall_mem_cons.mpr ⟨wd_100, List.forall_mem_cons.mpr ⟨wd_99, fun _ h => absurd h List.not_mem_nil⟩⟩⟩⟩⟩⟩
theorem ii_D : ∀ w ∈ u_ws RR_D FF_D 9, w ∈ tb := List.forall_mem_cons.mpr ⟨wd_113, List.forall_mem_cons.mpr ⟨wd_112, List.forall_mem_cons.mpr ⟨wd_111, List.forall_mem_cons.mpr ⟨wd_110, List.forall_mem_cons.mpr ⟨wd_109, List.forall_mem_cons.mpr ⟨wd_108, List.forall_mem_cons.mpr ⟨wd_107, List.forall_mem_cons.mpr ⟨wd_106, List.forall_mem_cons.mpr ⟨wd_105, fun _ h => absurd h List.not_mem_nil⟩⟩⟩⟩⟩⟩⟩⟩⟩
theorem ii_N : ∀ w ∈ u_ws RR_N FF_N 14, w ∈ tb := List.forall_mem_cons.mpr ⟨wd_127, List.forall_mem_cons.mpr ⟨wd_126, List.forall_mem_cons.mpr ⟨wd_125, List.forall_mem_cons.mpr ⟨wd_124, List.forall_mem_cons.mpr ⟨wd_123, List.forall_mem_cons.mpr ⟨wd_122, List.forall_mem_cons.mpr ⟨wd_121, List.forall_mem_cons.mpr ⟨wd_120, List.forall_mem_cons.mpr ⟨wd_119, List.forall_mem_cons.mpr ⟨wd_118, List.forall_mem_cons.mpr ⟨wd_117, List.forall_mem_cons.mpr ⟨wd_116, List.forall_mem_cons.mpr ⟨wd_115, List.forall_mem_cons.mpr ⟨wd_114, fun _ h => absurd h List.not_mem_nil⟩⟩⟩⟩⟩⟩⟩⟩⟩⟩⟩⟩⟩⟩
theorem ii_A : ∀ w ∈ u_ws RR_A FF_A 3, w ∈ tb := List.forall_mem_cons.mpr ⟨wd_130, List.forall_mem_cons.mpr ⟨wd_129, List.forall_mem_cons.mpr ⟨wd_128, fun _ h => absurd h List.not_mem_nil⟩⟩⟩
theorem ii_M : ∀ w ∈ u_ws RR_M FF_M 25, w ∈ tb := List.forall_mem_cons.mpr ⟨wd_155, List.forall_mem_cons.mpr ⟨wd_154, List.forall_mem_cons.mpr ⟨wd_153, List.forall_mem_cons.mpr ⟨wd_152, List.forall_mem_cons.mpr ⟨wd_151, List.forall_mem_cons.mpr ⟨wd_150, List.forall_mem_cons.mpr ⟨wd_149, List.forall_mem_cons.mpr ⟨wd_148, List.forall_mem_cons.mpr ⟨wd_147, List.forall_mem_cons.mpr ⟨wd_146, List.forall_mem_cons.mpr ⟨wd_145, List.forall_mem_cons.mpr ⟨wd_144, List.forall_mem_cons.mpr ⟨wd_143, List.forall_mem_cons.mpr ⟨wd_142, List.forall_mem_cons.mpr ⟨wd_141, List.forall_mem_cons.mpr ⟨wd_140, List.forall_mem_cons.mpr ⟨wd_139, List.forall_mem_cons.mpr ⟨wd_138, List.forall_mem_cons.mpr ⟨wd_137, List.forall_mem_cons.mpr ⟨wd_136, List.forall_mem_cons.mpr ⟨wd_135, List.forall_mem_cons.mpr ⟨wd_134, List.forall_mem_cons.mpr ⟨wd_133, List.forall_mem_cons.mpr ⟨wd_132, List.forall_mem_cons.mpr ⟨wd_131, fun _ h => absurd h List.not_mem_nil⟩⟩⟩⟩⟩⟩⟩⟩⟩⟩⟩⟩⟩⟩⟩⟩⟩⟩⟩⟩⟩⟩⟩⟩⟩
