section
-- ===== PART A: goes FIRST, ahead of the names: the tables' words, and 'selects' of the private methods out of them =====
/-- a private method of a class that the tables say can be made, by its rows of tables_1 -/
def lw_okq (q : MethodName × Nat) : Prop := (q.1.cls ≠ "java/lang/invoke/MethodHandle" ∧ q.1.cls ≠ "java/lang/invoke/VarHandle") ∧ Cond.instantiable q.1.cls q.2 ∈ tables_1 ∧ Cond.privateMethod q.1 ∈ tables_1 ∧ Cond.instanceMethod q.1 ∈ tables_1
theorem lw_p0 : lw_okq (⟨"LevelTypes", "lastIsWhole", "()Z"⟩, 6) := ⟨⟨by decide +kernel, by decide +kernel⟩, List.mem_of_getElem? (i := 17) (by decide +kernel), List.mem_of_getElem? (i := 88) (by decide +kernel), List.mem_of_getElem? (i := 89) (by decide +kernel)⟩
theorem lw_p1 : lw_okq (⟨"LevelTypes", "lastDefinition", "()LLevelTypes$Definition;"⟩, 6) := ⟨⟨by decide +kernel, by decide +kernel⟩, List.mem_of_getElem? (i := 17) (by decide +kernel), List.mem_of_getElem? (i := 92) (by decide +kernel), List.mem_of_getElem? (i := 93) (by decide +kernel)⟩
theorem lw_p2 : lw_okq (⟨"LevelTypes", "definitionNamed", "(J)LLevelTypes$Definition;"⟩, 6) := ⟨⟨by decide +kernel, by decide +kernel⟩, List.mem_of_getElem? (i := 17) (by decide +kernel), List.mem_of_getElem? (i := 119) (by decide +kernel), List.mem_of_getElem? (i := 120) (by decide +kernel)⟩
theorem lw_p3 : lw_okq (⟨"java/util/ArrayList", "add", "(Ljava/lang/Object;[Ljava/lang/Object;I)V"⟩, 3) := ⟨⟨by decide +kernel, by decide +kernel⟩, List.mem_of_getElem? (i := 25) (by decide +kernel), List.mem_of_getElem? (i := 172) (by decide +kernel), List.mem_of_getElem? (i := 173) (by decide +kernel)⟩
theorem lw_p4 : lw_okq (⟨"java/util/ArrayList", "grow", "()[Ljava/lang/Object;"⟩, 3) := ⟨⟨by decide +kernel, by decide +kernel⟩, List.mem_of_getElem? (i := 25) (by decide +kernel), List.mem_of_getElem? (i := 176) (by decide +kernel), List.mem_of_getElem? (i := 177) (by decide +kernel)⟩
theorem lw_p5 : lw_okq (⟨"java/util/ArrayList", "grow", "(I)[Ljava/lang/Object;"⟩, 3) := ⟨⟨by decide +kernel, by decide +kernel⟩, List.mem_of_getElem? (i := 25) (by decide +kernel), List.mem_of_getElem? (i := 180) (by decide +kernel), List.mem_of_getElem? (i := 181) (by decide +kernel)⟩
theorem lw_p6 : lw_okq (⟨"LevelTypes", "lookAtAll", "()V"⟩, 6) := ⟨⟨by decide +kernel, by decide +kernel⟩, List.mem_of_getElem? (i := 17) (by decide +kernel), List.mem_of_getElem? (i := 339) (by decide +kernel), List.mem_of_getElem? (i := 340) (by decide +kernel)⟩
theorem lw_p7 : lw_okq (⟨"LevelTypes", "endsInMain", "()Z"⟩, 6) := ⟨⟨by decide +kernel, by decide +kernel⟩, List.mem_of_getElem? (i := 17) (by decide +kernel), List.mem_of_getElem? (i := 343) (by decide +kernel), List.mem_of_getElem? (i := 344) (by decide +kernel)⟩
theorem lw_p8 : lw_okq (⟨"LevelTypes", "lookAt", "(LLevelTypes$Node;)V"⟩, 6) := ⟨⟨by decide +kernel, by decide +kernel⟩, List.mem_of_getElem? (i := 17) (by decide +kernel), List.mem_of_getElem? (i := 352) (by decide +kernel), List.mem_of_getElem? (i := 353) (by decide +kernel)⟩
theorem lw_p9 : lw_okq (⟨"LevelTypes", "arriveAt", "(LLevelTypes$Node;)Z"⟩, 6) := ⟨⟨by decide +kernel, by decide +kernel⟩, List.mem_of_getElem? (i := 17) (by decide +kernel), List.mem_of_getElem? (i := 356) (by decide +kernel), List.mem_of_getElem? (i := 357) (by decide +kernel)⟩
theorem lw_p10 : lw_okq (⟨"LevelTypes$Node", "admits", "(II)Z"⟩, 14) := ⟨⟨by decide +kernel, by decide +kernel⟩, List.mem_of_getElem? (i := 267) (by decide +kernel), List.mem_of_getElem? (i := 400) (by decide +kernel), List.mem_of_getElem? (i := 401) (by decide +kernel)⟩
theorem lw_p11 : lw_okq (⟨"LevelTypes$Node", "typeOfXAfter", "(I)I"⟩, 14) := ⟨⟨by decide +kernel, by decide +kernel⟩, List.mem_of_getElem? (i := 267) (by decide +kernel), List.mem_of_getElem? (i := 409) (by decide +kernel), List.mem_of_getElem? (i := 410) (by decide +kernel)⟩
theorem lw_p12 : lw_okq (⟨"LevelTypes", "knownNode", "(I)LLevelTypes$Node;"⟩, 6) := ⟨⟨by decide +kernel, by decide +kernel⟩, List.mem_of_getElem? (i := 17) (by decide +kernel), List.mem_of_getElem? (i := 424) (by decide +kernel), List.mem_of_getElem? (i := 425) (by decide +kernel)⟩
theorem lw_p13 : lw_okq (⟨"LevelTypes", "nodeAt", "(I)LLevelTypes$Node;"⟩, 6) := ⟨⟨by decide +kernel, by decide +kernel⟩, List.mem_of_getElem? (i := 17) (by decide +kernel), List.mem_of_getElem? (i := 428) (by decide +kernel), List.mem_of_getElem? (i := 429) (by decide +kernel)⟩
theorem lw_p14 : lw_okq (⟨"LevelTypesModel", "isWhole", "()Z"⟩, 25) := ⟨⟨by decide +kernel, by decide +kernel⟩, List.mem_of_getElem? (i := 448) (by decide +kernel), List.mem_of_getElem? (i := 539) (by decide +kernel), List.mem_of_getElem? (i := 540) (by decide +kernel)⟩
theorem lw_p15 : lw_okq (⟨"LevelTypesModel", "lacking", "()I"⟩, 25) := ⟨⟨by decide +kernel, by decide +kernel⟩, List.mem_of_getElem? (i := 448) (by decide +kernel), List.mem_of_getElem? (i := 543) (by decide +kernel), List.mem_of_getElem? (i := 544) (by decide +kernel)⟩
def lw_privs_1 : List (MethodName × Nat) := [(⟨"LevelTypes", "lastIsWhole", "()Z"⟩, 6), (⟨"LevelTypes", "lastDefinition", "()LLevelTypes$Definition;"⟩, 6), (⟨"LevelTypes", "definitionNamed", "(J)LLevelTypes$Definition;"⟩, 6), (⟨"java/util/ArrayList", "add", "(Ljava/lang/Object;[Ljava/lang/Object;I)V"⟩, 3), (⟨"java/util/ArrayList", "grow", "()[Ljava/lang/Object;"⟩, 3), (⟨"java/util/ArrayList", "grow", "(I)[Ljava/lang/Object;"⟩, 3), (⟨"LevelTypes", "lookAtAll", "()V"⟩, 6), (⟨"LevelTypes", "endsInMain", "()Z"⟩, 6), (⟨"LevelTypes", "lookAt", "(LLevelTypes$Node;)V"⟩, 6), (⟨"LevelTypes", "arriveAt", "(LLevelTypes$Node;)Z"⟩, 6), (⟨"LevelTypes$Node", "admits", "(II)Z"⟩, 14), (⟨"LevelTypes$Node", "typeOfXAfter", "(I)I"⟩, 14), (⟨"LevelTypes", "knownNode", "(I)LLevelTypes$Node;"⟩, 6), (⟨"LevelTypes", "nodeAt", "(I)LLevelTypes$Node;"⟩, 6), (⟨"LevelTypesModel", "isWhole", "()Z"⟩, 25), (⟨"LevelTypesModel", "lacking", "()I"⟩, 25)]
theorem lw_r1 : ∀ q ∈ lw_privs_1, lw_okq q := List.forall_mem_cons.mpr ⟨lw_p0, List.forall_mem_cons.mpr ⟨lw_p1, List.forall_mem_cons.mpr ⟨lw_p2, List.forall_mem_cons.mpr ⟨lw_p3, List.forall_mem_cons.mpr ⟨lw_p4, List.forall_mem_cons.mpr ⟨lw_p5, List.forall_mem_cons.mpr ⟨lw_p6, List.forall_mem_cons.mpr ⟨lw_p7, List.forall_mem_cons.mpr ⟨lw_p8, List.forall_mem_cons.mpr ⟨lw_p9, List.forall_mem_cons.mpr ⟨lw_p10, List.forall_mem_cons.mpr ⟨lw_p11, List.forall_mem_cons.mpr ⟨lw_p12, List.forall_mem_cons.mpr ⟨lw_p13, List.forall_mem_cons.mpr ⟨lw_p14, List.forall_mem_cons.mpr ⟨lw_p15, fun _ h => absurd h List.not_mem_nil⟩⟩⟩⟩⟩⟩⟩⟩⟩⟩⟩⟩⟩⟩⟩⟩
theorem lw_p16 : lw_okq (⟨"LevelTypesModel", "isMain", "()Z"⟩, 25) := ⟨⟨by decide +kernel, by decide +kernel⟩, List.mem_of_getElem? (i := 448) (by decide +kernel), List.mem_of_getElem? (i := 574) (by decide +kernel), List.mem_of_getElem? (i := 575) (by decide +kernel)⟩
theorem lw_p17 : lw_okq (⟨"LevelTypesModel", "wrong", "(II)I"⟩, 25) := ⟨⟨by decide +kernel, by decide +kernel⟩, List.mem_of_getElem? (i := 448) (by decide +kernel), List.mem_of_getElem? (i := 579) (by decide +kernel), List.mem_of_getElem? (i := 580) (by decide +kernel)⟩
theorem lw_p18 : lw_okq (⟨"LevelTypesModel", "comeTo", "(I)V"⟩, 25) := ⟨⟨by decide +kernel, by decide +kernel⟩, List.mem_of_getElem? (i := 448) (by decide +kernel), List.mem_of_getElem? (i := 583) (by decide +kernel), List.mem_of_getElem? (i := 584) (by decide +kernel)⟩
theorem lw_p19 : lw_okq (⟨"LevelTypesModel", "there", "(I)I"⟩, 25) := ⟨⟨by decide +kernel, by decide +kernel⟩, List.mem_of_getElem? (i := 448) (by decide +kernel), List.mem_of_getElem? (i := 587) (by decide +kernel), List.mem_of_getElem? (i := 588) (by decide +kernel)⟩
theorem lw_p20 : lw_okq (⟨"LevelTypesModel", "bindsIn", "(II)Z"⟩, 25) := ⟨⟨by decide +kernel, by decide +kernel⟩, List.mem_of_getElem? (i := 448) (by decide +kernel), List.mem_of_getElem? (i := 591) (by decide +kernel), List.mem_of_getElem? (i := 592) (by decide +kernel)⟩
theorem lw_p21 : lw_okq (⟨"LevelTypesModel", "binderOf", "(IJ)I"⟩, 25) := ⟨⟨by decide +kernel, by decide +kernel⟩, List.mem_of_getElem? (i := 448) (by decide +kernel), List.mem_of_getElem? (i := 595) (by decide +kernel), List.mem_of_getElem? (i := 596) (by decide +kernel)⟩
theorem lw_p22 : lw_okq (⟨"LevelTypesModel", "targetOf", "(I)I"⟩, 25) := ⟨⟨by decide +kernel, by decide +kernel⟩, List.mem_of_getElem? (i := 448) (by decide +kernel), List.mem_of_getElem? (i := 599) (by decide +kernel), List.mem_of_getElem? (i := 600) (by decide +kernel)⟩
theorem lw_p23 : lw_okq (⟨"LevelTypesModel", "isEnd", "(III)Z"⟩, 25) := ⟨⟨by decide +kernel, by decide +kernel⟩, List.mem_of_getElem? (i := 448) (by decide +kernel), List.mem_of_getElem? (i := 603) (by decide +kernel), List.mem_of_getElem? (i := 604) (by decide +kernel)⟩
theorem lw_p24 : lw_okq (⟨"LevelTypesModel", "leave", "(I)V"⟩, 25) := ⟨⟨by decide +kernel, by decide +kernel⟩, List.mem_of_getElem? (i := 448) (by decide +kernel), List.mem_of_getElem? (i := 607) (by decide +kernel), List.mem_of_getElem? (i := 608) (by decide +kernel)⟩
theorem lw_p25 : lw_okq (⟨"LevelTypesModel", "typeOf", "(I)I"⟩, 25) := ⟨⟨by decide +kernel, by decide +kernel⟩, List.mem_of_getElem? (i := 448) (by decide +kernel), List.mem_of_getElem? (i := 611) (by decide +kernel), List.mem_of_getElem? (i := 612) (by decide +kernel)⟩
theorem lw_p26 : lw_okq (⟨"LevelTypesModel", "typeOfVariable", "(I)I"⟩, 25) := ⟨⟨by decide +kernel, by decide +kernel⟩, List.mem_of_getElem? (i := 448) (by decide +kernel), List.mem_of_getElem? (i := 615) (by decide +kernel), List.mem_of_getElem? (i := 616) (by decide +kernel)⟩
theorem lw_p27 : lw_okq (⟨"LevelTypesModel", "partOf", "(II)I"⟩, 25) := ⟨⟨by decide +kernel, by decide +kernel⟩, List.mem_of_getElem? (i := 448) (by decide +kernel), List.mem_of_getElem? (i := 619) (by decide +kernel), List.mem_of_getElem? (i := 620) (by decide +kernel)⟩
theorem lw_p28 : lw_okq (⟨"LevelTypesModel", "canStand", "(II)Z"⟩, 25) := ⟨⟨by decide +kernel, by decide +kernel⟩, List.mem_of_getElem? (i := 448) (by decide +kernel), List.mem_of_getElem? (i := 623) (by decide +kernel), List.mem_of_getElem? (i := 624) (by decide +kernel)⟩
theorem lw_p29 : lw_okq (⟨"LevelTypesModel", "isKnown", "(I)Z"⟩, 25) := ⟨⟨by decide +kernel, by decide +kernel⟩, List.mem_of_getElem? (i := 448) (by decide +kernel), List.mem_of_getElem? (i := 631) (by decide +kernel), List.mem_of_getElem? (i := 632) (by decide +kernel)⟩
def lw_privs_2 : List (MethodName × Nat) := [(⟨"LevelTypesModel", "isMain", "()Z"⟩, 25), (⟨"LevelTypesModel", "wrong", "(II)I"⟩, 25), (⟨"LevelTypesModel", "comeTo", "(I)V"⟩, 25), (⟨"LevelTypesModel", "there", "(I)I"⟩, 25), (⟨"LevelTypesModel", "bindsIn", "(II)Z"⟩, 25), (⟨"LevelTypesModel", "binderOf", "(IJ)I"⟩, 25), (⟨"LevelTypesModel", "targetOf", "(I)I"⟩, 25), (⟨"LevelTypesModel", "isEnd", "(III)Z"⟩, 25), (⟨"LevelTypesModel", "leave", "(I)V"⟩, 25), (⟨"LevelTypesModel", "typeOf", "(I)I"⟩, 25), (⟨"LevelTypesModel", "typeOfVariable", "(I)I"⟩, 25), (⟨"LevelTypesModel", "partOf", "(II)I"⟩, 25), (⟨"LevelTypesModel", "canStand", "(II)Z"⟩, 25), (⟨"LevelTypesModel", "isKnown", "(I)Z"⟩, 25)]
theorem lw_r2 : ∀ q ∈ lw_privs_2, lw_okq q := List.forall_mem_cons.mpr ⟨lw_p16, List.forall_mem_cons.mpr ⟨lw_p17, List.forall_mem_cons.mpr ⟨lw_p18, List.forall_mem_cons.mpr ⟨lw_p19, List.forall_mem_cons.mpr ⟨lw_p20, List.forall_mem_cons.mpr ⟨lw_p21, List.forall_mem_cons.mpr ⟨lw_p22, List.forall_mem_cons.mpr ⟨lw_p23, List.forall_mem_cons.mpr ⟨lw_p24, List.forall_mem_cons.mpr ⟨lw_p25, List.forall_mem_cons.mpr ⟨lw_p26, List.forall_mem_cons.mpr ⟨lw_p27, List.forall_mem_cons.mpr ⟨lw_p28, List.forall_mem_cons.mpr ⟨lw_p29, fun _ h => absurd h List.not_mem_nil⟩⟩⟩⟩⟩⟩⟩⟩⟩⟩⟩⟩⟩⟩
def lw_privs : List (MethodName × Nat) := lw_privs_1 ++ (lw_privs_2)
def lw_tbl : List Cond := k2_sels lw_privs ++ tables_1
theorem lw_privs_ok : ∀ q ∈ lw_privs, lw_okq q := by
  show ∀ q ∈ lw_privs_1 ++ (lw_privs_2), lw_okq q
  exact List.forall_mem_append.mpr ⟨lw_r1, lw_r2⟩
end
section
/-! names, field tables, methods: printed by my own program out of the tables -/
abbrev RR_L : String := "LevelTypes"
abbrev RR_N : String := "LevelTypes$Node"
abbrev RR_D : String := "LevelTypes$Definition"
abbrev RR_K : String := "LevelTypes$Kind"
abbrev RR_T : String := "LevelTypes$Type"
abbrev RR_A : String := "java/util/ArrayList"
abbrev RR_M : String := "LevelTypesModel"
abbrev RR_AC : String := "java/util/AbstractCollection"
abbrev RR_AL : String := "java/util/AbstractList"
abbrev RR_AR : String := "java/util/Arrays"
abbrev RR_OB : String := "java/util/Objects"
abbrev RR_AS : String := "jdk/internal/util/ArraysSupport"
abbrev RR_PC : String := "jdk/internal/util/Preconditions"
abbrev RR_MA : String := "java/lang/Math"
abbrev RR_SY : String := "java/lang/System"
abbrev RR_OO : String := "java/lang/Object"
abbrev RR_W : String := "LevelTypesLaw"
def FF_L : u_T := fun k => match k with
  | 0 => ("LevelTypes", "definitions", "Ljava/util/ArrayList;", true)
  | 1 => ("LevelTypes", "nodes", "Ljava/util/ArrayList;", true)
  | 2 => ("LevelTypes", "known", "Z", false)
  | 3 => ("LevelTypes", "fault", "I", false)
  | 4 => ("LevelTypes", "faultNode", "I", false)
  | _ => ("LevelTypes", "mostVariables", "I", false)
def tt_L : Nat → FieldType := fun k => match k with
  | 0 => (.object "java/util/ArrayList")
  | 1 => (.object "java/util/ArrayList")
  | 2 => .boolean
  | 3 => .int
  | 4 => .int
  | _ => .int
theorem nn_L : ∀ a, a < 6 → ∀ b, b < 6 → a ≠ b → (FF_L a).2.1 ≠ (FF_L b).2.1 := by decide +kernel
theorem tt_L_ok : ∀ k, k < 6 → parseFieldDescriptor (FF_L k).2.2.1 = some (tt_L k) := by decide +kernel
def FF_D : u_T := fun k => match k with
  | 0 => ("LevelTypes$Definition", "number", "I", true)
  | 1 => ("LevelTypes$Definition", "changes", "Z", true)
  | 2 => ("LevelTypes$Definition", "name", "J", true)
  | 3 => ("LevelTypes$Definition", "valueType", "I", true)
  | 4 => ("LevelTypes$Definition", "parameterNames", "[J", true)
  | 5 => ("LevelTypes$Definition", "parameterTypes", "[I", true)
  | 6 => ("LevelTypes$Definition", "parameters", "I", false)
  | 7 => ("LevelTypes$Definition", "begun", "Z", false)
  | _ => ("LevelTypes$Definition", "open", "LLevelTypes$Node;", false)
def tt_D : Nat → FieldType := fun k => match k with
  | 0 => .int
  | 1 => .boolean
  | 2 => .long
  | 3 => .int
  | 4 => (.array .long)
  | 5 => (.array .int)
  | 6 => .int
  | 7 => .boolean
  | _ => (.object "LevelTypes$Node")
theorem nn_D : ∀ a, a < 9 → ∀ b, b < 9 → a ≠ b → (FF_D a).2.1 ≠ (FF_D b).2.1 := by decide +kernel
theorem tt_D_ok : ∀ k, k < 9 → parseFieldDescriptor (FF_D k).2.2.1 = some (tt_D k) := by decide +kernel
def FF_N : u_T := fun k => match k with
  | 0 => ("LevelTypes$Node", "number", "I", true)
  | 1 => ("LevelTypes$Node", "home", "LLevelTypes$Definition;", true)
  | 2 => ("LevelTypes$Node", "parent", "LLevelTypes$Node;", true)
  | 3 => ("LevelTypes$Node", "place", "I", true)
  | 4 => ("LevelTypes$Node", "kind", "I", true)
  | 5 => ("LevelTypes$Node", "first", "J", true)
  | 6 => ("LevelTypes$Node", "second", "J", true)
  | 7 => ("LevelTypes$Node", "parts", "I", true)
  | 8 => ("LevelTypes$Node", "filled", "I", false)
  | 9 => ("LevelTypes$Node", "valueType", "I", false)
  | 10 => ("LevelTypes$Node", "typeOfX", "I", false)
  | 11 => ("LevelTypes$Node", "boundBy", "I", false)
  | 12 => ("LevelTypes$Node", "callee", "LLevelTypes$Definition;", false)
  | _ => ("LevelTypes$Node", "variables", "I", false)
def tt_N : Nat → FieldType := fun k => match k with
  | 0 => .int
  | 1 => (.object "LevelTypes$Definition")
  | 2 => (.object "LevelTypes$Node")
  | 3 => .int
  | 4 => .int
  | 5 => .long
  | 6 => .long
  | 7 => .int
  | 8 => .int
  | 9 => .int
  | 10 => .int
  | 11 => .int
  | 12 => (.object "LevelTypes$Definition")
  | _ => .int
theorem nn_N : ∀ a, a < 14 → ∀ b, b < 14 → a ≠ b → (FF_N a).2.1 ≠ (FF_N b).2.1 := by decide +kernel
theorem tt_N_ok : ∀ k, k < 14 → parseFieldDescriptor (FF_N k).2.2.1 = some (tt_N k) := by decide +kernel
def FF_A : u_T := fun k => match k with
  | 0 => ("java/util/AbstractList", "modCount", "I", false)
  | 1 => ("java/util/ArrayList", "elementData", "[Ljava/lang/Object;", false)
  | _ => ("java/util/ArrayList", "size", "I", false)
def tt_A : Nat → FieldType := fun k => match k with
  | 0 => .int
  | 1 => (.array (.object "java/lang/Object"))
  | _ => .int
theorem nn_A : ∀ a, a < 3 → ∀ b, b < 3 → a ≠ b → (FF_A a).2.1 ≠ (FF_A b).2.1 := by decide +kernel
theorem tt_A_ok : ∀ k, k < 3 → parseFieldDescriptor (FF_A k).2.2.1 = some (tt_A k) := by decide +kernel
def FF_M : u_T := fun k => match k with
  | 0 => ("LevelTypesModel", "thrown", "I", false)
  | 1 => ("LevelTypesModel", "many", "I", false)
  | 2 => ("LevelTypesModel", "isChg", "[Z", true)
  | 3 => ("LevelTypesModel", "titles", "[J", true)
  | 4 => ("LevelTypesModel", "results", "[I", true)
  | 5 => ("LevelTypesModel", "parameterMany", "[I", true)
  | 6 => ("LevelTypesModel", "parameterNames", "[J", true)
  | 7 => ("LevelTypesModel", "parameterTypes", "[I", true)
  | 8 => ("LevelTypesModel", "begins", "[I", true)
  | 9 => ("LevelTypesModel", "nodes", "I", false)
  | 10 => ("LevelTypesModel", "kinds", "[I", true)
  | 11 => ("LevelTypesModel", "firsts", "[J", true)
  | 12 => ("LevelTypesModel", "seconds", "[J", true)
  | 13 => ("LevelTypesModel", "parts", "[I", true)
  | 14 => ("LevelTypesModel", "parents", "[I", true)
  | 15 => ("LevelTypesModel", "parted", "[I", true)
  | 16 => ("LevelTypesModel", "owners", "[I", true)
  | 17 => ("LevelTypesModel", "has", "[I", true)
  | 18 => ("LevelTypesModel", "types", "[I", true)
  | 19 => ("LevelTypesModel", "binders", "[I", true)
  | 20 => ("LevelTypesModel", "targets", "[I", true)
  | 21 => ("LevelTypesModel", "known", "Z", false)
  | 22 => ("LevelTypesModel", "fault", "I", false)
  | 23 => ("LevelTypesModel", "faultNode", "I", false)
  | _ => ("LevelTypesModel", "most", "I", false)
def tt_M : Nat → FieldType := fun k => match k with
  | 0 => .int
  | 1 => .int
  | 2 => (.array .boolean)
  | 3 => (.array .long)
  | 4 => (.array .int)
  | 5 => (.array .int)
  | 6 => (.array .long)
  | 7 => (.array .int)
  | 8 => (.array .int)
  | 9 => .int
  | 10 => (.array .int)
  | 11 => (.array .long)
  | 12 => (.array .long)
  | 13 => (.array .int)
  | 14 => (.array .int)
  | 15 => (.array .int)
  | 16 => (.array .int)
  | 17 => (.array .int)
  | 18 => (.array .int)
  | 19 => (.array .int)
  | 20 => (.array .int)
  | 21 => .boolean
  | 22 => .int
  | 23 => .int
  | _ => .int
theorem nn_M : ∀ a, a < 25 → ∀ b, b < 25 → a ≠ b → (FF_M a).2.1 ≠ (FF_M b).2.1 := by decide +kernel
theorem tt_M_ok : ∀ k, k < 25 → parseFieldDescriptor (FF_M k).2.2.1 = some (tt_M k) := by decide +kernel
abbrev classes : List vw_C := [(RR_L, FF_L, 6), (RR_D, FF_D, 9), (RR_N, FF_N, 14), (RR_A, FF_A, 3), (RR_M, FF_M, 25)]
abbrev bb_L_init : ByteArray := prog_1_method_1_code
abbrev yy_L_init : MethodName := ⟨"LevelTypes", "<init>", "()V"⟩
abbrev bb_L_clear : ByteArray := prog_1_method_2_code
abbrev yy_L_clear : MethodName := ⟨"LevelTypes", "clear", "()V"⟩
abbrev bb_L_define : ByteArray := prog_1_method_3_code
abbrev yy_L_define : MethodName := ⟨"LevelTypes", "define", "(ZJI)I"⟩
abbrev bb_L_parameter : ByteArray := prog_1_method_4_code
abbrev yy_L_parameter : MethodName := ⟨"LevelTypes", "parameter", "(JI)I"⟩
abbrev bb_L_node : ByteArray := prog_1_method_5_code
abbrev yy_L_node : MethodName := ⟨"LevelTypes", "node", "(IJJI)I"⟩
abbrev bb_L_check : ByteArray := prog_1_method_6_code
abbrev yy_L_check : MethodName := ⟨"LevelTypes", "check", "()I"⟩
abbrev bb_L_type : ByteArray := prog_1_method_7_code
abbrev yy_L_type : MethodName := ⟨"LevelTypes", "type", "(I)I"⟩
abbrev bb_L_binder : ByteArray := prog_1_method_8_code
abbrev yy_L_binder : MethodName := ⟨"LevelTypes", "binder", "(I)I"⟩
abbrev bb_L_target : ByteArray := prog_1_method_9_code
abbrev yy_L_target : MethodName := ⟨"LevelTypes", "target", "(I)I"⟩
abbrev bb_L_of : ByteArray := prog_1_method_10_code
abbrev yy_L_of : MethodName := ⟨"LevelTypes", "of", "(II)I"⟩
abbrev bb_L_look : ByteArray := prog_1_method_11_code
abbrev yy_L_look : MethodName := ⟨"LevelTypes", "look", "(I)I"⟩
abbrev bb_L_lastDefinition : ByteArray := prog_1_method_12_code
abbrev yy_L_lastDefinition : MethodName := ⟨"LevelTypes", "lastDefinition", "()LLevelTypes$Definition;"⟩
abbrev bb_L_lastIsWhole : ByteArray := prog_1_method_13_code
abbrev yy_L_lastIsWhole : MethodName := ⟨"LevelTypes", "lastIsWhole", "()Z"⟩
abbrev bb_L_definitionNamed : ByteArray := prog_1_method_14_code
abbrev yy_L_definitionNamed : MethodName := ⟨"LevelTypes", "definitionNamed", "(J)LLevelTypes$Definition;"⟩
abbrev bb_L_nodeAt : ByteArray := prog_1_method_15_code
abbrev yy_L_nodeAt : MethodName := ⟨"LevelTypes", "nodeAt", "(I)LLevelTypes$Node;"⟩
abbrev bb_L_knownNode : ByteArray := prog_1_method_16_code
abbrev yy_L_knownNode : MethodName := ⟨"LevelTypes", "knownNode", "(I)LLevelTypes$Node;"⟩
abbrev bb_L_lookAtAll : ByteArray := prog_1_method_17_code
abbrev yy_L_lookAtAll : MethodName := ⟨"LevelTypes", "lookAtAll", "()V"⟩
abbrev bb_L_endsInMain : ByteArray := prog_1_method_18_code
abbrev yy_L_endsInMain : MethodName := ⟨"LevelTypes", "endsInMain", "()Z"⟩
abbrev bb_L_lookAt : ByteArray := prog_1_method_19_code
abbrev yy_L_lookAt : MethodName := ⟨"LevelTypes", "lookAt", "(LLevelTypes$Node;)V"⟩
abbrev bb_L_arriveAt : ByteArray := prog_1_method_20_code
abbrev yy_L_arriveAt : MethodName := ⟨"LevelTypes", "arriveAt", "(LLevelTypes$Node;)Z"⟩
abbrev bb_L_firstMisfit : ByteArray := prog_1_method_21_code
abbrev yy_L_firstMisfit : MethodName := ⟨"LevelTypes", "firstMisfit", "(LLevelTypes$Node;)LLevelTypes$Node;"⟩
abbrev bb_M_init : ByteArray := prog_7_method_1_code
abbrev yy_M_init : MethodName := ⟨"LevelTypesModel", "<init>", "()V"⟩
abbrev bb_M_clear : ByteArray := prog_7_method_3_code
abbrev yy_M_clear : MethodName := ⟨"LevelTypesModel", "clear", "()V"⟩
abbrev bb_M_lacking : ByteArray := prog_7_method_4_code
abbrev yy_M_lacking : MethodName := ⟨"LevelTypesModel", "lacking", "()I"⟩
abbrev bb_M_isWhole : ByteArray := prog_7_method_5_code
abbrev yy_M_isWhole : MethodName := ⟨"LevelTypesModel", "isWhole", "()Z"⟩
abbrev bb_M_define : ByteArray := prog_7_method_6_code
abbrev yy_M_define : MethodName := ⟨"LevelTypesModel", "define", "(ZJI)I"⟩
abbrev bb_M_parameter : ByteArray := prog_7_method_7_code
abbrev yy_M_parameter : MethodName := ⟨"LevelTypesModel", "parameter", "(JI)I"⟩
abbrev bb_M_due : ByteArray := prog_7_method_8_code
abbrev yy_M_due : MethodName := ⟨"LevelTypesModel", "due", "(I)I"⟩
abbrev bb_M_isChangeable : ByteArray := prog_7_method_9_code
abbrev yy_M_isChangeable : MethodName := ⟨"LevelTypesModel", "isChangeable", "(II)Z"⟩
abbrev bb_M_hasFirst : ByteArray := prog_7_method_10_code
abbrev yy_M_hasFirst : MethodName := ⟨"LevelTypesModel", "hasFirst", "(I)Z"⟩
abbrev bb_M_hasSecond : ByteArray := prog_7_method_11_code
abbrev yy_M_hasSecond : MethodName := ⟨"LevelTypesModel", "hasSecond", "(I)Z"⟩
abbrev bb_M_isNode : ByteArray := prog_7_method_12_code
abbrev yy_M_isNode : MethodName := ⟨"LevelTypesModel", "isNode", "(IJJI)Z"⟩
abbrev bb_M_node : ByteArray := prog_7_method_13_code
abbrev yy_M_node : MethodName := ⟨"LevelTypesModel", "node", "(IJJI)I"⟩
abbrev bb_M_wrong : ByteArray := prog_7_method_14_code
abbrev yy_M_wrong : MethodName := ⟨"LevelTypesModel", "wrong", "(II)I"⟩
abbrev bb_M_bindsIn : ByteArray := prog_7_method_15_code
abbrev yy_M_bindsIn : MethodName := ⟨"LevelTypesModel", "bindsIn", "(II)Z"⟩
abbrev bb_M_there : ByteArray := prog_7_method_16_code
abbrev yy_M_there : MethodName := ⟨"LevelTypesModel", "there", "(I)I"⟩
abbrev bb_M_binderOf : ByteArray := prog_7_method_17_code
abbrev yy_M_binderOf : MethodName := ⟨"LevelTypesModel", "binderOf", "(IJ)I"⟩
abbrev bb_M_targetOf : ByteArray := prog_7_method_18_code
abbrev yy_M_targetOf : MethodName := ⟨"LevelTypesModel", "targetOf", "(I)I"⟩
abbrev bb_M_partOf : ByteArray := prog_7_method_19_code
abbrev yy_M_partOf : MethodName := ⟨"LevelTypesModel", "partOf", "(II)I"⟩
abbrev bb_M_comeTo : ByteArray := prog_7_method_20_code
abbrev yy_M_comeTo : MethodName := ⟨"LevelTypesModel", "comeTo", "(I)V"⟩
abbrev bb_M_typeOfVariable : ByteArray := prog_7_method_21_code
abbrev yy_M_typeOfVariable : MethodName := ⟨"LevelTypesModel", "typeOfVariable", "(I)I"⟩
abbrev bb_M_typeOf : ByteArray := prog_7_method_22_code
abbrev yy_M_typeOf : MethodName := ⟨"LevelTypesModel", "typeOf", "(I)I"⟩
abbrev bb_M_canStand : ByteArray := prog_7_method_23_code
abbrev yy_M_canStand : MethodName := ⟨"LevelTypesModel", "canStand", "(II)Z"⟩
abbrev bb_M_leave : ByteArray := prog_7_method_24_code
abbrev yy_M_leave : MethodName := ⟨"LevelTypesModel", "leave", "(I)V"⟩
abbrev bb_M_isEnd : ByteArray := prog_7_method_25_code
abbrev yy_M_isEnd : MethodName := ⟨"LevelTypesModel", "isEnd", "(III)Z"⟩
abbrev bb_M_isMain : ByteArray := prog_7_method_26_code
abbrev yy_M_isMain : MethodName := ⟨"LevelTypesModel", "isMain", "()Z"⟩
abbrev bb_M_check : ByteArray := prog_7_method_27_code
abbrev yy_M_check : MethodName := ⟨"LevelTypesModel", "check", "()I"⟩
abbrev bb_M_isKnown : ByteArray := prog_7_method_28_code
abbrev yy_M_isKnown : MethodName := ⟨"LevelTypesModel", "isKnown", "(I)Z"⟩
abbrev bb_M_type : ByteArray := prog_7_method_29_code
abbrev yy_M_type : MethodName := ⟨"LevelTypesModel", "type", "(I)I"⟩
abbrev bb_M_binder : ByteArray := prog_7_method_30_code
abbrev yy_M_binder : MethodName := ⟨"LevelTypesModel", "binder", "(I)I"⟩
abbrev bb_M_target : ByteArray := prog_7_method_31_code
abbrev yy_M_target : MethodName := ⟨"LevelTypesModel", "target", "(I)I"⟩
abbrev bb_M_of : ByteArray := prog_7_method_32_code
abbrev yy_M_of : MethodName := ⟨"LevelTypesModel", "of", "(II)I"⟩
abbrev bb_M_look : ByteArray := prog_7_method_33_code
abbrev yy_M_look : MethodName := ⟨"LevelTypesModel", "look", "(I)I"⟩
abbrev bb_D_init : ByteArray := prog_2_method_1_code
abbrev yy_D_init : MethodName := ⟨"LevelTypes$Definition", "<init>", "(IZJI)V"⟩
abbrev bb_D_isWhole : ByteArray := prog_2_method_2_code
abbrev yy_D_isWhole : MethodName := ⟨"LevelTypes$Definition", "isWhole", "()Z"⟩
abbrev bb_D_wantsChange : ByteArray := prog_2_method_3_code
abbrev yy_D_wantsChange : MethodName := ⟨"LevelTypes$Definition", "wantsChange", "()Z"⟩
abbrev bb_D_addParameter : ByteArray := prog_2_method_4_code
abbrev yy_D_addParameter : MethodName := ⟨"LevelTypes$Definition", "addParameter", "(JI)V"⟩
abbrev bb_D_indexOfParameter : ByteArray := prog_2_method_5_code
abbrev yy_D_indexOfParameter : MethodName := ⟨"LevelTypes$Definition", "indexOfParameter", "(J)I"⟩
abbrev bb_D_parameterType : ByteArray := prog_2_method_6_code
abbrev yy_D_parameterType : MethodName := ⟨"LevelTypes$Definition", "parameterType", "(I)I"⟩
abbrev bb_D_take : ByteArray := prog_2_method_7_code
abbrev yy_D_take : MethodName := ⟨"LevelTypes$Definition", "take", "(LLevelTypes$Node;)V"⟩
abbrev bb_K_isKind : ByteArray := prog_3_method_2_code
abbrev yy_K_isKind : MethodName := ⟨"LevelTypes$Kind", "isKind", "(I)Z"⟩
abbrev bb_K_isChange : ByteArray := prog_3_method_3_code
abbrev yy_K_isChange : MethodName := ⟨"LevelTypes$Kind", "isChange", "(I)Z"⟩
abbrev bb_K_isCall : ByteArray := prog_3_method_4_code
abbrev yy_K_isCall : MethodName := ⟨"LevelTypes$Kind", "isCall", "(I)Z"⟩
abbrev bb_K_isCase : ByteArray := prog_3_method_5_code
abbrev yy_K_isCase : MethodName := ⟨"LevelTypes$Kind", "isCase", "(I)Z"⟩
abbrev bb_K_isLet : ByteArray := prog_3_method_6_code
abbrev yy_K_isLet : MethodName := ⟨"LevelTypes$Kind", "isLet", "(I)Z"⟩
abbrev bb_K_isBinder : ByteArray := prog_3_method_7_code
abbrev yy_K_isBinder : MethodName := ⟨"LevelTypes$Kind", "isBinder", "(I)Z"⟩
abbrev bb_K_isAsLastPart : ByteArray := prog_3_method_8_code
abbrev yy_K_isAsLastPart : MethodName := ⟨"LevelTypes$Kind", "isAsLastPart", "(I)Z"⟩
abbrev bb_K_wantsChange : ByteArray := prog_3_method_9_code
abbrev yy_K_wantsChange : MethodName := ⟨"LevelTypes$Kind", "wantsChange", "(II)Z"⟩
abbrev bb_K_partsFit : ByteArray := prog_3_method_10_code
abbrev yy_K_partsFit : MethodName := ⟨"LevelTypes$Kind", "partsFit", "(II)Z"⟩
abbrev bb_K_namesFit : ByteArray := prog_3_method_11_code
abbrev yy_K_namesFit : MethodName := ⟨"LevelTypes$Kind", "namesFit", "(IJJ)Z"⟩
abbrev bb_K_ownType : ByteArray := prog_3_method_12_code
abbrev yy_K_ownType : MethodName := ⟨"LevelTypes$Kind", "ownType", "(I)I"⟩
abbrev bb_N_init : ByteArray := prog_4_method_1_code
abbrev yy_N_init : MethodName := ⟨"LevelTypes$Node", "<init>", "(ILLevelTypes$Definition;IJJI)V"⟩
abbrev bb_N_isLastPart : ByteArray := prog_4_method_2_code
abbrev yy_N_isLastPart : MethodName := ⟨"LevelTypes$Node", "isLastPart", "()Z"⟩
abbrev bb_N_countVariables : ByteArray := prog_4_method_3_code
abbrev yy_N_countVariables : MethodName := ⟨"LevelTypes$Node", "countVariables", "()V"⟩
abbrev bb_N_variablesOfLastPart : ByteArray := prog_4_method_4_code
abbrev yy_N_variablesOfLastPart : MethodName := ⟨"LevelTypes$Node", "variablesOfLastPart", "()I"⟩
abbrev bb_N_bindsInLastPart : ByteArray := prog_4_method_5_code
abbrev yy_N_bindsInLastPart : MethodName := ⟨"LevelTypes$Node", "bindsInLastPart", "(J)Z"⟩
abbrev bb_N_bind : ByteArray := prog_4_method_6_code
abbrev yy_N_bind : MethodName := ⟨"LevelTypes$Node", "bind", "()Z"⟩
abbrev bb_N_aimAt : ByteArray := prog_4_method_7_code
abbrev yy_N_aimAt : MethodName := ⟨"LevelTypes$Node", "aimAt", "(LLevelTypes$Definition;)Z"⟩
abbrev bb_N_fits : ByteArray := prog_4_method_8_code
abbrev yy_N_fits : MethodName := ⟨"LevelTypes$Node", "fits", "()Z"⟩
abbrev bb_N_admits : ByteArray := prog_4_method_9_code
abbrev yy_N_admits : MethodName := ⟨"LevelTypes$Node", "admits", "(II)Z"⟩
abbrev bb_N_hearOf : ByteArray := prog_4_method_10_code
abbrev yy_N_hearOf : MethodName := ⟨"LevelTypes$Node", "hearOf", "(II)V"⟩
abbrev bb_N_typeOfXAfter : ByteArray := prog_4_method_11_code
abbrev yy_N_typeOfXAfter : MethodName := ⟨"LevelTypes$Node", "typeOfXAfter", "(I)I"⟩
abbrev bb_T_isType : ByteArray := prog_5_method_2_code
abbrev yy_T_isType : MethodName := ⟨"LevelTypes$Type", "isType", "(I)Z"⟩
abbrev bb_T_isWritten : ByteArray := prog_5_method_3_code
abbrev yy_T_isWritten : MethodName := ⟨"LevelTypes$Type", "isWritten", "(I)Z"⟩
abbrev bb_OO_init : ByteArray := object_method_1_code
abbrev yy_OO_init : MethodName := ⟨"java/lang/Object", "<init>", "()V"⟩
abbrev bb_MA_max : ByteArray := prog_11_method_65_code
abbrev yy_MA_max : MethodName := ⟨"java/lang/Math", "max", "(II)I"⟩
abbrev bb_MA_min : ByteArray := prog_11_method_69_code
abbrev yy_MA_min : MethodName := ⟨"java/lang/Math", "min", "(II)I"⟩
abbrev bb_AC_init : ByteArray := prog_13_method_1_code
abbrev yy_AC_init : MethodName := ⟨"java/util/AbstractCollection", "<init>", "()V"⟩
abbrev bb_AL_init : ByteArray := prog_14_method_1_code
abbrev yy_AL_init : MethodName := ⟨"java/util/AbstractList", "<init>", "()V"⟩
abbrev bb_A_init : ByteArray := prog_15_method_2_code
abbrev yy_A_init : MethodName := ⟨"java/util/ArrayList", "<init>", "()V"⟩
abbrev bb_A_add : ByteArray := prog_15_method_25_code
abbrev yy_A_add : MethodName := ⟨"java/util/ArrayList", "add", "(Ljava/lang/Object;)Z"⟩
abbrev bb_A_add3 : ByteArray := prog_15_method_24_code
abbrev yy_A_add3 : MethodName := ⟨"java/util/ArrayList", "add", "(Ljava/lang/Object;[Ljava/lang/Object;I)V"⟩
abbrev bb_A_clear : ByteArray := prog_15_method_40_code
abbrev yy_A_clear : MethodName := ⟨"java/util/ArrayList", "clear", "()V"⟩
abbrev bb_A_elementData : ByteArray := prog_15_method_18_code
abbrev yy_A_elementData : MethodName := ⟨"java/util/ArrayList", "elementData", "(I)Ljava/lang/Object;"⟩
abbrev bb_A_get : ByteArray := prog_15_method_20_code
abbrev yy_A_get : MethodName := ⟨"java/util/ArrayList", "get", "(I)Ljava/lang/Object;"⟩
abbrev bb_A_grow : ByteArray := prog_15_method_7_code
abbrev yy_A_grow : MethodName := ⟨"java/util/ArrayList", "grow", "()[Ljava/lang/Object;"⟩
abbrev bb_A_grow1 : ByteArray := prog_15_method_6_code
abbrev yy_A_grow1 : MethodName := ⟨"java/util/ArrayList", "grow", "(I)[Ljava/lang/Object;"⟩
abbrev bb_A_size : ByteArray := prog_15_method_8_code
abbrev yy_A_size : MethodName := ⟨"java/util/ArrayList", "size", "()I"⟩
abbrev bb_AR_copyOf : ByteArray := prog_16_method_119_code
abbrev yy_AR_copyOf : MethodName := ⟨"java/util/Arrays", "copyOf", "([Ljava/lang/Object;I)[Ljava/lang/Object;"⟩
abbrev bb_AR_copyOf3 : ByteArray := prog_16_method_120_code
abbrev yy_AR_copyOf3 : MethodName := ⟨"java/util/Arrays", "copyOf", "([Ljava/lang/Object;ILjava/lang/Class;)[Ljava/lang/Object;"⟩
abbrev bb_OB_checkIndex : ByteArray := prog_19_method_17_code
abbrev yy_OB_checkIndex : MethodName := ⟨"java/util/Objects", "checkIndex", "(II)I"⟩
abbrev bb_AS_hugeLength : ByteArray := prog_22_method_28_code
abbrev yy_AS_hugeLength : MethodName := ⟨"jdk/internal/util/ArraysSupport", "hugeLength", "(II)I"⟩
abbrev bb_AS_newLength : ByteArray := prog_22_method_27_code
abbrev yy_AS_newLength : MethodName := ⟨"jdk/internal/util/ArraysSupport", "newLength", "(III)I"⟩
abbrev bb_PC_checkIndex : ByteArray := prog_23_method_11_code
abbrev yy_PC_checkIndex : MethodName := ⟨"jdk/internal/util/Preconditions", "checkIndex", "(IILjava/util/function/BiFunction;)I"⟩
end
section
/-! MAPS OF CELLS. A world is a map from addresses to cells; a method's contract speaks of one map before and one map behind it. -/
abbrev mC : Type := Nat → Option va_E
def mp_up (M : mC) (a : Nat) (e : va_E) : mC := fun q => if q = a then some e else M q
theorem mp_self (M : mC) (a : Nat) (e : va_E) : mp_up M a e a = some e := if_pos rfl
theorem mp_ne {M : mC} {a q : Nat} {e : va_E} (h : q ≠ a) : mp_up M a e q = M q := if_neg h
theorem mp_mp (M : mC) (a : Nat) (e e' : va_E) : mp_up (mp_up M a e) a e' = mp_up M a e' := by
  funext q
  by_cases h : q = a
  · simp [mp_up, h]
  · simp [mp_up, h]
theorem mp_old {M : mC} {a q : Nat} {e x : va_E} (h : M q = some x) (ha : M a = none) : mp_up M a e q = some x := by
  have hq : q ≠ a := fun z => by rw [z, ha] at h; cases h
  rw [mp_ne hq]
  exact h
/-- the tables of the classes, four array classes (int, long, Object, boolean), the addresses of the table PARTS, of the empty array of lists and of the class object of Object[] -/
abbrev gC : Type := va_G × (ClassId × ClassId × ClassId × ClassId) × (Nat × Nat × Nat)
def hm (G : gC) (M : mC) (H : Heap) : Prop := ∀ (a : Nat) (e : va_E), M a = some e → va_at G.1 classes (a, e) H
abbrev m_tys (G : gC) : List (ClassId × FieldType) := [(G.2.1.1, .int), (G.2.1.2.1, .long), (G.2.1.2.2.1, .object "java/lang/Object"), (G.2.1.2.2.2, .boolean)]
def mK (G : gC) (U : State) : Prop := va_K G.1 classes (m_tys G) U ∧ va_AO "java/lang/Object" U ∧ va_Mi "[Ljava/lang/Object;" G.2.2.2.2 U ∧ va_Dc U ∧ va_Nw (.castable "LevelTypes$Definition" "java/lang/Object") U ∧ va_Nw (.castable "LevelTypes$Node" "java/lang/Object") U
theorem nw_cast {C T : String} {u U : State} (h : u.vm.Alike U.vm) (k : va_Nw (.castable C T) u) : va_Nw (.castable C T) U := va_tabs rfl (rfl : (u.setVm U.vm).vm = U.vm) (by rw [Cond.castable_setVm h]; exact k)
theorem mK_moved {G : gC} {u U : State} (h : u.vm.Alike U.vm) (k : mK G u) : mK G U := ⟨va_K.moved h k.1, k.2.1.moved h, k.2.2.1.moved h, k.2.2.2.1.moved h, nw_cast h k.2.2.2.2.1, nw_cast h k.2.2.2.2.2⟩
theorem hm_P {G : gC} {M : mC} {H : Heap} (h : hm G M H) {a : Nat} {e : va_E} (he : M a = some e) : va_P G.1 classes [(a, e)] H := by
  intro k q hk
  have hz : k < 1 := (List.getElem?_eq_some_iff.mp hk).1
  rw [show k = 0 by omega] at hk
  cases hk
  exact h a e he
theorem hm_D {A : Nat → Prop} {a : Nat} {e : va_E} (ha : A a) : va_D A [(a, e)] := by
  refine ⟨fun i j p q hi hj _ => ?_, fun k q hk => ?_⟩
  · have h1 : i < 1 := (List.getElem?_eq_some_iff.mp hi).1
    have h2 : j < 1 := (List.getElem?_eq_some_iff.mp hj).1
    omega
  · have hz : k < 1 := (List.getElem?_eq_some_iff.mp hk).1
    rw [show k = 0 by omega] at hk
    cases hk
    exact ha
theorem hm_lt {G : gC} {M : mC} {H : Heap} (h : hm G M H) {a : Nat} {e : va_E} (he : M a = some e) : a < H.size := (h a e he).lt
theorem hm_new {G : gC} {M : mC} {H : Heap} (h : hm G M H) {q : Nat} (hq : H.size ≤ q) : M q = none := by
  cases hM : M q with
  | none => rfl
  | some e => exact absurd (hm_lt h hM) (by omega)
theorem hm_put {G : gC} {M : mC} {H H1 : Heap} (h : hm G M H) {a : Nat} {e : va_E} (he : va_at G.1 classes (a, e) H1) (oq : ∀ q : Nat, q ≠ a → H1[q]? = H[q]?) : hm G (mp_up M a e) H1 := by
  intro q x hx
  by_cases hq : q = a
  · subst hq
    rw [mp_self] at hx
    cases hx
    exact he
  · rw [mp_ne hq] at hx
    exact (h q x hx).kept (oq q hq)
theorem hm_kept {G : gC} {M : mC} {H H1 : Heap} (h : hm G M H) (oq : ∀ q : Nat, M q ≠ none → q < H.size → H1[q]? = H[q]?) : hm G M H1 := by
  intro q x hx
  exact (h q x hx).kept (oq q (fun z => by rw [hx] at z; cases z) (hm_lt h hx))
theorem hm_push {G : gC} {M : mC} {H H1 : Heap} (h : hm G M H) {e : va_E} (he : va_at G.1 classes (H.size, e) H1) (oq : ∀ q : Nat, q < H.size → H1[q]? = H[q]?) : hm G (mp_up M H.size e) H1 := by
  intro q x hx
  by_cases hq : q = H.size
  · subst hq
    rw [mp_self] at hx
    cases hx
    exact he
  · rw [mp_ne hq] at hx
    exact (h q x hx).kept (oq q (hm_lt h hx))
/-- what a method may change: the map's cells, and new ones -/
def fr (M : mC) (sz : Nat) : Nat → Prop := fun q => M q ≠ none ∨ sz ≤ q
theorem fr_in {M : mC} {sz a : Nat} {e : va_E} (h : M a = some e) : fr M sz a := Or.inl (fun z => by rw [h] at z; cases z)
theorem fr_new {M : mC} {sz q : Nat} (h : sz ≤ q) : fr M sz q := Or.inr h
/-- the words that every contract has -/
def tb : List Cond := lw_tbl.filter goodWord
theorem tb_in {w : Cond} (h : w ∈ lw_tbl) (hg : goodWord w = true) : w ∈ tb := List.mem_filter.mpr ⟨h, hg⟩
theorem tb_lw {w : Cond} (h : w ∈ tb) : w ∈ lw_tbl := (List.mem_filter.mp h).1
theorem tb_good {w : Cond} (h : w ∈ tb) : (w.onTables && w.keeps) = true ∨ ∃ ty, w = .arrayClass ty := good_of_word (List.mem_filter.mp h).2
theorem tb_GI {ws : List Cond} (h : ∀ w ∈ ws, w ∈ tb) : GoodIn tb ws := fun w hw => ⟨h w hw, tb_good (h w hw)⟩
/-- the room of a method that calls at most d deep -/
def rd (d mc ms : Nat) : Room := { frames := d, cells := mc, slots := ms, locals := 40 * d }
abbrev rd_in (R : Room) (d n : Nat) : Prop := d + 1 ≤ R.frames ∧ 8 + (n + 11) + 40 * d ≤ R.locals
/-- a boolean as the machine has it -/
def bI (b : Bool) : Int32 := if b then 1 else 0
theorem bI_0 {b : Bool} : bI b = 0 ↔ b = false := by cases b <;> decide
theorem bI_n {b : Bool} : ¬ bI b = 0 ↔ b = true := by cases b <;> decide
theorem bI_1 {b : Bool} : bI b = 1 ↔ b = true := by cases b <;> decide
theorem bI_m {b : Bool} : ¬ bI b = 1 ↔ b = false := by cases b <;> decide
theorem bI_z {b : Bool} : narrow .boolean (.int (bI b)) = .int (bI b) := by cases b <;> rfl
theorem bI_eq {a b : Bool} : bI a = bI b ↔ a = b := by cases a <;> cases b <;> decide
theorem bI_f {b : Bool} : fits .boolean (.int (bI b)) = true := by cases b <;> rfl
/-- A READER: nothing changes, the answer is r -/
def cR (l : Launch) (y : MethodName) (b : ByteArray) (n : Nat) (ret : Option FieldType) (d : Nat) (G : gC) (M : mC) (av : List Value) (r : Value) : Prop :=
  Met l y (Cond.code y b n ret :: tb) (rd d 0 0) (va_Pc av (fun U => hm G M U.heap ∧ mK G U)) (k2_QcV r) 0 0 (fun _ => False)
theorem me_R {l : Launch} {y : MethodName} {b : ByteArray} {n : Nat} {ret : Option FieldType} {d : Nat} {G : gC} {M : mC} {av : List Value} {r : Value} (hy : plainName y.cls = true) (hlen : (lg_sl av).length ≤ n)
    (body : ∀ (p : Program) (e : Env) (s : State) (m : MethodId) (below : List Frame) (meth : Method) (c : Code) (ls : Array Slot), p.tables.exec = Jvm.exec → c.code = b → meth.sig.returnType = ret → meth.locks = false → c.maxLocals = n → s.vm.findClass y.cls = some m.cls → (∀ w ∈ tb, w.before av.toArray s = true) → hm G M s.heap → mK G s → lv_has ls n (lv_args 0 av) →
      W p l e (rd d 0 0) s m av.toArray below meth c s.heap [] 0 0 (MQ below (k2_QcV r) av.toArray s 0 0 (fun _ => False)) (F0 m 0 ls [])) : cR l y b n ret d G M av r := by
  refine Met.ofW (cc := b) (maxL := n) (ret := ret) hy rfl ?_
  intro p e s m args below meth c s₁ B hml hv
  obtain ⟨rfl, hM, hK⟩ := hv
  have ht := atoms_spec (ws := Cond.code y b n ret :: tb) B.pre
  have hl := lv_entry av (n := n) hlen
  rw [lg_entry_eq]
  exact body p e s m below meth c _ B.exec B.bytes B.returns B.notSynchronized hml (findClass_of_methodNamed B.named) (fun w hw => ht w (List.mem_cons_of_mem _ hw)) hM hK hl
section MROW
variable {p : Program} {l : Launch} {e : Env} {R : Room} {s : State} {m : MethodId} {args : Array Value} {below : List Frame} {meth : Method} {c : Code} {H : Heap} {locs : List Loc} {cells slots : Nat} {Q : State → Prop}
variable {cc : ByteArray} {pc : Nat} {ls : Array Slot} {rest : List Value} {G : gC} {M : mC} {a : Nat}
/-- the end of a reader -/
theorem mr_i {r : Value} {v : Int32} {ty : FieldType} (hexec : p.tables.exec = Jvm.exec) (hb : c.code = cc) (hr : meth.sig.returnType = some ty) (hlocks : meth.locks = false) (hn : narrow ty (.int v) = .int v) (hrv : Value.int v = r) (hdg : decode cc pc = .ok (.ireturn, 1)) : W p l e R s m args below meth c s.heap [] 0 0 (MQ below (k2_QcV r) args s 0 0 (fun _ => False)) (F0 m pc ls [.int v]) :=
  W.zret hexec hb hr hn (fun t ht _ => ⟨by rw [hrv], ht⟩) (fun q h => by cases h) hdg hlocks
theorem mr_a {r : Value} {x : Option Nat} {C : String} (hexec : p.tables.exec = Jvm.exec) (hb : c.code = cc) (hr : meth.sig.returnType = some (.object C)) (hlocks : meth.locks = false) (hrv : va_rf x = r) (hdg : decode cc pc = .ok (.areturn, 1)) : W p l e R s m args below meth c s.heap [] 0 0 (MQ below (k2_QcV r) args s 0 0 (fun _ => False)) (F0 m pc ls [va_rf x]) :=
  W.aret hexec hb hr (Or.inl ⟨C, rfl⟩) (by cases x with | none => exact Or.inl rfl | some y => exact Or.inr ⟨y, rfl⟩) (fun t ht _ => ⟨by rw [hrv], ht⟩) (fun q h => by cases h) hdg hlocks
theorem mr_an {r : Value} {C : String} (hexec : p.tables.exec = Jvm.exec) (hb : c.code = cc) (hr : meth.sig.returnType = some (.object C)) (hlocks : meth.locks = false) (hrv : Value.null = r) (hdg : decode cc pc = .ok (.areturn, 1)) : W p l e R s m args below meth c s.heap [] 0 0 (MQ below (k2_QcV r) args s 0 0 (fun _ => False)) (F0 m pc ls [.null]) := mr_a (x := none) hexec hb hr hlocks hrv hdg
theorem mr_ar {r : Value} {y : Nat} {C : String} (hexec : p.tables.exec = Jvm.exec) (hb : c.code = cc) (hr : meth.sig.returnType = some (.object C)) (hlocks : meth.locks = false) (hrv : Value.ref y = r) (hdg : decode cc pc = .ok (.areturn, 1)) : W p l e R s m args below meth c s.heap [] 0 0 (MQ below (k2_QcV r) args s 0 0 (fun _ => False)) (F0 m pc ls [.ref y]) := mr_a (x := some y) hexec hb hr hlocks hrv hdg
/-- references that may be null -/
theorem lr_aload_n (hexec : p.tables.exec = Jvm.exec) (hb : c.code = cc) {k : Fin 4} {i : Nat} {x : Option Nat} (hdg : decode cc pc = .ok (.aload_n k, 1)) (hi : (k : Nat) = i) (hl : ls[i]? = some (.val (va_rf x)))
    (k : W p l e R s m args below meth c H locs cells slots Q (F0 m (pc + 1) ls (va_rf x :: rest))) : W p l e R s m args below meth c H locs cells slots Q (F0 m pc ls (rest)) := by
  cases x with
  | none => exact lv_aload_nN hexec hb hdg hi hl k
  | some y => exact lv_aload_n hexec hb hdg hi hl k
theorem lr_aload (hexec : p.tables.exec = Jvm.exec) (hb : c.code = cc) {i : Nat} {x : Option Nat} (hdg : decode cc pc = .ok (.aload i, 2)) (hl : ls[i]? = some (.val (va_rf x)))
    (k : W p l e R s m args below meth c H locs cells slots Q (F0 m (pc + 2) ls (va_rf x :: rest))) : W p l e R s m args below meth c H locs cells slots Q (F0 m pc ls (rest)) := by
  cases x with
  | none => exact lv_aloadN hexec hb hdg hl k
  | some y => exact lv_aload hexec hb hdg hl k
theorem lr_astore_n (hexec : p.tables.exec = Jvm.exec) (hb : c.code = cc) {k : Fin 4} {i nL : Nat} {x : Option Nat} {lv lv' : List (Nat × Value)} (hdg : decode cc pc = .ok (.astore_n k, 1)) (hi : (k : Nat) = i) (h : lv_has ls nL lv) (hn : i < nL) (hl : (i, va_rf x) :: lv.filter (fun q => !(q.1 == i) && !(q.1 + 1 == i && q.2.category == 2)) = lv')
    (kk : ∀ ls' : Array Slot, lv_has ls' nL lv' → W p l e R s m args below meth c H locs cells slots Q (F0 m (pc + 1) ls' rest)) : W p l e R s m args below meth c H locs cells slots Q (F0 m pc ls (va_rf x :: rest)) := by
  cases x with
  | none => exact lv_astore_nN hexec hb hdg hi h hn hl kk
  | some y => exact lv_astore_n hexec hb hdg hi h hn hl kk
theorem lr_astore (hexec : p.tables.exec = Jvm.exec) (hb : c.code = cc) {i nL : Nat} {x : Option Nat} {lv lv' : List (Nat × Value)} (hdg : decode cc pc = .ok (.astore i, 2)) (h : lv_has ls nL lv) (hn : i < nL) (hl : (i, va_rf x) :: lv.filter (fun q => !(q.1 == i) && !(q.1 + 1 == i && q.2.category == 2)) = lv')
    (kk : ∀ ls' : Array Slot, lv_has ls' nL lv' → W p l e R s m args below meth c H locs cells slots Q (F0 m (pc + 2) ls' rest)) : W p l e R s m args below meth c H locs cells slots Q (F0 m pc ls (va_rf x :: rest)) := by
  cases x with
  | none => exact lv_astoreN hexec hb hdg h hn hl kk
  | some y => exact lv_astore hexec hb hdg h hn hl kk
theorem lr_ifnull (hexec : p.tables.exec = Jvm.exec) (hb : c.code = cc) {x : Option Nat} {off : Int} {tgt : Nat} (hdg : decode cc pc = .ok (.ifnull off, 3)) (ht : (pc : Int) + off = (tgt : Int)) (kt : x = none → W p l e R s m args below meth c H locs cells slots Q (F0 m tgt ls rest)) (kf : ∀ y : Nat, x = some y → W p l e R s m args below meth c H locs cells slots Q (F0 m (pc + 3) ls rest)) : W p l e R s m args below meth c H locs cells slots Q (F0 m pc ls (va_rf x :: rest)) := by
  cases x with
  | none => exact lv_ifnullN hexec hb hdg ht (kt rfl)
  | some y => exact lv_ifnull hexec hb hdg (kf y rfl)
theorem lr_ifnonnull (hexec : p.tables.exec = Jvm.exec) (hb : c.code = cc) {x : Option Nat} {off : Int} {tgt : Nat} (hdg : decode cc pc = .ok (.ifnonnull off, 3)) (ht : (pc : Int) + off = (tgt : Int)) (kt : ∀ y : Nat, x = some y → W p l e R s m args below meth c H locs cells slots Q (F0 m tgt ls rest)) (kf : x = none → W p l e R s m args below meth c H locs cells slots Q (F0 m (pc + 3) ls rest)) : W p l e R s m args below meth c H locs cells slots Q (F0 m pc ls (va_rf x :: rest)) := by
  cases x with
  | none => exact lv_ifnonnullN hexec hb hdg (kf rfl)
  | some y => exact lv_ifnonnull hexec hb hdg ht (kt y rfl)
/-- branches on a boolean, and on a comparison of longs -/
theorem lb_if_eq (hexec : p.tables.exec = Jvm.exec) (hb : c.code = cc) {x : Bool} {off : Int} {tgt : Nat} (hdg : decode cc pc = .ok (.ifCond .eq off, 3)) (ht : (pc : Int) + off = (tgt : Int))
    (kt : x = false → W p l e R s m args below meth c H locs cells slots Q (F0 m tgt ls rest)) (kf : x = true → W p l e R s m args below meth c H locs cells slots Q (F0 m (pc + 3) ls rest)) : W p l e R s m args below meth c H locs cells slots Q (F0 m pc ls (.int (bI x) :: rest)) :=
  lv_if_eq hexec hb hdg ht (fun h => kt (bI_0.mp h)) (fun h => kf (bI_n.mp h))
theorem lb_if_ne (hexec : p.tables.exec = Jvm.exec) (hb : c.code = cc) {x : Bool} {off : Int} {tgt : Nat} (hdg : decode cc pc = .ok (.ifCond .ne off, 3)) (ht : (pc : Int) + off = (tgt : Int))
    (kt : x = true → W p l e R s m args below meth c H locs cells slots Q (F0 m tgt ls rest)) (kf : x = false → W p l e R s m args below meth c H locs cells slots Q (F0 m (pc + 3) ls rest)) : W p l e R s m args below meth c H locs cells slots Q (F0 m pc ls (.int (bI x) :: rest)) :=
  lv_if_ne hexec hb hdg ht (fun h => kt (bI_n.mp h)) (fun h => kf (bI_0.mp h))
theorem lc_if_eq (hexec : p.tables.exec = Jvm.exec) (hb : c.code = cc) {x y : Int64} {off : Int} {tgt : Nat} (hdg : decode cc pc = .ok (.ifCond .eq off, 3)) (ht : (pc : Int) + off = (tgt : Int))
    (kt : x = y → W p l e R s m args below meth c H locs cells slots Q (F0 m tgt ls rest)) (kf : ¬ x = y → W p l e R s m args below meth c H locs cells slots Q (F0 m (pc + 3) ls rest)) : W p l e R s m args below meth c H locs cells slots Q (F0 m pc ls (.int (lg_cmp x y) :: rest)) :=
  lv_if_eq hexec hb hdg ht (fun h => kt ((lg_cmp_eq x y).mp h)) (fun h => kf (fun z => h ((lg_cmp_eq x y).mpr z)))
theorem lc_if_ne (hexec : p.tables.exec = Jvm.exec) (hb : c.code = cc) {x y : Int64} {off : Int} {tgt : Nat} (hdg : decode cc pc = .ok (.ifCond .ne off, 3)) (ht : (pc : Int) + off = (tgt : Int))
    (kt : ¬ x = y → W p l e R s m args below meth c H locs cells slots Q (F0 m tgt ls rest)) (kf : x = y → W p l e R s m args below meth c H locs cells slots Q (F0 m (pc + 3) ls rest)) : W p l e R s m args below meth c H locs cells slots Q (F0 m pc ls (.int (lg_cmp x y) :: rest)) :=
  lv_if_ne hexec hb hdg ht (fun h => kt (fun z => h ((lg_cmp_eq x y).mpr z))) (fun h => kf ((lg_cmp_eq x y).mp h))
theorem lc_if_le (hexec : p.tables.exec = Jvm.exec) (hb : c.code = cc) {x y : Int64} {off : Int} {tgt : Nat} (hdg : decode cc pc = .ok (.ifCond .le off, 3)) (ht : (pc : Int) + off = (tgt : Int))
    (kt : x ≤ y → W p l e R s m args below meth c H locs cells slots Q (F0 m tgt ls rest)) (kf : ¬ x ≤ y → W p l e R s m args below meth c H locs cells slots Q (F0 m (pc + 3) ls rest)) : W p l e R s m args below meth c H locs cells slots Q (F0 m pc ls (.int (lg_cmp x y) :: rest)) :=
  lv_if_le hexec hb hdg ht (fun h => kt ((lg_cmp_le x y).mp h)) (fun h => kf (fun z => h ((lg_cmp_le x y).mpr z)))
theorem lc_if_gt (hexec : p.tables.exec = Jvm.exec) (hb : c.code = cc) {x y : Int64} {off : Int} {tgt : Nat} (hdg : decode cc pc = .ok (.ifCond .gt off, 3)) (ht : (pc : Int) + off = (tgt : Int))
    (kt : y < x → W p l e R s m args below meth c H locs cells slots Q (F0 m tgt ls rest)) (kf : ¬ y < x → W p l e R s m args below meth c H locs cells slots Q (F0 m (pc + 3) ls rest)) : W p l e R s m args below meth c H locs cells slots Q (F0 m pc ls (.int (lg_cmp x y) :: rest)) :=
  lv_if_gt hexec hb hdg ht (fun h => kt ((lg_cmp_gt x y).mp h)) (fun h => kf (fun z => h ((lg_cmp_gt x y).mpr z)))
/-- fields -/
theorem mg_get (hexec : p.tables.exec = Jvm.exec) (hb : c.code = cc) {own ref C : String} {T : u_T} {N ci index : Nat} (ht : ∀ w ∈ tb, w.before args s = true) (hin : ∀ w ∈ u_ws C T N, w ∈ tb) (hown : s.vm.findClass own = some m.cls) (hK : mK G s) (hM : hm G M H) {fs : List Value} (he : M a = some (.inr (ci, fs))) (hc : classes[ci]? = some (C, T, N)) (k : Nat) (hk : k < N) (hlink : Cond.fieldLink own index ref (T k).2.1 (T k).2.2.1 ∈ tb) (hsame : ∀ x, s.fieldFound? (T k).1 (T k).2.1 (T k).2.2.1 = some x → s.fieldFound? ref (T k).2.1 (T k).2.2.1 = some x) {v : Value} (hv : fs[k]? = some v) (hdg : decode cc pc = .ok (.getfield index, 3))
    (kk : W p l e R s m args below meth c H locs cells slots Q (F0 m (pc + 3) ls (v :: rest))) : W p l e R s m args below meth c H locs cells slots Q (F0 m pc ls (.ref a :: rest)) :=
  va_get hexec hb ht hin hown hK.1 (hm_P hM he) 0 rfl hc k hk (ht _ hlink) hsame hv hdg kk
theorem mg_put (hexec : p.tables.exec = Jvm.exec) (hb : c.code = cc) {own ref C : String} {T : u_T} {N ci index : Nat} (ht : ∀ w ∈ tb, w.before args s = true) (hin : ∀ w ∈ u_ws C T N, w ∈ tb) (ty0 : Nat → FieldType) (hty : ∀ k, k < N → parseFieldDescriptor (T k).2.2.1 = some (ty0 k)) (hnm : ∀ a, a < N → ∀ b, b < N → a ≠ b → (T a).2.1 ≠ (T b).2.1) (hown : s.vm.findClass own = some m.cls) (hK : mK G s) (hM : hm G M H) {A : Nat → Prop} {H0 : Heap} (hS0 : va_S A H0 H locs) (haA : A a) {fs : List Value} (he : M a = some (.inr (ci, fs))) (hc : classes[ci]? = some (C, T, N)) (k : Nat) (hk : k < N) (hlink : Cond.fieldLink own index ref (T k).2.1 (T k).2.2.1 ∈ tb) (hsame : ∀ x, s.fieldFound? (T k).1 (T k).2.1 (T k).2.2.1 = some x → s.fieldFound? ref (T k).2.1 (T k).2.2.1 = some x) (hfin : (T k).2.2.2 = false ∨ ((T k).2.2.2 = true ∧ meth.name = "<init>" ∧ (T k).1 = own)) {ty : FieldType} {v : Value} (hd : parseFieldDescriptor (T k).2.2.1 = some ty) (hn : narrow ty v = v) (hfit : fits ty v = true) (hl : k < fs.length)
    (hdg : decode cc pc = .ok (.putfield index, 3)) (kk : ∀ (H1 : Heap) (locs1 : List Loc), hm G (mp_up M a (.inr (ci, fs.set k v))) H1 → H1.size = H.size → (∀ q : Nat, q ≠ a → H1[q]? = H[q]?) → va_S A H0 H1 locs1 → W p l e R s m args below meth c H1 locs1 cells slots Q (F0 m (pc + 3) ls rest)) : W p l e R s m args below meth c H locs cells slots Q (F0 m pc ls (v :: .ref a :: rest)) := by
  have hap := va_apart (own := own) ht hin ty0 hty hnm hK.1 hc
  obtain ⟨r, h1, cell, q1, q2, q3, q4⟩ := hM a _ he
  have hr : r = (C, T, N) := Option.some.inj (h1.symm.trans hc)
  subst hr
  obtain ⟨hS, hfc, kC, hkC, hkind⟩ := hK.1.1 ci _ hc
  obtain ⟨cf, kf, fi, f, hi, hsl⟩ := hS k hk
  have hlay := ht _ (hin _ (u_in_lay hk))
  have hst := (u_facts hfc hkC (u_lays ht hin hk) hi).1
  rcases hfin with hfin | ⟨hfin, hin2, hdecl⟩
  · unfold u_lay at hlay
    rw [if_neg (by rw [hfin]; decide)] at hlay
    have h6 := u_store hfc hkC hkind hlay hi hd hn hfit
    refine W.putK hexec hb (f := f) ⟨hown, ht _ hlink, ⟨_, _, _, hsame _ hi⟩, hst⟩ (by rw [q2]; exact h6) q1 q3 (by rw [hsl]; exact k2_hasslot (q4 k hk)) rfl rfl hdg fun H' e1 e2 e3 => ?_
    rw [hsl] at e1 ⊢
    exact kk H' _ (hm_put hM ⟨_, hc, t_OB.to (V := updV (vp_V fs) k v) ⟨_, e1, q2, q3, t_set q4 hap hk v⟩ (fun j _ => vp_updV_set hl v j)⟩ e3) e2 e3 (hS0.put e2 e3 haA)
  · unfold u_lay at hlay
    rw [if_pos hfin] at hlay
    have hcf : m.cls = cf := by
      obtain ⟨_, _, c', _, _, _, -, -, hf', -, -, -, hown2, -⟩ := Cond.laysFinal_spec hlay
      have e1 : c' = cf := by have := hi.symm.trans hf'; simp at this; exact this.1.symm
      rw [hdecl] at hown2
      rw [← e1]; exact Option.some.inj (hown.symm.trans hown2)
    have h6 := u_fits hfc hkC hkind (Or.inr hlay) hi hd hn hfit
    refine W.putFinK hexec hb hown (ht _ hlink) (hsame _ hi) hst hcf hin2 (by rw [q2]; exact h6) q1 q3 (by rw [hsl]; exact k2_hasslot (q4 k hk)) rfl rfl hdg fun H' e1 e2 e3 => ?_
    rw [hsl] at e1 ⊢
    exact kk H' _ (hm_put hM ⟨_, hc, t_OB.to (V := updV (vp_V fs) k v) ⟨_, e1, q2, q3, t_set q4 hap hk v⟩ (fun j _ => vp_updV_set hl v j)⟩ e3) e2 e3 (hS0.put e2 e3 haA)
/-- arrays -/
theorem mg_alen (hexec : p.tables.exec = Jvm.exec) (hb : c.code = cc) (hK : mK G s) (hM : hm G M H) (t0 : Nat) {cA : ClassId} {x : vp_A} (ha : M a = some (.inl (cA, x))) {ty : FieldType} (ht : (m_tys G)[t0]? = some (cA, ty)) {v : Int32} (hv : Int32.ofNat x.1 = v) (hdg : decode cc pc = .ok (.arraylength, 1))
    (kk : W p l e R s m args below meth c H locs cells slots Q (F0 m (pc + 1) ls (.int v :: rest))) : W p l e R s m args below meth c H locs cells slots Q (F0 m pc ls (.ref a :: rest)) :=
  va_alen hexec hb hK.1 (hm_P hM ha) 0 t0 rfl ht hv hdg kk
theorem mg_iald (hexec : p.tables.exec = Jvm.exec) (hb : c.code = cc) (hK : mK G s) (hM : hm G M H) {n : Nat} {f : Nat → Int32} (ha : M a = some (.inl (G.2.1.1, n, .inl f))) {i : Int32} (hin : vp_in i n) (hdg : decode cc pc = .ok (.iaload, 1))
    (kk : W p l e R s m args below meth c H locs cells slots Q (F0 m (pc + 1) ls (.int (f i.toNatClampNeg) :: rest))) : W p l e R s m args below meth c H locs cells slots Q (F0 m pc ls (.int i :: .ref a :: rest)) :=
  va_iald hexec hb hK.1 (hm_P hM ha) 0 0 rfl rfl hin hdg kk
theorem mg_lald (hexec : p.tables.exec = Jvm.exec) (hb : c.code = cc) (hK : mK G s) (hM : hm G M H) {n : Nat} {f : Nat → Int64} (ha : M a = some (.inl (G.2.1.2.1, n, .inr (.inl f)))) {i : Int32} (hin : vp_in i n) (hdg : decode cc pc = .ok (.laload, 1))
    (kk : W p l e R s m args below meth c H locs cells slots Q (F0 m (pc + 1) ls (.long (f i.toNatClampNeg) :: rest))) : W p l e R s m args below meth c H locs cells slots Q (F0 m pc ls (.int i :: .ref a :: rest)) :=
  va_lald hexec hb hK.1 (hm_P hM ha) 0 1 rfl rfl hin hdg kk
theorem mg_aald (hexec : p.tables.exec = Jvm.exec) (hb : c.code = cc) (hK : mK G s) (hM : hm G M H) {n : Nat} {f : Nat → Option Nat} (ha : M a = some (.inl (G.2.1.2.2.1, n, .inr (.inr (.inr (.inr f)))))) {i : Int32} (hin : vp_in i n) (hdg : decode cc pc = .ok (.aaload, 1))
    (kk : W p l e R s m args below meth c H locs cells slots Q (F0 m (pc + 1) ls (va_rf (f i.toNatClampNeg) :: rest))) : W p l e R s m args below meth c H locs cells slots Q (F0 m pc ls (.int i :: .ref a :: rest)) :=
  va_aldq hexec hb hK.1 (hm_P hM ha) 0 2 rfl rfl hin hdg kk
/-- calls of readers -/
theorem m_recv {ci : Nat} {fs : List Value} {q : vw_C} (hK : mK G s) (hM : hm G M H) (he : M a = some (.inr (ci, fs))) (hc : classes[ci]? = some q) : ∃ cell : Cell, H[a]? = some cell ∧ cell.vm.isStatics = false ∧ s.vm.findClass q.1 = some cell.cls := va_recv hK.1 (hm_P hM he) hc (q0 := 0) rfl
theorem cR_blind {av : List Value} : FrameBlind (va_Pc av (fun U => hm G M U.heap ∧ mK G U)) := fun a U g mk q => ⟨q.1, q.2.1, mK_moved (u := U) (U := U.calling g mk a) (Vm.Alike.refl U.vm) q.2.2⟩
theorem cR_pre {av : List Value} (hK : mK G s) (hM : hm G M H) : ∀ U : State, U.heap = H → s.WarmedH U.vm → va_Pc av (fun U => hm G M U.heap ∧ mK G U) av.toArray U := fun U hU hW => ⟨rfl, by rw [hU]; exact hM, mK_moved hW.alike hK⟩
theorem mc_V {own C : String} {y : MethodName} {b' : ByteArray} {n' d' nL index : Nat} {ret' : Option FieldType} {As : List Value} {r : Value} (n : Nat) (hc : cR l y b' n' ret' d' G M (.ref a :: As) r) (hx : p.tables.exec = Jvm.exec) (hb : c.code = cc) (hml : c.maxLocals = nL) (hown : s.vm.findClass own = some m.cls) (ht : ∀ w ∈ tb, w.before args s = true) (hM : hm G M H) (hK : mK G s) (hls : ls.size = nL) (hlk : ∀ w ∈ wsV own index C y [Cond.code y b' n' ret'], w ∈ tb)
    (hd : y.cls = C ∧ y.cls ≠ "java/lang/invoke/MethodHandle" ∧ y.cls ≠ "java/lang/invoke/VarHandle" ∧ (parseMethodDescriptor y.desc).map (fun d => d.parameters.length) = some n) (hR : rd_in R d' n') {ci : Nat} {fs : List Value} {T : u_T} {N : Nat} (he : M a = some (.inr (ci, fs))) (hcl : classes[ci]? = some (C, T, N)) (hn : As.length = n) {st : List Value} (hst : st = As.reverse ++ .ref a :: rest) (hroom : (rest.map fun v => v.category).sum ≤ 8) (hdg : decode cc pc = .ok (.invokevirtual index, 3)) (hcs : cells ≤ R.cells ∧ slots ≤ R.slots)
    (kk : W p l e R s m args below meth c H locs cells slots Q (F0 m (pc + 3) ls (r :: rest))) : W p l e R s m args below meth c H locs cells slots Q (F0 m pc ls st) := by
  have hG : GoodIn tb (wsV own index C y (Cond.code y b' n' ret' :: tb)) := tb_GI (fun w hw => by
    unfold wsV at hw
    rcases List.mem_append.mp hw with h | h
    · exact hlk w (by unfold wsV; exact List.mem_append_left _ h)
    · rcases List.mem_cons.mp h with h | h
      · exact hlk w (by unfold wsV; exact List.mem_append_right _ (by rw [h]; exact List.mem_cons_self))
      · exact h)
  exact W.callV (W.runV (As := As) (rest := rest) ⟨hx, hb, hml, hown, ht⟩ hc (cwV n ht hG rfl rfl rfl hd hR) ⟨cR_blind, m_recv hK hM he hcl, cR_pre hK hM⟩ rfl hn hls hst (lv_room hroom) hdg ⟨hcs.1, hcs.2⟩) kk
theorem mc_S {own : String} {y : MethodName} {b' : ByteArray} {n' d' nL index : Nat} {ret' : Option FieldType} {As : List Value} {r : Value} (n : Nat) (hc : cR l y b' n' ret' d' G M As r) (hx : p.tables.exec = Jvm.exec) (hb : c.code = cc) (hml : c.maxLocals = nL) (hown : s.vm.findClass own = some m.cls) (ht : ∀ w ∈ tb, w.before args s = true) (hM : hm G M H) (hK : mK G s) (hls : ls.size = nL) (hlk : ∀ w ∈ va_wsS own index y [Cond.code y b' n' ret'], w ∈ tb)
    (hd : y.cls ≠ "java/lang/invoke/MethodHandle" ∧ y.cls ≠ "java/lang/invoke/VarHandle" ∧ (parseMethodDescriptor y.desc).map (fun d => d.parameters.length) = some n) (hR : rd_in R d' n') (hn : As.length = n) {st : List Value} (hst : st = As.reverse ++ rest) (hroom : (rest.map fun v => v.category).sum ≤ 8) (hdg : decode cc pc = .ok (.invokestatic index, 3)) (hcs : cells ≤ R.cells ∧ slots ≤ R.slots)
    (kk : W p l e R s m args below meth c H locs cells slots Q (F0 m (pc + 3) ls (r :: rest))) : W p l e R s m args below meth c H locs cells slots Q (F0 m pc ls st) := by
  have hG : GoodIn tb (va_wsS own index y (Cond.code y b' n' ret' :: tb)) := tb_GI (fun w hw => by
    unfold va_wsS at hw
    rcases List.mem_append.mp hw with h | h
    · exact hlk w (by unfold va_wsS; exact List.mem_append_left _ h)
    · rcases List.mem_cons.mp h with h | h
      · exact hlk w (by unfold va_wsS; exact List.mem_append_right _ (by rw [h]; exact List.mem_cons_self))
      · exact h)
  exact W.callV (W.runS (As := As) (rest := rest) ⟨hx, hb, hml, hown, ht⟩ hc (va_cwS n ht hG rfl rfl rfl hd hR) ⟨cR_blind, cR_pre hK hM⟩ rfl hn hls hst (lv_room hroom) hdg ⟨hcs.1, hcs.2⟩) kk
end MROW
end
section
/-! WRITERS: methods that change cells of the map, or make cells -/
def z_parts : Nat → Value := fun j => .int ([0, 0, 0, 2, 2, 2, 2, 2, 2, 2, 3, 2, 3, 2, -1, -1, 1, 1, 2, 1, 3, 2, 3, -1].getD j 0)
/-- statics that are read: the table PARTS, the empty array of new lists -/
def mZ (G : gC) (A : Nat → Prop) (U : State) (H : Heap) : Prop :=
  va_Z "LevelTypes$Kind" "PARTS" "[I" (.ref G.2.2.1) A U H ∧ va_T .int G.2.2.1 24 z_parts A U H ∧ va_Z "java/util/ArrayList" "DEFAULTCAPACITY_EMPTY_ELEMENTDATA" "[Ljava/lang/Object;" (.ref G.2.2.2.1) A U H ∧ va_T (.object "java/lang/Object") G.2.2.2.1 0 (fun _ => .null) A U H
theorem mZ_to {G : gC} {A B : Nat → Prop} {u U : State} {H0 H : Heap} (h : mZ G A u H0) (hk : ∀ q : Nat, q < H0.size → ¬ A q → H[q]? = H0[q]?) (hB : ∀ q, B q → A q) (hvm : u.vm.Alike U.vm) : mZ G B U H :=
  ⟨((h.1.kept hk).narrow hB).moved hvm, ((h.2.1.kept hk).narrow hB).moved hvm, ((h.2.2.1.kept hk).narrow hB).moved hvm, ((h.2.2.2.kept hk).narrow hB).moved hvm⟩
def cQ (G : gC) (M : mC) (sz : Nat) (post : Option Value → mC → Prop) : Array Value → State → Outcome → State → Prop := fun _ st o t => (∃ (v : Option Value) (u : mC), o = .returned v ∧ post v u ∧ hm G u t.heap ∧ ∀ q, u q ≠ none → fr M sz q) ∧ va_F (fr M sz) st t
abbrev cP (G : gC) (M : mC) (sz : Nat) : State → Prop := fun U => U.heap.size = sz ∧ hm G M U.heap ∧ mK G U ∧ mZ G (fr M sz) U U.heap
/-- A WRITER: the map M goes to a map u, the answer is v, with post v u -/
def cW (l : Launch) (y : MethodName) (b : ByteArray) (n : Nat) (ret : Option FieldType) (d mc ms : Nat) (G : gC) (M : mC) (sz : Nat) (av : List Value) (post : Option Value → mC → Prop) : Prop :=
  Met l y (Cond.code y b n ret :: tb) (rd d mc ms) (va_Pc av (cP G M sz)) (cQ G M sz post) mc ms (fr M sz)
theorem me_W {l : Launch} {y : MethodName} {b : ByteArray} {n : Nat} {ret : Option FieldType} {d mc ms : Nat} {G : gC} {M : mC} {sz : Nat} {av : List Value} {post : Option Value → mC → Prop} (hy : plainName y.cls = true) (hlen : (lg_sl av).length ≤ n)
    (body : ∀ (p : Program) (e : Env) (s : State) (m : MethodId) (below : List Frame) (meth : Method) (c : Code) (ls : Array Slot), p.tables.exec = Jvm.exec → c.code = b → meth.sig.returnType = ret → meth.locks = false → c.maxLocals = n → s.vm.findClass y.cls = some m.cls → meth.name = y.name → (∀ w ∈ tb, w.before av.toArray s = true) → s.heap.size = sz → hm G M s.heap → mK G s → mZ G (fr M sz) s s.heap → lv_has ls n (lv_args 0 av) →
      W p l e (rd d mc ms) s m av.toArray below meth c s.heap [] 0 0 (MQ below (cQ G M sz post) av.toArray s mc ms (fr M sz)) (F0 m 0 ls [])) : cW l y b n ret d mc ms G M sz av post := by
  refine Met.ofW (cc := b) (maxL := n) (ret := ret) hy rfl ?_
  intro p e s m args below meth c s₁ B hml hv
  obtain ⟨rfl, hsz, hM, hK, hZ⟩ := hv
  have ht := atoms_spec (ws := Cond.code y b n ret :: tb) B.pre
  have hl := lv_entry av (n := n) hlen
  rw [lg_entry_eq]
  exact body p e s m below meth c _ B.exec B.bytes B.returns B.notSynchronized hml (findClass_of_methodNamed B.named) (name_of_methodNamed B.named B.method).1 (fun w hw => ht w (List.mem_cons_of_mem _ hw)) hsz hM hK hZ hl
/-- what holds of a map on the way: its cells may be changed by the method -/
theorem hF_put {A : Nat → Prop} {M : mC} {a : Nat} {e : va_E} (h : ∀ q, M q ≠ none → A q) (ha : A a) : ∀ q, mp_up M a e q ≠ none → A q := by
  intro q hq
  by_cases hqa : q = a
  · rw [hqa]; exact ha
  · rw [mp_ne hqa] at hq; exact h q hq
theorem hF_same {A : Nat → Prop} {M : mC} {a : Nat} {e e' : va_E} (h : ∀ q, mp_up M a e q ≠ none → A q) : ∀ q, mp_up M a e' q ≠ none → A q := by
  intro q hq
  by_cases hqa : q = a
  · exact h q (by rw [hqa, mp_self]; exact Option.some_ne_none _)
  · rw [mp_ne hqa] at hq; exact h q (by rw [mp_ne hqa]; exact hq)
theorem mp_at {M : mC} {a b : Nat} {e x : va_E} (hne : b ≠ a) (h : M b = some x) : mp_up M a e b = some x := (mp_ne hne).trans h
theorem mp_re {M : mC} {a b : Nat} {e e' x : va_E} (hne : b ≠ a) (h : mp_up M a e b = some x) : mp_up M a e' b = some x := (mp_ne hne).trans ((mp_ne hne).symm.trans h)
theorem hF_fr {A : Nat → Prop} {M : mC} {H0 H : Heap} {locs : List Loc} (h : ∀ q, M q ≠ none → A q) (hS : va_S A H0 H locs) (hA : ∀ q, H0.size ≤ q → A q) : ∀ q, fr M H.size q → A q := fun q hq => hq.elim (h q) (fun z => hA q (Nat.le_trans hS.1 z))
theorem fr_A {M : mC} {sz : Nat} : ∀ q, sz ≤ q → fr M sz q := fun _ h => Or.inr h
theorem fr_M {M : mC} {sz : Nat} : ∀ q, M q ≠ none → fr M sz q := fun _ h => Or.inl h
theorem rf_nar {x : Option Nat} {C : String} : narrow (.object C) (va_rf x) = va_rf x := by cases x <;> rfl
theorem rf_fit {x : Option Nat} {C : String} : fits (.object C) (va_rf x) = true := by cases x <;> rfl
section MWRT
variable {p : Program} {l : Launch} {e : Env} {R : Room} {s : State} {m : MethodId} {args : Array Value} {below : List Frame} {meth : Method} {c : Code} {H : Heap} {locs : List Loc} {cells slots : Nat} {Q : State → Prop}
variable {cc : ByteArray} {pc : Nat} {ls : Array Slot} {rest : List Value} {G : gC} {M : mC} {a sz mc ms : Nat} {post : Option Value → mC → Prop}
theorem mw_i {v : Int32} {ty : FieldType} (hexec : p.tables.exec = Jvm.exec) (hb : c.code = cc) (hr : meth.sig.returnType = some ty) (hlocks : meth.locks = false) (hn : narrow ty (.int v) = .int v) {u : mC} (hM : hm G u H) (hF : ∀ q, u q ≠ none → fr M sz q) (hS : va_S (fr M sz) s.heap H locs) (hc : cells ≤ mc) (hs : slots ≤ ms) (hp : post (some (.int v)) u) (hdg : decode cc pc = .ok (.ireturn, 1)) : W p l e R s m args below meth c H locs cells slots (MQ below (cQ G M sz post) args s mc ms (fr M sz)) (F0 m pc ls [.int v]) :=
  W.widen hc hs (W.zret hexec hb hr hn (fun t ht _ => ⟨⟨_, u, rfl, hp, by rw [ht]; exact hM, hF⟩, hS.F ht⟩) hS.2.2 hdg hlocks)
theorem mw_v (hexec : p.tables.exec = Jvm.exec) (hb : c.code = cc) (hr : meth.sig.returnType = none) (hlocks : meth.locks = false) {u : mC} (hM : hm G u H) (hF : ∀ q, u q ≠ none → fr M sz q) (hS : va_S (fr M sz) s.heap H locs) (hc : cells ≤ mc) (hs : slots ≤ ms) (hp : post none u) (hdg : decode cc pc = .ok (.return_, 1)) : W p l e R s m args below meth c H locs cells slots (MQ below (cQ G M sz post) args s mc ms (fr M sz)) (F0 m pc ls []) :=
  W.widen hc hs (W.vret hexec hb hr (fun t ht _ => ⟨⟨_, u, rfl, hp, by rw [ht]; exact hM, hF⟩, hS.F ht⟩) hS.2.2 hdg hlocks)
theorem mw_a {x : Option Nat} {rt : FieldType} (hexec : p.tables.exec = Jvm.exec) (hb : c.code = cc) (hr : meth.sig.returnType = some rt) (hrt : (∃ n, rt = .object n) ∨ ∃ t, rt = .array t) (hlocks : meth.locks = false) {u : mC} (hM : hm G u H) (hF : ∀ q, u q ≠ none → fr M sz q) (hS : va_S (fr M sz) s.heap H locs) (hc : cells ≤ mc) (hs : slots ≤ ms) (hp : post (some (va_rf x)) u) (hdg : decode cc pc = .ok (.areturn, 1)) : W p l e R s m args below meth c H locs cells slots (MQ below (cQ G M sz post) args s mc ms (fr M sz)) (F0 m pc ls [va_rf x]) :=
  W.widen hc hs (W.aret hexec hb hr hrt (by cases x with | none => exact Or.inl rfl | some y => exact Or.inr ⟨y, rfl⟩) (fun t ht _ => ⟨⟨_, u, rfl, hp, by rw [ht]; exact hM, hF⟩, hS.F ht⟩) hS.2.2 hdg hlocks)
/-- behind a writer's call -/
theorem mw_run {A0 : Nat → Prop} {H0 : Heap} {st0 : List Value} {av : Array Value} (hr : va_Run p l e R s m args below meth c H locs cells slots mc ms (F0 m pc ls st0) rest (cQ G M H.size post av) (fr M H.size)) (hS : va_S A0 H0 H locs) (hA : ∀ q, fr M H.size q → A0 q)
    (kk : ∀ (v : Option Value) (u : mC) (H1 : Heap) (locs1 : List Loc), post v u → hm G u H1 → (∀ q, u q ≠ none → fr M H.size q) → H.size ≤ H1.size → (∀ q : Nat, q < H.size → ¬ fr M H.size q → H1[q]? = H[q]?) → va_S A0 H0 H1 locs1 → W p l e R s m args below meth c H1 locs1 (cells + mc) (slots + ms) Q (F0 m (pc + 3) ls (v.toList ++ rest))) : W p l e R s m args below meth c H locs cells slots Q (F0 m pc ls st0) := by
  intro T hT X
  obtain ⟨v, st₀, t, T', L, h0, X', hL, e1, e2, ⟨⟨v', u, hv, hp, hu, hd⟩, hz, hk⟩, st⟩ := hr T hT X
  cases hv
  rw [h0] at hz hk
  obtain ⟨t2, a1, b1⟩ := kk v u T'.heap (locs ++ L) hp (by rw [e1]; exact hu) hd (by rw [e1]; exact hz) (fun q h1 h2 => by rw [e1]; exact hk q h1 h2)
    ⟨Nat.le_trans hS.1 (by rw [e1]; exact hz), fun q h1 h2 => by rw [e1, hk q (Nat.lt_of_lt_of_le h1 hS.1) (fun z => h2 (hA q z))]; exact hS.2.1 q h1 h2, fun q hq => by
      rcases List.mem_append.mp hq with h | h
      · exact hS.2.2 q h
      · exact hA _ (hL q h)⟩ T' rfl X'
  exact ⟨t2, st t2 a1, b1⟩
theorem cW_blind {av : List Value} : FrameBlind (va_Pc av (cP G M sz)) := fun a U g mk q => ⟨q.1, q.2.1, q.2.2.1, mK_moved (u := U) (U := U.calling g mk a) (Vm.Alike.refl U.vm) q.2.2.2.1, mZ_to (u := U) (U := U.calling g mk a) (H0 := U.heap) q.2.2.2.2 (fun _ _ _ => rfl) (fun _ h => h) (Vm.Alike.refl U.vm)⟩
theorem cW_pre {av : List Value} {A0 : Nat → Prop} (hK : mK G s) (hM : hm G M H) (hZ : mZ G A0 s s.heap) (hS : va_S A0 s.heap H locs) (hA : ∀ q, fr M H.size q → A0 q) : ∀ U : State, U.heap = H → s.WarmedH U.vm → va_Pc av (cP G M H.size) av.toArray U := fun U hU hW => ⟨rfl, by rw [hU], by rw [hU]; exact hM, mK_moved hW.alike hK, by rw [hU]; exact mZ_to hZ hS.2.1 hA hW.alike⟩
theorem lk_GV {own C : String} {index : Nat} {y : MethodName} {w0 : Cond} (hlk : ∀ w ∈ wsV own index C y [w0], w ∈ tb) : GoodIn tb (wsV own index C y (w0 :: tb)) := tb_GI (fun w hw => by
    unfold wsV at hw
    rcases List.mem_append.mp hw with h | h
    · exact hlk w (by unfold wsV; exact List.mem_append_left _ h)
    · rcases List.mem_cons.mp h with h | h
      · exact hlk w (by unfold wsV; exact List.mem_append_right _ (by rw [h]; exact List.mem_cons_self))
      · exact h)
theorem lk_GS {own : String} {index : Nat} {y : MethodName} {w0 : Cond} (hlk : ∀ w ∈ va_wsS own index y [w0], w ∈ tb) : GoodIn tb (va_wsS own index y (w0 :: tb)) := tb_GI (fun w hw => by
    unfold va_wsS at hw
    rcases List.mem_append.mp hw with h | h
    · exact hlk w (by unfold va_wsS; exact List.mem_append_left _ h)
    · rcases List.mem_cons.mp h with h | h
      · exact hlk w (by unfold va_wsS; exact List.mem_append_right _ (by rw [h]; exact List.mem_cons_self))
      · exact h)
theorem lk_GI {w0 : Cond} (h0 : w0 ∈ tb) : GoodIn tb (w0 :: tb) := tb_GI (fun w hw => by
    rcases List.mem_cons.mp hw with h | h
    · rw [h]; exact h0
    · exact h)
theorem mx_V {own C : String} {y : MethodName} {b' : ByteArray} {n' d' nL index : Nat} {ret' : Option FieldType} {As : List Value} {A0 : Nat → Prop} (n : Nat) (hc : cW l y b' n' ret' d' mc ms G M H.size (.ref a :: As) post) (hx : p.tables.exec = Jvm.exec) (hb : c.code = cc) (hml : c.maxLocals = nL) (hown : s.vm.findClass own = some m.cls) (ht : ∀ w ∈ tb, w.before args s = true) (hM : hm G M H) (hK : mK G s) (hZ : mZ G A0 s s.heap) (hS : va_S A0 s.heap H locs) (hA : ∀ q, fr M H.size q → A0 q) (hls : ls.size = nL) (hlk : ∀ w ∈ wsV own index C y [Cond.code y b' n' ret'], w ∈ tb)
    (hd : y.cls = C ∧ y.cls ≠ "java/lang/invoke/MethodHandle" ∧ y.cls ≠ "java/lang/invoke/VarHandle" ∧ (parseMethodDescriptor y.desc).map (fun d => d.parameters.length) = some n) (hR : rd_in R d' n') {ci : Nat} {fs : List Value} {T : u_T} {N : Nat} (he : M a = some (.inr (ci, fs))) (hcl : classes[ci]? = some (C, T, N)) (hn : As.length = n) {st : List Value} (hst : st = As.reverse ++ .ref a :: rest) (hroom : (rest.map fun v => v.category).sum ≤ 8) (hdg : decode cc pc = .ok (.invokevirtual index, 3)) (hcs : cells + mc ≤ R.cells ∧ slots + ms ≤ R.slots)
    (kk : ∀ (v : Option Value) (u : mC) (H1 : Heap) (locs1 : List Loc), post v u → hm G u H1 → (∀ q, u q ≠ none → fr M H.size q) → H.size ≤ H1.size → (∀ q : Nat, q < H.size → ¬ fr M H.size q → H1[q]? = H[q]?) → va_S A0 s.heap H1 locs1 → W p l e R s m args below meth c H1 locs1 (cells + mc) (slots + ms) Q (F0 m (pc + 3) ls (v.toList ++ rest))) : W p l e R s m args below meth c H locs cells slots Q (F0 m pc ls st) :=
  mw_run (va_runV (As := As) (rest := rest) ⟨hx, hb, hml, hown, ht⟩ hc (cwV n ht (lk_GV hlk) rfl rfl rfl hd hR) ⟨cW_blind, m_recv hK hM he hcl, cW_pre hK hM hZ hS hA⟩ rfl hn hls hst (lv_room hroom) hdg hcs) hS hA kk
theorem mx_S {own : String} {y : MethodName} {b' : ByteArray} {n' d' nL index : Nat} {ret' : Option FieldType} {As : List Value} {A0 : Nat → Prop} (n : Nat) (hc : cW l y b' n' ret' d' mc ms G M H.size As post) (hx : p.tables.exec = Jvm.exec) (hb : c.code = cc) (hml : c.maxLocals = nL) (hown : s.vm.findClass own = some m.cls) (ht : ∀ w ∈ tb, w.before args s = true) (hM : hm G M H) (hK : mK G s) (hZ : mZ G A0 s s.heap) (hS : va_S A0 s.heap H locs) (hA : ∀ q, fr M H.size q → A0 q) (hls : ls.size = nL) (hlk : ∀ w ∈ va_wsS own index y [Cond.code y b' n' ret'], w ∈ tb)
    (hd : y.cls ≠ "java/lang/invoke/MethodHandle" ∧ y.cls ≠ "java/lang/invoke/VarHandle" ∧ (parseMethodDescriptor y.desc).map (fun d => d.parameters.length) = some n) (hR : rd_in R d' n') (hn : As.length = n) {st : List Value} (hst : st = As.reverse ++ rest) (hroom : (rest.map fun v => v.category).sum ≤ 8) (hdg : decode cc pc = .ok (.invokestatic index, 3)) (hcs : cells + mc ≤ R.cells ∧ slots + ms ≤ R.slots)
    (kk : ∀ (v : Option Value) (u : mC) (H1 : Heap) (locs1 : List Loc), post v u → hm G u H1 → (∀ q, u q ≠ none → fr M H.size q) → H.size ≤ H1.size → (∀ q : Nat, q < H.size → ¬ fr M H.size q → H1[q]? = H[q]?) → va_S A0 s.heap H1 locs1 → W p l e R s m args below meth c H1 locs1 (cells + mc) (slots + ms) Q (F0 m (pc + 3) ls (v.toList ++ rest))) : W p l e R s m args below meth c H locs cells slots Q (F0 m pc ls st) :=
  mw_run (va_runS (As := As) (rest := rest) ⟨hx, hb, hml, hown, ht⟩ hc (va_cwS n ht (lk_GS hlk) rfl rfl rfl hd hR) ⟨cW_blind, cW_pre hK hM hZ hS hA⟩ rfl hn hls hst (lv_room hroom) hdg hcs) hS hA kk
theorem mx_I {own : String} {y : MethodName} {b' : ByteArray} {n' d' nL index : Nat} {As : List Value} {A0 : Nat → Prop} (n : Nat) (hc : cW l y b' n' none d' mc ms G M H.size (.ref a :: As) post) (hx : p.tables.exec = Jvm.exec) (hb : c.code = cc) (hml : c.maxLocals = nL) (hown : s.vm.findClass own = some m.cls) (ht : ∀ w ∈ tb, w.before args s = true) (hM : hm G M H) (hK : mK G s) (hZ : mZ G A0 s s.heap) (hS : va_S A0 s.heap H locs) (hA : ∀ q, fr M H.size q → A0 q) (hls : ls.size = nL) (hco : Cond.code y b' n' none ∈ tb) (hini : Cond.initialized y.cls ∈ tb) (hml2 : Cond.methodLink own index y ∈ tb) (him : Cond.instanceMethod y ∈ tb) (hy1 : y.name = "<init>")
    (hd : y.cls ≠ "java/lang/invoke/MethodHandle" ∧ y.cls ≠ "java/lang/invoke/VarHandle" ∧ (parseMethodDescriptor y.desc).map (fun d => d.parameters.length) = some n) (hR : rd_in R d' n') (hn : As.length = n) {st : List Value} (hst : st = As.reverse ++ .ref a :: rest) (hroom : (rest.map fun v => v.category).sum ≤ 8) (hdg : decode cc pc = .ok (.invokespecial index, 3)) (hcs : cells + mc ≤ R.cells ∧ slots + ms ≤ R.slots)
    (kk : ∀ (v : Option Value) (u : mC) (H1 : Heap) (locs1 : List Loc), post v u → hm G u H1 → (∀ q, u q ≠ none → fr M H.size q) → H.size ≤ H1.size → (∀ q : Nat, q < H.size → ¬ fr M H.size q → H1[q]? = H[q]?) → va_S A0 s.heap H1 locs1 → W p l e R s m args below meth c H1 locs1 (cells + mc) (slots + ms) Q (F0 m (pc + 3) ls (v.toList ++ rest))) : W p l e R s m args below meth c H locs cells slots Q (F0 m pc ls st) :=
  mw_run (va_runI (As := As) (rest := rest) ⟨hx, hb, hml, hown, ht⟩ hc (cwI n ht (lk_GI hco) rfl rfl rfl (ht _ hini) (ht _ hml2) (ht _ him) hy1 hd hR) ⟨cW_blind, cW_pre hK hM hZ hS hA⟩ rfl hn hls hst (lv_room hroom) hdg hcs) hS hA kk
end MWRT
end
section
/-! WHAT THE CLASS COMPUTES, as functions: kinds, types, nodes, definitions -/
def k_isKind (k : Int32) : Bool := if k < 0 then false else if 23 < k then false else true
def k_isChange (k : Int32) : Bool := if k < 18 then false else true
def k_isCall (k : Int32) : Bool := if k = 14 then true else if k = 15 then true else if k = 23 then true else false
def k_isCase (k : Int32) : Bool := if k = 12 then true else if k = 22 then true else false
def k_isLet (k : Int32) : Bool := if k = 11 then true else if k = 21 then true else false
def k_isBinder (k : Int32) : Bool := if k = 11 then true else if k = 12 then true else if k = 18 then true else if k = 21 then true else if k = 22 then true else false
def k_isAsLast (k : Int32) : Bool := if k < 10 then (if k < 18 then false else if 22 < k then false else true) else if k ≤ 12 then true else if k < 18 then false else if 22 < k then false else true
def k_wants (k pl : Int32) : Bool := if k = 16 then true else if k = 17 then true else if k = 18 then !decide (pl ≤ 0) else if k = 20 then !decide (pl ≤ 0) else if k = 21 then !decide (pl ≤ 0) else if k = 22 then !decide (pl ≤ 0) else false
def k_hasFirst (k : Int32) : Bool := if k = 1 then true else if k_isBinder k = true then true else k_isCall k
def k_namesFit (k : Int32) (f s : Int64) : Bool := (if k_hasFirst k = true then !decide (f ≤ 0) else decide (f = 0)) && (if k_isCase k = true then !decide (s ≤ 0) && !decide (s = f) else decide (s = 0))
def k_ownSw (k : Int32) : Int32 := if k = 2 then 1 else if k = 13 then 1 else if k = 16 then 2 else if k = 17 then 3 else -1
def k_ownType (k : Int32) : Int32 := if k = 0 then 0 else if k < 3 then k_ownSw k else if 9 < k then k_ownSw k else 0
def k_isType (t : Int32) : Bool := if t < 0 then false else if 3 < t then false else true
def k_isWritten (t : Int32) : Bool := if t = 0 then true else if t = 1 then true else false
/-- a node: number, home, parent, place, kind, first, second, parts, filled, valueType, typeOfX, boundBy, callee, variables -/
abbrev nR : Type := Int32 × Nat × Option Nat × Int32 × Int32 × Int64 × Int64 × Int32 × Int32 × Int32 × Int32 × Int32 × Option Nat × Int32
abbrev n_num (r : nR) : Int32 := r.1
abbrev n_ho (r : nR) : Nat := r.2.1
abbrev n_pa (r : nR) : Option Nat := r.2.2.1
abbrev n_pl (r : nR) : Int32 := r.2.2.2.1
abbrev n_kd (r : nR) : Int32 := r.2.2.2.2.1
abbrev n_fi (r : nR) : Int64 := r.2.2.2.2.2.1
abbrev n_se (r : nR) : Int64 := r.2.2.2.2.2.2.1
abbrev n_pt (r : nR) : Int32 := r.2.2.2.2.2.2.2.1
abbrev n_fl (r : nR) : Int32 := r.2.2.2.2.2.2.2.2.1
abbrev n_vt (r : nR) : Int32 := r.2.2.2.2.2.2.2.2.2.1
abbrev n_tx (r : nR) : Int32 := r.2.2.2.2.2.2.2.2.2.2.1
abbrev n_bb (r : nR) : Int32 := r.2.2.2.2.2.2.2.2.2.2.2.1
abbrev n_ca (r : nR) : Option Nat := r.2.2.2.2.2.2.2.2.2.2.2.2.1
abbrev n_va (r : nR) : Int32 := r.2.2.2.2.2.2.2.2.2.2.2.2.2
abbrev nC (r : nR) : va_E := .inr (2, [.int (n_num r), .ref (n_ho r), va_rf (n_pa r), .int (n_pl r), .int (n_kd r), .long (n_fi r), .long (n_se r), .int (n_pt r), .int (n_fl r), .int (n_vt r), .int (n_tx r), .int (n_bb r), va_rf (n_ca r), .int (n_va r)])
/-- a definition: number, changes, name, valueType, the arrays of names and of types, parameters, begun, open -/
abbrev dR : Type := Int32 × Bool × Int64 × Int32 × Nat × Nat × Int32 × Bool × Option Nat
abbrev d_num (r : dR) : Int32 := r.1
abbrev d_chg (r : dR) : Bool := r.2.1
abbrev d_nm (r : dR) : Int64 := r.2.2.1
abbrev d_vt (r : dR) : Int32 := r.2.2.2.1
abbrev d_apn (r : dR) : Nat := r.2.2.2.2.1
abbrev d_apt (r : dR) : Nat := r.2.2.2.2.2.1
abbrev d_np (r : dR) : Int32 := r.2.2.2.2.2.2.1
abbrev d_beg (r : dR) : Bool := r.2.2.2.2.2.2.2.1
abbrev d_op (r : dR) : Option Nat := r.2.2.2.2.2.2.2.2
abbrev dC (r : dR) : va_E := .inr (1, [.int (d_num r), .int (bI (d_chg r)), .long (d_nm r), .int (d_vt r), .ref (d_apn r), .ref (d_apt r), .int (d_np r), .int (bI (d_beg r)), va_rf (d_op r)])
abbrev iA (G : gC) (n : Nat) (f : Nat → Int32) : va_E := .inl (G.2.1.1, n, .inl f)
abbrev lA (G : gC) (n : Nat) (f : Nat → Int64) : va_E := .inl (G.2.1.2.1, n, .inr (.inl f))
abbrev oA (G : gC) (n : Nat) (f : Nat → Option Nat) : va_E := .inl (G.2.1.2.2.1, n, .inr (.inr (.inr (.inr f))))
abbrev zA (G : gC) (n : Nat) (f : Nat → Int32) : va_E := .inl (G.2.1.2.2.2, n, .inl f)
def n_isLast (r q : nR) : Bool := match n_pa r with
  | none => false
  | some _ => decide (n_pl r = n_pt q - 1)
def n_varsLast (r : nR) : Int32 := if k_isBinder (n_kd r) = true then (if k_isCase (n_kd r) = true then 2 else 1) else 0
def n_binds (r : nR) (x : Int64) : Bool := k_isBinder (n_kd r) && (decide (n_fi r = x) || decide (n_se r = x))
def n_txAfter (r : nR) (t : Int32) : Int32 := if k_isLet (n_kd r) = true then t else if n_kd r = 18 then (if t = 3 then 1 else 0) else 0
def d_whole (d : dR) : Bool := d_beg d && (d_op d).isNone
def d_wants (d : dR) (q : nR) : Bool := match d_op d with
  | none => d_chg d
  | some _ => k_wants (n_kd q) (n_fl q)
theorem vp_8 {i : Int32} (h : ¬ i < 0) (h2 : i < 8) : vp_in i 8 := by
  rw [vp_in_iff]
  rw [Int32.lt_iff_toInt_lt] at h h2
  have e0 : (0 : Int32).toInt = 0 := by decide
  have e8 : (8 : Int32).toInt = 8 := by decide
  rw [e0] at h
  rw [e8] at h2
  omega
def d_ptype (d : dR) (pt : Nat → Int32) (i : Int32) : Int32 := if i < 0 then -1 else if d_np d ≤ i then -1 else if i < 8 then pt i.toNatClampNeg else -1
def n_admits (r : nR) (d : dR) (pt : Nat → Int32) (k t : Int32) : Bool :=
  if n_kd r = 10 then (if k = 0 then decide (t = 0) else if k = 1 then true else decide (t = n_vt r))
  else if n_kd r = 11 then true
  else if n_kd r = 12 then (if k = 0 then decide (t = 1) else if k = 1 then true else decide (t = n_vt r))
  else if n_kd r = 13 then (if k = 0 then decide (t = 0) else decide (t = 3))
  else if n_kd r = 14 then (if n_ca r = none then false else decide (t = d_ptype d pt k))
  else if n_kd r = 15 then (if n_ca r = none then false else decide (t = d_ptype d pt k))
  else if n_kd r = 17 then decide (t = 1)
  else if n_kd r = 18 then (if 0 < k then true else if t = 2 then true else decide (t = 3))
  else if n_kd r = 19 then k_isWritten t
  else if n_kd r = 20 then (if k = 0 then decide (t = 0) else if k = 1 then true else decide (t = n_vt r))
  else if n_kd r = 21 then true
  else if n_kd r = 22 then (if k = 0 then decide (t = 1) else if k = 1 then true else decide (t = n_vt r))
  else if n_kd r = 23 then (if n_ca r = none then false else decide (t = d_ptype d pt k))
  else decide (t = 0)
abbrev n_s_num (r : nR) (v : Int32) : nR := (v, n_ho r, n_pa r, n_pl r, n_kd r, n_fi r, n_se r, n_pt r, n_fl r, n_vt r, n_tx r, n_bb r, n_ca r, n_va r)
abbrev n_s_ho (r : nR) (v : Nat) : nR := (n_num r, v, n_pa r, n_pl r, n_kd r, n_fi r, n_se r, n_pt r, n_fl r, n_vt r, n_tx r, n_bb r, n_ca r, n_va r)
abbrev n_s_pa (r : nR) (v : Option Nat) : nR := (n_num r, n_ho r, v, n_pl r, n_kd r, n_fi r, n_se r, n_pt r, n_fl r, n_vt r, n_tx r, n_bb r, n_ca r, n_va r)
abbrev n_s_pl (r : nR) (v : Int32) : nR := (n_num r, n_ho r, n_pa r, v, n_kd r, n_fi r, n_se r, n_pt r, n_fl r, n_vt r, n_tx r, n_bb r, n_ca r, n_va r)
abbrev n_s_kd (r : nR) (v : Int32) : nR := (n_num r, n_ho r, n_pa r, n_pl r, v, n_fi r, n_se r, n_pt r, n_fl r, n_vt r, n_tx r, n_bb r, n_ca r, n_va r)
abbrev n_s_fi (r : nR) (v : Int64) : nR := (n_num r, n_ho r, n_pa r, n_pl r, n_kd r, v, n_se r, n_pt r, n_fl r, n_vt r, n_tx r, n_bb r, n_ca r, n_va r)
abbrev n_s_se (r : nR) (v : Int64) : nR := (n_num r, n_ho r, n_pa r, n_pl r, n_kd r, n_fi r, v, n_pt r, n_fl r, n_vt r, n_tx r, n_bb r, n_ca r, n_va r)
abbrev n_s_pt (r : nR) (v : Int32) : nR := (n_num r, n_ho r, n_pa r, n_pl r, n_kd r, n_fi r, n_se r, v, n_fl r, n_vt r, n_tx r, n_bb r, n_ca r, n_va r)
abbrev n_s_fl (r : nR) (v : Int32) : nR := (n_num r, n_ho r, n_pa r, n_pl r, n_kd r, n_fi r, n_se r, n_pt r, v, n_vt r, n_tx r, n_bb r, n_ca r, n_va r)
abbrev n_s_vt (r : nR) (v : Int32) : nR := (n_num r, n_ho r, n_pa r, n_pl r, n_kd r, n_fi r, n_se r, n_pt r, n_fl r, v, n_tx r, n_bb r, n_ca r, n_va r)
abbrev n_s_tx (r : nR) (v : Int32) : nR := (n_num r, n_ho r, n_pa r, n_pl r, n_kd r, n_fi r, n_se r, n_pt r, n_fl r, n_vt r, v, n_bb r, n_ca r, n_va r)
abbrev n_s_bb (r : nR) (v : Int32) : nR := (n_num r, n_ho r, n_pa r, n_pl r, n_kd r, n_fi r, n_se r, n_pt r, n_fl r, n_vt r, n_tx r, v, n_ca r, n_va r)
abbrev n_s_ca (r : nR) (v : Option Nat) : nR := (n_num r, n_ho r, n_pa r, n_pl r, n_kd r, n_fi r, n_se r, n_pt r, n_fl r, n_vt r, n_tx r, n_bb r, v, n_va r)
abbrev n_s_va (r : nR) (v : Int32) : nR := (n_num r, n_ho r, n_pa r, n_pl r, n_kd r, n_fi r, n_se r, n_pt r, n_fl r, n_vt r, n_tx r, n_bb r, n_ca r, v)
abbrev d_s_num (r : dR) (v : Int32) : dR := (v, d_chg r, d_nm r, d_vt r, d_apn r, d_apt r, d_np r, d_beg r, d_op r)
abbrev d_s_chg (r : dR) (v : Bool) : dR := (d_num r, v, d_nm r, d_vt r, d_apn r, d_apt r, d_np r, d_beg r, d_op r)
abbrev d_s_nm (r : dR) (v : Int64) : dR := (d_num r, d_chg r, v, d_vt r, d_apn r, d_apt r, d_np r, d_beg r, d_op r)
abbrev d_s_vt (r : dR) (v : Int32) : dR := (d_num r, d_chg r, d_nm r, v, d_apn r, d_apt r, d_np r, d_beg r, d_op r)
abbrev d_s_apn (r : dR) (v : Nat) : dR := (d_num r, d_chg r, d_nm r, d_vt r, v, d_apt r, d_np r, d_beg r, d_op r)
abbrev d_s_apt (r : dR) (v : Nat) : dR := (d_num r, d_chg r, d_nm r, d_vt r, d_apn r, v, d_np r, d_beg r, d_op r)
abbrev d_s_np (r : dR) (v : Int32) : dR := (d_num r, d_chg r, d_nm r, d_vt r, d_apn r, d_apt r, v, d_beg r, d_op r)
abbrev d_s_beg (r : dR) (v : Bool) : dR := (d_num r, d_chg r, d_nm r, d_vt r, d_apn r, d_apt r, d_np r, v, d_op r)
abbrev d_s_op (r : dR) (v : Option Nat) : dR := (d_num r, d_chg r, d_nm r, d_vt r, d_apn r, d_apt r, d_np r, d_beg r, v)
def n_count (r q : nR) (d : dR) : Int32 := match n_pa r with
  | none => d_np d
  | some _ => n_va q + (if n_isLast r q = true then n_varsLast q else 0)
def n_aimOk (r : nR) (d : dR) : Bool := (d_chg d == decide (n_kd r = 23)) && decide (d_np d = n_pt r)
def d_slot (d : dR) (q : nR) : Int32 := match d_op d with
  | none => 0
  | some _ => n_fl q
def n_hear (r : nR) (k t : Int32) : nR :=
  let r1 := if k = 0 then (if k_isBinder (n_kd r) = true then n_s_tx r (n_txAfter r t) else r) else r
  if k_isAsLast (n_kd r) = true then n_s_vt r1 t else r1
/-- the place of a parameter's name, from the i-th on, k to go; or -1 -/
def d_idx (np : Int32) (pn : Nat → Int64) (x : Int64) : Nat → Nat → Int32
  | 0, _ => -1
  | k + 1, i => if np ≤ nI i then -1 else if pn i = x then nI i else d_idx np pn x k (i + 1)
def d_index (d : dR) (pn : Nat → Int64) (x : Int64) : Int32 := d_idx (d_np d) pn x 8 0
theorem i8_ge {i : Nat} (h : i < 8) : ¬ (8 : Int32) ≤ nI i := nI_ge (b := 8) h (by decide)
/-- an ArrayList: modCount, elementData, size -/
abbrev aR : Type := Int32 × Nat × Int32
abbrev a_mc (r : aR) : Int32 := r.1
abbrev a_ed (r : aR) : Nat := r.2.1
abbrev a_sz (r : aR) : Int32 := r.2.2
abbrev aC (r : aR) : va_E := .inr (3, [.int (a_mc r), .ref (a_ed r), .int (a_sz r)])
abbrev a_s_mc (r : aR) (v : Int32) : aR := (v, a_ed r, a_sz r)
abbrev a_s_ed (r : aR) (v : Nat) : aR := (a_mc r, v, a_sz r)
abbrev a_s_sz (r : aR) (v : Int32) : aR := (a_mc r, a_ed r, v)
end
section
/-! words among the tables': each by its place -/
theorem lw_t1 {w : Cond} (h : w ∈ tables_1_1) : w ∈ lw_tbl := List.mem_append_right _ (List.mem_append_left _ h)
theorem lw_t2 {w : Cond} (h : w ∈ tables_1_2) : w ∈ lw_tbl := List.mem_append_right _ (List.mem_append_right _ (List.mem_append_left _ h))
theorem lw_t3 {w : Cond} (h : w ∈ tables_1_3) : w ∈ lw_tbl := List.mem_append_right _ (List.mem_append_right _ (List.mem_append_right _ h))
theorem lw_s1 {q : MethodName × Nat} (h : q ∈ lw_privs_1) : Cond.selects q.1.cls q.1 q.1 ∈ lw_tbl := List.mem_append_left _ (List.mem_map.mpr ⟨q, List.mem_append_left _ h, rfl⟩)
theorem lw_s2 {q : MethodName × Nat} (h : q ∈ lw_privs_2) : Cond.selects q.1.cls q.1 q.1 ∈ lw_tbl := List.mem_append_left _ (List.mem_map.mpr ⟨q, List.mem_append_right _ h, rfl⟩)
theorem lk_V {own C : String} {idx : Nat} {y : MethodName} {w0 : Cond} (h1 : Cond.methodLink own idx y ∈ tb) (h2 : Cond.instanceMethod y ∈ tb) (h3 : Cond.selects C y y ∈ tb) (h4 : Cond.initialized C ∈ tb) (h5 : w0 ∈ tb) : ∀ w ∈ wsV own idx C y [w0], w ∈ tb := List.forall_mem_cons.mpr ⟨h1, List.forall_mem_cons.mpr ⟨h2, List.forall_mem_cons.mpr ⟨h3, List.forall_mem_cons.mpr ⟨h4, List.forall_mem_cons.mpr ⟨h5, fun _ h => absurd h List.not_mem_nil⟩⟩⟩⟩⟩
theorem lk_S {own : String} {idx : Nat} {y : MethodName} {w0 : Cond} (h1 : Cond.methodLink own idx y ∈ tb) (h2 : Cond.static y ∈ tb) (h3 : Cond.initialized y.cls ∈ tb) (h4 : w0 ∈ tb) : ∀ w ∈ va_wsS own idx y [w0], w ∈ tb := List.forall_mem_cons.mpr ⟨h1, List.forall_mem_cons.mpr ⟨h2, List.forall_mem_cons.mpr ⟨h3, List.forall_mem_cons.mpr ⟨h4, fun _ h => absurd h List.not_mem_nil⟩⟩⟩⟩
theorem wd_1_0 : Cond.initialized "LevelTypesLaw" ∈ tb := tb_in (lw_t1 (List.mem_of_getElem? (i := 0) (by decide +kernel))) rfl
theorem wd_1_1 : Cond.initialized "LevelTypes" ∈ tb := tb_in (lw_t1 (List.mem_of_getElem? (i := 1) (by decide +kernel))) rfl
theorem wd_1_2 : Cond.initialized "java/util/AbstractCollection" ∈ tb := tb_in (lw_t1 (List.mem_of_getElem? (i := 2) (by decide +kernel))) rfl
theorem wd_1_3 : Cond.initialized "java/util/AbstractList" ∈ tb := tb_in (lw_t1 (List.mem_of_getElem? (i := 3) (by decide +kernel))) rfl
theorem wd_1_4 : Cond.initialized "java/util/ArrayList" ∈ tb := tb_in (lw_t1 (List.mem_of_getElem? (i := 4) (by decide +kernel))) rfl
theorem wd_1_5 : Cond.initialized "LevelTypesModel" ∈ tb := tb_in (lw_t1 (List.mem_of_getElem? (i := 5) (by decide +kernel))) rfl
theorem wd_1_6 : Cond.initialized "LevelTypes$Type" ∈ tb := tb_in (lw_t1 (List.mem_of_getElem? (i := 6) (by decide +kernel))) rfl
theorem wd_1_7 : Cond.initialized "java/util/Objects" ∈ tb := tb_in (lw_t1 (List.mem_of_getElem? (i := 7) (by decide +kernel))) rfl
theorem wd_1_8 : Cond.initialized "jdk/internal/util/Preconditions" ∈ tb := tb_in (lw_t1 (List.mem_of_getElem? (i := 8) (by decide +kernel))) rfl
theorem wd_1_9 : Cond.initialized "LevelTypes$Definition" ∈ tb := tb_in (lw_t1 (List.mem_of_getElem? (i := 9) (by decide +kernel))) rfl
theorem wd_1_10 : Cond.initialized "jdk/internal/util/ArraysSupport" ∈ tb := tb_in (lw_t1 (List.mem_of_getElem? (i := 10) (by decide +kernel))) rfl
theorem wd_1_11 : Cond.initialized "java/lang/Math" ∈ tb := tb_in (lw_t1 (List.mem_of_getElem? (i := 11) (by decide +kernel))) rfl
theorem wd_1_12 : Cond.initialized "java/util/Arrays" ∈ tb := tb_in (lw_t1 (List.mem_of_getElem? (i := 12) (by decide +kernel))) rfl
theorem wd_1_13 : Cond.initialized "java/lang/System" ∈ tb := tb_in (lw_t1 (List.mem_of_getElem? (i := 13) (by decide +kernel))) rfl
theorem wd_1_14 : Cond.initialized "LevelTypes$Kind" ∈ tb := tb_in (lw_t1 (List.mem_of_getElem? (i := 14) (by decide +kernel))) rfl
theorem wd_1_15 : Cond.initialized "LevelTypes$Node" ∈ tb := tb_in (lw_t1 (List.mem_of_getElem? (i := 15) (by decide +kernel))) rfl
theorem wd_1_16 : Cond.classLink "LevelTypesLaw" 7 "LevelTypes" ∈ tb := tb_in (lw_t1 (List.mem_of_getElem? (i := 16) (by decide +kernel))) rfl
theorem wd_1_17 : Cond.instantiable "LevelTypes" 6 ∈ tb := tb_in (lw_t1 (List.mem_of_getElem? (i := 17) (by decide +kernel))) rfl
theorem wd_1_18 : Cond.methodLink "LevelTypesLaw" 9 ⟨"LevelTypes", "<init>", "()V"⟩ ∈ tb := tb_in (lw_t1 (List.mem_of_getElem? (i := 18) (by decide +kernel))) rfl
theorem wd_1_19 : Cond.instanceMethod ⟨"LevelTypes", "<init>", "()V"⟩ ∈ tb := tb_in (lw_t1 (List.mem_of_getElem? (i := 19) (by decide +kernel))) rfl
theorem wd_1_20 : Cond.code ⟨"LevelTypes", "<init>", "()V"⟩ prog_1_method_1_code 1 none ∈ tb := tb_in (lw_t1 (List.mem_of_getElem? (i := 20) rfl)) rfl
theorem wd_1_21 : Cond.methodLink "LevelTypes" 1 ⟨"java/lang/Object", "<init>", "()V"⟩ ∈ tb := tb_in (lw_t1 (List.mem_of_getElem? (i := 21) (by decide +kernel))) rfl
theorem wd_1_22 : Cond.instanceMethod ⟨"java/lang/Object", "<init>", "()V"⟩ ∈ tb := tb_in (lw_t1 (List.mem_of_getElem? (i := 22) (by decide +kernel))) rfl
theorem wd_1_23 : Cond.code ⟨"java/lang/Object", "<init>", "()V"⟩ object_method_1_code 1 none ∈ tb := tb_in (lw_t1 (List.mem_of_getElem? (i := 23) rfl)) rfl
theorem wd_1_24 : Cond.classLink "LevelTypes" 7 "java/util/ArrayList" ∈ tb := tb_in (lw_t1 (List.mem_of_getElem? (i := 24) (by decide +kernel))) rfl
theorem wd_1_25 : Cond.instantiable "java/util/ArrayList" 3 ∈ tb := tb_in (lw_t1 (List.mem_of_getElem? (i := 25) (by decide +kernel))) rfl
theorem wd_1_26 : Cond.methodLink "LevelTypes" 9 ⟨"java/util/ArrayList", "<init>", "()V"⟩ ∈ tb := tb_in (lw_t1 (List.mem_of_getElem? (i := 26) (by decide +kernel))) rfl
theorem wd_1_27 : Cond.instanceMethod ⟨"java/util/ArrayList", "<init>", "()V"⟩ ∈ tb := tb_in (lw_t1 (List.mem_of_getElem? (i := 27) (by decide +kernel))) rfl
theorem wd_1_28 : Cond.code ⟨"java/util/ArrayList", "<init>", "()V"⟩ prog_15_method_2_code 1 none ∈ tb := tb_in (lw_t1 (List.mem_of_getElem? (i := 28) rfl)) rfl
theorem wd_1_29 : Cond.methodLink "java/util/ArrayList" 1 ⟨"java/util/AbstractList", "<init>", "()V"⟩ ∈ tb := tb_in (lw_t1 (List.mem_of_getElem? (i := 29) (by decide +kernel))) rfl
theorem wd_1_30 : Cond.instanceMethod ⟨"java/util/AbstractList", "<init>", "()V"⟩ ∈ tb := tb_in (lw_t1 (List.mem_of_getElem? (i := 30) (by decide +kernel))) rfl
theorem wd_1_31 : Cond.code ⟨"java/util/AbstractList", "<init>", "()V"⟩ prog_14_method_1_code 1 none ∈ tb := tb_in (lw_t1 (List.mem_of_getElem? (i := 31) rfl)) rfl
theorem wd_1_32 : Cond.methodLink "java/util/AbstractList" 1 ⟨"java/util/AbstractCollection", "<init>", "()V"⟩ ∈ tb := tb_in (lw_t1 (List.mem_of_getElem? (i := 32) (by decide +kernel))) rfl
theorem wd_1_33 : Cond.instanceMethod ⟨"java/util/AbstractCollection", "<init>", "()V"⟩ ∈ tb := tb_in (lw_t1 (List.mem_of_getElem? (i := 33) (by decide +kernel))) rfl
theorem wd_1_34 : Cond.code ⟨"java/util/AbstractCollection", "<init>", "()V"⟩ prog_13_method_1_code 1 none ∈ tb := tb_in (lw_t1 (List.mem_of_getElem? (i := 34) rfl)) rfl
theorem wd_1_35 : Cond.methodLink "java/util/AbstractCollection" 1 ⟨"java/lang/Object", "<init>", "()V"⟩ ∈ tb := tb_in (lw_t1 (List.mem_of_getElem? (i := 35) (by decide +kernel))) rfl
theorem wd_1_36 : Cond.fieldLink "java/util/ArrayList" 39 "java/util/ArrayList" "DEFAULTCAPACITY_EMPTY_ELEMENTDATA" "[Ljava/lang/Object;" ∈ tb := tb_in (lw_t1 (List.mem_of_getElem? (i := 36) (by decide +kernel))) rfl
theorem wd_1_38 : Cond.fieldLink "java/util/ArrayList" 9 "java/util/ArrayList" "elementData" "[Ljava/lang/Object;" ∈ tb := tb_in (lw_t1 (List.mem_of_getElem? (i := 38) (by decide +kernel))) rfl
theorem wd_1_39 : Cond.fieldLink "java/util/ArrayList" 48 "java/util/ArrayList" "size" "I" ∈ tb := tb_in (lw_t1 (List.mem_of_getElem? (i := 39) (by decide +kernel))) rfl
theorem wd_1_40 : Cond.fieldLink "java/util/AbstractList" 7 "java/util/AbstractList" "modCount" "I" ∈ tb := tb_in (lw_t1 (List.mem_of_getElem? (i := 40) (by decide +kernel))) rfl
theorem wd_1_41 : Cond.fieldLink "java/util/ArrayList" 63 "java/util/ArrayList" "modCount" "I" ∈ tb := tb_in (lw_t1 (List.mem_of_getElem? (i := 41) (by decide +kernel))) rfl
theorem wd_1_42 : Cond.sameField "java/util/ArrayList" "java/util/AbstractList" "modCount" "I" ∈ tb := tb_in (lw_t1 (List.mem_of_getElem? (i := 42) (by decide +kernel))) rfl
theorem wd_1_43 : Cond.lays "java/util/ArrayList" "java/util/ArrayList" "elementData" "[Ljava/lang/Object;" ∈ tb := tb_in (lw_t1 (List.mem_of_getElem? (i := 43) (by decide +kernel))) rfl
theorem wd_1_45 : Cond.lays "java/util/ArrayList" "java/util/ArrayList" "size" "I" ∈ tb := tb_in (lw_t1 (List.mem_of_getElem? (i := 45) (by decide +kernel))) rfl
theorem wd_1_47 : Cond.lays "java/util/ArrayList" "java/util/AbstractList" "modCount" "I" ∈ tb := tb_in (lw_t1 (List.mem_of_getElem? (i := 47) (by decide +kernel))) rfl
theorem wd_1_49 : Cond.superclass "java/util/ArrayList" "java/util/AbstractList" ∈ tb := tb_in (lw_t1 (List.mem_of_getElem? (i := 49) (by decide +kernel))) rfl
theorem wd_1_50 : Cond.fieldLink "LevelTypes" 10 "LevelTypes" "definitions" "Ljava/util/ArrayList;" ∈ tb := tb_in (lw_t1 (List.mem_of_getElem? (i := 50) (by decide +kernel))) rfl
theorem wd_1_51 : Cond.fieldLink "LevelTypes" 16 "LevelTypes" "nodes" "Ljava/util/ArrayList;" ∈ tb := tb_in (lw_t1 (List.mem_of_getElem? (i := 51) (by decide +kernel))) rfl
theorem wd_1_52 : Cond.fieldLink "LevelTypes" 19 "LevelTypes" "known" "Z" ∈ tb := tb_in (lw_t1 (List.mem_of_getElem? (i := 52) (by decide +kernel))) rfl
theorem wd_1_53 : Cond.fieldLink "LevelTypes" 23 "LevelTypes" "fault" "I" ∈ tb := tb_in (lw_t1 (List.mem_of_getElem? (i := 53) (by decide +kernel))) rfl
theorem wd_1_54 : Cond.fieldLink "LevelTypes" 27 "LevelTypes" "faultNode" "I" ∈ tb := tb_in (lw_t1 (List.mem_of_getElem? (i := 54) (by decide +kernel))) rfl
theorem wd_1_55 : Cond.fieldLink "LevelTypes" 30 "LevelTypes" "mostVariables" "I" ∈ tb := tb_in (lw_t1 (List.mem_of_getElem? (i := 55) (by decide +kernel))) rfl
theorem wd_1_56 : Cond.laysFinal "LevelTypes" "LevelTypes" "definitions" "Ljava/util/ArrayList;" ∈ tb := tb_in (lw_t1 (List.mem_of_getElem? (i := 56) (by decide +kernel))) rfl
theorem wd_1_58 : Cond.laysFinal "LevelTypes" "LevelTypes" "nodes" "Ljava/util/ArrayList;" ∈ tb := tb_in (lw_t1 (List.mem_of_getElem? (i := 58) (by decide +kernel))) rfl
theorem wd_1_60 : Cond.lays "LevelTypes" "LevelTypes" "known" "Z" ∈ tb := tb_in (lw_t1 (List.mem_of_getElem? (i := 60) (by decide +kernel))) rfl
theorem wd_1_62 : Cond.lays "LevelTypes" "LevelTypes" "fault" "I" ∈ tb := tb_in (lw_t1 (List.mem_of_getElem? (i := 62) (by decide +kernel))) rfl
theorem wd_1_64 : Cond.lays "LevelTypes" "LevelTypes" "faultNode" "I" ∈ tb := tb_in (lw_t1 (List.mem_of_getElem? (i := 64) (by decide +kernel))) rfl
theorem wd_1_66 : Cond.lays "LevelTypes" "LevelTypes" "mostVariables" "I" ∈ tb := tb_in (lw_t1 (List.mem_of_getElem? (i := 66) (by decide +kernel))) rfl
theorem wd_1_68 : Cond.superclass "LevelTypes" "java/lang/Object" ∈ tb := tb_in (lw_t1 (List.mem_of_getElem? (i := 68) (by decide +kernel))) rfl
theorem wd_1_69 : Cond.methodLink "LevelTypesLaw" 13 ⟨"LevelTypes", "clear", "()V"⟩ ∈ tb := tb_in (lw_t1 (List.mem_of_getElem? (i := 69) (by decide +kernel))) rfl
theorem wd_1_70 : Cond.instanceMethod ⟨"LevelTypes", "clear", "()V"⟩ ∈ tb := tb_in (lw_t1 (List.mem_of_getElem? (i := 70) (by decide +kernel))) rfl
theorem wd_1_71 : Cond.selects "LevelTypes" ⟨"LevelTypes", "clear", "()V"⟩ ⟨"LevelTypes", "clear", "()V"⟩ ∈ tb := tb_in (lw_t1 (List.mem_of_getElem? (i := 71) (by decide +kernel))) rfl
theorem wd_1_72 : Cond.code ⟨"LevelTypes", "clear", "()V"⟩ prog_1_method_2_code 1 none ∈ tb := tb_in (lw_t1 (List.mem_of_getElem? (i := 72) rfl)) rfl
theorem wd_1_73 : Cond.methodLink "LevelTypes" 33 ⟨"java/util/ArrayList", "clear", "()V"⟩ ∈ tb := tb_in (lw_t1 (List.mem_of_getElem? (i := 73) (by decide +kernel))) rfl
theorem wd_1_74 : Cond.instanceMethod ⟨"java/util/ArrayList", "clear", "()V"⟩ ∈ tb := tb_in (lw_t1 (List.mem_of_getElem? (i := 74) (by decide +kernel))) rfl
theorem wd_1_75 : Cond.selects "java/util/ArrayList" ⟨"java/util/ArrayList", "clear", "()V"⟩ ⟨"java/util/ArrayList", "clear", "()V"⟩ ∈ tb := tb_in (lw_t1 (List.mem_of_getElem? (i := 75) (by decide +kernel))) rfl
theorem wd_1_76 : Cond.code ⟨"java/util/ArrayList", "clear", "()V"⟩ prog_15_method_40_code 4 none ∈ tb := tb_in (lw_t1 (List.mem_of_getElem? (i := 76) rfl)) rfl
theorem wd_1_77 : Cond.methodLink "LevelTypesLaw" 19 ⟨"LevelTypes", "define", "(ZJI)I"⟩ ∈ tb := tb_in (lw_t1 (List.mem_of_getElem? (i := 77) (by decide +kernel))) rfl
theorem wd_1_78 : Cond.instanceMethod ⟨"LevelTypes", "define", "(ZJI)I"⟩ ∈ tb := tb_in (lw_t1 (List.mem_of_getElem? (i := 78) (by decide +kernel))) rfl
theorem wd_1_79 : Cond.selects "LevelTypes" ⟨"LevelTypes", "define", "(ZJI)I"⟩ ⟨"LevelTypes", "define", "(ZJI)I"⟩ ∈ tb := tb_in (lw_t1 (List.mem_of_getElem? (i := 79) (by decide +kernel))) rfl
theorem wd_1_80 : Cond.code ⟨"LevelTypes", "define", "(ZJI)I"⟩ prog_1_method_3_code 7 (some .int) ∈ tb := tb_in (lw_t1 (List.mem_of_getElem? (i := 80) rfl)) rfl
theorem wd_1_81 : Cond.methodLink "LevelTypes" 36 ⟨"LevelTypes$Type", "isWritten", "(I)Z"⟩ ∈ tb := tb_in (lw_t1 (List.mem_of_getElem? (i := 81) (by decide +kernel))) rfl
theorem wd_1_82 : Cond.static ⟨"LevelTypes$Type", "isWritten", "(I)Z"⟩ ∈ tb := tb_in (lw_t1 (List.mem_of_getElem? (i := 82) (by decide +kernel))) rfl
theorem wd_1_83 : Cond.code ⟨"LevelTypes$Type", "isWritten", "(I)Z"⟩ prog_5_method_3_code 1 (some .boolean) ∈ tb := tb_in (lw_t1 (List.mem_of_getElem? (i := 83) rfl)) rfl
theorem wd_1_84 : Cond.methodLink "LevelTypes" 42 ⟨"LevelTypes$Type", "isType", "(I)Z"⟩ ∈ tb := tb_in (lw_t1 (List.mem_of_getElem? (i := 84) (by decide +kernel))) rfl
theorem wd_1_85 : Cond.static ⟨"LevelTypes$Type", "isType", "(I)Z"⟩ ∈ tb := tb_in (lw_t1 (List.mem_of_getElem? (i := 85) (by decide +kernel))) rfl
theorem wd_1_86 : Cond.code ⟨"LevelTypes$Type", "isType", "(I)Z"⟩ prog_5_method_2_code 1 (some .boolean) ∈ tb := tb_in (lw_t1 (List.mem_of_getElem? (i := 86) rfl)) rfl
theorem wd_1_87 : Cond.methodLink "LevelTypes" 45 ⟨"LevelTypes", "lastIsWhole", "()Z"⟩ ∈ tb := tb_in (lw_t1 (List.mem_of_getElem? (i := 87) (by decide +kernel))) rfl
theorem wd_1_89 : Cond.instanceMethod ⟨"LevelTypes", "lastIsWhole", "()Z"⟩ ∈ tb := tb_in (lw_t1 (List.mem_of_getElem? (i := 89) (by decide +kernel))) rfl
theorem wd_1_90 : Cond.code ⟨"LevelTypes", "lastIsWhole", "()Z"⟩ prog_1_method_13_code 2 (some .boolean) ∈ tb := tb_in (lw_t1 (List.mem_of_getElem? (i := 90) rfl)) rfl
theorem wd_1_91 : Cond.methodLink "LevelTypes" 69 ⟨"LevelTypes", "lastDefinition", "()LLevelTypes$Definition;"⟩ ∈ tb := tb_in (lw_t1 (List.mem_of_getElem? (i := 91) (by decide +kernel))) rfl
theorem wd_1_93 : Cond.instanceMethod ⟨"LevelTypes", "lastDefinition", "()LLevelTypes$Definition;"⟩ ∈ tb := tb_in (lw_t1 (List.mem_of_getElem? (i := 93) (by decide +kernel))) rfl
theorem wd_1_94 : Cond.code ⟨"LevelTypes", "lastDefinition", "()LLevelTypes$Definition;"⟩ prog_1_method_12_code 2 (some (.object "LevelTypes$Definition")) ∈ tb := tb_in (lw_t1 (List.mem_of_getElem? (i := 94) rfl)) rfl
theorem wd_1_95 : Cond.methodLink "LevelTypes" 49 ⟨"java/util/ArrayList", "size", "()I"⟩ ∈ tb := tb_in (lw_t1 (List.mem_of_getElem? (i := 95) (by decide +kernel))) rfl
theorem wd_1_96 : Cond.instanceMethod ⟨"java/util/ArrayList", "size", "()I"⟩ ∈ tb := tb_in (lw_t1 (List.mem_of_getElem? (i := 96) (by decide +kernel))) rfl
theorem wd_1_97 : Cond.selects "java/util/ArrayList" ⟨"java/util/ArrayList", "size", "()I"⟩ ⟨"java/util/ArrayList", "size", "()I"⟩ ∈ tb := tb_in (lw_t1 (List.mem_of_getElem? (i := 97) (by decide +kernel))) rfl
theorem wd_1_98 : Cond.code ⟨"java/util/ArrayList", "size", "()I"⟩ prog_15_method_8_code 1 (some .int) ∈ tb := tb_in (lw_t1 (List.mem_of_getElem? (i := 98) rfl)) rfl
theorem wd_1_99 : Cond.methodLink "LevelTypes" 152 ⟨"java/util/ArrayList", "get", "(I)Ljava/lang/Object;"⟩ ∈ tb := tb_in (lw_t1 (List.mem_of_getElem? (i := 99) (by decide +kernel))) rfl
theorem wd_1_100 : Cond.instanceMethod ⟨"java/util/ArrayList", "get", "(I)Ljava/lang/Object;"⟩ ∈ tb := tb_in (lw_t1 (List.mem_of_getElem? (i := 100) (by decide +kernel))) rfl
theorem wd_1_101 : Cond.selects "java/util/ArrayList" ⟨"java/util/ArrayList", "get", "(I)Ljava/lang/Object;"⟩ ⟨"java/util/ArrayList", "get", "(I)Ljava/lang/Object;"⟩ ∈ tb := tb_in (lw_t1 (List.mem_of_getElem? (i := 101) (by decide +kernel))) rfl
theorem wd_1_102 : Cond.code ⟨"java/util/ArrayList", "get", "(I)Ljava/lang/Object;"⟩ prog_15_method_20_code 2 (some (.object "java/lang/Object")) ∈ tb := tb_in (lw_t1 (List.mem_of_getElem? (i := 102) rfl)) rfl
theorem wd_1_103 : Cond.methodLink "java/util/ArrayList" 118 ⟨"java/util/Objects", "checkIndex", "(II)I"⟩ ∈ tb := tb_in (lw_t1 (List.mem_of_getElem? (i := 103) (by decide +kernel))) rfl
theorem wd_1_104 : Cond.static ⟨"java/util/Objects", "checkIndex", "(II)I"⟩ ∈ tb := tb_in (lw_t1 (List.mem_of_getElem? (i := 104) (by decide +kernel))) rfl
theorem wd_1_105 : Cond.code ⟨"java/util/Objects", "checkIndex", "(II)I"⟩ prog_19_method_17_code 2 (some .int) ∈ tb := tb_in (lw_t1 (List.mem_of_getElem? (i := 105) rfl)) rfl
theorem wd_1_106 : Cond.methodLink "java/util/Objects" 105 ⟨"jdk/internal/util/Preconditions", "checkIndex", "(IILjava/util/function/BiFunction;)I"⟩ ∈ tb := tb_in (lw_t1 (List.mem_of_getElem? (i := 106) (by decide +kernel))) rfl
theorem wd_1_107 : Cond.static ⟨"jdk/internal/util/Preconditions", "checkIndex", "(IILjava/util/function/BiFunction;)I"⟩ ∈ tb := tb_in (lw_t1 (List.mem_of_getElem? (i := 107) (by decide +kernel))) rfl
theorem wd_1_108 : Cond.code ⟨"jdk/internal/util/Preconditions", "checkIndex", "(IILjava/util/function/BiFunction;)I"⟩ prog_23_method_11_code 3 (some .int) ∈ tb := tb_in (lw_t1 (List.mem_of_getElem? (i := 108) rfl)) rfl
theorem wd_1_109 : Cond.methodLink "java/util/ArrayList" 123 ⟨"java/util/ArrayList", "elementData", "(I)Ljava/lang/Object;"⟩ ∈ tb := tb_in (lw_t1 (List.mem_of_getElem? (i := 109) (by decide +kernel))) rfl
theorem wd_1_110 : Cond.instanceMethod ⟨"java/util/ArrayList", "elementData", "(I)Ljava/lang/Object;"⟩ ∈ tb := tb_in (lw_t1 (List.mem_of_getElem? (i := 110) (by decide +kernel))) rfl
theorem wd_1_111 : Cond.selects "java/util/ArrayList" ⟨"java/util/ArrayList", "elementData", "(I)Ljava/lang/Object;"⟩ ⟨"java/util/ArrayList", "elementData", "(I)Ljava/lang/Object;"⟩ ∈ tb := tb_in (lw_t1 (List.mem_of_getElem? (i := 111) (by decide +kernel))) rfl
theorem wd_1_112 : Cond.code ⟨"java/util/ArrayList", "elementData", "(I)Ljava/lang/Object;"⟩ prog_15_method_18_code 2 (some (.object "java/lang/Object")) ∈ tb := tb_in (lw_t1 (List.mem_of_getElem? (i := 112) rfl)) rfl
theorem wd_1_113 : Cond.classLink "LevelTypes" 57 "LevelTypes$Definition" ∈ tb := tb_in (lw_t1 (List.mem_of_getElem? (i := 113) (by decide +kernel))) rfl
theorem wd_1_114 : Cond.methodLink "LevelTypes" 87 ⟨"LevelTypes$Definition", "isWhole", "()Z"⟩ ∈ tb := tb_in (lw_t1 (List.mem_of_getElem? (i := 114) (by decide +kernel))) rfl
theorem wd_1_115 : Cond.instanceMethod ⟨"LevelTypes$Definition", "isWhole", "()Z"⟩ ∈ tb := tb_in (lw_t1 (List.mem_of_getElem? (i := 115) (by decide +kernel))) rfl
theorem wd_1_116 : Cond.selects "LevelTypes$Definition" ⟨"LevelTypes$Definition", "isWhole", "()Z"⟩ ⟨"LevelTypes$Definition", "isWhole", "()Z"⟩ ∈ tb := tb_in (lw_t1 (List.mem_of_getElem? (i := 116) (by decide +kernel))) rfl
theorem wd_1_117 : Cond.code ⟨"LevelTypes$Definition", "isWhole", "()Z"⟩ prog_2_method_2_code 1 (some .boolean) ∈ tb := tb_in (lw_t1 (List.mem_of_getElem? (i := 117) rfl)) rfl
theorem wd_1_118 : Cond.methodLink "LevelTypes" 53 ⟨"LevelTypes", "definitionNamed", "(J)LLevelTypes$Definition;"⟩ ∈ tb := tb_in (lw_t1 (List.mem_of_getElem? (i := 118) (by decide +kernel))) rfl
theorem wd_1_120 : Cond.instanceMethod ⟨"LevelTypes", "definitionNamed", "(J)LLevelTypes$Definition;"⟩ ∈ tb := tb_in (lw_t1 (List.mem_of_getElem? (i := 120) (by decide +kernel))) rfl
theorem wd_1_121 : Cond.code ⟨"LevelTypes", "definitionNamed", "(J)LLevelTypes$Definition;"⟩ prog_1_method_14_code 5 (some (.object "LevelTypes$Definition")) ∈ tb := tb_in (lw_t1 (List.mem_of_getElem? (i := 121) rfl)) rfl
theorem wd_1_122 : Cond.instantiable "LevelTypes$Definition" 9 ∈ tb := tb_in (lw_t1 (List.mem_of_getElem? (i := 122) (by decide +kernel))) rfl
theorem wd_1_123 : Cond.methodLink "LevelTypes" 59 ⟨"LevelTypes$Definition", "<init>", "(IZJI)V"⟩ ∈ tb := tb_in (lw_t1 (List.mem_of_getElem? (i := 123) (by decide +kernel))) rfl
theorem wd_1_124 : Cond.instanceMethod ⟨"LevelTypes$Definition", "<init>", "(IZJI)V"⟩ ∈ tb := tb_in (lw_t1 (List.mem_of_getElem? (i := 124) (by decide +kernel))) rfl
theorem wd_1_125 : Cond.code ⟨"LevelTypes$Definition", "<init>", "(IZJI)V"⟩ prog_2_method_1_code 6 none ∈ tb := tb_in (lw_t1 (List.mem_of_getElem? (i := 125) rfl)) rfl
theorem wd_1_126 : Cond.methodLink "LevelTypes$Definition" 3 ⟨"java/lang/Object", "<init>", "()V"⟩ ∈ tb := tb_in (lw_t1 (List.mem_of_getElem? (i := 126) (by decide +kernel))) rfl
theorem wd_1_127 : Cond.fieldLink "LevelTypes$Definition" 31 "LevelTypes$Definition" "number" "I" ∈ tb := tb_in (lw_t1 (List.mem_of_getElem? (i := 127) (by decide +kernel))) rfl
theorem wd_1_128 : Cond.fieldLink "LevelTypes" 66 "LevelTypes$Definition" "number" "I" ∈ tb := tb_in (lw_t1 (List.mem_of_getElem? (i := 128) (by decide +kernel))) rfl
theorem wd_1_129 : Cond.fieldLink "LevelTypes$Definition" 34 "LevelTypes$Definition" "changes" "Z" ∈ tb := tb_in (lw_t1 (List.mem_of_getElem? (i := 129) (by decide +kernel))) rfl
theorem wd_1_130 : Cond.fieldLink "LevelTypes$Node" 96 "LevelTypes$Definition" "changes" "Z" ∈ tb := tb_in (lw_t1 (List.mem_of_getElem? (i := 130) (by decide +kernel))) rfl
theorem wd_1_131 : Cond.fieldLink "LevelTypes" 166 "LevelTypes$Definition" "changes" "Z" ∈ tb := tb_in (lw_t1 (List.mem_of_getElem? (i := 131) (by decide +kernel))) rfl
theorem wd_1_132 : Cond.fieldLink "LevelTypes$Definition" 37 "LevelTypes$Definition" "name" "J" ∈ tb := tb_in (lw_t1 (List.mem_of_getElem? (i := 132) (by decide +kernel))) rfl
theorem wd_1_133 : Cond.fieldLink "LevelTypes" 156 "LevelTypes$Definition" "name" "J" ∈ tb := tb_in (lw_t1 (List.mem_of_getElem? (i := 133) (by decide +kernel))) rfl
theorem wd_1_134 : Cond.fieldLink "LevelTypes$Definition" 41 "LevelTypes$Definition" "valueType" "I" ∈ tb := tb_in (lw_t1 (List.mem_of_getElem? (i := 134) (by decide +kernel))) rfl
theorem wd_1_135 : Cond.fieldLink "LevelTypes$Node" 100 "LevelTypes$Definition" "valueType" "I" ∈ tb := tb_in (lw_t1 (List.mem_of_getElem? (i := 135) (by decide +kernel))) rfl
theorem wd_1_136 : Cond.fieldLink "LevelTypes" 171 "LevelTypes$Definition" "valueType" "I" ∈ tb := tb_in (lw_t1 (List.mem_of_getElem? (i := 136) (by decide +kernel))) rfl
theorem wd_1_137 : Cond.fieldLink "LevelTypes$Definition" 9 "LevelTypes$Definition" "parameterNames" "[J" ∈ tb := tb_in (lw_t1 (List.mem_of_getElem? (i := 137) (by decide +kernel))) rfl
theorem wd_1_138 : Cond.fieldLink "LevelTypes$Definition" 15 "LevelTypes$Definition" "parameterTypes" "[I" ∈ tb := tb_in (lw_t1 (List.mem_of_getElem? (i := 138) (by decide +kernel))) rfl
theorem wd_1_139 : Cond.fieldLink "LevelTypes$Definition" 19 "LevelTypes$Definition" "parameters" "I" ∈ tb := tb_in (lw_t1 (List.mem_of_getElem? (i := 139) (by decide +kernel))) rfl
theorem wd_1_140 : Cond.fieldLink "LevelTypes$Node" 62 "LevelTypes$Definition" "parameters" "I" ∈ tb := tb_in (lw_t1 (List.mem_of_getElem? (i := 140) (by decide +kernel))) rfl
theorem wd_1_141 : Cond.fieldLink "LevelTypes" 76 "LevelTypes$Definition" "parameters" "I" ∈ tb := tb_in (lw_t1 (List.mem_of_getElem? (i := 141) (by decide +kernel))) rfl
theorem wd_1_142 : Cond.fieldLink "LevelTypes$Definition" 23 "LevelTypes$Definition" "begun" "Z" ∈ tb := tb_in (lw_t1 (List.mem_of_getElem? (i := 142) (by decide +kernel))) rfl
theorem wd_1_143 : Cond.fieldLink "LevelTypes" 73 "LevelTypes$Definition" "begun" "Z" ∈ tb := tb_in (lw_t1 (List.mem_of_getElem? (i := 143) (by decide +kernel))) rfl
theorem wd_1_144 : Cond.fieldLink "LevelTypes$Definition" 27 "LevelTypes$Definition" "open" "LLevelTypes$Node;" ∈ tb := tb_in (lw_t1 (List.mem_of_getElem? (i := 144) (by decide +kernel))) rfl
theorem wd_1_145 : Cond.fieldLink "LevelTypes$Node" 37 "LevelTypes$Definition" "open" "LLevelTypes$Node;" ∈ tb := tb_in (lw_t1 (List.mem_of_getElem? (i := 145) (by decide +kernel))) rfl
theorem wd_1_146 : Cond.laysFinal "LevelTypes$Definition" "LevelTypes$Definition" "number" "I" ∈ tb := tb_in (lw_t1 (List.mem_of_getElem? (i := 146) (by decide +kernel))) rfl
theorem wd_1_148 : Cond.laysFinal "LevelTypes$Definition" "LevelTypes$Definition" "changes" "Z" ∈ tb := tb_in (lw_t1 (List.mem_of_getElem? (i := 148) (by decide +kernel))) rfl
theorem wd_1_150 : Cond.laysFinal "LevelTypes$Definition" "LevelTypes$Definition" "name" "J" ∈ tb := tb_in (lw_t1 (List.mem_of_getElem? (i := 150) (by decide +kernel))) rfl
theorem wd_1_152 : Cond.laysFinal "LevelTypes$Definition" "LevelTypes$Definition" "valueType" "I" ∈ tb := tb_in (lw_t1 (List.mem_of_getElem? (i := 152) (by decide +kernel))) rfl
theorem wd_1_154 : Cond.laysFinal "LevelTypes$Definition" "LevelTypes$Definition" "parameterNames" "[J" ∈ tb := tb_in (lw_t1 (List.mem_of_getElem? (i := 154) (by decide +kernel))) rfl
theorem wd_1_156 : Cond.laysFinal "LevelTypes$Definition" "LevelTypes$Definition" "parameterTypes" "[I" ∈ tb := tb_in (lw_t1 (List.mem_of_getElem? (i := 156) (by decide +kernel))) rfl
theorem wd_1_158 : Cond.lays "LevelTypes$Definition" "LevelTypes$Definition" "parameters" "I" ∈ tb := tb_in (lw_t1 (List.mem_of_getElem? (i := 158) (by decide +kernel))) rfl
theorem wd_1_160 : Cond.lays "LevelTypes$Definition" "LevelTypes$Definition" "begun" "Z" ∈ tb := tb_in (lw_t1 (List.mem_of_getElem? (i := 160) (by decide +kernel))) rfl
theorem wd_1_162 : Cond.lays "LevelTypes$Definition" "LevelTypes$Definition" "open" "LLevelTypes$Node;" ∈ tb := tb_in (lw_t1 (List.mem_of_getElem? (i := 162) (by decide +kernel))) rfl
theorem wd_1_164 : Cond.superclass "LevelTypes$Definition" "java/lang/Object" ∈ tb := tb_in (lw_t1 (List.mem_of_getElem? (i := 164) (by decide +kernel))) rfl
theorem wd_1_165 : Cond.arrayClass .long ∈ tb := tb_in (lw_t1 (List.mem_of_getElem? (i := 165) (by decide +kernel))) rfl
theorem wd_1_166 : Cond.arrayClass .int ∈ tb := tb_in (lw_t1 (List.mem_of_getElem? (i := 166) (by decide +kernel))) rfl
theorem wd_1_167 : Cond.methodLink "LevelTypes" 62 ⟨"java/util/ArrayList", "add", "(Ljava/lang/Object;)Z"⟩ ∈ tb := tb_in (lw_t1 (List.mem_of_getElem? (i := 167) (by decide +kernel))) rfl
theorem wd_1_168 : Cond.instanceMethod ⟨"java/util/ArrayList", "add", "(Ljava/lang/Object;)Z"⟩ ∈ tb := tb_in (lw_t1 (List.mem_of_getElem? (i := 168) (by decide +kernel))) rfl
theorem wd_1_169 : Cond.selects "java/util/ArrayList" ⟨"java/util/ArrayList", "add", "(Ljava/lang/Object;)Z"⟩ ⟨"java/util/ArrayList", "add", "(Ljava/lang/Object;)Z"⟩ ∈ tb := tb_in (lw_t1 (List.mem_of_getElem? (i := 169) (by decide +kernel))) rfl
theorem wd_1_170 : Cond.code ⟨"java/util/ArrayList", "add", "(Ljava/lang/Object;)Z"⟩ prog_15_method_25_code 2 (some .boolean) ∈ tb := tb_in (lw_t1 (List.mem_of_getElem? (i := 170) rfl)) rfl
theorem wd_1_171 : Cond.methodLink "java/util/ArrayList" 131 ⟨"java/util/ArrayList", "add", "(Ljava/lang/Object;[Ljava/lang/Object;I)V"⟩ ∈ tb := tb_in (lw_t1 (List.mem_of_getElem? (i := 171) (by decide +kernel))) rfl
theorem wd_1_173 : Cond.instanceMethod ⟨"java/util/ArrayList", "add", "(Ljava/lang/Object;[Ljava/lang/Object;I)V"⟩ ∈ tb := tb_in (lw_t1 (List.mem_of_getElem? (i := 173) (by decide +kernel))) rfl
theorem wd_1_174 : Cond.code ⟨"java/util/ArrayList", "add", "(Ljava/lang/Object;[Ljava/lang/Object;I)V"⟩ prog_15_method_24_code 4 none ∈ tb := tb_in (lw_t1 (List.mem_of_getElem? (i := 174) rfl)) rfl
theorem wd_1_175 : Cond.methodLink "java/util/ArrayList" 129 ⟨"java/util/ArrayList", "grow", "()[Ljava/lang/Object;"⟩ ∈ tb := tb_in (lw_t1 (List.mem_of_getElem? (i := 175) (by decide +kernel))) rfl
theorem wd_1_177 : Cond.instanceMethod ⟨"java/util/ArrayList", "grow", "()[Ljava/lang/Object;"⟩ ∈ tb := tb_in (lw_t1 (List.mem_of_getElem? (i := 177) (by decide +kernel))) rfl
theorem wd_1_178 : Cond.code ⟨"java/util/ArrayList", "grow", "()[Ljava/lang/Object;"⟩ prog_15_method_7_code 1 (some (.array (.object "java/lang/Object"))) ∈ tb := tb_in (lw_t1 (List.mem_of_getElem? (i := 178) rfl)) rfl
theorem wd_1_179 : Cond.methodLink "java/util/ArrayList" 69 ⟨"java/util/ArrayList", "grow", "(I)[Ljava/lang/Object;"⟩ ∈ tb := tb_in (lw_t1 (List.mem_of_getElem? (i := 179) (by decide +kernel))) rfl
theorem wd_1_181 : Cond.instanceMethod ⟨"java/util/ArrayList", "grow", "(I)[Ljava/lang/Object;"⟩ ∈ tb := tb_in (lw_t1 (List.mem_of_getElem? (i := 181) (by decide +kernel))) rfl
theorem wd_1_182 : Cond.code ⟨"java/util/ArrayList", "grow", "(I)[Ljava/lang/Object;"⟩ prog_15_method_6_code 4 (some (.array (.object "java/lang/Object"))) ∈ tb := tb_in (lw_t1 (List.mem_of_getElem? (i := 182) rfl)) rfl
theorem wd_1_183 : Cond.methodLink "java/util/ArrayList" 73 ⟨"jdk/internal/util/ArraysSupport", "newLength", "(III)I"⟩ ∈ tb := tb_in (lw_t1 (List.mem_of_getElem? (i := 183) (by decide +kernel))) rfl
theorem wd_1_184 : Cond.static ⟨"jdk/internal/util/ArraysSupport", "newLength", "(III)I"⟩ ∈ tb := tb_in (lw_t1 (List.mem_of_getElem? (i := 184) (by decide +kernel))) rfl
theorem wd_1_185 : Cond.code ⟨"jdk/internal/util/ArraysSupport", "newLength", "(III)I"⟩ prog_22_method_27_code 4 (some .int) ∈ tb := tb_in (lw_t1 (List.mem_of_getElem? (i := 185) rfl)) rfl
theorem wd_1_186 : Cond.methodLink "jdk/internal/util/ArraysSupport" 194 ⟨"java/lang/Math", "max", "(II)I"⟩ ∈ tb := tb_in (lw_t1 (List.mem_of_getElem? (i := 186) (by decide +kernel))) rfl
theorem wd_1_187 : Cond.static ⟨"java/lang/Math", "max", "(II)I"⟩ ∈ tb := tb_in (lw_t1 (List.mem_of_getElem? (i := 187) (by decide +kernel))) rfl
theorem wd_1_188 : Cond.code ⟨"java/lang/Math", "max", "(II)I"⟩ prog_11_method_65_code 2 (some .int) ∈ tb := tb_in (lw_t1 (List.mem_of_getElem? (i := 188) rfl)) rfl
theorem wd_1_189 : Cond.constant "jdk/internal/util/ArraysSupport" 200 2147483639 ∈ tb := tb_in (lw_t1 (List.mem_of_getElem? (i := 189) (by decide +kernel))) rfl
theorem wd_1_190 : Cond.methodLink "jdk/internal/util/ArraysSupport" 201 ⟨"jdk/internal/util/ArraysSupport", "hugeLength", "(II)I"⟩ ∈ tb := tb_in (lw_t1 (List.mem_of_getElem? (i := 190) (by decide +kernel))) rfl
theorem wd_1_191 : Cond.static ⟨"jdk/internal/util/ArraysSupport", "hugeLength", "(II)I"⟩ ∈ tb := tb_in (lw_t1 (List.mem_of_getElem? (i := 191) (by decide +kernel))) rfl
theorem wd_1_192 : Cond.code ⟨"jdk/internal/util/ArraysSupport", "hugeLength", "(II)I"⟩ prog_22_method_28_code 3 (some .int) ∈ tb := tb_in (lw_t1 (List.mem_of_getElem? (i := 192) rfl)) rfl
theorem wd_1_193 : Cond.methodLink "java/util/ArrayList" 66 ⟨"java/util/Arrays", "copyOf", "([Ljava/lang/Object;I)[Ljava/lang/Object;"⟩ ∈ tb := tb_in (lw_t1 (List.mem_of_getElem? (i := 193) (by decide +kernel))) rfl
theorem wd_1_194 : Cond.static ⟨"java/util/Arrays", "copyOf", "([Ljava/lang/Object;I)[Ljava/lang/Object;"⟩ ∈ tb := tb_in (lw_t1 (List.mem_of_getElem? (i := 194) (by decide +kernel))) rfl
theorem wd_1_195 : Cond.code ⟨"java/util/Arrays", "copyOf", "([Ljava/lang/Object;I)[Ljava/lang/Object;"⟩ prog_16_method_119_code 2 (some (.array (.object "java/lang/Object"))) ∈ tb := tb_in (lw_t1 (List.mem_of_getElem? (i := 195) rfl)) rfl
theorem wd_1_196 : Cond.methodLink "java/util/Arrays" 86 ⟨"java/lang/Object", "getClass", "()Ljava/lang/Class;"⟩ ∈ tb := tb_in (lw_t1 (List.mem_of_getElem? (i := 196) (by decide +kernel))) rfl
theorem wd_1_197 : Cond.instanceMethod ⟨"java/lang/Object", "getClass", "()Ljava/lang/Class;"⟩ ∈ tb := tb_in (lw_t1 (List.mem_of_getElem? (i := 197) (by decide +kernel))) rfl
theorem wd_1_198 : Cond.sameMethod "java/lang/Object" "java/lang/Object" "getClass" "()Ljava/lang/Class;" ∈ tb := tb_in (lw_t1 (List.mem_of_getElem? (i := 198) (by decide +kernel))) rfl
theorem wd_1_199 : Cond.selects "LevelTypes" ⟨"java/lang/Object", "getClass", "()Ljava/lang/Class;"⟩ ⟨"java/lang/Object", "getClass", "()Ljava/lang/Class;"⟩ ∈ tb := tb_in (lw_t1 (List.mem_of_getElem? (i := 199) (by decide +kernel))) rfl
theorem wd_1_200 : Cond.selects "LevelTypes$Definition" ⟨"java/lang/Object", "getClass", "()Ljava/lang/Class;"⟩ ⟨"java/lang/Object", "getClass", "()Ljava/lang/Class;"⟩ ∈ tb := tb_in (lw_t1 (List.mem_of_getElem? (i := 200) (by decide +kernel))) rfl
theorem wd_1_201 : Cond.selects "LevelTypes$Node" ⟨"java/lang/Object", "getClass", "()Ljava/lang/Class;"⟩ ⟨"java/lang/Object", "getClass", "()Ljava/lang/Class;"⟩ ∈ tb := tb_in (lw_t1 (List.mem_of_getElem? (i := 201) (by decide +kernel))) rfl
theorem wd_1_202 : Cond.selects "LevelTypesModel" ⟨"java/lang/Object", "getClass", "()Ljava/lang/Class;"⟩ ⟨"java/lang/Object", "getClass", "()Ljava/lang/Class;"⟩ ∈ tb := tb_in (lw_t1 (List.mem_of_getElem? (i := 202) (by decide +kernel))) rfl
theorem wd_1_203 : Cond.selects "java/util/ArrayList" ⟨"java/lang/Object", "getClass", "()Ljava/lang/Class;"⟩ ⟨"java/lang/Object", "getClass", "()Ljava/lang/Class;"⟩ ∈ tb := tb_in (lw_t1 (List.mem_of_getElem? (i := 203) (by decide +kernel))) rfl
theorem wd_1_204 : Cond.native ⟨"java/lang/Object", "getClass", "()Ljava/lang/Class;"⟩ ∈ tb := tb_in (lw_t1 (List.mem_of_getElem? (i := 204) (by decide +kernel))) rfl
theorem wd_1_205 : Cond.methodLink "java/util/Arrays" 300 ⟨"java/util/Arrays", "copyOf", "([Ljava/lang/Object;ILjava/lang/Class;)[Ljava/lang/Object;"⟩ ∈ tb := tb_in (lw_t1 (List.mem_of_getElem? (i := 205) (by decide +kernel))) rfl
theorem wd_1_206 : Cond.static ⟨"java/util/Arrays", "copyOf", "([Ljava/lang/Object;ILjava/lang/Class;)[Ljava/lang/Object;"⟩ ∈ tb := tb_in (lw_t1 (List.mem_of_getElem? (i := 206) (by decide +kernel))) rfl
theorem wd_1_207 : Cond.code ⟨"java/util/Arrays", "copyOf", "([Ljava/lang/Object;ILjava/lang/Class;)[Ljava/lang/Object;"⟩ prog_16_method_120_code 4 (some (.array (.object "java/lang/Object"))) ∈ tb := tb_in (lw_t1 (List.mem_of_getElem? (i := 207) rfl)) rfl
theorem wd_1_208 : Cond.classLink "java/util/Arrays" 110 "[Ljava/lang/Object;" ∈ tb := tb_in (lw_t1 (List.mem_of_getElem? (i := 208) (by decide +kernel))) rfl
theorem wd_1_210 : Cond.classLink "java/util/Arrays" 2 "java/lang/Object" ∈ tb := tb_in (lw_t1 (List.mem_of_getElem? (i := 210) (by decide +kernel))) rfl
theorem wd_1_211 : Cond.methodLink "java/util/Arrays" 304 ⟨"java/lang/Math", "min", "(II)I"⟩ ∈ tb := tb_in (lw_t1 (List.mem_of_getElem? (i := 211) (by decide +kernel))) rfl
theorem wd_1_212 : Cond.static ⟨"java/lang/Math", "min", "(II)I"⟩ ∈ tb := tb_in (lw_t1 (List.mem_of_getElem? (i := 212) (by decide +kernel))) rfl
theorem wd_1_213 : Cond.code ⟨"java/lang/Math", "min", "(II)I"⟩ prog_11_method_69_code 2 (some .int) ∈ tb := tb_in (lw_t1 (List.mem_of_getElem? (i := 213) rfl)) rfl
theorem wd_1_214 : Cond.methodLink "java/util/Arrays" 150 ⟨"java/lang/System", "arraycopy", "(Ljava/lang/Object;ILjava/lang/Object;II)V"⟩ ∈ tb := tb_in (lw_t1 (List.mem_of_getElem? (i := 214) (by decide +kernel))) rfl
theorem wd_1_215 : Cond.static ⟨"java/lang/System", "arraycopy", "(Ljava/lang/Object;ILjava/lang/Object;II)V"⟩ ∈ tb := tb_in (lw_t1 (List.mem_of_getElem? (i := 215) (by decide +kernel))) rfl
theorem wd_1_216 : Cond.native ⟨"java/lang/System", "arraycopy", "(Ljava/lang/Object;ILjava/lang/Object;II)V"⟩ ∈ tb := tb_in (lw_t1 (List.mem_of_getElem? (i := 216) (by decide +kernel))) rfl
theorem wd_1_217 : Cond.methodLink "java/util/ArrayList" 79 ⟨"java/lang/Math", "max", "(II)I"⟩ ∈ tb := tb_in (lw_t1 (List.mem_of_getElem? (i := 217) (by decide +kernel))) rfl
theorem wd_1_218 : Cond.classLink "java/util/ArrayList" 7 "java/lang/Object" ∈ tb := tb_in (lw_t1 (List.mem_of_getElem? (i := 218) (by decide +kernel))) rfl
theorem wd_1_219 : Cond.methodLink "LevelTypesLaw" 24 ⟨"LevelTypes", "parameter", "(JI)I"⟩ ∈ tb := tb_in (lw_t1 (List.mem_of_getElem? (i := 219) (by decide +kernel))) rfl
theorem wd_1_220 : Cond.instanceMethod ⟨"LevelTypes", "parameter", "(JI)I"⟩ ∈ tb := tb_in (lw_t1 (List.mem_of_getElem? (i := 220) (by decide +kernel))) rfl
theorem wd_1_221 : Cond.selects "LevelTypes" ⟨"LevelTypes", "parameter", "(JI)I"⟩ ⟨"LevelTypes", "parameter", "(JI)I"⟩ ∈ tb := tb_in (lw_t1 (List.mem_of_getElem? (i := 221) (by decide +kernel))) rfl
theorem wd_1_222 : Cond.code ⟨"LevelTypes", "parameter", "(JI)I"⟩ prog_1_method_4_code 5 (some .int) ∈ tb := tb_in (lw_t1 (List.mem_of_getElem? (i := 222) rfl)) rfl
theorem wd_1_223 : Cond.methodLink "LevelTypes" 79 ⟨"LevelTypes$Definition", "indexOfParameter", "(J)I"⟩ ∈ tb := tb_in (lw_t1 (List.mem_of_getElem? (i := 223) (by decide +kernel))) rfl
theorem wd_1_224 : Cond.instanceMethod ⟨"LevelTypes$Definition", "indexOfParameter", "(J)I"⟩ ∈ tb := tb_in (lw_t1 (List.mem_of_getElem? (i := 224) (by decide +kernel))) rfl
theorem wd_1_225 : Cond.selects "LevelTypes$Definition" ⟨"LevelTypes$Definition", "indexOfParameter", "(J)I"⟩ ⟨"LevelTypes$Definition", "indexOfParameter", "(J)I"⟩ ∈ tb := tb_in (lw_t1 (List.mem_of_getElem? (i := 225) (by decide +kernel))) rfl
theorem wd_1_226 : Cond.code ⟨"LevelTypes$Definition", "indexOfParameter", "(J)I"⟩ prog_2_method_5_code 4 (some .int) ∈ tb := tb_in (lw_t1 (List.mem_of_getElem? (i := 226) rfl)) rfl
theorem wd_1_227 : Cond.methodLink "LevelTypes" 83 ⟨"LevelTypes$Definition", "addParameter", "(JI)V"⟩ ∈ tb := tb_in (lw_t1 (List.mem_of_getElem? (i := 227) (by decide +kernel))) rfl
theorem wd_1_228 : Cond.instanceMethod ⟨"LevelTypes$Definition", "addParameter", "(JI)V"⟩ ∈ tb := tb_in (lw_t1 (List.mem_of_getElem? (i := 228) (by decide +kernel))) rfl
theorem wd_1_229 : Cond.selects "LevelTypes$Definition" ⟨"LevelTypes$Definition", "addParameter", "(JI)V"⟩ ⟨"LevelTypes$Definition", "addParameter", "(JI)V"⟩ ∈ tb := tb_in (lw_t1 (List.mem_of_getElem? (i := 229) (by decide +kernel))) rfl
theorem wd_1_230 : Cond.code ⟨"LevelTypes$Definition", "addParameter", "(JI)V"⟩ prog_2_method_4_code 4 none ∈ tb := tb_in (lw_t1 (List.mem_of_getElem? (i := 230) rfl)) rfl
theorem wd_1_231 : Cond.methodLink "LevelTypesLaw" 29 ⟨"LevelTypes", "node", "(IJJI)I"⟩ ∈ tb := tb_in (lw_t1 (List.mem_of_getElem? (i := 231) (by decide +kernel))) rfl
theorem wd_1_232 : Cond.instanceMethod ⟨"LevelTypes", "node", "(IJJI)I"⟩ ∈ tb := tb_in (lw_t1 (List.mem_of_getElem? (i := 232) (by decide +kernel))) rfl
theorem wd_1_233 : Cond.selects "LevelTypes" ⟨"LevelTypes", "node", "(IJJI)I"⟩ ⟨"LevelTypes", "node", "(IJJI)I"⟩ ∈ tb := tb_in (lw_t1 (List.mem_of_getElem? (i := 233) (by decide +kernel))) rfl
theorem wd_1_234 : Cond.code ⟨"LevelTypes", "node", "(IJJI)I"⟩ prog_1_method_5_code 9 (some .int) ∈ tb := tb_in (lw_t1 (List.mem_of_getElem? (i := 234) rfl)) rfl
theorem wd_1_235 : Cond.methodLink "LevelTypes" 90 ⟨"LevelTypes$Kind", "isKind", "(I)Z"⟩ ∈ tb := tb_in (lw_t1 (List.mem_of_getElem? (i := 235) (by decide +kernel))) rfl
theorem wd_1_236 : Cond.static ⟨"LevelTypes$Kind", "isKind", "(I)Z"⟩ ∈ tb := tb_in (lw_t1 (List.mem_of_getElem? (i := 236) (by decide +kernel))) rfl
theorem wd_1_237 : Cond.code ⟨"LevelTypes$Kind", "isKind", "(I)Z"⟩ prog_3_method_2_code 1 (some .boolean) ∈ tb := tb_in (lw_t1 (List.mem_of_getElem? (i := 237) rfl)) rfl
theorem wd_1_238 : Cond.methodLink "LevelTypes" 95 ⟨"LevelTypes$Kind", "isChange", "(I)Z"⟩ ∈ tb := tb_in (lw_t1 (List.mem_of_getElem? (i := 238) (by decide +kernel))) rfl
theorem wd_1_239 : Cond.static ⟨"LevelTypes$Kind", "isChange", "(I)Z"⟩ ∈ tb := tb_in (lw_t1 (List.mem_of_getElem? (i := 239) (by decide +kernel))) rfl
theorem wd_2_0 : Cond.code ⟨"LevelTypes$Kind", "isChange", "(I)Z"⟩ prog_3_method_3_code 1 (some .boolean) ∈ tb := tb_in (lw_t2 (List.mem_of_getElem? (i := 0) rfl)) rfl
theorem wd_2_1 : Cond.methodLink "LevelTypes" 98 ⟨"LevelTypes$Definition", "wantsChange", "()Z"⟩ ∈ tb := tb_in (lw_t2 (List.mem_of_getElem? (i := 1) (by decide +kernel))) rfl
theorem wd_2_2 : Cond.instanceMethod ⟨"LevelTypes$Definition", "wantsChange", "()Z"⟩ ∈ tb := tb_in (lw_t2 (List.mem_of_getElem? (i := 2) (by decide +kernel))) rfl
theorem wd_2_3 : Cond.selects "LevelTypes$Definition" ⟨"LevelTypes$Definition", "wantsChange", "()Z"⟩ ⟨"LevelTypes$Definition", "wantsChange", "()Z"⟩ ∈ tb := tb_in (lw_t2 (List.mem_of_getElem? (i := 3) (by decide +kernel))) rfl
theorem wd_2_4 : Cond.code ⟨"LevelTypes$Definition", "wantsChange", "()Z"⟩ prog_2_method_3_code 1 (some .boolean) ∈ tb := tb_in (lw_t2 (List.mem_of_getElem? (i := 4) rfl)) rfl
theorem wd_2_5 : Cond.methodLink "LevelTypes$Definition" 52 ⟨"LevelTypes$Kind", "wantsChange", "(II)Z"⟩ ∈ tb := tb_in (lw_t2 (List.mem_of_getElem? (i := 5) (by decide +kernel))) rfl
theorem wd_2_6 : Cond.static ⟨"LevelTypes$Kind", "wantsChange", "(II)Z"⟩ ∈ tb := tb_in (lw_t2 (List.mem_of_getElem? (i := 6) (by decide +kernel))) rfl
theorem wd_2_7 : Cond.code ⟨"LevelTypes$Kind", "wantsChange", "(II)Z"⟩ prog_3_method_9_code 2 (some .boolean) ∈ tb := tb_in (lw_t2 (List.mem_of_getElem? (i := 7) rfl)) rfl
theorem wd_2_8 : Cond.methodLink "LevelTypes" 101 ⟨"LevelTypes$Kind", "partsFit", "(II)Z"⟩ ∈ tb := tb_in (lw_t2 (List.mem_of_getElem? (i := 8) (by decide +kernel))) rfl
theorem wd_2_9 : Cond.static ⟨"LevelTypes$Kind", "partsFit", "(II)Z"⟩ ∈ tb := tb_in (lw_t2 (List.mem_of_getElem? (i := 9) (by decide +kernel))) rfl
theorem wd_2_10 : Cond.code ⟨"LevelTypes$Kind", "partsFit", "(II)Z"⟩ prog_3_method_10_code 2 (some .boolean) ∈ tb := tb_in (lw_t2 (List.mem_of_getElem? (i := 10) rfl)) rfl
theorem wd_2_11 : Cond.methodLink "LevelTypes$Kind" 11 ⟨"LevelTypes$Kind", "isKind", "(I)Z"⟩ ∈ tb := tb_in (lw_t2 (List.mem_of_getElem? (i := 11) (by decide +kernel))) rfl
theorem wd_2_12 : Cond.fieldLink "LevelTypes$Kind" 15 "LevelTypes$Kind" "PARTS" "[I" ∈ tb := tb_in (lw_t2 (List.mem_of_getElem? (i := 12) (by decide +kernel))) rfl
theorem wd_2_14 : Cond.methodLink "LevelTypes" 105 ⟨"LevelTypes$Kind", "namesFit", "(IJJ)Z"⟩ ∈ tb := tb_in (lw_t2 (List.mem_of_getElem? (i := 14) (by decide +kernel))) rfl
theorem wd_2_15 : Cond.static ⟨"LevelTypes$Kind", "namesFit", "(IJJ)Z"⟩ ∈ tb := tb_in (lw_t2 (List.mem_of_getElem? (i := 15) (by decide +kernel))) rfl
theorem wd_2_16 : Cond.code ⟨"LevelTypes$Kind", "namesFit", "(IJJ)Z"⟩ prog_3_method_11_code 8 (some .boolean) ∈ tb := tb_in (lw_t2 (List.mem_of_getElem? (i := 16) rfl)) rfl
theorem wd_2_17 : Cond.methodLink "LevelTypes$Kind" 19 ⟨"LevelTypes$Kind", "isBinder", "(I)Z"⟩ ∈ tb := tb_in (lw_t2 (List.mem_of_getElem? (i := 17) (by decide +kernel))) rfl
theorem wd_2_18 : Cond.static ⟨"LevelTypes$Kind", "isBinder", "(I)Z"⟩ ∈ tb := tb_in (lw_t2 (List.mem_of_getElem? (i := 18) (by decide +kernel))) rfl
theorem wd_2_19 : Cond.code ⟨"LevelTypes$Kind", "isBinder", "(I)Z"⟩ prog_3_method_7_code 1 (some .boolean) ∈ tb := tb_in (lw_t2 (List.mem_of_getElem? (i := 19) rfl)) rfl
theorem wd_2_20 : Cond.methodLink "LevelTypes$Kind" 22 ⟨"LevelTypes$Kind", "isCall", "(I)Z"⟩ ∈ tb := tb_in (lw_t2 (List.mem_of_getElem? (i := 20) (by decide +kernel))) rfl
theorem wd_2_21 : Cond.static ⟨"LevelTypes$Kind", "isCall", "(I)Z"⟩ ∈ tb := tb_in (lw_t2 (List.mem_of_getElem? (i := 21) (by decide +kernel))) rfl
theorem wd_2_22 : Cond.code ⟨"LevelTypes$Kind", "isCall", "(I)Z"⟩ prog_3_method_4_code 1 (some .boolean) ∈ tb := tb_in (lw_t2 (List.mem_of_getElem? (i := 22) rfl)) rfl
theorem wd_2_23 : Cond.methodLink "LevelTypes$Kind" 25 ⟨"LevelTypes$Kind", "isCase", "(I)Z"⟩ ∈ tb := tb_in (lw_t2 (List.mem_of_getElem? (i := 23) (by decide +kernel))) rfl
theorem wd_2_24 : Cond.static ⟨"LevelTypes$Kind", "isCase", "(I)Z"⟩ ∈ tb := tb_in (lw_t2 (List.mem_of_getElem? (i := 24) (by decide +kernel))) rfl
theorem wd_2_25 : Cond.code ⟨"LevelTypes$Kind", "isCase", "(I)Z"⟩ prog_3_method_5_code 1 (some .boolean) ∈ tb := tb_in (lw_t2 (List.mem_of_getElem? (i := 25) rfl)) rfl
theorem wd_2_26 : Cond.classLink "LevelTypes" 109 "LevelTypes$Node" ∈ tb := tb_in (lw_t2 (List.mem_of_getElem? (i := 26) (by decide +kernel))) rfl
theorem wd_2_27 : Cond.instantiable "LevelTypes$Node" 14 ∈ tb := tb_in (lw_t2 (List.mem_of_getElem? (i := 27) (by decide +kernel))) rfl
theorem wd_2_28 : Cond.methodLink "LevelTypes" 111 ⟨"LevelTypes$Node", "<init>", "(ILLevelTypes$Definition;IJJI)V"⟩ ∈ tb := tb_in (lw_t2 (List.mem_of_getElem? (i := 28) (by decide +kernel))) rfl
theorem wd_2_29 : Cond.instanceMethod ⟨"LevelTypes$Node", "<init>", "(ILLevelTypes$Definition;IJJI)V"⟩ ∈ tb := tb_in (lw_t2 (List.mem_of_getElem? (i := 29) (by decide +kernel))) rfl
theorem wd_2_30 : Cond.code ⟨"LevelTypes$Node", "<init>", "(ILLevelTypes$Definition;IJJI)V"⟩ prog_4_method_1_code 9 none ∈ tb := tb_in (lw_t2 (List.mem_of_getElem? (i := 30) rfl)) rfl
theorem wd_2_31 : Cond.methodLink "LevelTypes$Node" 3 ⟨"java/lang/Object", "<init>", "()V"⟩ ∈ tb := tb_in (lw_t2 (List.mem_of_getElem? (i := 31) (by decide +kernel))) rfl
theorem wd_2_32 : Cond.fieldLink "LevelTypes$Node" 31 "LevelTypes$Node" "number" "I" ∈ tb := tb_in (lw_t2 (List.mem_of_getElem? (i := 32) (by decide +kernel))) rfl
theorem wd_2_33 : Cond.fieldLink "LevelTypes" 118 "LevelTypes$Node" "number" "I" ∈ tb := tb_in (lw_t2 (List.mem_of_getElem? (i := 33) (by decide +kernel))) rfl
theorem wd_2_34 : Cond.fieldLink "LevelTypes$Node" 34 "LevelTypes$Node" "home" "LLevelTypes$Definition;" ∈ tb := tb_in (lw_t2 (List.mem_of_getElem? (i := 34) (by decide +kernel))) rfl
theorem wd_2_35 : Cond.fieldLink "LevelTypes" 149 "LevelTypes$Node" "home" "LLevelTypes$Definition;" ∈ tb := tb_in (lw_t2 (List.mem_of_getElem? (i := 35) (by decide +kernel))) rfl
theorem wd_2_36 : Cond.fieldLink "LevelTypes$Node" 43 "LevelTypes$Node" "parent" "LLevelTypes$Node;" ∈ tb := tb_in (lw_t2 (List.mem_of_getElem? (i := 36) (by decide +kernel))) rfl
theorem wd_2_37 : Cond.fieldLink "LevelTypes$Definition" 61 "LevelTypes$Node" "parent" "LLevelTypes$Node;" ∈ tb := tb_in (lw_t2 (List.mem_of_getElem? (i := 37) (by decide +kernel))) rfl
theorem wd_2_38 : Cond.fieldLink "LevelTypes" 145 "LevelTypes$Node" "parent" "LLevelTypes$Node;" ∈ tb := tb_in (lw_t2 (List.mem_of_getElem? (i := 38) (by decide +kernel))) rfl
theorem wd_2_39 : Cond.fieldLink "LevelTypes$Node" 46 "LevelTypes$Node" "place" "I" ∈ tb := tb_in (lw_t2 (List.mem_of_getElem? (i := 39) (by decide +kernel))) rfl
theorem wd_2_40 : Cond.fieldLink "LevelTypes" 215 "LevelTypes$Node" "place" "I" ∈ tb := tb_in (lw_t2 (List.mem_of_getElem? (i := 40) (by decide +kernel))) rfl
theorem wd_2_41 : Cond.fieldLink "LevelTypes$Node" 49 "LevelTypes$Node" "kind" "I" ∈ tb := tb_in (lw_t2 (List.mem_of_getElem? (i := 41) (by decide +kernel))) rfl
theorem wd_2_42 : Cond.fieldLink "LevelTypes$Definition" 44 "LevelTypes$Node" "kind" "I" ∈ tb := tb_in (lw_t2 (List.mem_of_getElem? (i := 42) (by decide +kernel))) rfl
theorem wd_2_43 : Cond.fieldLink "LevelTypes" 139 "LevelTypes$Node" "kind" "I" ∈ tb := tb_in (lw_t2 (List.mem_of_getElem? (i := 43) (by decide +kernel))) rfl
theorem wd_2_44 : Cond.fieldLink "LevelTypes$Node" 52 "LevelTypes$Node" "first" "J" ∈ tb := tb_in (lw_t2 (List.mem_of_getElem? (i := 44) (by decide +kernel))) rfl
theorem wd_2_45 : Cond.fieldLink "LevelTypes" 202 "LevelTypes$Node" "first" "J" ∈ tb := tb_in (lw_t2 (List.mem_of_getElem? (i := 45) (by decide +kernel))) rfl
theorem wd_2_46 : Cond.fieldLink "LevelTypes$Node" 56 "LevelTypes$Node" "second" "J" ∈ tb := tb_in (lw_t2 (List.mem_of_getElem? (i := 46) (by decide +kernel))) rfl
theorem wd_2_47 : Cond.fieldLink "LevelTypes$Node" 59 "LevelTypes$Node" "parts" "I" ∈ tb := tb_in (lw_t2 (List.mem_of_getElem? (i := 47) (by decide +kernel))) rfl
theorem wd_2_48 : Cond.fieldLink "LevelTypes$Definition" 58 "LevelTypes$Node" "parts" "I" ∈ tb := tb_in (lw_t2 (List.mem_of_getElem? (i := 48) (by decide +kernel))) rfl
theorem wd_2_49 : Cond.fieldLink "LevelTypes" 142 "LevelTypes$Node" "parts" "I" ∈ tb := tb_in (lw_t2 (List.mem_of_getElem? (i := 49) (by decide +kernel))) rfl
theorem wd_2_50 : Cond.fieldLink "LevelTypes$Node" 9 "LevelTypes$Node" "filled" "I" ∈ tb := tb_in (lw_t2 (List.mem_of_getElem? (i := 50) (by decide +kernel))) rfl
theorem wd_2_51 : Cond.fieldLink "LevelTypes$Definition" 49 "LevelTypes$Node" "filled" "I" ∈ tb := tb_in (lw_t2 (List.mem_of_getElem? (i := 51) (by decide +kernel))) rfl
theorem wd_2_52 : Cond.fieldLink "LevelTypes$Node" 15 "LevelTypes$Node" "valueType" "I" ∈ tb := tb_in (lw_t2 (List.mem_of_getElem? (i := 52) (by decide +kernel))) rfl
theorem wd_2_53 : Cond.fieldLink "LevelTypes" 126 "LevelTypes$Node" "valueType" "I" ∈ tb := tb_in (lw_t2 (List.mem_of_getElem? (i := 53) (by decide +kernel))) rfl
theorem wd_2_54 : Cond.fieldLink "LevelTypes$Node" 18 "LevelTypes$Node" "typeOfX" "I" ∈ tb := tb_in (lw_t2 (List.mem_of_getElem? (i := 54) (by decide +kernel))) rfl
theorem wd_2_55 : Cond.fieldLink "LevelTypes$Node" 21 "LevelTypes$Node" "boundBy" "I" ∈ tb := tb_in (lw_t2 (List.mem_of_getElem? (i := 55) (by decide +kernel))) rfl
theorem wd_2_56 : Cond.fieldLink "LevelTypes" 129 "LevelTypes$Node" "boundBy" "I" ∈ tb := tb_in (lw_t2 (List.mem_of_getElem? (i := 56) (by decide +kernel))) rfl
theorem wd_2_57 : Cond.fieldLink "LevelTypes$Node" 24 "LevelTypes$Node" "callee" "LLevelTypes$Definition;" ∈ tb := tb_in (lw_t2 (List.mem_of_getElem? (i := 57) (by decide +kernel))) rfl
theorem wd_2_58 : Cond.fieldLink "LevelTypes" 132 "LevelTypes$Node" "callee" "LLevelTypes$Definition;" ∈ tb := tb_in (lw_t2 (List.mem_of_getElem? (i := 58) (by decide +kernel))) rfl
theorem wd_2_59 : Cond.fieldLink "LevelTypes$Node" 28 "LevelTypes$Node" "variables" "I" ∈ tb := tb_in (lw_t2 (List.mem_of_getElem? (i := 59) (by decide +kernel))) rfl
theorem wd_2_60 : Cond.fieldLink "LevelTypes" 180 "LevelTypes$Node" "variables" "I" ∈ tb := tb_in (lw_t2 (List.mem_of_getElem? (i := 60) (by decide +kernel))) rfl
theorem wd_2_61 : Cond.laysFinal "LevelTypes$Node" "LevelTypes$Node" "number" "I" ∈ tb := tb_in (lw_t2 (List.mem_of_getElem? (i := 61) (by decide +kernel))) rfl
theorem wd_2_63 : Cond.laysFinal "LevelTypes$Node" "LevelTypes$Node" "home" "LLevelTypes$Definition;" ∈ tb := tb_in (lw_t2 (List.mem_of_getElem? (i := 63) (by decide +kernel))) rfl
theorem wd_2_65 : Cond.laysFinal "LevelTypes$Node" "LevelTypes$Node" "parent" "LLevelTypes$Node;" ∈ tb := tb_in (lw_t2 (List.mem_of_getElem? (i := 65) (by decide +kernel))) rfl
theorem wd_2_67 : Cond.laysFinal "LevelTypes$Node" "LevelTypes$Node" "place" "I" ∈ tb := tb_in (lw_t2 (List.mem_of_getElem? (i := 67) (by decide +kernel))) rfl
theorem wd_2_69 : Cond.laysFinal "LevelTypes$Node" "LevelTypes$Node" "kind" "I" ∈ tb := tb_in (lw_t2 (List.mem_of_getElem? (i := 69) (by decide +kernel))) rfl
theorem wd_2_71 : Cond.laysFinal "LevelTypes$Node" "LevelTypes$Node" "first" "J" ∈ tb := tb_in (lw_t2 (List.mem_of_getElem? (i := 71) (by decide +kernel))) rfl
theorem wd_2_73 : Cond.laysFinal "LevelTypes$Node" "LevelTypes$Node" "second" "J" ∈ tb := tb_in (lw_t2 (List.mem_of_getElem? (i := 73) (by decide +kernel))) rfl
theorem wd_2_75 : Cond.laysFinal "LevelTypes$Node" "LevelTypes$Node" "parts" "I" ∈ tb := tb_in (lw_t2 (List.mem_of_getElem? (i := 75) (by decide +kernel))) rfl
theorem wd_2_77 : Cond.lays "LevelTypes$Node" "LevelTypes$Node" "filled" "I" ∈ tb := tb_in (lw_t2 (List.mem_of_getElem? (i := 77) (by decide +kernel))) rfl
theorem wd_2_79 : Cond.lays "LevelTypes$Node" "LevelTypes$Node" "valueType" "I" ∈ tb := tb_in (lw_t2 (List.mem_of_getElem? (i := 79) (by decide +kernel))) rfl
theorem wd_2_81 : Cond.lays "LevelTypes$Node" "LevelTypes$Node" "typeOfX" "I" ∈ tb := tb_in (lw_t2 (List.mem_of_getElem? (i := 81) (by decide +kernel))) rfl
theorem wd_2_83 : Cond.lays "LevelTypes$Node" "LevelTypes$Node" "boundBy" "I" ∈ tb := tb_in (lw_t2 (List.mem_of_getElem? (i := 83) (by decide +kernel))) rfl
theorem wd_2_85 : Cond.lays "LevelTypes$Node" "LevelTypes$Node" "callee" "LLevelTypes$Definition;" ∈ tb := tb_in (lw_t2 (List.mem_of_getElem? (i := 85) (by decide +kernel))) rfl
theorem wd_2_87 : Cond.lays "LevelTypes$Node" "LevelTypes$Node" "variables" "I" ∈ tb := tb_in (lw_t2 (List.mem_of_getElem? (i := 87) (by decide +kernel))) rfl
theorem wd_2_89 : Cond.superclass "LevelTypes$Node" "java/lang/Object" ∈ tb := tb_in (lw_t2 (List.mem_of_getElem? (i := 89) (by decide +kernel))) rfl
theorem wd_2_90 : Cond.methodLink "LevelTypes" 114 ⟨"LevelTypes$Definition", "take", "(LLevelTypes$Node;)V"⟩ ∈ tb := tb_in (lw_t2 (List.mem_of_getElem? (i := 90) (by decide +kernel))) rfl
theorem wd_2_91 : Cond.instanceMethod ⟨"LevelTypes$Definition", "take", "(LLevelTypes$Node;)V"⟩ ∈ tb := tb_in (lw_t2 (List.mem_of_getElem? (i := 91) (by decide +kernel))) rfl
theorem wd_2_92 : Cond.selects "LevelTypes$Definition" ⟨"LevelTypes$Definition", "take", "(LLevelTypes$Node;)V"⟩ ⟨"LevelTypes$Definition", "take", "(LLevelTypes$Node;)V"⟩ ∈ tb := tb_in (lw_t2 (List.mem_of_getElem? (i := 92) (by decide +kernel))) rfl
theorem wd_2_93 : Cond.code ⟨"LevelTypes$Definition", "take", "(LLevelTypes$Node;)V"⟩ prog_2_method_7_code 2 none ∈ tb := tb_in (lw_t2 (List.mem_of_getElem? (i := 93) rfl)) rfl
theorem wd_2_94 : Cond.methodLink "LevelTypesLaw" 34 ⟨"LevelTypes", "check", "()I"⟩ ∈ tb := tb_in (lw_t2 (List.mem_of_getElem? (i := 94) (by decide +kernel))) rfl
theorem wd_2_95 : Cond.instanceMethod ⟨"LevelTypes", "check", "()I"⟩ ∈ tb := tb_in (lw_t2 (List.mem_of_getElem? (i := 95) (by decide +kernel))) rfl
theorem wd_2_96 : Cond.selects "LevelTypes" ⟨"LevelTypes", "check", "()I"⟩ ⟨"LevelTypes", "check", "()I"⟩ ∈ tb := tb_in (lw_t2 (List.mem_of_getElem? (i := 96) (by decide +kernel))) rfl
theorem wd_2_97 : Cond.code ⟨"LevelTypes", "check", "()I"⟩ prog_1_method_6_code 1 (some .int) ∈ tb := tb_in (lw_t2 (List.mem_of_getElem? (i := 97) rfl)) rfl
theorem wd_2_98 : Cond.methodLink "LevelTypes" 119 ⟨"LevelTypes", "lookAtAll", "()V"⟩ ∈ tb := tb_in (lw_t2 (List.mem_of_getElem? (i := 98) (by decide +kernel))) rfl
theorem wd_2_100 : Cond.instanceMethod ⟨"LevelTypes", "lookAtAll", "()V"⟩ ∈ tb := tb_in (lw_t2 (List.mem_of_getElem? (i := 100) (by decide +kernel))) rfl
theorem wd_2_101 : Cond.code ⟨"LevelTypes", "lookAtAll", "()V"⟩ prog_1_method_17_code 2 none ∈ tb := tb_in (lw_t2 (List.mem_of_getElem? (i := 101) rfl)) rfl
theorem wd_2_102 : Cond.methodLink "LevelTypes" 160 ⟨"LevelTypes", "endsInMain", "()Z"⟩ ∈ tb := tb_in (lw_t2 (List.mem_of_getElem? (i := 102) (by decide +kernel))) rfl
theorem wd_2_104 : Cond.instanceMethod ⟨"LevelTypes", "endsInMain", "()Z"⟩ ∈ tb := tb_in (lw_t2 (List.mem_of_getElem? (i := 104) (by decide +kernel))) rfl
theorem wd_2_105 : Cond.code ⟨"LevelTypes", "endsInMain", "()Z"⟩ prog_1_method_18_code 2 (some .boolean) ∈ tb := tb_in (lw_t2 (List.mem_of_getElem? (i := 105) rfl)) rfl
theorem wd_2_106 : Cond.constantLong "LevelTypes" 169 427310 ∈ tb := tb_in (lw_t2 (List.mem_of_getElem? (i := 106) (by decide +kernel))) rfl
theorem wd_2_107 : Cond.methodLink "LevelTypes" 172 ⟨"LevelTypes$Definition", "parameterType", "(I)I"⟩ ∈ tb := tb_in (lw_t2 (List.mem_of_getElem? (i := 107) (by decide +kernel))) rfl
theorem wd_2_108 : Cond.instanceMethod ⟨"LevelTypes$Definition", "parameterType", "(I)I"⟩ ∈ tb := tb_in (lw_t2 (List.mem_of_getElem? (i := 108) (by decide +kernel))) rfl
theorem wd_2_109 : Cond.selects "LevelTypes$Definition" ⟨"LevelTypes$Definition", "parameterType", "(I)I"⟩ ⟨"LevelTypes$Definition", "parameterType", "(I)I"⟩ ∈ tb := tb_in (lw_t2 (List.mem_of_getElem? (i := 109) (by decide +kernel))) rfl
theorem wd_2_110 : Cond.code ⟨"LevelTypes$Definition", "parameterType", "(I)I"⟩ prog_2_method_6_code 2 (some .int) ∈ tb := tb_in (lw_t2 (List.mem_of_getElem? (i := 110) rfl)) rfl
theorem wd_2_111 : Cond.methodLink "LevelTypes" 163 ⟨"LevelTypes", "lookAt", "(LLevelTypes$Node;)V"⟩ ∈ tb := tb_in (lw_t2 (List.mem_of_getElem? (i := 111) (by decide +kernel))) rfl
theorem wd_2_113 : Cond.instanceMethod ⟨"LevelTypes", "lookAt", "(LLevelTypes$Node;)V"⟩ ∈ tb := tb_in (lw_t2 (List.mem_of_getElem? (i := 113) (by decide +kernel))) rfl
theorem wd_2_114 : Cond.code ⟨"LevelTypes", "lookAt", "(LLevelTypes$Node;)V"⟩ prog_1_method_19_code 3 none ∈ tb := tb_in (lw_t2 (List.mem_of_getElem? (i := 114) rfl)) rfl
theorem wd_2_115 : Cond.methodLink "LevelTypes" 176 ⟨"LevelTypes", "arriveAt", "(LLevelTypes$Node;)Z"⟩ ∈ tb := tb_in (lw_t2 (List.mem_of_getElem? (i := 115) (by decide +kernel))) rfl
theorem wd_2_117 : Cond.instanceMethod ⟨"LevelTypes", "arriveAt", "(LLevelTypes$Node;)Z"⟩ ∈ tb := tb_in (lw_t2 (List.mem_of_getElem? (i := 117) (by decide +kernel))) rfl
theorem wd_2_118 : Cond.code ⟨"LevelTypes", "arriveAt", "(LLevelTypes$Node;)Z"⟩ prog_1_method_20_code 2 (some .boolean) ∈ tb := tb_in (lw_t2 (List.mem_of_getElem? (i := 118) rfl)) rfl
theorem wd_2_119 : Cond.methodLink "LevelTypes" 193 ⟨"LevelTypes$Node", "countVariables", "()V"⟩ ∈ tb := tb_in (lw_t2 (List.mem_of_getElem? (i := 119) (by decide +kernel))) rfl
theorem wd_2_120 : Cond.instanceMethod ⟨"LevelTypes$Node", "countVariables", "()V"⟩ ∈ tb := tb_in (lw_t2 (List.mem_of_getElem? (i := 120) (by decide +kernel))) rfl
theorem wd_2_121 : Cond.selects "LevelTypes$Node" ⟨"LevelTypes$Node", "countVariables", "()V"⟩ ⟨"LevelTypes$Node", "countVariables", "()V"⟩ ∈ tb := tb_in (lw_t2 (List.mem_of_getElem? (i := 121) (by decide +kernel))) rfl
theorem wd_2_122 : Cond.code ⟨"LevelTypes$Node", "countVariables", "()V"⟩ prog_4_method_3_code 1 none ∈ tb := tb_in (lw_t2 (List.mem_of_getElem? (i := 122) rfl)) rfl
theorem wd_2_123 : Cond.methodLink "LevelTypes$Node" 65 ⟨"LevelTypes$Node", "isLastPart", "()Z"⟩ ∈ tb := tb_in (lw_t2 (List.mem_of_getElem? (i := 123) (by decide +kernel))) rfl
theorem wd_2_124 : Cond.instanceMethod ⟨"LevelTypes$Node", "isLastPart", "()Z"⟩ ∈ tb := tb_in (lw_t2 (List.mem_of_getElem? (i := 124) (by decide +kernel))) rfl
theorem wd_2_125 : Cond.selects "LevelTypes$Node" ⟨"LevelTypes$Node", "isLastPart", "()Z"⟩ ⟨"LevelTypes$Node", "isLastPart", "()Z"⟩ ∈ tb := tb_in (lw_t2 (List.mem_of_getElem? (i := 125) (by decide +kernel))) rfl
theorem wd_2_126 : Cond.code ⟨"LevelTypes$Node", "isLastPart", "()Z"⟩ prog_4_method_2_code 1 (some .boolean) ∈ tb := tb_in (lw_t2 (List.mem_of_getElem? (i := 126) rfl)) rfl
theorem wd_2_127 : Cond.methodLink "LevelTypes$Node" 69 ⟨"LevelTypes$Node", "variablesOfLastPart", "()I"⟩ ∈ tb := tb_in (lw_t2 (List.mem_of_getElem? (i := 127) (by decide +kernel))) rfl
theorem wd_2_128 : Cond.instanceMethod ⟨"LevelTypes$Node", "variablesOfLastPart", "()I"⟩ ∈ tb := tb_in (lw_t2 (List.mem_of_getElem? (i := 128) (by decide +kernel))) rfl
theorem wd_2_129 : Cond.selects "LevelTypes$Node" ⟨"LevelTypes$Node", "variablesOfLastPart", "()I"⟩ ⟨"LevelTypes$Node", "variablesOfLastPart", "()I"⟩ ∈ tb := tb_in (lw_t2 (List.mem_of_getElem? (i := 129) (by decide +kernel))) rfl
theorem wd_2_130 : Cond.code ⟨"LevelTypes$Node", "variablesOfLastPart", "()I"⟩ prog_4_method_4_code 1 (some .int) ∈ tb := tb_in (lw_t2 (List.mem_of_getElem? (i := 130) rfl)) rfl
theorem wd_2_131 : Cond.methodLink "LevelTypes$Node" 73 ⟨"LevelTypes$Kind", "isBinder", "(I)Z"⟩ ∈ tb := tb_in (lw_t2 (List.mem_of_getElem? (i := 131) (by decide +kernel))) rfl
theorem wd_2_132 : Cond.methodLink "LevelTypes$Node" 79 ⟨"LevelTypes$Kind", "isCase", "(I)Z"⟩ ∈ tb := tb_in (lw_t2 (List.mem_of_getElem? (i := 132) (by decide +kernel))) rfl
theorem wd_2_133 : Cond.methodLink "LevelTypes" 196 ⟨"LevelTypes$Node", "bind", "()Z"⟩ ∈ tb := tb_in (lw_t2 (List.mem_of_getElem? (i := 133) (by decide +kernel))) rfl
theorem wd_2_134 : Cond.instanceMethod ⟨"LevelTypes$Node", "bind", "()Z"⟩ ∈ tb := tb_in (lw_t2 (List.mem_of_getElem? (i := 134) (by decide +kernel))) rfl
theorem wd_2_135 : Cond.selects "LevelTypes$Node" ⟨"LevelTypes$Node", "bind", "()Z"⟩ ⟨"LevelTypes$Node", "bind", "()Z"⟩ ∈ tb := tb_in (lw_t2 (List.mem_of_getElem? (i := 135) (by decide +kernel))) rfl
theorem wd_2_136 : Cond.code ⟨"LevelTypes$Node", "bind", "()Z"⟩ prog_4_method_6_code 3 (some .boolean) ∈ tb := tb_in (lw_t2 (List.mem_of_getElem? (i := 136) rfl)) rfl
theorem wd_2_137 : Cond.methodLink "LevelTypes$Node" 82 ⟨"LevelTypes$Node", "bindsInLastPart", "(J)Z"⟩ ∈ tb := tb_in (lw_t2 (List.mem_of_getElem? (i := 137) (by decide +kernel))) rfl
theorem wd_2_138 : Cond.instanceMethod ⟨"LevelTypes$Node", "bindsInLastPart", "(J)Z"⟩ ∈ tb := tb_in (lw_t2 (List.mem_of_getElem? (i := 138) (by decide +kernel))) rfl
theorem wd_2_139 : Cond.selects "LevelTypes$Node" ⟨"LevelTypes$Node", "bindsInLastPart", "(J)Z"⟩ ⟨"LevelTypes$Node", "bindsInLastPart", "(J)Z"⟩ ∈ tb := tb_in (lw_t2 (List.mem_of_getElem? (i := 139) (by decide +kernel))) rfl
theorem wd_2_140 : Cond.code ⟨"LevelTypes$Node", "bindsInLastPart", "(J)Z"⟩ prog_4_method_5_code 3 (some .boolean) ∈ tb := tb_in (lw_t2 (List.mem_of_getElem? (i := 140) rfl)) rfl
theorem wd_2_141 : Cond.methodLink "LevelTypes$Node" 88 ⟨"LevelTypes$Definition", "indexOfParameter", "(J)I"⟩ ∈ tb := tb_in (lw_t2 (List.mem_of_getElem? (i := 141) (by decide +kernel))) rfl
theorem wd_2_142 : Cond.methodLink "LevelTypes$Node" 92 ⟨"LevelTypes$Definition", "parameterType", "(I)I"⟩ ∈ tb := tb_in (lw_t2 (List.mem_of_getElem? (i := 142) (by decide +kernel))) rfl
theorem wd_2_143 : Cond.methodLink "LevelTypes" 199 ⟨"LevelTypes$Kind", "isCall", "(I)Z"⟩ ∈ tb := tb_in (lw_t2 (List.mem_of_getElem? (i := 143) (by decide +kernel))) rfl
theorem wd_2_144 : Cond.methodLink "LevelTypes" 205 ⟨"LevelTypes$Node", "aimAt", "(LLevelTypes$Definition;)Z"⟩ ∈ tb := tb_in (lw_t2 (List.mem_of_getElem? (i := 144) (by decide +kernel))) rfl
theorem wd_2_145 : Cond.instanceMethod ⟨"LevelTypes$Node", "aimAt", "(LLevelTypes$Definition;)Z"⟩ ∈ tb := tb_in (lw_t2 (List.mem_of_getElem? (i := 145) (by decide +kernel))) rfl
theorem wd_2_146 : Cond.selects "LevelTypes$Node" ⟨"LevelTypes$Node", "aimAt", "(LLevelTypes$Definition;)Z"⟩ ⟨"LevelTypes$Node", "aimAt", "(LLevelTypes$Definition;)Z"⟩ ∈ tb := tb_in (lw_t2 (List.mem_of_getElem? (i := 146) (by decide +kernel))) rfl
theorem wd_2_147 : Cond.code ⟨"LevelTypes$Node", "aimAt", "(LLevelTypes$Definition;)Z"⟩ prog_4_method_7_code 3 (some .boolean) ∈ tb := tb_in (lw_t2 (List.mem_of_getElem? (i := 147) rfl)) rfl
theorem wd_2_148 : Cond.methodLink "LevelTypes" 209 ⟨"LevelTypes$Kind", "ownType", "(I)I"⟩ ∈ tb := tb_in (lw_t2 (List.mem_of_getElem? (i := 148) (by decide +kernel))) rfl
theorem wd_2_149 : Cond.static ⟨"LevelTypes$Kind", "ownType", "(I)I"⟩ ∈ tb := tb_in (lw_t2 (List.mem_of_getElem? (i := 149) (by decide +kernel))) rfl
theorem wd_2_150 : Cond.code ⟨"LevelTypes$Kind", "ownType", "(I)I"⟩ prog_3_method_12_code 1 (some .int) ∈ tb := tb_in (lw_t2 (List.mem_of_getElem? (i := 150) rfl)) rfl
theorem wd_2_151 : Cond.methodLink "LevelTypes" 183 ⟨"java/lang/Math", "max", "(II)I"⟩ ∈ tb := tb_in (lw_t2 (List.mem_of_getElem? (i := 151) (by decide +kernel))) rfl
theorem wd_2_152 : Cond.methodLink "LevelTypes" 189 ⟨"LevelTypes", "firstMisfit", "(LLevelTypes$Node;)LLevelTypes$Node;"⟩ ∈ tb := tb_in (lw_t2 (List.mem_of_getElem? (i := 152) (by decide +kernel))) rfl
theorem wd_2_153 : Cond.static ⟨"LevelTypes", "firstMisfit", "(LLevelTypes$Node;)LLevelTypes$Node;"⟩ ∈ tb := tb_in (lw_t2 (List.mem_of_getElem? (i := 153) (by decide +kernel))) rfl
theorem wd_2_154 : Cond.code ⟨"LevelTypes", "firstMisfit", "(LLevelTypes$Node;)LLevelTypes$Node;"⟩ prog_1_method_21_code 2 (some (.object "LevelTypes$Node")) ∈ tb := tb_in (lw_t2 (List.mem_of_getElem? (i := 154) rfl)) rfl
theorem wd_2_155 : Cond.methodLink "LevelTypes" 212 ⟨"LevelTypes$Node", "fits", "()Z"⟩ ∈ tb := tb_in (lw_t2 (List.mem_of_getElem? (i := 155) (by decide +kernel))) rfl
theorem wd_2_156 : Cond.instanceMethod ⟨"LevelTypes$Node", "fits", "()Z"⟩ ∈ tb := tb_in (lw_t2 (List.mem_of_getElem? (i := 156) (by decide +kernel))) rfl
theorem wd_2_157 : Cond.selects "LevelTypes$Node" ⟨"LevelTypes$Node", "fits", "()Z"⟩ ⟨"LevelTypes$Node", "fits", "()Z"⟩ ∈ tb := tb_in (lw_t2 (List.mem_of_getElem? (i := 157) (by decide +kernel))) rfl
theorem wd_2_158 : Cond.code ⟨"LevelTypes$Node", "fits", "()Z"⟩ prog_4_method_8_code 1 (some .boolean) ∈ tb := tb_in (lw_t2 (List.mem_of_getElem? (i := 158) rfl)) rfl
theorem wd_2_159 : Cond.methodLink "LevelTypes$Node" 101 ⟨"LevelTypes$Node", "admits", "(II)Z"⟩ ∈ tb := tb_in (lw_t2 (List.mem_of_getElem? (i := 159) (by decide +kernel))) rfl
theorem wd_2_161 : Cond.instanceMethod ⟨"LevelTypes$Node", "admits", "(II)Z"⟩ ∈ tb := tb_in (lw_t2 (List.mem_of_getElem? (i := 161) (by decide +kernel))) rfl
theorem wd_2_162 : Cond.code ⟨"LevelTypes$Node", "admits", "(II)Z"⟩ prog_4_method_9_code 3 (some .boolean) ∈ tb := tb_in (lw_t2 (List.mem_of_getElem? (i := 162) rfl)) rfl
theorem wd_2_163 : Cond.methodLink "LevelTypes$Node" 105 ⟨"LevelTypes$Type", "isWritten", "(I)Z"⟩ ∈ tb := tb_in (lw_t2 (List.mem_of_getElem? (i := 163) (by decide +kernel))) rfl
theorem wd_2_164 : Cond.methodLink "LevelTypes" 218 ⟨"LevelTypes$Node", "hearOf", "(II)V"⟩ ∈ tb := tb_in (lw_t2 (List.mem_of_getElem? (i := 164) (by decide +kernel))) rfl
theorem wd_2_165 : Cond.instanceMethod ⟨"LevelTypes$Node", "hearOf", "(II)V"⟩ ∈ tb := tb_in (lw_t2 (List.mem_of_getElem? (i := 165) (by decide +kernel))) rfl
theorem wd_2_166 : Cond.selects "LevelTypes$Node" ⟨"LevelTypes$Node", "hearOf", "(II)V"⟩ ⟨"LevelTypes$Node", "hearOf", "(II)V"⟩ ∈ tb := tb_in (lw_t2 (List.mem_of_getElem? (i := 166) (by decide +kernel))) rfl
theorem wd_2_167 : Cond.code ⟨"LevelTypes$Node", "hearOf", "(II)V"⟩ prog_4_method_10_code 3 none ∈ tb := tb_in (lw_t2 (List.mem_of_getElem? (i := 167) rfl)) rfl
theorem wd_2_168 : Cond.methodLink "LevelTypes$Node" 108 ⟨"LevelTypes$Node", "typeOfXAfter", "(I)I"⟩ ∈ tb := tb_in (lw_t2 (List.mem_of_getElem? (i := 168) (by decide +kernel))) rfl
theorem wd_2_170 : Cond.instanceMethod ⟨"LevelTypes$Node", "typeOfXAfter", "(I)I"⟩ ∈ tb := tb_in (lw_t2 (List.mem_of_getElem? (i := 170) (by decide +kernel))) rfl
theorem wd_2_171 : Cond.code ⟨"LevelTypes$Node", "typeOfXAfter", "(I)I"⟩ prog_4_method_11_code 2 (some .int) ∈ tb := tb_in (lw_t2 (List.mem_of_getElem? (i := 171) rfl)) rfl
theorem wd_2_172 : Cond.methodLink "LevelTypes$Node" 114 ⟨"LevelTypes$Kind", "isLet", "(I)Z"⟩ ∈ tb := tb_in (lw_t2 (List.mem_of_getElem? (i := 172) (by decide +kernel))) rfl
theorem wd_2_173 : Cond.static ⟨"LevelTypes$Kind", "isLet", "(I)Z"⟩ ∈ tb := tb_in (lw_t2 (List.mem_of_getElem? (i := 173) (by decide +kernel))) rfl
theorem wd_2_174 : Cond.code ⟨"LevelTypes$Kind", "isLet", "(I)Z"⟩ prog_3_method_6_code 1 (some .boolean) ∈ tb := tb_in (lw_t2 (List.mem_of_getElem? (i := 174) rfl)) rfl
theorem wd_2_175 : Cond.methodLink "LevelTypes$Node" 111 ⟨"LevelTypes$Kind", "isAsLastPart", "(I)Z"⟩ ∈ tb := tb_in (lw_t2 (List.mem_of_getElem? (i := 175) (by decide +kernel))) rfl
theorem wd_2_176 : Cond.static ⟨"LevelTypes$Kind", "isAsLastPart", "(I)Z"⟩ ∈ tb := tb_in (lw_t2 (List.mem_of_getElem? (i := 176) (by decide +kernel))) rfl
theorem wd_2_177 : Cond.code ⟨"LevelTypes$Kind", "isAsLastPart", "(I)Z"⟩ prog_3_method_8_code 1 (some .boolean) ∈ tb := tb_in (lw_t2 (List.mem_of_getElem? (i := 177) rfl)) rfl
theorem wd_2_178 : Cond.methodLink "LevelTypes" 222 ⟨"LevelTypes$Node", "isLastPart", "()Z"⟩ ∈ tb := tb_in (lw_t2 (List.mem_of_getElem? (i := 178) (by decide +kernel))) rfl
theorem wd_2_179 : Cond.methodLink "LevelTypesLaw" 39 ⟨"LevelTypes", "type", "(I)I"⟩ ∈ tb := tb_in (lw_t2 (List.mem_of_getElem? (i := 179) (by decide +kernel))) rfl
theorem wd_2_180 : Cond.instanceMethod ⟨"LevelTypes", "type", "(I)I"⟩ ∈ tb := tb_in (lw_t2 (List.mem_of_getElem? (i := 180) (by decide +kernel))) rfl
theorem wd_2_181 : Cond.selects "LevelTypes" ⟨"LevelTypes", "type", "(I)I"⟩ ⟨"LevelTypes", "type", "(I)I"⟩ ∈ tb := tb_in (lw_t2 (List.mem_of_getElem? (i := 181) (by decide +kernel))) rfl
theorem wd_2_182 : Cond.code ⟨"LevelTypes", "type", "(I)I"⟩ prog_1_method_7_code 3 (some .int) ∈ tb := tb_in (lw_t2 (List.mem_of_getElem? (i := 182) rfl)) rfl
theorem wd_2_183 : Cond.methodLink "LevelTypes" 122 ⟨"LevelTypes", "knownNode", "(I)LLevelTypes$Node;"⟩ ∈ tb := tb_in (lw_t2 (List.mem_of_getElem? (i := 183) (by decide +kernel))) rfl
theorem wd_2_185 : Cond.instanceMethod ⟨"LevelTypes", "knownNode", "(I)LLevelTypes$Node;"⟩ ∈ tb := tb_in (lw_t2 (List.mem_of_getElem? (i := 185) (by decide +kernel))) rfl
theorem wd_2_186 : Cond.code ⟨"LevelTypes", "knownNode", "(I)LLevelTypes$Node;"⟩ prog_1_method_16_code 2 (some (.object "LevelTypes$Node")) ∈ tb := tb_in (lw_t2 (List.mem_of_getElem? (i := 186) rfl)) rfl
theorem wd_2_187 : Cond.methodLink "LevelTypes" 136 ⟨"LevelTypes", "nodeAt", "(I)LLevelTypes$Node;"⟩ ∈ tb := tb_in (lw_t2 (List.mem_of_getElem? (i := 187) (by decide +kernel))) rfl
theorem wd_2_189 : Cond.instanceMethod ⟨"LevelTypes", "nodeAt", "(I)LLevelTypes$Node;"⟩ ∈ tb := tb_in (lw_t2 (List.mem_of_getElem? (i := 189) (by decide +kernel))) rfl
theorem wd_2_190 : Cond.code ⟨"LevelTypes", "nodeAt", "(I)LLevelTypes$Node;"⟩ prog_1_method_15_code 2 (some (.object "LevelTypes$Node")) ∈ tb := tb_in (lw_t2 (List.mem_of_getElem? (i := 190) rfl)) rfl
theorem wd_2_191 : Cond.methodLink "LevelTypesLaw" 44 ⟨"LevelTypes", "binder", "(I)I"⟩ ∈ tb := tb_in (lw_t2 (List.mem_of_getElem? (i := 191) (by decide +kernel))) rfl
theorem wd_2_192 : Cond.instanceMethod ⟨"LevelTypes", "binder", "(I)I"⟩ ∈ tb := tb_in (lw_t2 (List.mem_of_getElem? (i := 192) (by decide +kernel))) rfl
theorem wd_2_193 : Cond.selects "LevelTypes" ⟨"LevelTypes", "binder", "(I)I"⟩ ⟨"LevelTypes", "binder", "(I)I"⟩ ∈ tb := tb_in (lw_t2 (List.mem_of_getElem? (i := 193) (by decide +kernel))) rfl
theorem wd_2_194 : Cond.code ⟨"LevelTypes", "binder", "(I)I"⟩ prog_1_method_8_code 3 (some .int) ∈ tb := tb_in (lw_t2 (List.mem_of_getElem? (i := 194) rfl)) rfl
theorem wd_2_195 : Cond.methodLink "LevelTypesLaw" 48 ⟨"LevelTypes", "target", "(I)I"⟩ ∈ tb := tb_in (lw_t2 (List.mem_of_getElem? (i := 195) (by decide +kernel))) rfl
theorem wd_2_196 : Cond.instanceMethod ⟨"LevelTypes", "target", "(I)I"⟩ ∈ tb := tb_in (lw_t2 (List.mem_of_getElem? (i := 196) (by decide +kernel))) rfl
theorem wd_2_197 : Cond.selects "LevelTypes" ⟨"LevelTypes", "target", "(I)I"⟩ ⟨"LevelTypes", "target", "(I)I"⟩ ∈ tb := tb_in (lw_t2 (List.mem_of_getElem? (i := 197) (by decide +kernel))) rfl
theorem wd_2_198 : Cond.code ⟨"LevelTypes", "target", "(I)I"⟩ prog_1_method_9_code 3 (some .int) ∈ tb := tb_in (lw_t2 (List.mem_of_getElem? (i := 198) rfl)) rfl
theorem wd_2_199 : Cond.methodLink "LevelTypesLaw" 52 ⟨"LevelTypes", "of", "(II)I"⟩ ∈ tb := tb_in (lw_t2 (List.mem_of_getElem? (i := 199) (by decide +kernel))) rfl
theorem wd_2_200 : Cond.instanceMethod ⟨"LevelTypes", "of", "(II)I"⟩ ∈ tb := tb_in (lw_t2 (List.mem_of_getElem? (i := 200) (by decide +kernel))) rfl
theorem wd_2_201 : Cond.selects "LevelTypes" ⟨"LevelTypes", "of", "(II)I"⟩ ⟨"LevelTypes", "of", "(II)I"⟩ ∈ tb := tb_in (lw_t2 (List.mem_of_getElem? (i := 201) (by decide +kernel))) rfl
theorem wd_2_202 : Cond.code ⟨"LevelTypes", "of", "(II)I"⟩ prog_1_method_10_code 4 (some .int) ∈ tb := tb_in (lw_t2 (List.mem_of_getElem? (i := 202) rfl)) rfl
theorem wd_2_203 : Cond.methodLink "LevelTypesLaw" 57 ⟨"LevelTypes", "look", "(I)I"⟩ ∈ tb := tb_in (lw_t2 (List.mem_of_getElem? (i := 203) (by decide +kernel))) rfl
theorem wd_2_204 : Cond.instanceMethod ⟨"LevelTypes", "look", "(I)I"⟩ ∈ tb := tb_in (lw_t2 (List.mem_of_getElem? (i := 204) (by decide +kernel))) rfl
theorem wd_2_205 : Cond.selects "LevelTypes" ⟨"LevelTypes", "look", "(I)I"⟩ ⟨"LevelTypes", "look", "(I)I"⟩ ∈ tb := tb_in (lw_t2 (List.mem_of_getElem? (i := 205) (by decide +kernel))) rfl
theorem wd_2_206 : Cond.code ⟨"LevelTypes", "look", "(I)I"⟩ prog_1_method_11_code 2 (some .int) ∈ tb := tb_in (lw_t2 (List.mem_of_getElem? (i := 206) rfl)) rfl
theorem wd_2_207 : Cond.classLink "LevelTypesLaw" 10 "LevelTypesModel" ∈ tb := tb_in (lw_t2 (List.mem_of_getElem? (i := 207) (by decide +kernel))) rfl
theorem wd_2_208 : Cond.instantiable "LevelTypesModel" 25 ∈ tb := tb_in (lw_t2 (List.mem_of_getElem? (i := 208) (by decide +kernel))) rfl
theorem wd_2_209 : Cond.methodLink "LevelTypesLaw" 12 ⟨"LevelTypesModel", "<init>", "()V"⟩ ∈ tb := tb_in (lw_t2 (List.mem_of_getElem? (i := 209) (by decide +kernel))) rfl
theorem wd_2_210 : Cond.instanceMethod ⟨"LevelTypesModel", "<init>", "()V"⟩ ∈ tb := tb_in (lw_t2 (List.mem_of_getElem? (i := 210) (by decide +kernel))) rfl
theorem wd_2_211 : Cond.code ⟨"LevelTypesModel", "<init>", "()V"⟩ prog_7_method_1_code 1 none ∈ tb := tb_in (lw_t2 (List.mem_of_getElem? (i := 211) rfl)) rfl
theorem wd_2_212 : Cond.methodLink "LevelTypesModel" 1 ⟨"java/lang/Object", "<init>", "()V"⟩ ∈ tb := tb_in (lw_t2 (List.mem_of_getElem? (i := 212) (by decide +kernel))) rfl
theorem wd_2_213 : Cond.fieldLink "LevelTypesModel" 70 "LevelTypesModel" "thrown" "I" ∈ tb := tb_in (lw_t2 (List.mem_of_getElem? (i := 213) (by decide +kernel))) rfl
theorem wd_2_214 : Cond.fieldLink "LevelTypesModel" 73 "LevelTypesModel" "many" "I" ∈ tb := tb_in (lw_t2 (List.mem_of_getElem? (i := 214) (by decide +kernel))) rfl
theorem wd_2_215 : Cond.fieldLink "LevelTypesModel" 7 "LevelTypesModel" "isChg" "[Z" ∈ tb := tb_in (lw_t2 (List.mem_of_getElem? (i := 215) (by decide +kernel))) rfl
theorem wd_2_216 : Cond.fieldLink "LevelTypesModel" 13 "LevelTypesModel" "titles" "[J" ∈ tb := tb_in (lw_t2 (List.mem_of_getElem? (i := 216) (by decide +kernel))) rfl
theorem wd_2_217 : Cond.fieldLink "LevelTypesModel" 17 "LevelTypesModel" "results" "[I" ∈ tb := tb_in (lw_t2 (List.mem_of_getElem? (i := 217) (by decide +kernel))) rfl
theorem wd_2_218 : Cond.fieldLink "LevelTypesModel" 21 "LevelTypesModel" "parameterMany" "[I" ∈ tb := tb_in (lw_t2 (List.mem_of_getElem? (i := 218) (by decide +kernel))) rfl
theorem wd_2_219 : Cond.fieldLink "LevelTypesModel" 24 "LevelTypesModel" "parameterNames" "[J" ∈ tb := tb_in (lw_t2 (List.mem_of_getElem? (i := 219) (by decide +kernel))) rfl
theorem wd_2_220 : Cond.fieldLink "LevelTypesModel" 27 "LevelTypesModel" "parameterTypes" "[I" ∈ tb := tb_in (lw_t2 (List.mem_of_getElem? (i := 220) (by decide +kernel))) rfl
theorem wd_2_221 : Cond.fieldLink "LevelTypesModel" 30 "LevelTypesModel" "begins" "[I" ∈ tb := tb_in (lw_t2 (List.mem_of_getElem? (i := 221) (by decide +kernel))) rfl
theorem wd_2_222 : Cond.fieldLink "LevelTypesModel" 76 "LevelTypesModel" "nodes" "I" ∈ tb := tb_in (lw_t2 (List.mem_of_getElem? (i := 222) (by decide +kernel))) rfl
theorem wd_2_223 : Cond.fieldLink "LevelTypesModel" 33 "LevelTypesModel" "kinds" "[I" ∈ tb := tb_in (lw_t2 (List.mem_of_getElem? (i := 223) (by decide +kernel))) rfl
theorem wd_2_224 : Cond.fieldLink "LevelTypesModel" 36 "LevelTypesModel" "firsts" "[J" ∈ tb := tb_in (lw_t2 (List.mem_of_getElem? (i := 224) (by decide +kernel))) rfl
theorem wd_2_225 : Cond.fieldLink "LevelTypesModel" 39 "LevelTypesModel" "seconds" "[J" ∈ tb := tb_in (lw_t2 (List.mem_of_getElem? (i := 225) (by decide +kernel))) rfl
theorem wd_2_226 : Cond.fieldLink "LevelTypesModel" 42 "LevelTypesModel" "parts" "[I" ∈ tb := tb_in (lw_t2 (List.mem_of_getElem? (i := 226) (by decide +kernel))) rfl
theorem wd_2_227 : Cond.fieldLink "LevelTypesModel" 45 "LevelTypesModel" "parents" "[I" ∈ tb := tb_in (lw_t2 (List.mem_of_getElem? (i := 227) (by decide +kernel))) rfl
theorem wd_2_228 : Cond.fieldLink "LevelTypesModel" 48 "LevelTypesModel" "parted" "[I" ∈ tb := tb_in (lw_t2 (List.mem_of_getElem? (i := 228) (by decide +kernel))) rfl
theorem wd_2_229 : Cond.fieldLink "LevelTypesModel" 51 "LevelTypesModel" "owners" "[I" ∈ tb := tb_in (lw_t2 (List.mem_of_getElem? (i := 229) (by decide +kernel))) rfl
theorem wd_2_230 : Cond.fieldLink "LevelTypesModel" 54 "LevelTypesModel" "has" "[I" ∈ tb := tb_in (lw_t2 (List.mem_of_getElem? (i := 230) (by decide +kernel))) rfl
theorem wd_2_231 : Cond.fieldLink "LevelTypesModel" 57 "LevelTypesModel" "types" "[I" ∈ tb := tb_in (lw_t2 (List.mem_of_getElem? (i := 231) (by decide +kernel))) rfl
theorem wd_2_232 : Cond.fieldLink "LevelTypesModel" 60 "LevelTypesModel" "binders" "[I" ∈ tb := tb_in (lw_t2 (List.mem_of_getElem? (i := 232) (by decide +kernel))) rfl
theorem wd_2_233 : Cond.fieldLink "LevelTypesModel" 63 "LevelTypesModel" "targets" "[I" ∈ tb := tb_in (lw_t2 (List.mem_of_getElem? (i := 233) (by decide +kernel))) rfl
theorem wd_2_234 : Cond.fieldLink "LevelTypesModel" 79 "LevelTypesModel" "known" "Z" ∈ tb := tb_in (lw_t2 (List.mem_of_getElem? (i := 234) (by decide +kernel))) rfl
theorem wd_2_235 : Cond.fieldLink "LevelTypesModel" 83 "LevelTypesModel" "fault" "I" ∈ tb := tb_in (lw_t2 (List.mem_of_getElem? (i := 235) (by decide +kernel))) rfl
theorem wd_2_236 : Cond.fieldLink "LevelTypesModel" 66 "LevelTypesModel" "faultNode" "I" ∈ tb := tb_in (lw_t2 (List.mem_of_getElem? (i := 236) (by decide +kernel))) rfl
theorem wd_2_237 : Cond.fieldLink "LevelTypesModel" 119 "LevelTypesModel" "most" "I" ∈ tb := tb_in (lw_t2 (List.mem_of_getElem? (i := 237) (by decide +kernel))) rfl
theorem wd_2_238 : Cond.lays "LevelTypesModel" "LevelTypesModel" "thrown" "I" ∈ tb := tb_in (lw_t2 (List.mem_of_getElem? (i := 238) (by decide +kernel))) rfl
theorem wd_3_0 : Cond.lays "LevelTypesModel" "LevelTypesModel" "many" "I" ∈ tb := tb_in (lw_t3 (List.mem_of_getElem? (i := 0) (by decide +kernel))) rfl
theorem wd_3_2 : Cond.laysFinal "LevelTypesModel" "LevelTypesModel" "isChg" "[Z" ∈ tb := tb_in (lw_t3 (List.mem_of_getElem? (i := 2) (by decide +kernel))) rfl
theorem wd_3_4 : Cond.laysFinal "LevelTypesModel" "LevelTypesModel" "titles" "[J" ∈ tb := tb_in (lw_t3 (List.mem_of_getElem? (i := 4) (by decide +kernel))) rfl
theorem wd_3_6 : Cond.laysFinal "LevelTypesModel" "LevelTypesModel" "results" "[I" ∈ tb := tb_in (lw_t3 (List.mem_of_getElem? (i := 6) (by decide +kernel))) rfl
theorem wd_3_8 : Cond.laysFinal "LevelTypesModel" "LevelTypesModel" "parameterMany" "[I" ∈ tb := tb_in (lw_t3 (List.mem_of_getElem? (i := 8) (by decide +kernel))) rfl
theorem wd_3_10 : Cond.laysFinal "LevelTypesModel" "LevelTypesModel" "parameterNames" "[J" ∈ tb := tb_in (lw_t3 (List.mem_of_getElem? (i := 10) (by decide +kernel))) rfl
theorem wd_3_12 : Cond.laysFinal "LevelTypesModel" "LevelTypesModel" "parameterTypes" "[I" ∈ tb := tb_in (lw_t3 (List.mem_of_getElem? (i := 12) (by decide +kernel))) rfl
theorem wd_3_14 : Cond.laysFinal "LevelTypesModel" "LevelTypesModel" "begins" "[I" ∈ tb := tb_in (lw_t3 (List.mem_of_getElem? (i := 14) (by decide +kernel))) rfl
theorem wd_3_16 : Cond.lays "LevelTypesModel" "LevelTypesModel" "nodes" "I" ∈ tb := tb_in (lw_t3 (List.mem_of_getElem? (i := 16) (by decide +kernel))) rfl
theorem wd_3_18 : Cond.laysFinal "LevelTypesModel" "LevelTypesModel" "kinds" "[I" ∈ tb := tb_in (lw_t3 (List.mem_of_getElem? (i := 18) (by decide +kernel))) rfl
theorem wd_3_20 : Cond.laysFinal "LevelTypesModel" "LevelTypesModel" "firsts" "[J" ∈ tb := tb_in (lw_t3 (List.mem_of_getElem? (i := 20) (by decide +kernel))) rfl
theorem wd_3_22 : Cond.laysFinal "LevelTypesModel" "LevelTypesModel" "seconds" "[J" ∈ tb := tb_in (lw_t3 (List.mem_of_getElem? (i := 22) (by decide +kernel))) rfl
theorem wd_3_24 : Cond.laysFinal "LevelTypesModel" "LevelTypesModel" "parts" "[I" ∈ tb := tb_in (lw_t3 (List.mem_of_getElem? (i := 24) (by decide +kernel))) rfl
theorem wd_3_26 : Cond.laysFinal "LevelTypesModel" "LevelTypesModel" "parents" "[I" ∈ tb := tb_in (lw_t3 (List.mem_of_getElem? (i := 26) (by decide +kernel))) rfl
theorem wd_3_28 : Cond.laysFinal "LevelTypesModel" "LevelTypesModel" "parted" "[I" ∈ tb := tb_in (lw_t3 (List.mem_of_getElem? (i := 28) (by decide +kernel))) rfl
theorem wd_3_30 : Cond.laysFinal "LevelTypesModel" "LevelTypesModel" "owners" "[I" ∈ tb := tb_in (lw_t3 (List.mem_of_getElem? (i := 30) (by decide +kernel))) rfl
theorem wd_3_32 : Cond.laysFinal "LevelTypesModel" "LevelTypesModel" "has" "[I" ∈ tb := tb_in (lw_t3 (List.mem_of_getElem? (i := 32) (by decide +kernel))) rfl
theorem wd_3_34 : Cond.laysFinal "LevelTypesModel" "LevelTypesModel" "types" "[I" ∈ tb := tb_in (lw_t3 (List.mem_of_getElem? (i := 34) (by decide +kernel))) rfl
theorem wd_3_36 : Cond.laysFinal "LevelTypesModel" "LevelTypesModel" "binders" "[I" ∈ tb := tb_in (lw_t3 (List.mem_of_getElem? (i := 36) (by decide +kernel))) rfl
theorem wd_3_38 : Cond.laysFinal "LevelTypesModel" "LevelTypesModel" "targets" "[I" ∈ tb := tb_in (lw_t3 (List.mem_of_getElem? (i := 38) (by decide +kernel))) rfl
theorem wd_3_40 : Cond.lays "LevelTypesModel" "LevelTypesModel" "known" "Z" ∈ tb := tb_in (lw_t3 (List.mem_of_getElem? (i := 40) (by decide +kernel))) rfl
theorem wd_3_42 : Cond.lays "LevelTypesModel" "LevelTypesModel" "fault" "I" ∈ tb := tb_in (lw_t3 (List.mem_of_getElem? (i := 42) (by decide +kernel))) rfl
theorem wd_3_44 : Cond.lays "LevelTypesModel" "LevelTypesModel" "faultNode" "I" ∈ tb := tb_in (lw_t3 (List.mem_of_getElem? (i := 44) (by decide +kernel))) rfl
theorem wd_3_46 : Cond.lays "LevelTypesModel" "LevelTypesModel" "most" "I" ∈ tb := tb_in (lw_t3 (List.mem_of_getElem? (i := 46) (by decide +kernel))) rfl
theorem wd_3_48 : Cond.superclass "LevelTypesModel" "java/lang/Object" ∈ tb := tb_in (lw_t3 (List.mem_of_getElem? (i := 48) (by decide +kernel))) rfl
theorem wd_3_49 : Cond.arrayClass .boolean ∈ tb := tb_in (lw_t3 (List.mem_of_getElem? (i := 49) (by decide +kernel))) rfl
theorem wd_3_50 : Cond.methodLink "LevelTypesLaw" 16 ⟨"LevelTypesModel", "clear", "()V"⟩ ∈ tb := tb_in (lw_t3 (List.mem_of_getElem? (i := 50) (by decide +kernel))) rfl
theorem wd_3_51 : Cond.instanceMethod ⟨"LevelTypesModel", "clear", "()V"⟩ ∈ tb := tb_in (lw_t3 (List.mem_of_getElem? (i := 51) (by decide +kernel))) rfl
theorem wd_3_52 : Cond.selects "LevelTypesModel" ⟨"LevelTypesModel", "clear", "()V"⟩ ⟨"LevelTypesModel", "clear", "()V"⟩ ∈ tb := tb_in (lw_t3 (List.mem_of_getElem? (i := 52) (by decide +kernel))) rfl
theorem wd_3_53 : Cond.code ⟨"LevelTypesModel", "clear", "()V"⟩ prog_7_method_3_code 1 none ∈ tb := tb_in (lw_t3 (List.mem_of_getElem? (i := 53) rfl)) rfl
theorem wd_3_54 : Cond.methodLink "LevelTypesLaw" 23 ⟨"LevelTypesModel", "define", "(ZJI)I"⟩ ∈ tb := tb_in (lw_t3 (List.mem_of_getElem? (i := 54) (by decide +kernel))) rfl
theorem wd_3_55 : Cond.instanceMethod ⟨"LevelTypesModel", "define", "(ZJI)I"⟩ ∈ tb := tb_in (lw_t3 (List.mem_of_getElem? (i := 55) (by decide +kernel))) rfl
theorem wd_3_56 : Cond.selects "LevelTypesModel" ⟨"LevelTypesModel", "define", "(ZJI)I"⟩ ⟨"LevelTypesModel", "define", "(ZJI)I"⟩ ∈ tb := tb_in (lw_t3 (List.mem_of_getElem? (i := 56) (by decide +kernel))) rfl
theorem wd_3_57 : Cond.code ⟨"LevelTypesModel", "define", "(ZJI)I"⟩ prog_7_method_6_code 7 (some .int) ∈ tb := tb_in (lw_t3 (List.mem_of_getElem? (i := 57) rfl)) rfl
theorem wd_3_58 : Cond.methodLink "LevelTypesModel" 90 ⟨"LevelTypesModel", "isWhole", "()Z"⟩ ∈ tb := tb_in (lw_t3 (List.mem_of_getElem? (i := 58) (by decide +kernel))) rfl
theorem wd_3_60 : Cond.instanceMethod ⟨"LevelTypesModel", "isWhole", "()Z"⟩ ∈ tb := tb_in (lw_t3 (List.mem_of_getElem? (i := 60) (by decide +kernel))) rfl
theorem wd_3_61 : Cond.code ⟨"LevelTypesModel", "isWhole", "()Z"⟩ prog_7_method_5_code 1 (some .boolean) ∈ tb := tb_in (lw_t3 (List.mem_of_getElem? (i := 61) rfl)) rfl
theorem wd_3_62 : Cond.methodLink "LevelTypesModel" 86 ⟨"LevelTypesModel", "lacking", "()I"⟩ ∈ tb := tb_in (lw_t3 (List.mem_of_getElem? (i := 62) (by decide +kernel))) rfl
theorem wd_3_64 : Cond.instanceMethod ⟨"LevelTypesModel", "lacking", "()I"⟩ ∈ tb := tb_in (lw_t3 (List.mem_of_getElem? (i := 64) (by decide +kernel))) rfl
theorem wd_3_65 : Cond.code ⟨"LevelTypesModel", "lacking", "()I"⟩ prog_7_method_4_code 2 (some .int) ∈ tb := tb_in (lw_t3 (List.mem_of_getElem? (i := 65) rfl)) rfl
theorem wd_3_66 : Cond.methodLink "LevelTypesLaw" 28 ⟨"LevelTypesModel", "parameter", "(JI)I"⟩ ∈ tb := tb_in (lw_t3 (List.mem_of_getElem? (i := 66) (by decide +kernel))) rfl
theorem wd_3_67 : Cond.instanceMethod ⟨"LevelTypesModel", "parameter", "(JI)I"⟩ ∈ tb := tb_in (lw_t3 (List.mem_of_getElem? (i := 67) (by decide +kernel))) rfl
theorem wd_3_68 : Cond.selects "LevelTypesModel" ⟨"LevelTypesModel", "parameter", "(JI)I"⟩ ⟨"LevelTypesModel", "parameter", "(JI)I"⟩ ∈ tb := tb_in (lw_t3 (List.mem_of_getElem? (i := 68) (by decide +kernel))) rfl
theorem wd_3_69 : Cond.code ⟨"LevelTypesModel", "parameter", "(JI)I"⟩ prog_7_method_7_code 6 (some .int) ∈ tb := tb_in (lw_t3 (List.mem_of_getElem? (i := 69) rfl)) rfl
theorem wd_3_70 : Cond.methodLink "LevelTypesLaw" 33 ⟨"LevelTypesModel", "node", "(IJJI)I"⟩ ∈ tb := tb_in (lw_t3 (List.mem_of_getElem? (i := 70) (by decide +kernel))) rfl
theorem wd_3_71 : Cond.instanceMethod ⟨"LevelTypesModel", "node", "(IJJI)I"⟩ ∈ tb := tb_in (lw_t3 (List.mem_of_getElem? (i := 71) (by decide +kernel))) rfl
theorem wd_3_72 : Cond.selects "LevelTypesModel" ⟨"LevelTypesModel", "node", "(IJJI)I"⟩ ⟨"LevelTypesModel", "node", "(IJJI)I"⟩ ∈ tb := tb_in (lw_t3 (List.mem_of_getElem? (i := 72) (by decide +kernel))) rfl
theorem wd_3_73 : Cond.code ⟨"LevelTypesModel", "node", "(IJJI)I"⟩ prog_7_method_13_code 12 (some .int) ∈ tb := tb_in (lw_t3 (List.mem_of_getElem? (i := 73) rfl)) rfl
theorem wd_3_74 : Cond.methodLink "LevelTypesModel" 105 ⟨"LevelTypesModel", "isNode", "(IJJI)Z"⟩ ∈ tb := tb_in (lw_t3 (List.mem_of_getElem? (i := 74) (by decide +kernel))) rfl
theorem wd_3_75 : Cond.static ⟨"LevelTypesModel", "isNode", "(IJJI)Z"⟩ ∈ tb := tb_in (lw_t3 (List.mem_of_getElem? (i := 75) (by decide +kernel))) rfl
theorem wd_3_76 : Cond.code ⟨"LevelTypesModel", "isNode", "(IJJI)Z"⟩ prog_7_method_12_code 7 (some .boolean) ∈ tb := tb_in (lw_t3 (List.mem_of_getElem? (i := 76) rfl)) rfl
theorem wd_3_77 : Cond.methodLink "LevelTypesModel" 94 ⟨"LevelTypesModel", "hasFirst", "(I)Z"⟩ ∈ tb := tb_in (lw_t3 (List.mem_of_getElem? (i := 77) (by decide +kernel))) rfl
theorem wd_3_78 : Cond.static ⟨"LevelTypesModel", "hasFirst", "(I)Z"⟩ ∈ tb := tb_in (lw_t3 (List.mem_of_getElem? (i := 78) (by decide +kernel))) rfl
theorem wd_3_79 : Cond.code ⟨"LevelTypesModel", "hasFirst", "(I)Z"⟩ prog_7_method_10_code 1 (some .boolean) ∈ tb := tb_in (lw_t3 (List.mem_of_getElem? (i := 79) rfl)) rfl
theorem wd_3_80 : Cond.methodLink "LevelTypesModel" 98 ⟨"LevelTypesModel", "hasSecond", "(I)Z"⟩ ∈ tb := tb_in (lw_t3 (List.mem_of_getElem? (i := 80) (by decide +kernel))) rfl
theorem wd_3_81 : Cond.static ⟨"LevelTypesModel", "hasSecond", "(I)Z"⟩ ∈ tb := tb_in (lw_t3 (List.mem_of_getElem? (i := 81) (by decide +kernel))) rfl
theorem wd_3_82 : Cond.code ⟨"LevelTypesModel", "hasSecond", "(I)Z"⟩ prog_7_method_11_code 1 (some .boolean) ∈ tb := tb_in (lw_t3 (List.mem_of_getElem? (i := 82) rfl)) rfl
theorem wd_3_83 : Cond.methodLink "LevelTypesModel" 101 ⟨"LevelTypesModel", "due", "(I)I"⟩ ∈ tb := tb_in (lw_t3 (List.mem_of_getElem? (i := 83) (by decide +kernel))) rfl
theorem wd_3_84 : Cond.static ⟨"LevelTypesModel", "due", "(I)I"⟩ ∈ tb := tb_in (lw_t3 (List.mem_of_getElem? (i := 84) (by decide +kernel))) rfl
theorem wd_3_85 : Cond.code ⟨"LevelTypesModel", "due", "(I)I"⟩ prog_7_method_8_code 1 (some .int) ∈ tb := tb_in (lw_t3 (List.mem_of_getElem? (i := 85) rfl)) rfl
theorem wd_3_86 : Cond.methodLink "LevelTypesModel" 109 ⟨"LevelTypesModel", "isChangeable", "(II)Z"⟩ ∈ tb := tb_in (lw_t3 (List.mem_of_getElem? (i := 86) (by decide +kernel))) rfl
theorem wd_3_87 : Cond.static ⟨"LevelTypesModel", "isChangeable", "(II)Z"⟩ ∈ tb := tb_in (lw_t3 (List.mem_of_getElem? (i := 87) (by decide +kernel))) rfl
theorem wd_3_88 : Cond.code ⟨"LevelTypesModel", "isChangeable", "(II)Z"⟩ prog_7_method_9_code 2 (some .boolean) ∈ tb := tb_in (lw_t3 (List.mem_of_getElem? (i := 88) rfl)) rfl
theorem wd_3_89 : Cond.methodLink "LevelTypesLaw" 38 ⟨"LevelTypesModel", "check", "()I"⟩ ∈ tb := tb_in (lw_t3 (List.mem_of_getElem? (i := 89) (by decide +kernel))) rfl
theorem wd_3_90 : Cond.instanceMethod ⟨"LevelTypesModel", "check", "()I"⟩ ∈ tb := tb_in (lw_t3 (List.mem_of_getElem? (i := 90) (by decide +kernel))) rfl
theorem wd_3_91 : Cond.selects "LevelTypesModel" ⟨"LevelTypesModel", "check", "()I"⟩ ⟨"LevelTypesModel", "check", "()I"⟩ ∈ tb := tb_in (lw_t3 (List.mem_of_getElem? (i := 91) (by decide +kernel))) rfl
theorem wd_3_92 : Cond.code ⟨"LevelTypesModel", "check", "()I"⟩ prog_7_method_27_code 3 (some .int) ∈ tb := tb_in (lw_t3 (List.mem_of_getElem? (i := 92) rfl)) rfl
theorem wd_3_93 : Cond.methodLink "LevelTypesModel" 147 ⟨"LevelTypesModel", "isMain", "()Z"⟩ ∈ tb := tb_in (lw_t3 (List.mem_of_getElem? (i := 93) (by decide +kernel))) rfl
theorem wd_3_95 : Cond.instanceMethod ⟨"LevelTypesModel", "isMain", "()Z"⟩ ∈ tb := tb_in (lw_t3 (List.mem_of_getElem? (i := 95) (by decide +kernel))) rfl
theorem wd_3_96 : Cond.code ⟨"LevelTypesModel", "isMain", "()Z"⟩ prog_7_method_26_code 2 (some .boolean) ∈ tb := tb_in (lw_t3 (List.mem_of_getElem? (i := 96) rfl)) rfl
theorem wd_3_97 : Cond.constantLong "LevelTypesModel" 145 427310 ∈ tb := tb_in (lw_t3 (List.mem_of_getElem? (i := 97) (by decide +kernel))) rfl
theorem wd_3_98 : Cond.methodLink "LevelTypesModel" 126 ⟨"LevelTypesModel", "wrong", "(II)I"⟩ ∈ tb := tb_in (lw_t3 (List.mem_of_getElem? (i := 98) (by decide +kernel))) rfl
theorem wd_3_100 : Cond.instanceMethod ⟨"LevelTypesModel", "wrong", "(II)I"⟩ ∈ tb := tb_in (lw_t3 (List.mem_of_getElem? (i := 100) (by decide +kernel))) rfl
theorem wd_3_101 : Cond.code ⟨"LevelTypesModel", "wrong", "(II)I"⟩ prog_7_method_14_code 3 (some .int) ∈ tb := tb_in (lw_t3 (List.mem_of_getElem? (i := 101) rfl)) rfl
theorem wd_3_102 : Cond.methodLink "LevelTypesModel" 150 ⟨"LevelTypesModel", "comeTo", "(I)V"⟩ ∈ tb := tb_in (lw_t3 (List.mem_of_getElem? (i := 102) (by decide +kernel))) rfl
theorem wd_3_104 : Cond.instanceMethod ⟨"LevelTypesModel", "comeTo", "(I)V"⟩ ∈ tb := tb_in (lw_t3 (List.mem_of_getElem? (i := 104) (by decide +kernel))) rfl
theorem wd_3_105 : Cond.code ⟨"LevelTypesModel", "comeTo", "(I)V"⟩ prog_7_method_20_code 5 none ∈ tb := tb_in (lw_t3 (List.mem_of_getElem? (i := 105) rfl)) rfl
theorem wd_3_106 : Cond.methodLink "LevelTypesModel" 116 ⟨"LevelTypesModel", "there", "(I)I"⟩ ∈ tb := tb_in (lw_t3 (List.mem_of_getElem? (i := 106) (by decide +kernel))) rfl
theorem wd_3_108 : Cond.instanceMethod ⟨"LevelTypesModel", "there", "(I)I"⟩ ∈ tb := tb_in (lw_t3 (List.mem_of_getElem? (i := 108) (by decide +kernel))) rfl
theorem wd_3_109 : Cond.code ⟨"LevelTypesModel", "there", "(I)I"⟩ prog_7_method_16_code 4 (some .int) ∈ tb := tb_in (lw_t3 (List.mem_of_getElem? (i := 109) rfl)) rfl
theorem wd_3_110 : Cond.methodLink "LevelTypesModel" 113 ⟨"LevelTypesModel", "bindsIn", "(II)Z"⟩ ∈ tb := tb_in (lw_t3 (List.mem_of_getElem? (i := 110) (by decide +kernel))) rfl
theorem wd_3_112 : Cond.instanceMethod ⟨"LevelTypesModel", "bindsIn", "(II)Z"⟩ ∈ tb := tb_in (lw_t3 (List.mem_of_getElem? (i := 112) (by decide +kernel))) rfl
theorem wd_3_113 : Cond.code ⟨"LevelTypesModel", "bindsIn", "(II)Z"⟩ prog_7_method_15_code 4 (some .boolean) ∈ tb := tb_in (lw_t3 (List.mem_of_getElem? (i := 113) rfl)) rfl
theorem wd_3_114 : Cond.methodLink "LevelTypesModel" 122 ⟨"LevelTypesModel", "binderOf", "(IJ)I"⟩ ∈ tb := tb_in (lw_t3 (List.mem_of_getElem? (i := 114) (by decide +kernel))) rfl
theorem wd_3_116 : Cond.instanceMethod ⟨"LevelTypesModel", "binderOf", "(IJ)I"⟩ ∈ tb := tb_in (lw_t3 (List.mem_of_getElem? (i := 116) (by decide +kernel))) rfl
theorem wd_3_117 : Cond.code ⟨"LevelTypesModel", "binderOf", "(IJ)I"⟩ prog_7_method_17_code 6 (some .int) ∈ tb := tb_in (lw_t3 (List.mem_of_getElem? (i := 117) rfl)) rfl
theorem wd_3_118 : Cond.methodLink "LevelTypesModel" 130 ⟨"LevelTypesModel", "targetOf", "(I)I"⟩ ∈ tb := tb_in (lw_t3 (List.mem_of_getElem? (i := 118) (by decide +kernel))) rfl
theorem wd_3_120 : Cond.instanceMethod ⟨"LevelTypesModel", "targetOf", "(I)I"⟩ ∈ tb := tb_in (lw_t3 (List.mem_of_getElem? (i := 120) (by decide +kernel))) rfl
theorem wd_3_121 : Cond.code ⟨"LevelTypesModel", "targetOf", "(I)I"⟩ prog_7_method_18_code 4 (some .int) ∈ tb := tb_in (lw_t3 (List.mem_of_getElem? (i := 121) rfl)) rfl
theorem wd_3_122 : Cond.methodLink "LevelTypesModel" 154 ⟨"LevelTypesModel", "isEnd", "(III)Z"⟩ ∈ tb := tb_in (lw_t3 (List.mem_of_getElem? (i := 122) (by decide +kernel))) rfl
theorem wd_3_124 : Cond.instanceMethod ⟨"LevelTypesModel", "isEnd", "(III)Z"⟩ ∈ tb := tb_in (lw_t3 (List.mem_of_getElem? (i := 124) (by decide +kernel))) rfl
theorem wd_3_125 : Cond.code ⟨"LevelTypesModel", "isEnd", "(III)Z"⟩ prog_7_method_25_code 4 (some .boolean) ∈ tb := tb_in (lw_t3 (List.mem_of_getElem? (i := 125) rfl)) rfl
theorem wd_3_126 : Cond.methodLink "LevelTypesModel" 158 ⟨"LevelTypesModel", "leave", "(I)V"⟩ ∈ tb := tb_in (lw_t3 (List.mem_of_getElem? (i := 126) (by decide +kernel))) rfl
theorem wd_3_128 : Cond.instanceMethod ⟨"LevelTypesModel", "leave", "(I)V"⟩ ∈ tb := tb_in (lw_t3 (List.mem_of_getElem? (i := 128) (by decide +kernel))) rfl
theorem wd_3_129 : Cond.code ⟨"LevelTypesModel", "leave", "(I)V"⟩ prog_7_method_24_code 3 none ∈ tb := tb_in (lw_t3 (List.mem_of_getElem? (i := 129) rfl)) rfl
theorem wd_3_130 : Cond.methodLink "LevelTypesModel" 139 ⟨"LevelTypesModel", "typeOf", "(I)I"⟩ ∈ tb := tb_in (lw_t3 (List.mem_of_getElem? (i := 130) (by decide +kernel))) rfl
theorem wd_3_132 : Cond.instanceMethod ⟨"LevelTypesModel", "typeOf", "(I)I"⟩ ∈ tb := tb_in (lw_t3 (List.mem_of_getElem? (i := 132) (by decide +kernel))) rfl
theorem wd_3_133 : Cond.code ⟨"LevelTypesModel", "typeOf", "(I)I"⟩ prog_7_method_22_code 3 (some .int) ∈ tb := tb_in (lw_t3 (List.mem_of_getElem? (i := 133) rfl)) rfl
theorem wd_3_134 : Cond.methodLink "LevelTypesModel" 136 ⟨"LevelTypesModel", "typeOfVariable", "(I)I"⟩ ∈ tb := tb_in (lw_t3 (List.mem_of_getElem? (i := 134) (by decide +kernel))) rfl
theorem wd_3_136 : Cond.instanceMethod ⟨"LevelTypesModel", "typeOfVariable", "(I)I"⟩ ∈ tb := tb_in (lw_t3 (List.mem_of_getElem? (i := 136) (by decide +kernel))) rfl
theorem wd_3_137 : Cond.code ⟨"LevelTypesModel", "typeOfVariable", "(I)I"⟩ prog_7_method_21_code 4 (some .int) ∈ tb := tb_in (lw_t3 (List.mem_of_getElem? (i := 137) rfl)) rfl
theorem wd_3_138 : Cond.methodLink "LevelTypesModel" 133 ⟨"LevelTypesModel", "partOf", "(II)I"⟩ ∈ tb := tb_in (lw_t3 (List.mem_of_getElem? (i := 138) (by decide +kernel))) rfl
theorem wd_3_140 : Cond.instanceMethod ⟨"LevelTypesModel", "partOf", "(II)I"⟩ ∈ tb := tb_in (lw_t3 (List.mem_of_getElem? (i := 140) (by decide +kernel))) rfl
theorem wd_3_141 : Cond.code ⟨"LevelTypesModel", "partOf", "(II)I"⟩ prog_7_method_19_code 4 (some .int) ∈ tb := tb_in (lw_t3 (List.mem_of_getElem? (i := 141) rfl)) rfl
theorem wd_3_142 : Cond.methodLink "LevelTypesModel" 142 ⟨"LevelTypesModel", "canStand", "(II)Z"⟩ ∈ tb := tb_in (lw_t3 (List.mem_of_getElem? (i := 142) (by decide +kernel))) rfl
theorem wd_3_144 : Cond.instanceMethod ⟨"LevelTypesModel", "canStand", "(II)Z"⟩ ∈ tb := tb_in (lw_t3 (List.mem_of_getElem? (i := 144) (by decide +kernel))) rfl
theorem wd_3_145 : Cond.code ⟨"LevelTypesModel", "canStand", "(II)Z"⟩ prog_7_method_23_code 6 (some .boolean) ∈ tb := tb_in (lw_t3 (List.mem_of_getElem? (i := 145) rfl)) rfl
theorem wd_3_146 : Cond.methodLink "LevelTypesLaw" 43 ⟨"LevelTypesModel", "type", "(I)I"⟩ ∈ tb := tb_in (lw_t3 (List.mem_of_getElem? (i := 146) (by decide +kernel))) rfl
theorem wd_3_147 : Cond.instanceMethod ⟨"LevelTypesModel", "type", "(I)I"⟩ ∈ tb := tb_in (lw_t3 (List.mem_of_getElem? (i := 147) (by decide +kernel))) rfl
theorem wd_3_148 : Cond.selects "LevelTypesModel" ⟨"LevelTypesModel", "type", "(I)I"⟩ ⟨"LevelTypesModel", "type", "(I)I"⟩ ∈ tb := tb_in (lw_t3 (List.mem_of_getElem? (i := 148) (by decide +kernel))) rfl
theorem wd_3_149 : Cond.code ⟨"LevelTypesModel", "type", "(I)I"⟩ prog_7_method_29_code 2 (some .int) ∈ tb := tb_in (lw_t3 (List.mem_of_getElem? (i := 149) rfl)) rfl
theorem wd_3_150 : Cond.methodLink "LevelTypesModel" 161 ⟨"LevelTypesModel", "isKnown", "(I)Z"⟩ ∈ tb := tb_in (lw_t3 (List.mem_of_getElem? (i := 150) (by decide +kernel))) rfl
theorem wd_3_152 : Cond.instanceMethod ⟨"LevelTypesModel", "isKnown", "(I)Z"⟩ ∈ tb := tb_in (lw_t3 (List.mem_of_getElem? (i := 152) (by decide +kernel))) rfl
theorem wd_3_153 : Cond.code ⟨"LevelTypesModel", "isKnown", "(I)Z"⟩ prog_7_method_28_code 2 (some .boolean) ∈ tb := tb_in (lw_t3 (List.mem_of_getElem? (i := 153) rfl)) rfl
theorem wd_3_154 : Cond.methodLink "LevelTypesLaw" 47 ⟨"LevelTypesModel", "binder", "(I)I"⟩ ∈ tb := tb_in (lw_t3 (List.mem_of_getElem? (i := 154) (by decide +kernel))) rfl
theorem wd_3_155 : Cond.instanceMethod ⟨"LevelTypesModel", "binder", "(I)I"⟩ ∈ tb := tb_in (lw_t3 (List.mem_of_getElem? (i := 155) (by decide +kernel))) rfl
theorem wd_3_156 : Cond.selects "LevelTypesModel" ⟨"LevelTypesModel", "binder", "(I)I"⟩ ⟨"LevelTypesModel", "binder", "(I)I"⟩ ∈ tb := tb_in (lw_t3 (List.mem_of_getElem? (i := 156) (by decide +kernel))) rfl
theorem wd_3_157 : Cond.code ⟨"LevelTypesModel", "binder", "(I)I"⟩ prog_7_method_30_code 2 (some .int) ∈ tb := tb_in (lw_t3 (List.mem_of_getElem? (i := 157) rfl)) rfl
theorem wd_3_158 : Cond.methodLink "LevelTypesLaw" 51 ⟨"LevelTypesModel", "target", "(I)I"⟩ ∈ tb := tb_in (lw_t3 (List.mem_of_getElem? (i := 158) (by decide +kernel))) rfl
theorem wd_3_159 : Cond.instanceMethod ⟨"LevelTypesModel", "target", "(I)I"⟩ ∈ tb := tb_in (lw_t3 (List.mem_of_getElem? (i := 159) (by decide +kernel))) rfl
theorem wd_3_160 : Cond.selects "LevelTypesModel" ⟨"LevelTypesModel", "target", "(I)I"⟩ ⟨"LevelTypesModel", "target", "(I)I"⟩ ∈ tb := tb_in (lw_t3 (List.mem_of_getElem? (i := 160) (by decide +kernel))) rfl
theorem wd_3_161 : Cond.code ⟨"LevelTypesModel", "target", "(I)I"⟩ prog_7_method_31_code 2 (some .int) ∈ tb := tb_in (lw_t3 (List.mem_of_getElem? (i := 161) rfl)) rfl
theorem wd_3_162 : Cond.methodLink "LevelTypesLaw" 56 ⟨"LevelTypesModel", "of", "(II)I"⟩ ∈ tb := tb_in (lw_t3 (List.mem_of_getElem? (i := 162) (by decide +kernel))) rfl
theorem wd_3_163 : Cond.instanceMethod ⟨"LevelTypesModel", "of", "(II)I"⟩ ∈ tb := tb_in (lw_t3 (List.mem_of_getElem? (i := 163) (by decide +kernel))) rfl
theorem wd_3_164 : Cond.selects "LevelTypesModel" ⟨"LevelTypesModel", "of", "(II)I"⟩ ⟨"LevelTypesModel", "of", "(II)I"⟩ ∈ tb := tb_in (lw_t3 (List.mem_of_getElem? (i := 164) (by decide +kernel))) rfl
theorem wd_3_165 : Cond.code ⟨"LevelTypesModel", "of", "(II)I"⟩ prog_7_method_32_code 3 (some .int) ∈ tb := tb_in (lw_t3 (List.mem_of_getElem? (i := 165) rfl)) rfl
theorem wd_3_166 : Cond.methodLink "LevelTypesLaw" 60 ⟨"LevelTypesModel", "look", "(I)I"⟩ ∈ tb := tb_in (lw_t3 (List.mem_of_getElem? (i := 166) (by decide +kernel))) rfl
theorem wd_3_167 : Cond.instanceMethod ⟨"LevelTypesModel", "look", "(I)I"⟩ ∈ tb := tb_in (lw_t3 (List.mem_of_getElem? (i := 167) (by decide +kernel))) rfl
theorem wd_3_168 : Cond.selects "LevelTypesModel" ⟨"LevelTypesModel", "look", "(I)I"⟩ ⟨"LevelTypesModel", "look", "(I)I"⟩ ∈ tb := tb_in (lw_t3 (List.mem_of_getElem? (i := 168) (by decide +kernel))) rfl
theorem wd_3_169 : Cond.code ⟨"LevelTypesModel", "look", "(I)I"⟩ prog_7_method_33_code 2 (some .int) ∈ tb := tb_in (lw_t3 (List.mem_of_getElem? (i := 169) rfl)) rfl
theorem wd_3_170 : Cond.constantLong "LevelTypesLaw" 17 4294967295 ∈ tb := tb_in (lw_t3 (List.mem_of_getElem? (i := 170) (by decide +kernel))) rfl
theorem wd_3_173 : Cond.sameMethod "[Ljava/lang/Object;" "java/lang/Object" "getClass" "()Ljava/lang/Class;" ∈ tb := tb_in (lw_t3 (List.mem_of_getElem? (i := 173) (by decide +kernel))) rfl
theorem wd_3_174 : Cond.selects "[Ljava/lang/Object;" ⟨"java/lang/Object", "getClass", "()Ljava/lang/Class;"⟩ ⟨"java/lang/Object", "getClass", "()Ljava/lang/Class;"⟩ ∈ tb := tb_in (lw_t3 (List.mem_of_getElem? (i := 174) (by decide +kernel))) rfl
theorem wd_p1_0 : Cond.selects "LevelTypes" ⟨"LevelTypes", "lastIsWhole", "()Z"⟩ ⟨"LevelTypes", "lastIsWhole", "()Z"⟩ ∈ tb := tb_in (lw_s1 (List.mem_of_getElem? (i := 0) rfl)) rfl
theorem wd_p1_1 : Cond.selects "LevelTypes" ⟨"LevelTypes", "lastDefinition", "()LLevelTypes$Definition;"⟩ ⟨"LevelTypes", "lastDefinition", "()LLevelTypes$Definition;"⟩ ∈ tb := tb_in (lw_s1 (List.mem_of_getElem? (i := 1) rfl)) rfl
theorem wd_p1_2 : Cond.selects "LevelTypes" ⟨"LevelTypes", "definitionNamed", "(J)LLevelTypes$Definition;"⟩ ⟨"LevelTypes", "definitionNamed", "(J)LLevelTypes$Definition;"⟩ ∈ tb := tb_in (lw_s1 (List.mem_of_getElem? (i := 2) rfl)) rfl
theorem wd_p1_3 : Cond.selects "java/util/ArrayList" ⟨"java/util/ArrayList", "add", "(Ljava/lang/Object;[Ljava/lang/Object;I)V"⟩ ⟨"java/util/ArrayList", "add", "(Ljava/lang/Object;[Ljava/lang/Object;I)V"⟩ ∈ tb := tb_in (lw_s1 (List.mem_of_getElem? (i := 3) rfl)) rfl
theorem wd_p1_4 : Cond.selects "java/util/ArrayList" ⟨"java/util/ArrayList", "grow", "()[Ljava/lang/Object;"⟩ ⟨"java/util/ArrayList", "grow", "()[Ljava/lang/Object;"⟩ ∈ tb := tb_in (lw_s1 (List.mem_of_getElem? (i := 4) rfl)) rfl
theorem wd_p1_5 : Cond.selects "java/util/ArrayList" ⟨"java/util/ArrayList", "grow", "(I)[Ljava/lang/Object;"⟩ ⟨"java/util/ArrayList", "grow", "(I)[Ljava/lang/Object;"⟩ ∈ tb := tb_in (lw_s1 (List.mem_of_getElem? (i := 5) rfl)) rfl
theorem wd_p1_6 : Cond.selects "LevelTypes" ⟨"LevelTypes", "lookAtAll", "()V"⟩ ⟨"LevelTypes", "lookAtAll", "()V"⟩ ∈ tb := tb_in (lw_s1 (List.mem_of_getElem? (i := 6) rfl)) rfl
theorem wd_p1_7 : Cond.selects "LevelTypes" ⟨"LevelTypes", "endsInMain", "()Z"⟩ ⟨"LevelTypes", "endsInMain", "()Z"⟩ ∈ tb := tb_in (lw_s1 (List.mem_of_getElem? (i := 7) rfl)) rfl
theorem wd_p1_8 : Cond.selects "LevelTypes" ⟨"LevelTypes", "lookAt", "(LLevelTypes$Node;)V"⟩ ⟨"LevelTypes", "lookAt", "(LLevelTypes$Node;)V"⟩ ∈ tb := tb_in (lw_s1 (List.mem_of_getElem? (i := 8) rfl)) rfl
theorem wd_p1_9 : Cond.selects "LevelTypes" ⟨"LevelTypes", "arriveAt", "(LLevelTypes$Node;)Z"⟩ ⟨"LevelTypes", "arriveAt", "(LLevelTypes$Node;)Z"⟩ ∈ tb := tb_in (lw_s1 (List.mem_of_getElem? (i := 9) rfl)) rfl
theorem wd_p1_10 : Cond.selects "LevelTypes$Node" ⟨"LevelTypes$Node", "admits", "(II)Z"⟩ ⟨"LevelTypes$Node", "admits", "(II)Z"⟩ ∈ tb := tb_in (lw_s1 (List.mem_of_getElem? (i := 10) rfl)) rfl
theorem wd_p1_11 : Cond.selects "LevelTypes$Node" ⟨"LevelTypes$Node", "typeOfXAfter", "(I)I"⟩ ⟨"LevelTypes$Node", "typeOfXAfter", "(I)I"⟩ ∈ tb := tb_in (lw_s1 (List.mem_of_getElem? (i := 11) rfl)) rfl
theorem wd_p1_12 : Cond.selects "LevelTypes" ⟨"LevelTypes", "knownNode", "(I)LLevelTypes$Node;"⟩ ⟨"LevelTypes", "knownNode", "(I)LLevelTypes$Node;"⟩ ∈ tb := tb_in (lw_s1 (List.mem_of_getElem? (i := 12) rfl)) rfl
theorem wd_p1_13 : Cond.selects "LevelTypes" ⟨"LevelTypes", "nodeAt", "(I)LLevelTypes$Node;"⟩ ⟨"LevelTypes", "nodeAt", "(I)LLevelTypes$Node;"⟩ ∈ tb := tb_in (lw_s1 (List.mem_of_getElem? (i := 13) rfl)) rfl
theorem wd_p1_14 : Cond.selects "LevelTypesModel" ⟨"LevelTypesModel", "isWhole", "()Z"⟩ ⟨"LevelTypesModel", "isWhole", "()Z"⟩ ∈ tb := tb_in (lw_s1 (List.mem_of_getElem? (i := 14) rfl)) rfl
theorem wd_p1_15 : Cond.selects "LevelTypesModel" ⟨"LevelTypesModel", "lacking", "()I"⟩ ⟨"LevelTypesModel", "lacking", "()I"⟩ ∈ tb := tb_in (lw_s1 (List.mem_of_getElem? (i := 15) rfl)) rfl
theorem wd_p2_0 : Cond.selects "LevelTypesModel" ⟨"LevelTypesModel", "isMain", "()Z"⟩ ⟨"LevelTypesModel", "isMain", "()Z"⟩ ∈ tb := tb_in (lw_s2 (List.mem_of_getElem? (i := 0) rfl)) rfl
theorem wd_p2_1 : Cond.selects "LevelTypesModel" ⟨"LevelTypesModel", "wrong", "(II)I"⟩ ⟨"LevelTypesModel", "wrong", "(II)I"⟩ ∈ tb := tb_in (lw_s2 (List.mem_of_getElem? (i := 1) rfl)) rfl
theorem wd_p2_2 : Cond.selects "LevelTypesModel" ⟨"LevelTypesModel", "comeTo", "(I)V"⟩ ⟨"LevelTypesModel", "comeTo", "(I)V"⟩ ∈ tb := tb_in (lw_s2 (List.mem_of_getElem? (i := 2) rfl)) rfl
theorem wd_p2_3 : Cond.selects "LevelTypesModel" ⟨"LevelTypesModel", "there", "(I)I"⟩ ⟨"LevelTypesModel", "there", "(I)I"⟩ ∈ tb := tb_in (lw_s2 (List.mem_of_getElem? (i := 3) rfl)) rfl
theorem wd_p2_4 : Cond.selects "LevelTypesModel" ⟨"LevelTypesModel", "bindsIn", "(II)Z"⟩ ⟨"LevelTypesModel", "bindsIn", "(II)Z"⟩ ∈ tb := tb_in (lw_s2 (List.mem_of_getElem? (i := 4) rfl)) rfl
theorem wd_p2_5 : Cond.selects "LevelTypesModel" ⟨"LevelTypesModel", "binderOf", "(IJ)I"⟩ ⟨"LevelTypesModel", "binderOf", "(IJ)I"⟩ ∈ tb := tb_in (lw_s2 (List.mem_of_getElem? (i := 5) rfl)) rfl
theorem wd_p2_6 : Cond.selects "LevelTypesModel" ⟨"LevelTypesModel", "targetOf", "(I)I"⟩ ⟨"LevelTypesModel", "targetOf", "(I)I"⟩ ∈ tb := tb_in (lw_s2 (List.mem_of_getElem? (i := 6) rfl)) rfl
theorem wd_p2_7 : Cond.selects "LevelTypesModel" ⟨"LevelTypesModel", "isEnd", "(III)Z"⟩ ⟨"LevelTypesModel", "isEnd", "(III)Z"⟩ ∈ tb := tb_in (lw_s2 (List.mem_of_getElem? (i := 7) rfl)) rfl
theorem wd_p2_8 : Cond.selects "LevelTypesModel" ⟨"LevelTypesModel", "leave", "(I)V"⟩ ⟨"LevelTypesModel", "leave", "(I)V"⟩ ∈ tb := tb_in (lw_s2 (List.mem_of_getElem? (i := 8) rfl)) rfl
theorem wd_p2_9 : Cond.selects "LevelTypesModel" ⟨"LevelTypesModel", "typeOf", "(I)I"⟩ ⟨"LevelTypesModel", "typeOf", "(I)I"⟩ ∈ tb := tb_in (lw_s2 (List.mem_of_getElem? (i := 9) rfl)) rfl
theorem wd_p2_10 : Cond.selects "LevelTypesModel" ⟨"LevelTypesModel", "typeOfVariable", "(I)I"⟩ ⟨"LevelTypesModel", "typeOfVariable", "(I)I"⟩ ∈ tb := tb_in (lw_s2 (List.mem_of_getElem? (i := 10) rfl)) rfl
theorem wd_p2_11 : Cond.selects "LevelTypesModel" ⟨"LevelTypesModel", "partOf", "(II)I"⟩ ⟨"LevelTypesModel", "partOf", "(II)I"⟩ ∈ tb := tb_in (lw_s2 (List.mem_of_getElem? (i := 11) rfl)) rfl
theorem wd_p2_12 : Cond.selects "LevelTypesModel" ⟨"LevelTypesModel", "canStand", "(II)Z"⟩ ⟨"LevelTypesModel", "canStand", "(II)Z"⟩ ∈ tb := tb_in (lw_s2 (List.mem_of_getElem? (i := 12) rfl)) rfl
theorem wd_p2_13 : Cond.selects "LevelTypesModel" ⟨"LevelTypesModel", "isKnown", "(I)Z"⟩ ⟨"LevelTypesModel", "isKnown", "(I)Z"⟩ ∈ tb := tb_in (lw_s2 (List.mem_of_getElem? (i := 13) rfl)) rfl
theorem lk_AR_300 : ∀ w ∈ va_wsS "java/util/Arrays" 300 yy_AR_copyOf3 [Cond.code yy_AR_copyOf3 bb_AR_copyOf3 4 (some (.array (.object "java/lang/Object")))], w ∈ tb := lk_S wd_1_205 wd_1_206 wd_1_12 wd_1_207
theorem lk_AS_201 : ∀ w ∈ va_wsS "jdk/internal/util/ArraysSupport" 201 yy_AS_hugeLength [Cond.code yy_AS_hugeLength bb_AS_hugeLength 3 (some .int)], w ∈ tb := lk_S wd_1_190 wd_1_191 wd_1_10 wd_1_192
theorem lk_A_118 : ∀ w ∈ va_wsS "java/util/ArrayList" 118 yy_OB_checkIndex [Cond.code yy_OB_checkIndex bb_OB_checkIndex 2 (some .int)], w ∈ tb := lk_S wd_1_103 wd_1_104 wd_1_7 wd_1_105
theorem lk_A_123 : ∀ w ∈ wsV "java/util/ArrayList" 123 "java/util/ArrayList" yy_A_elementData [Cond.code yy_A_elementData bb_A_elementData 2 (some (.object "java/lang/Object"))], w ∈ tb := lk_V wd_1_109 wd_1_110 wd_1_111 wd_1_4 wd_1_112
theorem lk_A_129 : ∀ w ∈ wsV "java/util/ArrayList" 129 "java/util/ArrayList" yy_A_grow [Cond.code yy_A_grow bb_A_grow 1 (some (.array (.object "java/lang/Object")))], w ∈ tb := lk_V wd_1_175 wd_1_177 wd_p1_4 wd_1_4 wd_1_178
theorem lk_A_131 : ∀ w ∈ wsV "java/util/ArrayList" 131 "java/util/ArrayList" yy_A_add3 [Cond.code yy_A_add3 bb_A_add3 4 none], w ∈ tb := lk_V wd_1_171 wd_1_173 wd_p1_3 wd_1_4 wd_1_174
theorem lk_A_66 : ∀ w ∈ va_wsS "java/util/ArrayList" 66 yy_AR_copyOf [Cond.code yy_AR_copyOf bb_AR_copyOf 2 (some (.array (.object "java/lang/Object")))], w ∈ tb := lk_S wd_1_193 wd_1_194 wd_1_12 wd_1_195
theorem lk_A_69 : ∀ w ∈ wsV "java/util/ArrayList" 69 "java/util/ArrayList" yy_A_grow1 [Cond.code yy_A_grow1 bb_A_grow1 4 (some (.array (.object "java/lang/Object")))], w ∈ tb := lk_V wd_1_179 wd_1_181 wd_p1_5 wd_1_4 wd_1_182
theorem lk_A_73 : ∀ w ∈ va_wsS "java/util/ArrayList" 73 yy_AS_newLength [Cond.code yy_AS_newLength bb_AS_newLength 4 (some .int)], w ∈ tb := lk_S wd_1_183 wd_1_184 wd_1_10 wd_1_185
theorem lk_D_52 : ∀ w ∈ va_wsS "LevelTypes$Definition" 52 yy_K_wantsChange [Cond.code yy_K_wantsChange bb_K_wantsChange 2 (some .boolean)], w ∈ tb := lk_S wd_2_5 wd_2_6 wd_1_14 wd_2_7
theorem lk_K_11 : ∀ w ∈ va_wsS "LevelTypes$Kind" 11 yy_K_isKind [Cond.code yy_K_isKind bb_K_isKind 1 (some .boolean)], w ∈ tb := lk_S wd_2_11 wd_1_236 wd_1_14 wd_1_237
theorem lk_K_19 : ∀ w ∈ va_wsS "LevelTypes$Kind" 19 yy_K_isBinder [Cond.code yy_K_isBinder bb_K_isBinder 1 (some .boolean)], w ∈ tb := lk_S wd_2_17 wd_2_18 wd_1_14 wd_2_19
theorem lk_K_22 : ∀ w ∈ va_wsS "LevelTypes$Kind" 22 yy_K_isCall [Cond.code yy_K_isCall bb_K_isCall 1 (some .boolean)], w ∈ tb := lk_S wd_2_20 wd_2_21 wd_1_14 wd_2_22
theorem lk_K_25 : ∀ w ∈ va_wsS "LevelTypes$Kind" 25 yy_K_isCase [Cond.code yy_K_isCase bb_K_isCase 1 (some .boolean)], w ∈ tb := lk_S wd_2_23 wd_2_24 wd_1_14 wd_2_25
theorem lk_L_101 : ∀ w ∈ va_wsS "LevelTypes" 101 yy_K_partsFit [Cond.code yy_K_partsFit bb_K_partsFit 2 (some .boolean)], w ∈ tb := lk_S wd_2_8 wd_2_9 wd_1_14 wd_2_10
theorem lk_L_105 : ∀ w ∈ va_wsS "LevelTypes" 105 yy_K_namesFit [Cond.code yy_K_namesFit bb_K_namesFit 8 (some .boolean)], w ∈ tb := lk_S wd_2_14 wd_2_15 wd_1_14 wd_2_16
theorem lk_L_114 : ∀ w ∈ wsV "LevelTypes" 114 "LevelTypes$Definition" yy_D_take [Cond.code yy_D_take bb_D_take 2 none], w ∈ tb := lk_V wd_2_90 wd_2_91 wd_2_92 wd_1_9 wd_2_93
theorem lk_L_119 : ∀ w ∈ wsV "LevelTypes" 119 "LevelTypes" yy_L_lookAtAll [Cond.code yy_L_lookAtAll bb_L_lookAtAll 2 none], w ∈ tb := lk_V wd_2_98 wd_2_100 wd_p1_6 wd_1_1 wd_2_101
theorem lk_L_122 : ∀ w ∈ wsV "LevelTypes" 122 "LevelTypes" yy_L_knownNode [Cond.code yy_L_knownNode bb_L_knownNode 2 (some (.object "LevelTypes$Node"))], w ∈ tb := lk_V wd_2_183 wd_2_185 wd_p1_12 wd_1_1 wd_2_186
theorem lk_L_136 : ∀ w ∈ wsV "LevelTypes" 136 "LevelTypes" yy_L_nodeAt [Cond.code yy_L_nodeAt bb_L_nodeAt 2 (some (.object "LevelTypes$Node"))], w ∈ tb := lk_V wd_2_187 wd_2_189 wd_p1_13 wd_1_1 wd_2_190
theorem lk_L_152 : ∀ w ∈ wsV "LevelTypes" 152 "java/util/ArrayList" yy_A_get [Cond.code yy_A_get bb_A_get 2 (some (.object "java/lang/Object"))], w ∈ tb := lk_V wd_1_99 wd_1_100 wd_1_101 wd_1_4 wd_1_102
theorem lk_L_160 : ∀ w ∈ wsV "LevelTypes" 160 "LevelTypes" yy_L_endsInMain [Cond.code yy_L_endsInMain bb_L_endsInMain 2 (some .boolean)], w ∈ tb := lk_V wd_2_102 wd_2_104 wd_p1_7 wd_1_1 wd_2_105
theorem lk_L_163 : ∀ w ∈ wsV "LevelTypes" 163 "LevelTypes" yy_L_lookAt [Cond.code yy_L_lookAt bb_L_lookAt 3 none], w ∈ tb := lk_V wd_2_111 wd_2_113 wd_p1_8 wd_1_1 wd_2_114
theorem lk_L_172 : ∀ w ∈ wsV "LevelTypes" 172 "LevelTypes$Definition" yy_D_parameterType [Cond.code yy_D_parameterType bb_D_parameterType 2 (some .int)], w ∈ tb := lk_V wd_2_107 wd_2_108 wd_2_109 wd_1_9 wd_2_110
theorem lk_L_176 : ∀ w ∈ wsV "LevelTypes" 176 "LevelTypes" yy_L_arriveAt [Cond.code yy_L_arriveAt bb_L_arriveAt 2 (some .boolean)], w ∈ tb := lk_V wd_2_115 wd_2_117 wd_p1_9 wd_1_1 wd_2_118
theorem lk_L_189 : ∀ w ∈ va_wsS "LevelTypes" 189 yy_L_firstMisfit [Cond.code yy_L_firstMisfit bb_L_firstMisfit 2 (some (.object "LevelTypes$Node"))], w ∈ tb := lk_S wd_2_152 wd_2_153 wd_1_1 wd_2_154
theorem lk_L_193 : ∀ w ∈ wsV "LevelTypes" 193 "LevelTypes$Node" yy_N_countVariables [Cond.code yy_N_countVariables bb_N_countVariables 1 none], w ∈ tb := lk_V wd_2_119 wd_2_120 wd_2_121 wd_1_15 wd_2_122
theorem lk_L_196 : ∀ w ∈ wsV "LevelTypes" 196 "LevelTypes$Node" yy_N_bind [Cond.code yy_N_bind bb_N_bind 3 (some .boolean)], w ∈ tb := lk_V wd_2_133 wd_2_134 wd_2_135 wd_1_15 wd_2_136
theorem lk_L_199 : ∀ w ∈ va_wsS "LevelTypes" 199 yy_K_isCall [Cond.code yy_K_isCall bb_K_isCall 1 (some .boolean)], w ∈ tb := lk_S wd_2_143 wd_2_21 wd_1_14 wd_2_22
theorem lk_L_205 : ∀ w ∈ wsV "LevelTypes" 205 "LevelTypes$Node" yy_N_aimAt [Cond.code yy_N_aimAt bb_N_aimAt 3 (some .boolean)], w ∈ tb := lk_V wd_2_144 wd_2_145 wd_2_146 wd_1_15 wd_2_147
theorem lk_L_209 : ∀ w ∈ va_wsS "LevelTypes" 209 yy_K_ownType [Cond.code yy_K_ownType bb_K_ownType 1 (some .int)], w ∈ tb := lk_S wd_2_148 wd_2_149 wd_1_14 wd_2_150
theorem lk_L_212 : ∀ w ∈ wsV "LevelTypes" 212 "LevelTypes$Node" yy_N_fits [Cond.code yy_N_fits bb_N_fits 1 (some .boolean)], w ∈ tb := lk_V wd_2_155 wd_2_156 wd_2_157 wd_1_15 wd_2_158
theorem lk_L_218 : ∀ w ∈ wsV "LevelTypes" 218 "LevelTypes$Node" yy_N_hearOf [Cond.code yy_N_hearOf bb_N_hearOf 3 none], w ∈ tb := lk_V wd_2_164 wd_2_165 wd_2_166 wd_1_15 wd_2_167
theorem lk_L_222 : ∀ w ∈ wsV "LevelTypes" 222 "LevelTypes$Node" yy_N_isLastPart [Cond.code yy_N_isLastPart bb_N_isLastPart 1 (some .boolean)], w ∈ tb := lk_V wd_2_178 wd_2_124 wd_2_125 wd_1_15 wd_2_126
theorem lk_L_33 : ∀ w ∈ wsV "LevelTypes" 33 "java/util/ArrayList" yy_A_clear [Cond.code yy_A_clear bb_A_clear 4 none], w ∈ tb := lk_V wd_1_73 wd_1_74 wd_1_75 wd_1_4 wd_1_76
theorem lk_L_36 : ∀ w ∈ va_wsS "LevelTypes" 36 yy_T_isWritten [Cond.code yy_T_isWritten bb_T_isWritten 1 (some .boolean)], w ∈ tb := lk_S wd_1_81 wd_1_82 wd_1_6 wd_1_83
theorem lk_L_42 : ∀ w ∈ va_wsS "LevelTypes" 42 yy_T_isType [Cond.code yy_T_isType bb_T_isType 1 (some .boolean)], w ∈ tb := lk_S wd_1_84 wd_1_85 wd_1_6 wd_1_86
theorem lk_L_45 : ∀ w ∈ wsV "LevelTypes" 45 "LevelTypes" yy_L_lastIsWhole [Cond.code yy_L_lastIsWhole bb_L_lastIsWhole 2 (some .boolean)], w ∈ tb := lk_V wd_1_87 wd_1_89 wd_p1_0 wd_1_1 wd_1_90
theorem lk_L_49 : ∀ w ∈ wsV "LevelTypes" 49 "java/util/ArrayList" yy_A_size [Cond.code yy_A_size bb_A_size 1 (some .int)], w ∈ tb := lk_V wd_1_95 wd_1_96 wd_1_97 wd_1_4 wd_1_98
theorem lk_L_53 : ∀ w ∈ wsV "LevelTypes" 53 "LevelTypes" yy_L_definitionNamed [Cond.code yy_L_definitionNamed bb_L_definitionNamed 5 (some (.object "LevelTypes$Definition"))], w ∈ tb := lk_V wd_1_118 wd_1_120 wd_p1_2 wd_1_1 wd_1_121
theorem lk_L_62 : ∀ w ∈ wsV "LevelTypes" 62 "java/util/ArrayList" yy_A_add [Cond.code yy_A_add bb_A_add 2 (some .boolean)], w ∈ tb := lk_V wd_1_167 wd_1_168 wd_1_169 wd_1_4 wd_1_170
theorem lk_L_69 : ∀ w ∈ wsV "LevelTypes" 69 "LevelTypes" yy_L_lastDefinition [Cond.code yy_L_lastDefinition bb_L_lastDefinition 2 (some (.object "LevelTypes$Definition"))], w ∈ tb := lk_V wd_1_91 wd_1_93 wd_p1_1 wd_1_1 wd_1_94
theorem lk_L_79 : ∀ w ∈ wsV "LevelTypes" 79 "LevelTypes$Definition" yy_D_indexOfParameter [Cond.code yy_D_indexOfParameter bb_D_indexOfParameter 4 (some .int)], w ∈ tb := lk_V wd_1_223 wd_1_224 wd_1_225 wd_1_9 wd_1_226
theorem lk_L_83 : ∀ w ∈ wsV "LevelTypes" 83 "LevelTypes$Definition" yy_D_addParameter [Cond.code yy_D_addParameter bb_D_addParameter 4 none], w ∈ tb := lk_V wd_1_227 wd_1_228 wd_1_229 wd_1_9 wd_1_230
theorem lk_L_87 : ∀ w ∈ wsV "LevelTypes" 87 "LevelTypes$Definition" yy_D_isWhole [Cond.code yy_D_isWhole bb_D_isWhole 1 (some .boolean)], w ∈ tb := lk_V wd_1_114 wd_1_115 wd_1_116 wd_1_9 wd_1_117
theorem lk_L_90 : ∀ w ∈ va_wsS "LevelTypes" 90 yy_K_isKind [Cond.code yy_K_isKind bb_K_isKind 1 (some .boolean)], w ∈ tb := lk_S wd_1_235 wd_1_236 wd_1_14 wd_1_237
theorem lk_L_95 : ∀ w ∈ va_wsS "LevelTypes" 95 yy_K_isChange [Cond.code yy_K_isChange bb_K_isChange 1 (some .boolean)], w ∈ tb := lk_S wd_1_238 wd_1_239 wd_1_14 wd_2_0
theorem lk_L_98 : ∀ w ∈ wsV "LevelTypes" 98 "LevelTypes$Definition" yy_D_wantsChange [Cond.code yy_D_wantsChange bb_D_wantsChange 1 (some .boolean)], w ∈ tb := lk_V wd_2_1 wd_2_2 wd_2_3 wd_1_9 wd_2_4
theorem lk_M_101 : ∀ w ∈ va_wsS "LevelTypesModel" 101 yy_M_due [Cond.code yy_M_due bb_M_due 1 (some .int)], w ∈ tb := lk_S wd_3_83 wd_3_84 wd_1_5 wd_3_85
theorem lk_M_105 : ∀ w ∈ va_wsS "LevelTypesModel" 105 yy_M_isNode [Cond.code yy_M_isNode bb_M_isNode 7 (some .boolean)], w ∈ tb := lk_S wd_3_74 wd_3_75 wd_1_5 wd_3_76
theorem lk_M_109 : ∀ w ∈ va_wsS "LevelTypesModel" 109 yy_M_isChangeable [Cond.code yy_M_isChangeable bb_M_isChangeable 2 (some .boolean)], w ∈ tb := lk_S wd_3_86 wd_3_87 wd_1_5 wd_3_88
theorem lk_M_113 : ∀ w ∈ wsV "LevelTypesModel" 113 "LevelTypesModel" yy_M_bindsIn [Cond.code yy_M_bindsIn bb_M_bindsIn 4 (some .boolean)], w ∈ tb := lk_V wd_3_110 wd_3_112 wd_p2_4 wd_1_5 wd_3_113
theorem lk_M_116 : ∀ w ∈ wsV "LevelTypesModel" 116 "LevelTypesModel" yy_M_there [Cond.code yy_M_there bb_M_there 4 (some .int)], w ∈ tb := lk_V wd_3_106 wd_3_108 wd_p2_3 wd_1_5 wd_3_109
theorem lk_M_122 : ∀ w ∈ wsV "LevelTypesModel" 122 "LevelTypesModel" yy_M_binderOf [Cond.code yy_M_binderOf bb_M_binderOf 6 (some .int)], w ∈ tb := lk_V wd_3_114 wd_3_116 wd_p2_5 wd_1_5 wd_3_117
theorem lk_M_126 : ∀ w ∈ wsV "LevelTypesModel" 126 "LevelTypesModel" yy_M_wrong [Cond.code yy_M_wrong bb_M_wrong 3 (some .int)], w ∈ tb := lk_V wd_3_98 wd_3_100 wd_p2_1 wd_1_5 wd_3_101
theorem lk_M_130 : ∀ w ∈ wsV "LevelTypesModel" 130 "LevelTypesModel" yy_M_targetOf [Cond.code yy_M_targetOf bb_M_targetOf 4 (some .int)], w ∈ tb := lk_V wd_3_118 wd_3_120 wd_p2_6 wd_1_5 wd_3_121
theorem lk_M_133 : ∀ w ∈ wsV "LevelTypesModel" 133 "LevelTypesModel" yy_M_partOf [Cond.code yy_M_partOf bb_M_partOf 4 (some .int)], w ∈ tb := lk_V wd_3_138 wd_3_140 wd_p2_11 wd_1_5 wd_3_141
theorem lk_M_136 : ∀ w ∈ wsV "LevelTypesModel" 136 "LevelTypesModel" yy_M_typeOfVariable [Cond.code yy_M_typeOfVariable bb_M_typeOfVariable 4 (some .int)], w ∈ tb := lk_V wd_3_134 wd_3_136 wd_p2_10 wd_1_5 wd_3_137
theorem lk_M_139 : ∀ w ∈ wsV "LevelTypesModel" 139 "LevelTypesModel" yy_M_typeOf [Cond.code yy_M_typeOf bb_M_typeOf 3 (some .int)], w ∈ tb := lk_V wd_3_130 wd_3_132 wd_p2_9 wd_1_5 wd_3_133
theorem lk_M_142 : ∀ w ∈ wsV "LevelTypesModel" 142 "LevelTypesModel" yy_M_canStand [Cond.code yy_M_canStand bb_M_canStand 6 (some .boolean)], w ∈ tb := lk_V wd_3_142 wd_3_144 wd_p2_12 wd_1_5 wd_3_145
theorem lk_M_147 : ∀ w ∈ wsV "LevelTypesModel" 147 "LevelTypesModel" yy_M_isMain [Cond.code yy_M_isMain bb_M_isMain 2 (some .boolean)], w ∈ tb := lk_V wd_3_93 wd_3_95 wd_p2_0 wd_1_5 wd_3_96
theorem lk_M_150 : ∀ w ∈ wsV "LevelTypesModel" 150 "LevelTypesModel" yy_M_comeTo [Cond.code yy_M_comeTo bb_M_comeTo 5 none], w ∈ tb := lk_V wd_3_102 wd_3_104 wd_p2_2 wd_1_5 wd_3_105
theorem lk_M_154 : ∀ w ∈ wsV "LevelTypesModel" 154 "LevelTypesModel" yy_M_isEnd [Cond.code yy_M_isEnd bb_M_isEnd 4 (some .boolean)], w ∈ tb := lk_V wd_3_122 wd_3_124 wd_p2_7 wd_1_5 wd_3_125
theorem lk_M_158 : ∀ w ∈ wsV "LevelTypesModel" 158 "LevelTypesModel" yy_M_leave [Cond.code yy_M_leave bb_M_leave 3 none], w ∈ tb := lk_V wd_3_126 wd_3_128 wd_p2_8 wd_1_5 wd_3_129
theorem lk_M_161 : ∀ w ∈ wsV "LevelTypesModel" 161 "LevelTypesModel" yy_M_isKnown [Cond.code yy_M_isKnown bb_M_isKnown 2 (some .boolean)], w ∈ tb := lk_V wd_3_150 wd_3_152 wd_p2_13 wd_1_5 wd_3_153
theorem lk_M_86 : ∀ w ∈ wsV "LevelTypesModel" 86 "LevelTypesModel" yy_M_lacking [Cond.code yy_M_lacking bb_M_lacking 2 (some .int)], w ∈ tb := lk_V wd_3_62 wd_3_64 wd_p1_15 wd_1_5 wd_3_65
theorem lk_M_90 : ∀ w ∈ wsV "LevelTypesModel" 90 "LevelTypesModel" yy_M_isWhole [Cond.code yy_M_isWhole bb_M_isWhole 1 (some .boolean)], w ∈ tb := lk_V wd_3_58 wd_3_60 wd_p1_14 wd_1_5 wd_3_61
theorem lk_M_94 : ∀ w ∈ va_wsS "LevelTypesModel" 94 yy_M_hasFirst [Cond.code yy_M_hasFirst bb_M_hasFirst 1 (some .boolean)], w ∈ tb := lk_S wd_3_77 wd_3_78 wd_1_5 wd_3_79
theorem lk_M_98 : ∀ w ∈ va_wsS "LevelTypesModel" 98 yy_M_hasSecond [Cond.code yy_M_hasSecond bb_M_hasSecond 1 (some .boolean)], w ∈ tb := lk_S wd_3_80 wd_3_81 wd_1_5 wd_3_82
theorem lk_N_101 : ∀ w ∈ wsV "LevelTypes$Node" 101 "LevelTypes$Node" yy_N_admits [Cond.code yy_N_admits bb_N_admits 3 (some .boolean)], w ∈ tb := lk_V wd_2_159 wd_2_161 wd_p1_10 wd_1_15 wd_2_162
theorem lk_N_105 : ∀ w ∈ va_wsS "LevelTypes$Node" 105 yy_T_isWritten [Cond.code yy_T_isWritten bb_T_isWritten 1 (some .boolean)], w ∈ tb := lk_S wd_2_163 wd_1_82 wd_1_6 wd_1_83
theorem lk_N_108 : ∀ w ∈ wsV "LevelTypes$Node" 108 "LevelTypes$Node" yy_N_typeOfXAfter [Cond.code yy_N_typeOfXAfter bb_N_typeOfXAfter 2 (some .int)], w ∈ tb := lk_V wd_2_168 wd_2_170 wd_p1_11 wd_1_15 wd_2_171
theorem lk_N_111 : ∀ w ∈ va_wsS "LevelTypes$Node" 111 yy_K_isAsLastPart [Cond.code yy_K_isAsLastPart bb_K_isAsLastPart 1 (some .boolean)], w ∈ tb := lk_S wd_2_175 wd_2_176 wd_1_14 wd_2_177
theorem lk_N_114 : ∀ w ∈ va_wsS "LevelTypes$Node" 114 yy_K_isLet [Cond.code yy_K_isLet bb_K_isLet 1 (some .boolean)], w ∈ tb := lk_S wd_2_172 wd_2_173 wd_1_14 wd_2_174
theorem lk_N_65 : ∀ w ∈ wsV "LevelTypes$Node" 65 "LevelTypes$Node" yy_N_isLastPart [Cond.code yy_N_isLastPart bb_N_isLastPart 1 (some .boolean)], w ∈ tb := lk_V wd_2_123 wd_2_124 wd_2_125 wd_1_15 wd_2_126
theorem lk_N_69 : ∀ w ∈ wsV "LevelTypes$Node" 69 "LevelTypes$Node" yy_N_variablesOfLastPart [Cond.code yy_N_variablesOfLastPart bb_N_variablesOfLastPart 1 (some .int)], w ∈ tb := lk_V wd_2_127 wd_2_128 wd_2_129 wd_1_15 wd_2_130
theorem lk_N_73 : ∀ w ∈ va_wsS "LevelTypes$Node" 73 yy_K_isBinder [Cond.code yy_K_isBinder bb_K_isBinder 1 (some .boolean)], w ∈ tb := lk_S wd_2_131 wd_2_18 wd_1_14 wd_2_19
theorem lk_N_79 : ∀ w ∈ va_wsS "LevelTypes$Node" 79 yy_K_isCase [Cond.code yy_K_isCase bb_K_isCase 1 (some .boolean)], w ∈ tb := lk_S wd_2_132 wd_2_24 wd_1_14 wd_2_25
theorem lk_N_82 : ∀ w ∈ wsV "LevelTypes$Node" 82 "LevelTypes$Node" yy_N_bindsInLastPart [Cond.code yy_N_bindsInLastPart bb_N_bindsInLastPart 3 (some .boolean)], w ∈ tb := lk_V wd_2_137 wd_2_138 wd_2_139 wd_1_15 wd_2_140
theorem lk_N_88 : ∀ w ∈ wsV "LevelTypes$Node" 88 "LevelTypes$Definition" yy_D_indexOfParameter [Cond.code yy_D_indexOfParameter bb_D_indexOfParameter 4 (some .int)], w ∈ tb := lk_V wd_2_141 wd_1_224 wd_1_225 wd_1_9 wd_1_226
theorem lk_N_92 : ∀ w ∈ wsV "LevelTypes$Node" 92 "LevelTypes$Definition" yy_D_parameterType [Cond.code yy_D_parameterType bb_D_parameterType 2 (some .int)], w ∈ tb := lk_V wd_2_142 wd_2_108 wd_2_109 wd_1_9 wd_2_110
theorem lk_OB_105 : ∀ w ∈ va_wsS "java/util/Objects" 105 yy_PC_checkIndex [Cond.code yy_PC_checkIndex bb_PC_checkIndex 3 (some .int)], w ∈ tb := lk_S wd_1_106 wd_1_107 wd_1_8 wd_1_108
theorem lk_W_13 : ∀ w ∈ wsV "LevelTypesLaw" 13 "LevelTypes" yy_L_clear [Cond.code yy_L_clear bb_L_clear 1 none], w ∈ tb := lk_V wd_1_69 wd_1_70 wd_1_71 wd_1_1 wd_1_72
theorem lk_W_16 : ∀ w ∈ wsV "LevelTypesLaw" 16 "LevelTypesModel" yy_M_clear [Cond.code yy_M_clear bb_M_clear 1 none], w ∈ tb := lk_V wd_3_50 wd_3_51 wd_3_52 wd_1_5 wd_3_53
theorem lk_W_19 : ∀ w ∈ wsV "LevelTypesLaw" 19 "LevelTypes" yy_L_define [Cond.code yy_L_define bb_L_define 7 (some .int)], w ∈ tb := lk_V wd_1_77 wd_1_78 wd_1_79 wd_1_1 wd_1_80
theorem lk_W_23 : ∀ w ∈ wsV "LevelTypesLaw" 23 "LevelTypesModel" yy_M_define [Cond.code yy_M_define bb_M_define 7 (some .int)], w ∈ tb := lk_V wd_3_54 wd_3_55 wd_3_56 wd_1_5 wd_3_57
theorem lk_W_24 : ∀ w ∈ wsV "LevelTypesLaw" 24 "LevelTypes" yy_L_parameter [Cond.code yy_L_parameter bb_L_parameter 5 (some .int)], w ∈ tb := lk_V wd_1_219 wd_1_220 wd_1_221 wd_1_1 wd_1_222
theorem lk_W_28 : ∀ w ∈ wsV "LevelTypesLaw" 28 "LevelTypesModel" yy_M_parameter [Cond.code yy_M_parameter bb_M_parameter 6 (some .int)], w ∈ tb := lk_V wd_3_66 wd_3_67 wd_3_68 wd_1_5 wd_3_69
theorem lk_W_29 : ∀ w ∈ wsV "LevelTypesLaw" 29 "LevelTypes" yy_L_node [Cond.code yy_L_node bb_L_node 9 (some .int)], w ∈ tb := lk_V wd_1_231 wd_1_232 wd_1_233 wd_1_1 wd_1_234
theorem lk_W_33 : ∀ w ∈ wsV "LevelTypesLaw" 33 "LevelTypesModel" yy_M_node [Cond.code yy_M_node bb_M_node 12 (some .int)], w ∈ tb := lk_V wd_3_70 wd_3_71 wd_3_72 wd_1_5 wd_3_73
theorem lk_W_34 : ∀ w ∈ wsV "LevelTypesLaw" 34 "LevelTypes" yy_L_check [Cond.code yy_L_check bb_L_check 1 (some .int)], w ∈ tb := lk_V wd_2_94 wd_2_95 wd_2_96 wd_1_1 wd_2_97
theorem lk_W_38 : ∀ w ∈ wsV "LevelTypesLaw" 38 "LevelTypesModel" yy_M_check [Cond.code yy_M_check bb_M_check 3 (some .int)], w ∈ tb := lk_V wd_3_89 wd_3_90 wd_3_91 wd_1_5 wd_3_92
theorem lk_W_39 : ∀ w ∈ wsV "LevelTypesLaw" 39 "LevelTypes" yy_L_type [Cond.code yy_L_type bb_L_type 3 (some .int)], w ∈ tb := lk_V wd_2_179 wd_2_180 wd_2_181 wd_1_1 wd_2_182
theorem lk_W_43 : ∀ w ∈ wsV "LevelTypesLaw" 43 "LevelTypesModel" yy_M_type [Cond.code yy_M_type bb_M_type 2 (some .int)], w ∈ tb := lk_V wd_3_146 wd_3_147 wd_3_148 wd_1_5 wd_3_149
theorem lk_W_44 : ∀ w ∈ wsV "LevelTypesLaw" 44 "LevelTypes" yy_L_binder [Cond.code yy_L_binder bb_L_binder 3 (some .int)], w ∈ tb := lk_V wd_2_191 wd_2_192 wd_2_193 wd_1_1 wd_2_194
theorem lk_W_47 : ∀ w ∈ wsV "LevelTypesLaw" 47 "LevelTypesModel" yy_M_binder [Cond.code yy_M_binder bb_M_binder 2 (some .int)], w ∈ tb := lk_V wd_3_154 wd_3_155 wd_3_156 wd_1_5 wd_3_157
theorem lk_W_48 : ∀ w ∈ wsV "LevelTypesLaw" 48 "LevelTypes" yy_L_target [Cond.code yy_L_target bb_L_target 3 (some .int)], w ∈ tb := lk_V wd_2_195 wd_2_196 wd_2_197 wd_1_1 wd_2_198
theorem lk_W_51 : ∀ w ∈ wsV "LevelTypesLaw" 51 "LevelTypesModel" yy_M_target [Cond.code yy_M_target bb_M_target 2 (some .int)], w ∈ tb := lk_V wd_3_158 wd_3_159 wd_3_160 wd_1_5 wd_3_161
theorem lk_W_52 : ∀ w ∈ wsV "LevelTypesLaw" 52 "LevelTypes" yy_L_of [Cond.code yy_L_of bb_L_of 4 (some .int)], w ∈ tb := lk_V wd_2_199 wd_2_200 wd_2_201 wd_1_1 wd_2_202
theorem lk_W_56 : ∀ w ∈ wsV "LevelTypesLaw" 56 "LevelTypesModel" yy_M_of [Cond.code yy_M_of bb_M_of 3 (some .int)], w ∈ tb := lk_V wd_3_162 wd_3_163 wd_3_164 wd_1_5 wd_3_165
theorem lk_W_57 : ∀ w ∈ wsV "LevelTypesLaw" 57 "LevelTypes" yy_L_look [Cond.code yy_L_look bb_L_look 2 (some .int)], w ∈ tb := lk_V wd_2_203 wd_2_204 wd_2_205 wd_1_1 wd_2_206
theorem lk_W_60 : ∀ w ∈ wsV "LevelTypesLaw" 60 "LevelTypesModel" yy_M_look [Cond.code yy_M_look bb_M_look 2 (some .int)], w ∈ tb := lk_V wd_3_166 wd_3_167 wd_3_168 wd_1_5 wd_3_169
theorem ii_L : ∀ w ∈ u_ws RR_L FF_L 6, w ∈ tb := List.forall_mem_cons.mpr ⟨wd_1_56, List.forall_mem_cons.mpr ⟨wd_1_58, List.forall_mem_cons.mpr ⟨wd_1_60, List.forall_mem_cons.mpr ⟨wd_1_62, List.forall_mem_cons.mpr ⟨wd_1_64, List.forall_mem_cons.mpr ⟨wd_1_66, fun _ h => absurd h List.not_mem_nil⟩⟩⟩⟩⟩⟩
theorem ii_D : ∀ w ∈ u_ws RR_D FF_D 9, w ∈ tb := List.forall_mem_cons.mpr ⟨wd_1_146, List.forall_mem_cons.mpr ⟨wd_1_148, List.forall_mem_cons.mpr ⟨wd_1_150, List.forall_mem_cons.mpr ⟨wd_1_152, List.forall_mem_cons.mpr ⟨wd_1_154, List.forall_mem_cons.mpr ⟨wd_1_156, List.forall_mem_cons.mpr ⟨wd_1_158, List.forall_mem_cons.mpr ⟨wd_1_160, List.forall_mem_cons.mpr ⟨wd_1_162, fun _ h => absurd h List.not_mem_nil⟩⟩⟩⟩⟩⟩⟩⟩⟩
theorem ii_N : ∀ w ∈ u_ws RR_N FF_N 14, w ∈ tb := List.forall_mem_cons.mpr ⟨wd_2_61, List.forall_mem_cons.mpr ⟨wd_2_63, List.forall_mem_cons.mpr ⟨wd_2_65, List.forall_mem_cons.mpr ⟨wd_2_67, List.forall_mem_cons.mpr ⟨wd_2_69, List.forall_mem_cons.mpr ⟨wd_2_71, List.forall_mem_cons.mpr ⟨wd_2_73, List.forall_mem_cons.mpr ⟨wd_2_75, List.forall_mem_cons.mpr ⟨wd_2_77, List.forall_mem_cons.mpr ⟨wd_2_79, List.forall_mem_cons.mpr ⟨wd_2_81, List.forall_mem_cons.mpr ⟨wd_2_83, List.forall_mem_cons.mpr ⟨wd_2_85, List.forall_mem_cons.mpr ⟨wd_2_87, fun _ h => absurd h List.not_mem_nil⟩⟩⟩⟩⟩⟩⟩⟩⟩⟩⟩⟩⟩⟩
theorem ii_A : ∀ w ∈ u_ws RR_A FF_A 3, w ∈ tb := List.forall_mem_cons.mpr ⟨wd_1_47, List.forall_mem_cons.mpr ⟨wd_1_43, List.forall_mem_cons.mpr ⟨wd_1_45, fun _ h => absurd h List.not_mem_nil⟩⟩⟩
theorem ii_M : ∀ w ∈ u_ws RR_M FF_M 25, w ∈ tb := List.forall_mem_cons.mpr ⟨wd_2_238, List.forall_mem_cons.mpr ⟨wd_3_0, List.forall_mem_cons.mpr ⟨wd_3_2, List.forall_mem_cons.mpr ⟨wd_3_4, List.forall_mem_cons.mpr ⟨wd_3_6, List.forall_mem_cons.mpr ⟨wd_3_8, List.forall_mem_cons.mpr ⟨wd_3_10, List.forall_mem_cons.mpr ⟨wd_3_12, List.forall_mem_cons.mpr ⟨wd_3_14, List.forall_mem_cons.mpr ⟨wd_3_16, List.forall_mem_cons.mpr ⟨wd_3_18, List.forall_mem_cons.mpr ⟨wd_3_20, List.forall_mem_cons.mpr ⟨wd_3_22, List.forall_mem_cons.mpr ⟨wd_3_24, List.forall_mem_cons.mpr ⟨wd_3_26, List.forall_mem_cons.mpr ⟨wd_3_28, List.forall_mem_cons.mpr ⟨wd_3_30, List.forall_mem_cons.mpr ⟨wd_3_32, List.forall_mem_cons.mpr ⟨wd_3_34, List.forall_mem_cons.mpr ⟨wd_3_36, List.forall_mem_cons.mpr ⟨wd_3_38, List.forall_mem_cons.mpr ⟨wd_3_40, List.forall_mem_cons.mpr ⟨wd_3_42, List.forall_mem_cons.mpr ⟨wd_3_44, List.forall_mem_cons.mpr ⟨wd_3_46, fun _ h => absurd h List.not_mem_nil⟩⟩⟩⟩⟩⟩⟩⟩⟩⟩⟩⟩⟩⟩⟩⟩⟩⟩⟩⟩⟩⟩⟩⟩⟩
end
section
theorem dd_D_init_0 : decode bb_D_init 0 = .ok (.aload_n 0, 1) := by decide +kernel
theorem dd_D_init_1 : decode bb_D_init 1 = .ok (.invokespecial 3, 3) := by decide +kernel
theorem dd_D_init_4 : decode bb_D_init 4 = .ok (.aload_n 0, 1) := by decide +kernel
theorem dd_D_init_5 : decode bb_D_init 5 = .ok (.bipush 8, 2) := by decide +kernel
theorem dd_D_init_7 : decode bb_D_init 7 = .ok (.newarray .long, 2) := by decide +kernel
theorem dd_D_init_9 : decode bb_D_init 9 = .ok (.putfield 9, 3) := by decide +kernel
theorem dd_D_init_12 : decode bb_D_init 12 = .ok (.aload_n 0, 1) := by decide +kernel
theorem dd_D_init_13 : decode bb_D_init 13 = .ok (.bipush 8, 2) := by decide +kernel
theorem dd_D_init_15 : decode bb_D_init 15 = .ok (.newarray .int, 2) := by decide +kernel
theorem dd_D_init_17 : decode bb_D_init 17 = .ok (.putfield 15, 3) := by decide +kernel
theorem dd_D_init_20 : decode bb_D_init 20 = .ok (.aload_n 0, 1) := by decide +kernel
theorem dd_D_init_21 : decode bb_D_init 21 = .ok (.iconst 0, 1) := by decide +kernel
theorem dd_D_init_22 : decode bb_D_init 22 = .ok (.putfield 19, 3) := by decide +kernel
theorem dd_D_init_25 : decode bb_D_init 25 = .ok (.aload_n 0, 1) := by decide +kernel
theorem dd_D_init_26 : decode bb_D_init 26 = .ok (.iconst 0, 1) := by decide +kernel
theorem dd_D_init_27 : decode bb_D_init 27 = .ok (.putfield 23, 3) := by decide +kernel
theorem dd_D_init_30 : decode bb_D_init 30 = .ok (.aload_n 0, 1) := by decide +kernel
theorem dd_D_init_31 : decode bb_D_init 31 = .ok (.aconst_null, 1) := by decide +kernel
theorem dd_D_init_32 : decode bb_D_init 32 = .ok (.putfield 27, 3) := by decide +kernel
theorem dd_D_init_35 : decode bb_D_init 35 = .ok (.aload_n 0, 1) := by decide +kernel
theorem dd_D_init_36 : decode bb_D_init 36 = .ok (.iload_n 1, 1) := by decide +kernel
theorem dd_D_init_37 : decode bb_D_init 37 = .ok (.putfield 31, 3) := by decide +kernel
theorem dd_D_init_40 : decode bb_D_init 40 = .ok (.aload_n 0, 1) := by decide +kernel
theorem dd_D_init_41 : decode bb_D_init 41 = .ok (.iload_n 2, 1) := by decide +kernel
theorem dd_D_init_42 : decode bb_D_init 42 = .ok (.putfield 34, 3) := by decide +kernel
theorem dd_D_init_45 : decode bb_D_init 45 = .ok (.aload_n 0, 1) := by decide +kernel
theorem dd_D_init_46 : decode bb_D_init 46 = .ok (.lload_n 3, 1) := by decide +kernel
theorem dd_D_init_47 : decode bb_D_init 47 = .ok (.putfield 37, 3) := by decide +kernel
theorem dd_D_init_50 : decode bb_D_init 50 = .ok (.aload_n 0, 1) := by decide +kernel
theorem dd_D_init_51 : decode bb_D_init 51 = .ok (.iload 5, 2) := by decide +kernel
theorem dd_D_init_53 : decode bb_D_init 53 = .ok (.putfield 41, 3) := by decide +kernel
theorem dd_D_init_56 : decode bb_D_init 56 = .ok (.return_, 1) := by decide +kernel
theorem dd_D_isWhole_0 : decode bb_D_isWhole 0 = .ok (.aload_n 0, 1) := by decide +kernel
theorem dd_D_isWhole_1 : decode bb_D_isWhole 1 = .ok (.getfield 23, 3) := by decide +kernel
theorem dd_D_isWhole_4 : decode bb_D_isWhole 4 = .ok (.ifCond .eq 14, 3) := by decide +kernel
theorem dd_D_isWhole_7 : decode bb_D_isWhole 7 = .ok (.aload_n 0, 1) := by decide +kernel
theorem dd_D_isWhole_8 : decode bb_D_isWhole 8 = .ok (.getfield 27, 3) := by decide +kernel
theorem dd_D_isWhole_11 : decode bb_D_isWhole 11 = .ok (.ifnonnull 7, 3) := by decide +kernel
theorem dd_D_isWhole_14 : decode bb_D_isWhole 14 = .ok (.iconst 1, 1) := by decide +kernel
theorem dd_D_isWhole_15 : decode bb_D_isWhole 15 = .ok (.goto 4, 3) := by decide +kernel
theorem dd_D_isWhole_18 : decode bb_D_isWhole 18 = .ok (.iconst 0, 1) := by decide +kernel
theorem dd_D_isWhole_19 : decode bb_D_isWhole 19 = .ok (.ireturn, 1) := by decide +kernel
theorem dd_D_wantsChange_0 : decode bb_D_wantsChange 0 = .ok (.aload_n 0, 1) := by decide +kernel
theorem dd_D_wantsChange_1 : decode bb_D_wantsChange 1 = .ok (.getfield 27, 3) := by decide +kernel
theorem dd_D_wantsChange_4 : decode bb_D_wantsChange 4 = .ok (.ifnonnull 10, 3) := by decide +kernel
theorem dd_D_wantsChange_7 : decode bb_D_wantsChange 7 = .ok (.aload_n 0, 1) := by decide +kernel
theorem dd_D_wantsChange_8 : decode bb_D_wantsChange 8 = .ok (.getfield 34, 3) := by decide +kernel
theorem dd_D_wantsChange_11 : decode bb_D_wantsChange 11 = .ok (.goto 20, 3) := by decide +kernel
theorem dd_D_wantsChange_14 : decode bb_D_wantsChange 14 = .ok (.aload_n 0, 1) := by decide +kernel
theorem dd_D_wantsChange_15 : decode bb_D_wantsChange 15 = .ok (.getfield 27, 3) := by decide +kernel
theorem dd_D_wantsChange_18 : decode bb_D_wantsChange 18 = .ok (.getfield 44, 3) := by decide +kernel
theorem dd_D_wantsChange_21 : decode bb_D_wantsChange 21 = .ok (.aload_n 0, 1) := by decide +kernel
theorem dd_D_wantsChange_22 : decode bb_D_wantsChange 22 = .ok (.getfield 27, 3) := by decide +kernel
theorem dd_D_wantsChange_25 : decode bb_D_wantsChange 25 = .ok (.getfield 49, 3) := by decide +kernel
theorem dd_D_wantsChange_28 : decode bb_D_wantsChange 28 = .ok (.invokestatic 52, 3) := by decide +kernel
theorem dd_D_wantsChange_31 : decode bb_D_wantsChange 31 = .ok (.ireturn, 1) := by decide +kernel
theorem dd_D_addParameter_0 : decode bb_D_addParameter 0 = .ok (.aload_n 0, 1) := by decide +kernel
theorem dd_D_addParameter_1 : decode bb_D_addParameter 1 = .ok (.getfield 19, 3) := by decide +kernel
theorem dd_D_addParameter_4 : decode bb_D_addParameter 4 = .ok (.bipush 8, 2) := by decide +kernel
theorem dd_D_addParameter_6 : decode bb_D_addParameter 6 = .ok (.if_icmp .ge 33, 3) := by decide +kernel
theorem dd_D_addParameter_9 : decode bb_D_addParameter 9 = .ok (.aload_n 0, 1) := by decide +kernel
theorem dd_D_addParameter_10 : decode bb_D_addParameter 10 = .ok (.getfield 9, 3) := by decide +kernel
theorem dd_D_addParameter_13 : decode bb_D_addParameter 13 = .ok (.aload_n 0, 1) := by decide +kernel
theorem dd_D_addParameter_14 : decode bb_D_addParameter 14 = .ok (.getfield 19, 3) := by decide +kernel
theorem dd_D_addParameter_17 : decode bb_D_addParameter 17 = .ok (.lload_n 1, 1) := by decide +kernel
theorem dd_D_addParameter_18 : decode bb_D_addParameter 18 = .ok (.lastore, 1) := by decide +kernel
theorem dd_D_addParameter_19 : decode bb_D_addParameter 19 = .ok (.aload_n 0, 1) := by decide +kernel
theorem dd_D_addParameter_20 : decode bb_D_addParameter 20 = .ok (.getfield 15, 3) := by decide +kernel
theorem dd_D_addParameter_23 : decode bb_D_addParameter 23 = .ok (.aload_n 0, 1) := by decide +kernel
theorem dd_D_addParameter_24 : decode bb_D_addParameter 24 = .ok (.getfield 19, 3) := by decide +kernel
theorem dd_D_addParameter_27 : decode bb_D_addParameter 27 = .ok (.iload_n 3, 1) := by decide +kernel
theorem dd_D_addParameter_28 : decode bb_D_addParameter 28 = .ok (.iastore, 1) := by decide +kernel
theorem dd_D_addParameter_29 : decode bb_D_addParameter 29 = .ok (.aload_n 0, 1) := by decide +kernel
theorem dd_D_addParameter_30 : decode bb_D_addParameter 30 = .ok (.dup, 1) := by decide +kernel
theorem dd_D_addParameter_31 : decode bb_D_addParameter 31 = .ok (.getfield 19, 3) := by decide +kernel
theorem dd_D_addParameter_34 : decode bb_D_addParameter 34 = .ok (.iconst 1, 1) := by decide +kernel
theorem dd_D_addParameter_35 : decode bb_D_addParameter 35 = .ok (.iadd, 1) := by decide +kernel
theorem dd_D_addParameter_36 : decode bb_D_addParameter 36 = .ok (.putfield 19, 3) := by decide +kernel
theorem dd_D_addParameter_39 : decode bb_D_addParameter 39 = .ok (.return_, 1) := by decide +kernel
theorem dd_D_indexOfParameter_0 : decode bb_D_indexOfParameter 0 = .ok (.iconst 0, 1) := by decide +kernel
theorem dd_D_indexOfParameter_1 : decode bb_D_indexOfParameter 1 = .ok (.istore_n 3, 1) := by decide +kernel
theorem dd_D_indexOfParameter_2 : decode bb_D_indexOfParameter 2 = .ok (.iload_n 3, 1) := by decide +kernel
theorem dd_D_indexOfParameter_3 : decode bb_D_indexOfParameter 3 = .ok (.aload_n 0, 1) := by decide +kernel
theorem dd_D_indexOfParameter_4 : decode bb_D_indexOfParameter 4 = .ok (.getfield 19, 3) := by decide +kernel
theorem dd_D_indexOfParameter_7 : decode bb_D_indexOfParameter 7 = .ok (.if_icmp .ge 28, 3) := by decide +kernel
theorem dd_D_indexOfParameter_10 : decode bb_D_indexOfParameter 10 = .ok (.iload_n 3, 1) := by decide +kernel
theorem dd_D_indexOfParameter_11 : decode bb_D_indexOfParameter 11 = .ok (.bipush 8, 2) := by decide +kernel
theorem dd_D_indexOfParameter_13 : decode bb_D_indexOfParameter 13 = .ok (.if_icmp .ge 22, 3) := by decide +kernel
theorem dd_D_indexOfParameter_16 : decode bb_D_indexOfParameter 16 = .ok (.aload_n 0, 1) := by decide +kernel
theorem dd_D_indexOfParameter_17 : decode bb_D_indexOfParameter 17 = .ok (.getfield 9, 3) := by decide +kernel
theorem dd_D_indexOfParameter_20 : decode bb_D_indexOfParameter 20 = .ok (.iload_n 3, 1) := by decide +kernel
theorem dd_D_indexOfParameter_21 : decode bb_D_indexOfParameter 21 = .ok (.laload, 1) := by decide +kernel
theorem dd_D_indexOfParameter_22 : decode bb_D_indexOfParameter 22 = .ok (.lload_n 1, 1) := by decide +kernel
theorem dd_D_indexOfParameter_23 : decode bb_D_indexOfParameter 23 = .ok (.lcmp, 1) := by decide +kernel
theorem dd_D_indexOfParameter_24 : decode bb_D_indexOfParameter 24 = .ok (.ifCond .ne 5, 3) := by decide +kernel
theorem dd_D_indexOfParameter_27 : decode bb_D_indexOfParameter 27 = .ok (.iload_n 3, 1) := by decide +kernel
theorem dd_D_indexOfParameter_28 : decode bb_D_indexOfParameter 28 = .ok (.ireturn, 1) := by decide +kernel
theorem dd_D_indexOfParameter_29 : decode bb_D_indexOfParameter 29 = .ok (.iinc 3 1, 3) := by decide +kernel
theorem dd_D_indexOfParameter_32 : decode bb_D_indexOfParameter 32 = .ok (.goto (-30), 3) := by decide +kernel
theorem dd_D_indexOfParameter_35 : decode bb_D_indexOfParameter 35 = .ok (.iconst (-1), 1) := by decide +kernel
theorem dd_D_indexOfParameter_36 : decode bb_D_indexOfParameter 36 = .ok (.ireturn, 1) := by decide +kernel
theorem dd_D_parameterType_0 : decode bb_D_parameterType 0 = .ok (.iload_n 1, 1) := by decide +kernel
theorem dd_D_parameterType_1 : decode bb_D_parameterType 1 = .ok (.ifCond .lt 17, 3) := by decide +kernel
theorem dd_D_parameterType_4 : decode bb_D_parameterType 4 = .ok (.iload_n 1, 1) := by decide +kernel
theorem dd_D_parameterType_5 : decode bb_D_parameterType 5 = .ok (.aload_n 0, 1) := by decide +kernel
theorem dd_D_parameterType_6 : decode bb_D_parameterType 6 = .ok (.getfield 19, 3) := by decide +kernel
theorem dd_D_parameterType_9 : decode bb_D_parameterType 9 = .ok (.if_icmp .ge 9, 3) := by decide +kernel
theorem dd_D_parameterType_12 : decode bb_D_parameterType 12 = .ok (.iload_n 1, 1) := by decide +kernel
theorem dd_D_parameterType_13 : decode bb_D_parameterType 13 = .ok (.bipush 8, 2) := by decide +kernel
theorem dd_D_parameterType_15 : decode bb_D_parameterType 15 = .ok (.if_icmp .lt 7, 3) := by decide +kernel
theorem dd_D_parameterType_18 : decode bb_D_parameterType 18 = .ok (.iconst (-1), 1) := by decide +kernel
theorem dd_D_parameterType_19 : decode bb_D_parameterType 19 = .ok (.goto 9, 3) := by decide +kernel
theorem dd_D_parameterType_22 : decode bb_D_parameterType 22 = .ok (.aload_n 0, 1) := by decide +kernel
theorem dd_D_parameterType_23 : decode bb_D_parameterType 23 = .ok (.getfield 15, 3) := by decide +kernel
theorem dd_D_parameterType_26 : decode bb_D_parameterType 26 = .ok (.iload_n 1, 1) := by decide +kernel
theorem dd_D_parameterType_27 : decode bb_D_parameterType 27 = .ok (.iaload, 1) := by decide +kernel
theorem dd_D_parameterType_28 : decode bb_D_parameterType 28 = .ok (.ireturn, 1) := by decide +kernel
theorem dd_D_take_0 : decode bb_D_take 0 = .ok (.aload_n 0, 1) := by decide +kernel
theorem dd_D_take_1 : decode bb_D_take 1 = .ok (.iconst 1, 1) := by decide +kernel
theorem dd_D_take_2 : decode bb_D_take 2 = .ok (.putfield 23, 3) := by decide +kernel
theorem dd_D_take_5 : decode bb_D_take 5 = .ok (.aload_n 0, 1) := by decide +kernel
theorem dd_D_take_6 : decode bb_D_take 6 = .ok (.getfield 27, 3) := by decide +kernel
theorem dd_D_take_9 : decode bb_D_take 9 = .ok (.ifnull 16, 3) := by decide +kernel
theorem dd_D_take_12 : decode bb_D_take 12 = .ok (.aload_n 0, 1) := by decide +kernel
theorem dd_D_take_13 : decode bb_D_take 13 = .ok (.getfield 27, 3) := by decide +kernel
theorem dd_D_take_16 : decode bb_D_take 16 = .ok (.dup, 1) := by decide +kernel
theorem dd_D_take_17 : decode bb_D_take 17 = .ok (.getfield 49, 3) := by decide +kernel
theorem dd_D_take_20 : decode bb_D_take 20 = .ok (.iconst 1, 1) := by decide +kernel
theorem dd_D_take_21 : decode bb_D_take 21 = .ok (.iadd, 1) := by decide +kernel
theorem dd_D_take_22 : decode bb_D_take 22 = .ok (.putfield 49, 3) := by decide +kernel
theorem dd_D_take_25 : decode bb_D_take 25 = .ok (.aload_n 0, 1) := by decide +kernel
theorem dd_D_take_26 : decode bb_D_take 26 = .ok (.aload_n 1, 1) := by decide +kernel
theorem dd_D_take_27 : decode bb_D_take 27 = .ok (.putfield 27, 3) := by decide +kernel
theorem dd_D_take_30 : decode bb_D_take 30 = .ok (.aload_n 0, 1) := by decide +kernel
theorem dd_D_take_31 : decode bb_D_take 31 = .ok (.getfield 27, 3) := by decide +kernel
theorem dd_D_take_34 : decode bb_D_take 34 = .ok (.ifnull 34, 3) := by decide +kernel
theorem dd_D_take_37 : decode bb_D_take 37 = .ok (.aload_n 0, 1) := by decide +kernel
theorem dd_D_take_38 : decode bb_D_take 38 = .ok (.getfield 27, 3) := by decide +kernel
theorem dd_D_take_41 : decode bb_D_take 41 = .ok (.getfield 49, 3) := by decide +kernel
theorem dd_D_take_44 : decode bb_D_take 44 = .ok (.aload_n 0, 1) := by decide +kernel
theorem dd_D_take_45 : decode bb_D_take 45 = .ok (.getfield 27, 3) := by decide +kernel
theorem dd_D_take_48 : decode bb_D_take 48 = .ok (.getfield 58, 3) := by decide +kernel
theorem dd_D_take_51 : decode bb_D_take 51 = .ok (.if_icmp .lt 17, 3) := by decide +kernel
theorem dd_D_take_54 : decode bb_D_take 54 = .ok (.aload_n 0, 1) := by decide +kernel
theorem dd_D_take_55 : decode bb_D_take 55 = .ok (.aload_n 0, 1) := by decide +kernel
theorem dd_D_take_56 : decode bb_D_take 56 = .ok (.getfield 27, 3) := by decide +kernel
theorem dd_D_take_59 : decode bb_D_take 59 = .ok (.getfield 61, 3) := by decide +kernel
theorem dd_D_take_62 : decode bb_D_take 62 = .ok (.putfield 27, 3) := by decide +kernel
theorem dd_D_take_65 : decode bb_D_take 65 = .ok (.goto (-35), 3) := by decide +kernel
theorem dd_D_take_68 : decode bb_D_take 68 = .ok (.return_, 1) := by decide +kernel
theorem dd_K_isKind_0 : decode bb_K_isKind 0 = .ok (.iload_n 0, 1) := by decide +kernel
theorem dd_K_isKind_1 : decode bb_K_isKind 1 = .ok (.ifCond .lt 13, 3) := by decide +kernel
theorem dd_K_isKind_4 : decode bb_K_isKind 4 = .ok (.iload_n 0, 1) := by decide +kernel
theorem dd_K_isKind_5 : decode bb_K_isKind 5 = .ok (.bipush 23, 2) := by decide +kernel
theorem dd_K_isKind_7 : decode bb_K_isKind 7 = .ok (.if_icmp .gt 7, 3) := by decide +kernel
theorem dd_K_isKind_10 : decode bb_K_isKind 10 = .ok (.iconst 1, 1) := by decide +kernel
theorem dd_K_isKind_11 : decode bb_K_isKind 11 = .ok (.goto 4, 3) := by decide +kernel
theorem dd_K_isKind_14 : decode bb_K_isKind 14 = .ok (.iconst 0, 1) := by decide +kernel
theorem dd_K_isKind_15 : decode bb_K_isKind 15 = .ok (.ireturn, 1) := by decide +kernel
theorem dd_K_isChange_0 : decode bb_K_isChange 0 = .ok (.iload_n 0, 1) := by decide +kernel
theorem dd_K_isChange_1 : decode bb_K_isChange 1 = .ok (.bipush 18, 2) := by decide +kernel
theorem dd_K_isChange_3 : decode bb_K_isChange 3 = .ok (.if_icmp .lt 7, 3) := by decide +kernel
theorem dd_K_isChange_6 : decode bb_K_isChange 6 = .ok (.iconst 1, 1) := by decide +kernel
theorem dd_K_isChange_7 : decode bb_K_isChange 7 = .ok (.goto 4, 3) := by decide +kernel
theorem dd_K_isChange_10 : decode bb_K_isChange 10 = .ok (.iconst 0, 1) := by decide +kernel
theorem dd_K_isChange_11 : decode bb_K_isChange 11 = .ok (.ireturn, 1) := by decide +kernel
theorem dd_K_isCall_0 : decode bb_K_isCall 0 = .ok (.iload_n 0, 1) := by decide +kernel
theorem dd_K_isCall_1 : decode bb_K_isCall 1 = .ok (.bipush 14, 2) := by decide +kernel
theorem dd_K_isCall_3 : decode bb_K_isCall 3 = .ok (.if_icmp .eq 15, 3) := by decide +kernel
theorem dd_K_isCall_6 : decode bb_K_isCall 6 = .ok (.iload_n 0, 1) := by decide +kernel
theorem dd_K_isCall_7 : decode bb_K_isCall 7 = .ok (.bipush 15, 2) := by decide +kernel
theorem dd_K_isCall_9 : decode bb_K_isCall 9 = .ok (.if_icmp .eq 9, 3) := by decide +kernel
theorem dd_K_isCall_12 : decode bb_K_isCall 12 = .ok (.iload_n 0, 1) := by decide +kernel
theorem dd_K_isCall_13 : decode bb_K_isCall 13 = .ok (.bipush 23, 2) := by decide +kernel
theorem dd_K_isCall_15 : decode bb_K_isCall 15 = .ok (.if_icmp .ne 7, 3) := by decide +kernel
theorem dd_K_isCall_18 : decode bb_K_isCall 18 = .ok (.iconst 1, 1) := by decide +kernel
theorem dd_K_isCall_19 : decode bb_K_isCall 19 = .ok (.goto 4, 3) := by decide +kernel
theorem dd_K_isCall_22 : decode bb_K_isCall 22 = .ok (.iconst 0, 1) := by decide +kernel
theorem dd_K_isCall_23 : decode bb_K_isCall 23 = .ok (.ireturn, 1) := by decide +kernel
theorem dd_K_isCase_0 : decode bb_K_isCase 0 = .ok (.iload_n 0, 1) := by decide +kernel
theorem dd_K_isCase_1 : decode bb_K_isCase 1 = .ok (.bipush 12, 2) := by decide +kernel
theorem dd_K_isCase_3 : decode bb_K_isCase 3 = .ok (.if_icmp .eq 9, 3) := by decide +kernel
theorem dd_K_isCase_6 : decode bb_K_isCase 6 = .ok (.iload_n 0, 1) := by decide +kernel
theorem dd_K_isCase_7 : decode bb_K_isCase 7 = .ok (.bipush 22, 2) := by decide +kernel
theorem dd_K_isCase_9 : decode bb_K_isCase 9 = .ok (.if_icmp .ne 7, 3) := by decide +kernel
theorem dd_K_isCase_12 : decode bb_K_isCase 12 = .ok (.iconst 1, 1) := by decide +kernel
theorem dd_K_isCase_13 : decode bb_K_isCase 13 = .ok (.goto 4, 3) := by decide +kernel
theorem dd_K_isCase_16 : decode bb_K_isCase 16 = .ok (.iconst 0, 1) := by decide +kernel
theorem dd_K_isCase_17 : decode bb_K_isCase 17 = .ok (.ireturn, 1) := by decide +kernel
theorem dd_K_isLet_0 : decode bb_K_isLet 0 = .ok (.iload_n 0, 1) := by decide +kernel
theorem dd_K_isLet_1 : decode bb_K_isLet 1 = .ok (.bipush 11, 2) := by decide +kernel
theorem dd_K_isLet_3 : decode bb_K_isLet 3 = .ok (.if_icmp .eq 9, 3) := by decide +kernel
theorem dd_K_isLet_6 : decode bb_K_isLet 6 = .ok (.iload_n 0, 1) := by decide +kernel
theorem dd_K_isLet_7 : decode bb_K_isLet 7 = .ok (.bipush 21, 2) := by decide +kernel
theorem dd_K_isLet_9 : decode bb_K_isLet 9 = .ok (.if_icmp .ne 7, 3) := by decide +kernel
theorem dd_K_isLet_12 : decode bb_K_isLet 12 = .ok (.iconst 1, 1) := by decide +kernel
theorem dd_K_isLet_13 : decode bb_K_isLet 13 = .ok (.goto 4, 3) := by decide +kernel
theorem dd_K_isLet_16 : decode bb_K_isLet 16 = .ok (.iconst 0, 1) := by decide +kernel
theorem dd_K_isLet_17 : decode bb_K_isLet 17 = .ok (.ireturn, 1) := by decide +kernel
theorem dd_K_isBinder_0 : decode bb_K_isBinder 0 = .ok (.iload_n 0, 1) := by decide +kernel
theorem dd_K_isBinder_1 : decode bb_K_isBinder 1 = .ok (.bipush 11, 2) := by decide +kernel
theorem dd_K_isBinder_3 : decode bb_K_isBinder 3 = .ok (.if_icmp .eq 27, 3) := by decide +kernel
theorem dd_K_isBinder_6 : decode bb_K_isBinder 6 = .ok (.iload_n 0, 1) := by decide +kernel
theorem dd_K_isBinder_7 : decode bb_K_isBinder 7 = .ok (.bipush 12, 2) := by decide +kernel
theorem dd_K_isBinder_9 : decode bb_K_isBinder 9 = .ok (.if_icmp .eq 21, 3) := by decide +kernel
theorem dd_K_isBinder_12 : decode bb_K_isBinder 12 = .ok (.iload_n 0, 1) := by decide +kernel
theorem dd_K_isBinder_13 : decode bb_K_isBinder 13 = .ok (.bipush 18, 2) := by decide +kernel
theorem dd_K_isBinder_15 : decode bb_K_isBinder 15 = .ok (.if_icmp .eq 15, 3) := by decide +kernel
theorem dd_K_isBinder_18 : decode bb_K_isBinder 18 = .ok (.iload_n 0, 1) := by decide +kernel
theorem dd_K_isBinder_19 : decode bb_K_isBinder 19 = .ok (.bipush 21, 2) := by decide +kernel
theorem dd_K_isBinder_21 : decode bb_K_isBinder 21 = .ok (.if_icmp .eq 9, 3) := by decide +kernel
theorem dd_K_isBinder_24 : decode bb_K_isBinder 24 = .ok (.iload_n 0, 1) := by decide +kernel
theorem dd_K_isBinder_25 : decode bb_K_isBinder 25 = .ok (.bipush 22, 2) := by decide +kernel
theorem dd_K_isBinder_27 : decode bb_K_isBinder 27 = .ok (.if_icmp .ne 7, 3) := by decide +kernel
theorem dd_K_isBinder_30 : decode bb_K_isBinder 30 = .ok (.iconst 1, 1) := by decide +kernel
theorem dd_K_isBinder_31 : decode bb_K_isBinder 31 = .ok (.goto 4, 3) := by decide +kernel
theorem dd_K_isBinder_34 : decode bb_K_isBinder 34 = .ok (.iconst 0, 1) := by decide +kernel
theorem dd_K_isBinder_35 : decode bb_K_isBinder 35 = .ok (.ireturn, 1) := by decide +kernel
theorem dd_K_isAsLastPart_0 : decode bb_K_isAsLastPart 0 = .ok (.iload_n 0, 1) := by decide +kernel
theorem dd_K_isAsLastPart_1 : decode bb_K_isAsLastPart 1 = .ok (.bipush 10, 2) := by decide +kernel
theorem dd_K_isAsLastPart_3 : decode bb_K_isAsLastPart 3 = .ok (.if_icmp .lt 9, 3) := by decide +kernel
theorem dd_K_isAsLastPart_6 : decode bb_K_isAsLastPart 6 = .ok (.iload_n 0, 1) := by decide +kernel
theorem dd_K_isAsLastPart_7 : decode bb_K_isAsLastPart 7 = .ok (.bipush 12, 2) := by decide +kernel
theorem dd_K_isAsLastPart_9 : decode bb_K_isAsLastPart 9 = .ok (.if_icmp .le 15, 3) := by decide +kernel
theorem dd_K_isAsLastPart_12 : decode bb_K_isAsLastPart 12 = .ok (.iload_n 0, 1) := by decide +kernel
theorem dd_K_isAsLastPart_13 : decode bb_K_isAsLastPart 13 = .ok (.bipush 18, 2) := by decide +kernel
theorem dd_K_isAsLastPart_15 : decode bb_K_isAsLastPart 15 = .ok (.if_icmp .lt 13, 3) := by decide +kernel
theorem dd_K_isAsLastPart_18 : decode bb_K_isAsLastPart 18 = .ok (.iload_n 0, 1) := by decide +kernel
theorem dd_K_isAsLastPart_19 : decode bb_K_isAsLastPart 19 = .ok (.bipush 22, 2) := by decide +kernel
theorem dd_K_isAsLastPart_21 : decode bb_K_isAsLastPart 21 = .ok (.if_icmp .gt 7, 3) := by decide +kernel
theorem dd_K_isAsLastPart_24 : decode bb_K_isAsLastPart 24 = .ok (.iconst 1, 1) := by decide +kernel
theorem dd_K_isAsLastPart_25 : decode bb_K_isAsLastPart 25 = .ok (.goto 4, 3) := by decide +kernel
theorem dd_K_isAsLastPart_28 : decode bb_K_isAsLastPart 28 = .ok (.iconst 0, 1) := by decide +kernel
theorem dd_K_isAsLastPart_29 : decode bb_K_isAsLastPart 29 = .ok (.ireturn, 1) := by decide +kernel
theorem dd_K_wantsChange_0 : decode bb_K_wantsChange 0 = .ok (.iload_n 0, 1) := by decide +kernel
theorem dd_K_wantsChange_1 : decode bb_K_wantsChange 1 = .ok (.tableswitch 55 16 22 #[43, 43, 45, 55, 45, 45, 45], 43) := by decide +kernel
theorem dd_K_wantsChange_44 : decode bb_K_wantsChange 44 = .ok (.iconst 1, 1) := by decide +kernel
theorem dd_K_wantsChange_45 : decode bb_K_wantsChange 45 = .ok (.ireturn, 1) := by decide +kernel
theorem dd_K_wantsChange_46 : decode bb_K_wantsChange 46 = .ok (.iload_n 1, 1) := by decide +kernel
theorem dd_K_wantsChange_47 : decode bb_K_wantsChange 47 = .ok (.ifCond .le 7, 3) := by decide +kernel
theorem dd_K_wantsChange_50 : decode bb_K_wantsChange 50 = .ok (.iconst 1, 1) := by decide +kernel
theorem dd_K_wantsChange_51 : decode bb_K_wantsChange 51 = .ok (.goto 4, 3) := by decide +kernel
theorem dd_K_wantsChange_54 : decode bb_K_wantsChange 54 = .ok (.iconst 0, 1) := by decide +kernel
theorem dd_K_wantsChange_55 : decode bb_K_wantsChange 55 = .ok (.ireturn, 1) := by decide +kernel
theorem dd_K_wantsChange_56 : decode bb_K_wantsChange 56 = .ok (.iconst 0, 1) := by decide +kernel
theorem dd_K_wantsChange_57 : decode bb_K_wantsChange 57 = .ok (.ireturn, 1) := by decide +kernel
theorem dd_K_partsFit_0 : decode bb_K_partsFit 0 = .ok (.iload_n 0, 1) := by decide +kernel
theorem dd_K_partsFit_1 : decode bb_K_partsFit 1 = .ok (.invokestatic 11, 3) := by decide +kernel
theorem dd_K_partsFit_4 : decode bb_K_partsFit 4 = .ok (.ifCond .ne 5, 3) := by decide +kernel
theorem dd_K_partsFit_7 : decode bb_K_partsFit 7 = .ok (.iconst 0, 1) := by decide +kernel
theorem dd_K_partsFit_8 : decode bb_K_partsFit 8 = .ok (.ireturn, 1) := by decide +kernel
theorem dd_K_partsFit_9 : decode bb_K_partsFit 9 = .ok (.getstatic 15, 3) := by decide +kernel
theorem dd_K_partsFit_12 : decode bb_K_partsFit 12 = .ok (.iload_n 0, 1) := by decide +kernel
theorem dd_K_partsFit_13 : decode bb_K_partsFit 13 = .ok (.iaload, 1) := by decide +kernel
theorem dd_K_partsFit_14 : decode bb_K_partsFit 14 = .ok (.iconst (-1), 1) := by decide +kernel
theorem dd_K_partsFit_15 : decode bb_K_partsFit 15 = .ok (.if_icmp .ne 15, 3) := by decide +kernel
theorem dd_K_partsFit_18 : decode bb_K_partsFit 18 = .ok (.iload_n 1, 1) := by decide +kernel
theorem dd_K_partsFit_19 : decode bb_K_partsFit 19 = .ok (.ifCond .lt 7, 3) := by decide +kernel
theorem dd_K_partsFit_22 : decode bb_K_partsFit 22 = .ok (.iconst 1, 1) := by decide +kernel
theorem dd_K_partsFit_23 : decode bb_K_partsFit 23 = .ok (.goto 21, 3) := by decide +kernel
theorem dd_K_partsFit_26 : decode bb_K_partsFit 26 = .ok (.iconst 0, 1) := by decide +kernel
theorem dd_K_partsFit_27 : decode bb_K_partsFit 27 = .ok (.goto 17, 3) := by decide +kernel
theorem dd_K_partsFit_30 : decode bb_K_partsFit 30 = .ok (.iload_n 1, 1) := by decide +kernel
theorem dd_K_partsFit_31 : decode bb_K_partsFit 31 = .ok (.getstatic 15, 3) := by decide +kernel
theorem dd_K_partsFit_34 : decode bb_K_partsFit 34 = .ok (.iload_n 0, 1) := by decide +kernel
theorem dd_K_partsFit_35 : decode bb_K_partsFit 35 = .ok (.iaload, 1) := by decide +kernel
theorem dd_K_partsFit_36 : decode bb_K_partsFit 36 = .ok (.if_icmp .ne 7, 3) := by decide +kernel
theorem dd_K_partsFit_39 : decode bb_K_partsFit 39 = .ok (.iconst 1, 1) := by decide +kernel
theorem dd_K_partsFit_40 : decode bb_K_partsFit 40 = .ok (.goto 4, 3) := by decide +kernel
theorem dd_K_partsFit_43 : decode bb_K_partsFit 43 = .ok (.iconst 0, 1) := by decide +kernel
theorem dd_K_partsFit_44 : decode bb_K_partsFit 44 = .ok (.ireturn, 1) := by decide +kernel
theorem dd_K_namesFit_0 : decode bb_K_namesFit 0 = .ok (.iload_n 0, 1) := by decide +kernel
theorem dd_K_namesFit_1 : decode bb_K_namesFit 1 = .ok (.iconst 1, 1) := by decide +kernel
theorem dd_K_namesFit_2 : decode bb_K_namesFit 2 = .ok (.if_icmp .eq 17, 3) := by decide +kernel
theorem dd_K_namesFit_5 : decode bb_K_namesFit 5 = .ok (.iload_n 0, 1) := by decide +kernel
theorem dd_K_namesFit_6 : decode bb_K_namesFit 6 = .ok (.invokestatic 19, 3) := by decide +kernel
theorem dd_K_namesFit_9 : decode bb_K_namesFit 9 = .ok (.ifCond .ne 10, 3) := by decide +kernel
theorem dd_K_namesFit_12 : decode bb_K_namesFit 12 = .ok (.iload_n 0, 1) := by decide +kernel
theorem dd_K_namesFit_13 : decode bb_K_namesFit 13 = .ok (.invokestatic 22, 3) := by decide +kernel
theorem dd_K_namesFit_16 : decode bb_K_namesFit 16 = .ok (.ifCond .eq 7, 3) := by decide +kernel
theorem dd_K_namesFit_19 : decode bb_K_namesFit 19 = .ok (.iconst 1, 1) := by decide +kernel
theorem dd_K_namesFit_20 : decode bb_K_namesFit 20 = .ok (.goto 4, 3) := by decide +kernel
theorem dd_K_namesFit_23 : decode bb_K_namesFit 23 = .ok (.iconst 0, 1) := by decide +kernel
theorem dd_K_namesFit_24 : decode bb_K_namesFit 24 = .ok (.istore 5, 2) := by decide +kernel
theorem dd_K_namesFit_26 : decode bb_K_namesFit 26 = .ok (.iload 5, 2) := by decide +kernel
theorem dd_K_namesFit_28 : decode bb_K_namesFit 28 = .ok (.ifCond .eq 17, 3) := by decide +kernel
theorem dd_K_namesFit_31 : decode bb_K_namesFit 31 = .ok (.lload_n 1, 1) := by decide +kernel
theorem dd_K_namesFit_32 : decode bb_K_namesFit 32 = .ok (.lconst 0, 1) := by decide +kernel
theorem dd_K_namesFit_33 : decode bb_K_namesFit 33 = .ok (.lcmp, 1) := by decide +kernel
theorem dd_K_namesFit_34 : decode bb_K_namesFit 34 = .ok (.ifCond .le 7, 3) := by decide +kernel
theorem dd_K_namesFit_37 : decode bb_K_namesFit 37 = .ok (.iconst 1, 1) := by decide +kernel
theorem dd_K_namesFit_38 : decode bb_K_namesFit 38 = .ok (.goto 18, 3) := by decide +kernel
theorem dd_K_namesFit_41 : decode bb_K_namesFit 41 = .ok (.iconst 0, 1) := by decide +kernel
theorem dd_K_namesFit_42 : decode bb_K_namesFit 42 = .ok (.goto 14, 3) := by decide +kernel
theorem dd_K_namesFit_45 : decode bb_K_namesFit 45 = .ok (.lload_n 1, 1) := by decide +kernel
theorem dd_K_namesFit_46 : decode bb_K_namesFit 46 = .ok (.lconst 0, 1) := by decide +kernel
theorem dd_K_namesFit_47 : decode bb_K_namesFit 47 = .ok (.lcmp, 1) := by decide +kernel
theorem dd_K_namesFit_48 : decode bb_K_namesFit 48 = .ok (.ifCond .ne 7, 3) := by decide +kernel
theorem dd_K_namesFit_51 : decode bb_K_namesFit 51 = .ok (.iconst 1, 1) := by decide +kernel
theorem dd_K_namesFit_52 : decode bb_K_namesFit 52 = .ok (.goto 4, 3) := by decide +kernel
theorem dd_K_namesFit_55 : decode bb_K_namesFit 55 = .ok (.iconst 0, 1) := by decide +kernel
theorem dd_K_namesFit_56 : decode bb_K_namesFit 56 = .ok (.istore 6, 2) := by decide +kernel
theorem dd_K_namesFit_58 : decode bb_K_namesFit 58 = .ok (.iload_n 0, 1) := by decide +kernel
theorem dd_K_namesFit_59 : decode bb_K_namesFit 59 = .ok (.invokestatic 25, 3) := by decide +kernel
theorem dd_K_namesFit_62 : decode bb_K_namesFit 62 = .ok (.ifCond .eq 23, 3) := by decide +kernel
theorem dd_K_namesFit_65 : decode bb_K_namesFit 65 = .ok (.lload_n 3, 1) := by decide +kernel
theorem dd_K_namesFit_66 : decode bb_K_namesFit 66 = .ok (.lconst 0, 1) := by decide +kernel
theorem dd_K_namesFit_67 : decode bb_K_namesFit 67 = .ok (.lcmp, 1) := by decide +kernel
theorem dd_K_namesFit_68 : decode bb_K_namesFit 68 = .ok (.ifCond .le 13, 3) := by decide +kernel
theorem dd_K_namesFit_71 : decode bb_K_namesFit 71 = .ok (.lload_n 3, 1) := by decide +kernel
theorem dd_K_namesFit_72 : decode bb_K_namesFit 72 = .ok (.lload_n 1, 1) := by decide +kernel
theorem dd_K_namesFit_73 : decode bb_K_namesFit 73 = .ok (.lcmp, 1) := by decide +kernel
theorem dd_K_namesFit_74 : decode bb_K_namesFit 74 = .ok (.ifCond .eq 7, 3) := by decide +kernel
theorem dd_K_namesFit_77 : decode bb_K_namesFit 77 = .ok (.iconst 1, 1) := by decide +kernel
theorem dd_K_namesFit_78 : decode bb_K_namesFit 78 = .ok (.goto 18, 3) := by decide +kernel
theorem dd_K_namesFit_81 : decode bb_K_namesFit 81 = .ok (.iconst 0, 1) := by decide +kernel
theorem dd_K_namesFit_82 : decode bb_K_namesFit 82 = .ok (.goto 14, 3) := by decide +kernel
theorem dd_K_namesFit_85 : decode bb_K_namesFit 85 = .ok (.lload_n 3, 1) := by decide +kernel
theorem dd_K_namesFit_86 : decode bb_K_namesFit 86 = .ok (.lconst 0, 1) := by decide +kernel
theorem dd_K_namesFit_87 : decode bb_K_namesFit 87 = .ok (.lcmp, 1) := by decide +kernel
theorem dd_K_namesFit_88 : decode bb_K_namesFit 88 = .ok (.ifCond .ne 7, 3) := by decide +kernel
theorem dd_K_namesFit_91 : decode bb_K_namesFit 91 = .ok (.iconst 1, 1) := by decide +kernel
theorem dd_K_namesFit_92 : decode bb_K_namesFit 92 = .ok (.goto 4, 3) := by decide +kernel
theorem dd_K_namesFit_95 : decode bb_K_namesFit 95 = .ok (.iconst 0, 1) := by decide +kernel
theorem dd_K_namesFit_96 : decode bb_K_namesFit 96 = .ok (.istore 7, 2) := by decide +kernel
theorem dd_K_namesFit_98 : decode bb_K_namesFit 98 = .ok (.iload 6, 2) := by decide +kernel
theorem dd_K_namesFit_100 : decode bb_K_namesFit 100 = .ok (.ifCond .eq 12, 3) := by decide +kernel
theorem dd_K_namesFit_103 : decode bb_K_namesFit 103 = .ok (.iload 7, 2) := by decide +kernel
theorem dd_K_namesFit_105 : decode bb_K_namesFit 105 = .ok (.ifCond .eq 7, 3) := by decide +kernel
theorem dd_K_namesFit_108 : decode bb_K_namesFit 108 = .ok (.iconst 1, 1) := by decide +kernel
theorem dd_K_namesFit_109 : decode bb_K_namesFit 109 = .ok (.goto 4, 3) := by decide +kernel
theorem dd_K_namesFit_112 : decode bb_K_namesFit 112 = .ok (.iconst 0, 1) := by decide +kernel
theorem dd_K_namesFit_113 : decode bb_K_namesFit 113 = .ok (.ireturn, 1) := by decide +kernel
theorem dd_K_ownType_0 : decode bb_K_ownType 0 = .ok (.iload_n 0, 1) := by decide +kernel
theorem dd_K_ownType_1 : decode bb_K_ownType 1 = .ok (.ifCond .eq 14, 3) := by decide +kernel
theorem dd_K_ownType_4 : decode bb_K_ownType 4 = .ok (.iload_n 0, 1) := by decide +kernel
theorem dd_K_ownType_5 : decode bb_K_ownType 5 = .ok (.iconst 3, 1) := by decide +kernel
theorem dd_K_ownType_6 : decode bb_K_ownType 6 = .ok (.if_icmp .lt 11, 3) := by decide +kernel
theorem dd_K_ownType_9 : decode bb_K_ownType 9 = .ok (.iload_n 0, 1) := by decide +kernel
theorem dd_K_ownType_10 : decode bb_K_ownType 10 = .ok (.bipush 9, 2) := by decide +kernel
theorem dd_K_ownType_12 : decode bb_K_ownType 12 = .ok (.if_icmp .gt 5, 3) := by decide +kernel
theorem dd_K_ownType_15 : decode bb_K_ownType 15 = .ok (.iconst 0, 1) := by decide +kernel
theorem dd_K_ownType_16 : decode bb_K_ownType 16 = .ok (.ireturn, 1) := by decide +kernel
theorem dd_K_ownType_17 : decode bb_K_ownType 17 = .ok (.iload_n 0, 1) := by decide +kernel
theorem dd_K_ownType_18 : decode bb_K_ownType 18 = .ok (.lookupswitch 48 #[(2, 42), (13, 42), (16, 44), (17, 46)], 42) := by decide +kernel
theorem dd_K_ownType_60 : decode bb_K_ownType 60 = .ok (.iconst 1, 1) := by decide +kernel
theorem dd_K_ownType_61 : decode bb_K_ownType 61 = .ok (.ireturn, 1) := by decide +kernel
theorem dd_K_ownType_62 : decode bb_K_ownType 62 = .ok (.iconst 2, 1) := by decide +kernel
theorem dd_K_ownType_63 : decode bb_K_ownType 63 = .ok (.ireturn, 1) := by decide +kernel
theorem dd_K_ownType_64 : decode bb_K_ownType 64 = .ok (.iconst 3, 1) := by decide +kernel
theorem dd_K_ownType_65 : decode bb_K_ownType 65 = .ok (.ireturn, 1) := by decide +kernel
theorem dd_K_ownType_66 : decode bb_K_ownType 66 = .ok (.iconst (-1), 1) := by decide +kernel
theorem dd_K_ownType_67 : decode bb_K_ownType 67 = .ok (.ireturn, 1) := by decide +kernel
theorem dd_N_init_0 : decode bb_N_init 0 = .ok (.aload_n 0, 1) := by decide +kernel
theorem dd_N_init_1 : decode bb_N_init 1 = .ok (.invokespecial 3, 3) := by decide +kernel
theorem dd_N_init_4 : decode bb_N_init 4 = .ok (.aload_n 0, 1) := by decide +kernel
theorem dd_N_init_5 : decode bb_N_init 5 = .ok (.iconst 0, 1) := by decide +kernel
theorem dd_N_init_6 : decode bb_N_init 6 = .ok (.putfield 9, 3) := by decide +kernel
theorem dd_N_init_9 : decode bb_N_init 9 = .ok (.aload_n 0, 1) := by decide +kernel
theorem dd_N_init_10 : decode bb_N_init 10 = .ok (.iconst (-1), 1) := by decide +kernel
theorem dd_N_init_11 : decode bb_N_init 11 = .ok (.putfield 15, 3) := by decide +kernel
theorem dd_N_init_14 : decode bb_N_init 14 = .ok (.aload_n 0, 1) := by decide +kernel
theorem dd_N_init_15 : decode bb_N_init 15 = .ok (.iconst (-1), 1) := by decide +kernel
theorem dd_N_init_16 : decode bb_N_init 16 = .ok (.putfield 18, 3) := by decide +kernel
theorem dd_N_init_19 : decode bb_N_init 19 = .ok (.aload_n 0, 1) := by decide +kernel
theorem dd_N_init_20 : decode bb_N_init 20 = .ok (.iconst (-1), 1) := by decide +kernel
theorem dd_N_init_21 : decode bb_N_init 21 = .ok (.putfield 21, 3) := by decide +kernel
theorem dd_N_init_24 : decode bb_N_init 24 = .ok (.aload_n 0, 1) := by decide +kernel
theorem dd_N_init_25 : decode bb_N_init 25 = .ok (.aconst_null, 1) := by decide +kernel
theorem dd_N_init_26 : decode bb_N_init 26 = .ok (.putfield 24, 3) := by decide +kernel
theorem dd_N_init_29 : decode bb_N_init 29 = .ok (.aload_n 0, 1) := by decide +kernel
theorem dd_N_init_30 : decode bb_N_init 30 = .ok (.iconst 0, 1) := by decide +kernel
theorem dd_N_init_31 : decode bb_N_init 31 = .ok (.putfield 28, 3) := by decide +kernel
theorem dd_N_init_34 : decode bb_N_init 34 = .ok (.aload_n 0, 1) := by decide +kernel
theorem dd_N_init_35 : decode bb_N_init 35 = .ok (.iload_n 1, 1) := by decide +kernel
theorem dd_N_init_36 : decode bb_N_init 36 = .ok (.putfield 31, 3) := by decide +kernel
theorem dd_N_init_39 : decode bb_N_init 39 = .ok (.aload_n 0, 1) := by decide +kernel
theorem dd_N_init_40 : decode bb_N_init 40 = .ok (.aload_n 2, 1) := by decide +kernel
theorem dd_N_init_41 : decode bb_N_init 41 = .ok (.putfield 34, 3) := by decide +kernel
theorem dd_N_init_44 : decode bb_N_init 44 = .ok (.aload_n 0, 1) := by decide +kernel
theorem dd_N_init_45 : decode bb_N_init 45 = .ok (.aload_n 2, 1) := by decide +kernel
theorem dd_N_init_46 : decode bb_N_init 46 = .ok (.getfield 37, 3) := by decide +kernel
theorem dd_N_init_49 : decode bb_N_init 49 = .ok (.putfield 43, 3) := by decide +kernel
theorem dd_N_init_52 : decode bb_N_init 52 = .ok (.aload_n 0, 1) := by decide +kernel
theorem dd_N_init_53 : decode bb_N_init 53 = .ok (.aload_n 2, 1) := by decide +kernel
theorem dd_N_init_54 : decode bb_N_init 54 = .ok (.getfield 37, 3) := by decide +kernel
theorem dd_N_init_57 : decode bb_N_init 57 = .ok (.ifnonnull 7, 3) := by decide +kernel
theorem dd_N_init_60 : decode bb_N_init 60 = .ok (.iconst 0, 1) := by decide +kernel
theorem dd_N_init_61 : decode bb_N_init 61 = .ok (.goto 10, 3) := by decide +kernel
theorem dd_N_init_64 : decode bb_N_init 64 = .ok (.aload_n 2, 1) := by decide +kernel
theorem dd_N_init_65 : decode bb_N_init 65 = .ok (.getfield 37, 3) := by decide +kernel
theorem dd_N_init_68 : decode bb_N_init 68 = .ok (.getfield 9, 3) := by decide +kernel
theorem dd_N_init_71 : decode bb_N_init 71 = .ok (.putfield 46, 3) := by decide +kernel
theorem dd_N_init_74 : decode bb_N_init 74 = .ok (.aload_n 0, 1) := by decide +kernel
theorem dd_N_init_75 : decode bb_N_init 75 = .ok (.iload_n 3, 1) := by decide +kernel
theorem dd_N_init_76 : decode bb_N_init 76 = .ok (.putfield 49, 3) := by decide +kernel
theorem dd_N_init_79 : decode bb_N_init 79 = .ok (.aload_n 0, 1) := by decide +kernel
theorem dd_N_init_80 : decode bb_N_init 80 = .ok (.lload 4, 2) := by decide +kernel
theorem dd_N_init_82 : decode bb_N_init 82 = .ok (.putfield 52, 3) := by decide +kernel
theorem dd_N_init_85 : decode bb_N_init 85 = .ok (.aload_n 0, 1) := by decide +kernel
theorem dd_N_init_86 : decode bb_N_init 86 = .ok (.lload 6, 2) := by decide +kernel
theorem dd_N_init_88 : decode bb_N_init 88 = .ok (.putfield 56, 3) := by decide +kernel
theorem dd_N_init_91 : decode bb_N_init 91 = .ok (.aload_n 0, 1) := by decide +kernel
theorem dd_N_init_92 : decode bb_N_init 92 = .ok (.iload 8, 2) := by decide +kernel
theorem dd_N_init_94 : decode bb_N_init 94 = .ok (.putfield 59, 3) := by decide +kernel
theorem dd_N_init_97 : decode bb_N_init 97 = .ok (.return_, 1) := by decide +kernel
theorem dd_N_isLastPart_0 : decode bb_N_isLastPart 0 = .ok (.aload_n 0, 1) := by decide +kernel
theorem dd_N_isLastPart_1 : decode bb_N_isLastPart 1 = .ok (.getfield 43, 3) := by decide +kernel
theorem dd_N_isLastPart_4 : decode bb_N_isLastPart 4 = .ok (.ifnull 23, 3) := by decide +kernel
theorem dd_N_isLastPart_7 : decode bb_N_isLastPart 7 = .ok (.aload_n 0, 1) := by decide +kernel
theorem dd_N_isLastPart_8 : decode bb_N_isLastPart 8 = .ok (.getfield 46, 3) := by decide +kernel
theorem dd_N_isLastPart_11 : decode bb_N_isLastPart 11 = .ok (.aload_n 0, 1) := by decide +kernel
theorem dd_N_isLastPart_12 : decode bb_N_isLastPart 12 = .ok (.getfield 43, 3) := by decide +kernel
theorem dd_N_isLastPart_15 : decode bb_N_isLastPart 15 = .ok (.getfield 59, 3) := by decide +kernel
theorem dd_N_isLastPart_18 : decode bb_N_isLastPart 18 = .ok (.iconst 1, 1) := by decide +kernel
theorem dd_N_isLastPart_19 : decode bb_N_isLastPart 19 = .ok (.isub, 1) := by decide +kernel
theorem dd_N_isLastPart_20 : decode bb_N_isLastPart 20 = .ok (.if_icmp .ne 7, 3) := by decide +kernel
theorem dd_N_isLastPart_23 : decode bb_N_isLastPart 23 = .ok (.iconst 1, 1) := by decide +kernel
theorem dd_N_isLastPart_24 : decode bb_N_isLastPart 24 = .ok (.goto 4, 3) := by decide +kernel
theorem dd_N_isLastPart_27 : decode bb_N_isLastPart 27 = .ok (.iconst 0, 1) := by decide +kernel
theorem dd_N_isLastPart_28 : decode bb_N_isLastPart 28 = .ok (.ireturn, 1) := by decide +kernel
theorem dd_N_countVariables_0 : decode bb_N_countVariables 0 = .ok (.aload_n 0, 1) := by decide +kernel
theorem dd_N_countVariables_1 : decode bb_N_countVariables 1 = .ok (.getfield 43, 3) := by decide +kernel
theorem dd_N_countVariables_4 : decode bb_N_countVariables 4 = .ok (.ifnonnull 17, 3) := by decide +kernel
theorem dd_N_countVariables_7 : decode bb_N_countVariables 7 = .ok (.aload_n 0, 1) := by decide +kernel
theorem dd_N_countVariables_8 : decode bb_N_countVariables 8 = .ok (.aload_n 0, 1) := by decide +kernel
theorem dd_N_countVariables_9 : decode bb_N_countVariables 9 = .ok (.getfield 34, 3) := by decide +kernel
theorem dd_N_countVariables_12 : decode bb_N_countVariables 12 = .ok (.getfield 62, 3) := by decide +kernel
theorem dd_N_countVariables_15 : decode bb_N_countVariables 15 = .ok (.putfield 28, 3) := by decide +kernel
theorem dd_N_countVariables_18 : decode bb_N_countVariables 18 = .ok (.goto 33, 3) := by decide +kernel
theorem dd_N_countVariables_21 : decode bb_N_countVariables 21 = .ok (.aload_n 0, 1) := by decide +kernel
theorem dd_N_countVariables_22 : decode bb_N_countVariables 22 = .ok (.aload_n 0, 1) := by decide +kernel
theorem dd_N_countVariables_23 : decode bb_N_countVariables 23 = .ok (.getfield 43, 3) := by decide +kernel
theorem dd_N_countVariables_26 : decode bb_N_countVariables 26 = .ok (.getfield 28, 3) := by decide +kernel
theorem dd_N_countVariables_29 : decode bb_N_countVariables 29 = .ok (.aload_n 0, 1) := by decide +kernel
theorem dd_N_countVariables_30 : decode bb_N_countVariables 30 = .ok (.invokevirtual 65, 3) := by decide +kernel
theorem dd_N_countVariables_33 : decode bb_N_countVariables 33 = .ok (.ifCond .eq 13, 3) := by decide +kernel
theorem dd_N_countVariables_36 : decode bb_N_countVariables 36 = .ok (.aload_n 0, 1) := by decide +kernel
theorem dd_N_countVariables_37 : decode bb_N_countVariables 37 = .ok (.getfield 43, 3) := by decide +kernel
theorem dd_N_countVariables_40 : decode bb_N_countVariables 40 = .ok (.invokevirtual 69, 3) := by decide +kernel
theorem dd_N_countVariables_43 : decode bb_N_countVariables 43 = .ok (.goto 4, 3) := by decide +kernel
theorem dd_N_countVariables_46 : decode bb_N_countVariables 46 = .ok (.iconst 0, 1) := by decide +kernel
theorem dd_N_countVariables_47 : decode bb_N_countVariables 47 = .ok (.iadd, 1) := by decide +kernel
theorem dd_N_countVariables_48 : decode bb_N_countVariables 48 = .ok (.putfield 28, 3) := by decide +kernel
theorem dd_N_countVariables_51 : decode bb_N_countVariables 51 = .ok (.return_, 1) := by decide +kernel
theorem dd_N_variablesOfLastPart_0 : decode bb_N_variablesOfLastPart 0 = .ok (.aload_n 0, 1) := by decide +kernel
theorem dd_N_variablesOfLastPart_1 : decode bb_N_variablesOfLastPart 1 = .ok (.getfield 49, 3) := by decide +kernel
theorem dd_N_variablesOfLastPart_4 : decode bb_N_variablesOfLastPart 4 = .ok (.invokestatic 73, 3) := by decide +kernel
theorem dd_N_variablesOfLastPart_7 : decode bb_N_variablesOfLastPart 7 = .ok (.ifCond .ne 5, 3) := by decide +kernel
theorem dd_N_variablesOfLastPart_10 : decode bb_N_variablesOfLastPart 10 = .ok (.iconst 0, 1) := by decide +kernel
theorem dd_N_variablesOfLastPart_11 : decode bb_N_variablesOfLastPart 11 = .ok (.ireturn, 1) := by decide +kernel
theorem dd_N_variablesOfLastPart_12 : decode bb_N_variablesOfLastPart 12 = .ok (.aload_n 0, 1) := by decide +kernel
theorem dd_N_variablesOfLastPart_13 : decode bb_N_variablesOfLastPart 13 = .ok (.getfield 49, 3) := by decide +kernel
theorem dd_N_variablesOfLastPart_16 : decode bb_N_variablesOfLastPart 16 = .ok (.invokestatic 79, 3) := by decide +kernel
theorem dd_N_variablesOfLastPart_19 : decode bb_N_variablesOfLastPart 19 = .ok (.ifCond .eq 7, 3) := by decide +kernel
theorem dd_N_variablesOfLastPart_22 : decode bb_N_variablesOfLastPart 22 = .ok (.iconst 2, 1) := by decide +kernel
theorem dd_N_variablesOfLastPart_23 : decode bb_N_variablesOfLastPart 23 = .ok (.goto 4, 3) := by decide +kernel
theorem dd_N_variablesOfLastPart_26 : decode bb_N_variablesOfLastPart 26 = .ok (.iconst 1, 1) := by decide +kernel
theorem dd_N_variablesOfLastPart_27 : decode bb_N_variablesOfLastPart 27 = .ok (.ireturn, 1) := by decide +kernel
theorem dd_N_bindsInLastPart_0 : decode bb_N_bindsInLastPart 0 = .ok (.aload_n 0, 1) := by decide +kernel
theorem dd_N_bindsInLastPart_1 : decode bb_N_bindsInLastPart 1 = .ok (.getfield 49, 3) := by decide +kernel
theorem dd_N_bindsInLastPart_4 : decode bb_N_bindsInLastPart 4 = .ok (.invokestatic 73, 3) := by decide +kernel
theorem dd_N_bindsInLastPart_7 : decode bb_N_bindsInLastPart 7 = .ok (.ifCond .eq 25, 3) := by decide +kernel
theorem dd_N_bindsInLastPart_10 : decode bb_N_bindsInLastPart 10 = .ok (.aload_n 0, 1) := by decide +kernel
theorem dd_N_bindsInLastPart_11 : decode bb_N_bindsInLastPart 11 = .ok (.getfield 52, 3) := by decide +kernel
theorem dd_N_bindsInLastPart_14 : decode bb_N_bindsInLastPart 14 = .ok (.lload_n 1, 1) := by decide +kernel
theorem dd_N_bindsInLastPart_15 : decode bb_N_bindsInLastPart 15 = .ok (.lcmp, 1) := by decide +kernel
theorem dd_N_bindsInLastPart_16 : decode bb_N_bindsInLastPart 16 = .ok (.ifCond .eq 12, 3) := by decide +kernel
theorem dd_N_bindsInLastPart_19 : decode bb_N_bindsInLastPart 19 = .ok (.aload_n 0, 1) := by decide +kernel
theorem dd_N_bindsInLastPart_20 : decode bb_N_bindsInLastPart 20 = .ok (.getfield 56, 3) := by decide +kernel
theorem dd_N_bindsInLastPart_23 : decode bb_N_bindsInLastPart 23 = .ok (.lload_n 1, 1) := by decide +kernel
theorem dd_N_bindsInLastPart_24 : decode bb_N_bindsInLastPart 24 = .ok (.lcmp, 1) := by decide +kernel
theorem dd_N_bindsInLastPart_25 : decode bb_N_bindsInLastPart 25 = .ok (.ifCond .ne 7, 3) := by decide +kernel
theorem dd_N_bindsInLastPart_28 : decode bb_N_bindsInLastPart 28 = .ok (.iconst 1, 1) := by decide +kernel
theorem dd_N_bindsInLastPart_29 : decode bb_N_bindsInLastPart 29 = .ok (.goto 4, 3) := by decide +kernel
theorem dd_N_bindsInLastPart_32 : decode bb_N_bindsInLastPart 32 = .ok (.iconst 0, 1) := by decide +kernel
theorem dd_N_bindsInLastPart_33 : decode bb_N_bindsInLastPart 33 = .ok (.ireturn, 1) := by decide +kernel
theorem dd_N_bind_0 : decode bb_N_bind 0 = .ok (.aload_n 0, 1) := by decide +kernel
theorem dd_N_bind_1 : decode bb_N_bind 1 = .ok (.astore_n 1, 1) := by decide +kernel
theorem dd_N_bind_2 : decode bb_N_bind 2 = .ok (.aload_n 1, 1) := by decide +kernel
theorem dd_N_bind_3 : decode bb_N_bind 3 = .ok (.getfield 43, 3) := by decide +kernel
theorem dd_N_bind_6 : decode bb_N_bind 6 = .ok (.ifnull 65, 3) := by decide +kernel
theorem dd_N_bind_9 : decode bb_N_bind 9 = .ok (.aload_n 1, 1) := by decide +kernel
theorem dd_N_bind_10 : decode bb_N_bind 10 = .ok (.getfield 43, 3) := by decide +kernel
theorem dd_N_bind_13 : decode bb_N_bind 13 = .ok (.astore_n 2, 1) := by decide +kernel
theorem dd_N_bind_14 : decode bb_N_bind 14 = .ok (.aload_n 1, 1) := by decide +kernel
theorem dd_N_bind_15 : decode bb_N_bind 15 = .ok (.invokevirtual 65, 3) := by decide +kernel
theorem dd_N_bind_18 : decode bb_N_bind 18 = .ok (.ifCond .eq 48, 3) := by decide +kernel
theorem dd_N_bind_21 : decode bb_N_bind 21 = .ok (.aload_n 2, 1) := by decide +kernel
theorem dd_N_bind_22 : decode bb_N_bind 22 = .ok (.aload_n 0, 1) := by decide +kernel
theorem dd_N_bind_23 : decode bb_N_bind 23 = .ok (.getfield 52, 3) := by decide +kernel
theorem dd_N_bind_26 : decode bb_N_bind 26 = .ok (.invokevirtual 82, 3) := by decide +kernel
theorem dd_N_bind_29 : decode bb_N_bind 29 = .ok (.ifCond .eq 37, 3) := by decide +kernel
theorem dd_N_bind_32 : decode bb_N_bind 32 = .ok (.aload_n 0, 1) := by decide +kernel
theorem dd_N_bind_33 : decode bb_N_bind 33 = .ok (.aload_n 2, 1) := by decide +kernel
theorem dd_N_bind_34 : decode bb_N_bind 34 = .ok (.getfield 31, 3) := by decide +kernel
theorem dd_N_bind_37 : decode bb_N_bind 37 = .ok (.putfield 21, 3) := by decide +kernel
theorem dd_N_bind_40 : decode bb_N_bind 40 = .ok (.aload_n 0, 1) := by decide +kernel
theorem dd_N_bind_41 : decode bb_N_bind 41 = .ok (.aload_n 2, 1) := by decide +kernel
theorem dd_N_bind_42 : decode bb_N_bind 42 = .ok (.getfield 56, 3) := by decide +kernel
theorem dd_N_bind_45 : decode bb_N_bind 45 = .ok (.aload_n 0, 1) := by decide +kernel
theorem dd_N_bind_46 : decode bb_N_bind 46 = .ok (.getfield 52, 3) := by decide +kernel
theorem dd_N_bind_49 : decode bb_N_bind 49 = .ok (.lcmp, 1) := by decide +kernel
theorem dd_N_bind_50 : decode bb_N_bind 50 = .ok (.ifCond .ne 7, 3) := by decide +kernel
theorem dd_N_bind_53 : decode bb_N_bind 53 = .ok (.iconst 3, 1) := by decide +kernel
theorem dd_N_bind_54 : decode bb_N_bind 54 = .ok (.goto 7, 3) := by decide +kernel
theorem dd_N_bind_57 : decode bb_N_bind 57 = .ok (.aload_n 2, 1) := by decide +kernel
theorem dd_N_bind_58 : decode bb_N_bind 58 = .ok (.getfield 18, 3) := by decide +kernel
theorem dd_N_bind_61 : decode bb_N_bind 61 = .ok (.putfield 15, 3) := by decide +kernel
theorem dd_N_bind_64 : decode bb_N_bind 64 = .ok (.iconst 1, 1) := by decide +kernel
theorem dd_N_bind_65 : decode bb_N_bind 65 = .ok (.ireturn, 1) := by decide +kernel
theorem dd_N_bind_66 : decode bb_N_bind 66 = .ok (.aload_n 2, 1) := by decide +kernel
theorem dd_N_bind_67 : decode bb_N_bind 67 = .ok (.astore_n 1, 1) := by decide +kernel
theorem dd_N_bind_68 : decode bb_N_bind 68 = .ok (.goto (-66), 3) := by decide +kernel
theorem dd_N_bind_71 : decode bb_N_bind 71 = .ok (.aload_n 0, 1) := by decide +kernel
theorem dd_N_bind_72 : decode bb_N_bind 72 = .ok (.getfield 34, 3) := by decide +kernel
theorem dd_N_bind_75 : decode bb_N_bind 75 = .ok (.aload_n 0, 1) := by decide +kernel
theorem dd_N_bind_76 : decode bb_N_bind 76 = .ok (.getfield 52, 3) := by decide +kernel
theorem dd_N_bind_79 : decode bb_N_bind 79 = .ok (.invokevirtual 88, 3) := by decide +kernel
theorem dd_N_bind_82 : decode bb_N_bind 82 = .ok (.istore_n 2, 1) := by decide +kernel
theorem dd_N_bind_83 : decode bb_N_bind 83 = .ok (.aload_n 0, 1) := by decide +kernel
theorem dd_N_bind_84 : decode bb_N_bind 84 = .ok (.iload_n 2, 1) := by decide +kernel
theorem dd_N_bind_85 : decode bb_N_bind 85 = .ok (.iconst (-1), 1) := by decide +kernel
theorem dd_N_bind_86 : decode bb_N_bind 86 = .ok (.if_icmp .ne 7, 3) := by decide +kernel
theorem dd_N_bind_89 : decode bb_N_bind 89 = .ok (.iconst (-1), 1) := by decide +kernel
theorem dd_N_bind_90 : decode bb_N_bind 90 = .ok (.goto 7, 3) := by decide +kernel
theorem dd_N_bind_93 : decode bb_N_bind 93 = .ok (.bipush (-2), 2) := by decide +kernel
theorem dd_N_bind_95 : decode bb_N_bind 95 = .ok (.iload_n 2, 1) := by decide +kernel
theorem dd_N_bind_96 : decode bb_N_bind 96 = .ok (.isub, 1) := by decide +kernel
theorem dd_N_bind_97 : decode bb_N_bind 97 = .ok (.putfield 21, 3) := by decide +kernel
theorem dd_N_bind_100 : decode bb_N_bind 100 = .ok (.aload_n 0, 1) := by decide +kernel
theorem dd_N_bind_101 : decode bb_N_bind 101 = .ok (.aload_n 0, 1) := by decide +kernel
theorem dd_N_bind_102 : decode bb_N_bind 102 = .ok (.getfield 34, 3) := by decide +kernel
theorem dd_N_bind_105 : decode bb_N_bind 105 = .ok (.iload_n 2, 1) := by decide +kernel
theorem dd_N_bind_106 : decode bb_N_bind 106 = .ok (.invokevirtual 92, 3) := by decide +kernel
theorem dd_N_bind_109 : decode bb_N_bind 109 = .ok (.putfield 15, 3) := by decide +kernel
theorem dd_N_bind_112 : decode bb_N_bind 112 = .ok (.iload_n 2, 1) := by decide +kernel
theorem dd_N_bind_113 : decode bb_N_bind 113 = .ok (.iconst (-1), 1) := by decide +kernel
theorem dd_N_bind_114 : decode bb_N_bind 114 = .ok (.if_icmp .eq 7, 3) := by decide +kernel
theorem dd_N_bind_117 : decode bb_N_bind 117 = .ok (.iconst 1, 1) := by decide +kernel
theorem dd_N_bind_118 : decode bb_N_bind 118 = .ok (.goto 4, 3) := by decide +kernel
theorem dd_N_bind_121 : decode bb_N_bind 121 = .ok (.iconst 0, 1) := by decide +kernel
theorem dd_N_bind_122 : decode bb_N_bind 122 = .ok (.ireturn, 1) := by decide +kernel
theorem dd_N_aimAt_0 : decode bb_N_aimAt 0 = .ok (.aload_n 0, 1) := by decide +kernel
theorem dd_N_aimAt_1 : decode bb_N_aimAt 1 = .ok (.getfield 49, 3) := by decide +kernel
theorem dd_N_aimAt_4 : decode bb_N_aimAt 4 = .ok (.bipush 23, 2) := by decide +kernel
theorem dd_N_aimAt_6 : decode bb_N_aimAt 6 = .ok (.if_icmp .ne 7, 3) := by decide +kernel
theorem dd_N_aimAt_9 : decode bb_N_aimAt 9 = .ok (.iconst 1, 1) := by decide +kernel
theorem dd_N_aimAt_10 : decode bb_N_aimAt 10 = .ok (.goto 4, 3) := by decide +kernel
theorem dd_N_aimAt_13 : decode bb_N_aimAt 13 = .ok (.iconst 0, 1) := by decide +kernel
theorem dd_N_aimAt_14 : decode bb_N_aimAt 14 = .ok (.istore_n 2, 1) := by decide +kernel
theorem dd_N_aimAt_15 : decode bb_N_aimAt 15 = .ok (.aload_n 1, 1) := by decide +kernel
theorem dd_N_aimAt_16 : decode bb_N_aimAt 16 = .ok (.ifnull 22, 3) := by decide +kernel
theorem dd_N_aimAt_19 : decode bb_N_aimAt 19 = .ok (.aload_n 1, 1) := by decide +kernel
theorem dd_N_aimAt_20 : decode bb_N_aimAt 20 = .ok (.getfield 96, 3) := by decide +kernel
theorem dd_N_aimAt_23 : decode bb_N_aimAt 23 = .ok (.iload_n 2, 1) := by decide +kernel
theorem dd_N_aimAt_24 : decode bb_N_aimAt 24 = .ok (.if_icmp .ne 14, 3) := by decide +kernel
theorem dd_N_aimAt_27 : decode bb_N_aimAt 27 = .ok (.aload_n 1, 1) := by decide +kernel
theorem dd_N_aimAt_28 : decode bb_N_aimAt 28 = .ok (.getfield 62, 3) := by decide +kernel
theorem dd_N_aimAt_31 : decode bb_N_aimAt 31 = .ok (.aload_n 0, 1) := by decide +kernel
theorem dd_N_aimAt_32 : decode bb_N_aimAt 32 = .ok (.getfield 59, 3) := by decide +kernel
theorem dd_N_aimAt_35 : decode bb_N_aimAt 35 = .ok (.if_icmp .eq 5, 3) := by decide +kernel
theorem dd_N_aimAt_38 : decode bb_N_aimAt 38 = .ok (.iconst 0, 1) := by decide +kernel
theorem dd_N_aimAt_39 : decode bb_N_aimAt 39 = .ok (.ireturn, 1) := by decide +kernel
theorem dd_N_aimAt_40 : decode bb_N_aimAt 40 = .ok (.aload_n 0, 1) := by decide +kernel
theorem dd_N_aimAt_41 : decode bb_N_aimAt 41 = .ok (.aload_n 1, 1) := by decide +kernel
theorem dd_N_aimAt_42 : decode bb_N_aimAt 42 = .ok (.putfield 24, 3) := by decide +kernel
theorem dd_N_aimAt_45 : decode bb_N_aimAt 45 = .ok (.aload_n 0, 1) := by decide +kernel
theorem dd_N_aimAt_46 : decode bb_N_aimAt 46 = .ok (.aload_n 1, 1) := by decide +kernel
theorem dd_N_aimAt_47 : decode bb_N_aimAt 47 = .ok (.getfield 100, 3) := by decide +kernel
theorem dd_N_aimAt_50 : decode bb_N_aimAt 50 = .ok (.putfield 15, 3) := by decide +kernel
theorem dd_N_aimAt_53 : decode bb_N_aimAt 53 = .ok (.iconst 1, 1) := by decide +kernel
theorem dd_N_aimAt_54 : decode bb_N_aimAt 54 = .ok (.ireturn, 1) := by decide +kernel
theorem dd_N_fits_0 : decode bb_N_fits 0 = .ok (.aload_n 0, 1) := by decide +kernel
theorem dd_N_fits_1 : decode bb_N_fits 1 = .ok (.getfield 43, 3) := by decide +kernel
theorem dd_N_fits_4 : decode bb_N_fits 4 = .ok (.ifnonnull 25, 3) := by decide +kernel
theorem dd_N_fits_7 : decode bb_N_fits 7 = .ok (.aload_n 0, 1) := by decide +kernel
theorem dd_N_fits_8 : decode bb_N_fits 8 = .ok (.getfield 15, 3) := by decide +kernel
theorem dd_N_fits_11 : decode bb_N_fits 11 = .ok (.aload_n 0, 1) := by decide +kernel
theorem dd_N_fits_12 : decode bb_N_fits 12 = .ok (.getfield 34, 3) := by decide +kernel
theorem dd_N_fits_15 : decode bb_N_fits 15 = .ok (.getfield 100, 3) := by decide +kernel
theorem dd_N_fits_18 : decode bb_N_fits 18 = .ok (.if_icmp .ne 7, 3) := by decide +kernel
theorem dd_N_fits_21 : decode bb_N_fits 21 = .ok (.iconst 1, 1) := by decide +kernel
theorem dd_N_fits_22 : decode bb_N_fits 22 = .ok (.goto 22, 3) := by decide +kernel
theorem dd_N_fits_25 : decode bb_N_fits 25 = .ok (.iconst 0, 1) := by decide +kernel
theorem dd_N_fits_26 : decode bb_N_fits 26 = .ok (.goto 18, 3) := by decide +kernel
theorem dd_N_fits_29 : decode bb_N_fits 29 = .ok (.aload_n 0, 1) := by decide +kernel
theorem dd_N_fits_30 : decode bb_N_fits 30 = .ok (.getfield 43, 3) := by decide +kernel
theorem dd_N_fits_33 : decode bb_N_fits 33 = .ok (.aload_n 0, 1) := by decide +kernel
theorem dd_N_fits_34 : decode bb_N_fits 34 = .ok (.getfield 46, 3) := by decide +kernel
theorem dd_N_fits_37 : decode bb_N_fits 37 = .ok (.aload_n 0, 1) := by decide +kernel
theorem dd_N_fits_38 : decode bb_N_fits 38 = .ok (.getfield 15, 3) := by decide +kernel
theorem dd_N_fits_41 : decode bb_N_fits 41 = .ok (.invokevirtual 101, 3) := by decide +kernel
theorem dd_N_fits_44 : decode bb_N_fits 44 = .ok (.ireturn, 1) := by decide +kernel
theorem dd_N_admits_0 : decode bb_N_admits 0 = .ok (.aload_n 0, 1) := by decide +kernel
theorem dd_N_admits_1 : decode bb_N_admits 1 = .ok (.getfield 49, 3) := by decide +kernel
theorem dd_N_admits_4 : decode bb_N_admits 4 = .ok (.tableswitch 225 10 23 #[72, 143, 107, 145, 164, 164, 225, 189, 200, 220, 72, 143, 107, 164], 72) := by decide +kernel
theorem dd_N_admits_76 : decode bb_N_admits 76 = .ok (.iload_n 1, 1) := by decide +kernel
theorem dd_N_admits_77 : decode bb_N_admits 77 = .ok (.ifCond .ne 15, 3) := by decide +kernel
theorem dd_N_admits_80 : decode bb_N_admits 80 = .ok (.iload_n 2, 1) := by decide +kernel
theorem dd_N_admits_81 : decode bb_N_admits 81 = .ok (.ifCond .ne 7, 3) := by decide +kernel
theorem dd_N_admits_84 : decode bb_N_admits 84 = .ok (.iconst 1, 1) := by decide +kernel
theorem dd_N_admits_85 : decode bb_N_admits 85 = .ok (.goto 25, 3) := by decide +kernel
theorem dd_N_admits_88 : decode bb_N_admits 88 = .ok (.iconst 0, 1) := by decide +kernel
theorem dd_N_admits_89 : decode bb_N_admits 89 = .ok (.goto 21, 3) := by decide +kernel
theorem dd_N_admits_92 : decode bb_N_admits 92 = .ok (.iload_n 1, 1) := by decide +kernel
theorem dd_N_admits_93 : decode bb_N_admits 93 = .ok (.iconst 1, 1) := by decide +kernel
theorem dd_N_admits_94 : decode bb_N_admits 94 = .ok (.if_icmp .eq 11, 3) := by decide +kernel
theorem dd_N_admits_97 : decode bb_N_admits 97 = .ok (.iload_n 2, 1) := by decide +kernel
theorem dd_N_admits_98 : decode bb_N_admits 98 = .ok (.aload_n 0, 1) := by decide +kernel
theorem dd_N_admits_99 : decode bb_N_admits 99 = .ok (.getfield 15, 3) := by decide +kernel
theorem dd_N_admits_102 : decode bb_N_admits 102 = .ok (.if_icmp .ne 7, 3) := by decide +kernel
theorem dd_N_admits_105 : decode bb_N_admits 105 = .ok (.iconst 1, 1) := by decide +kernel
theorem dd_N_admits_106 : decode bb_N_admits 106 = .ok (.goto 4, 3) := by decide +kernel
theorem dd_N_admits_109 : decode bb_N_admits 109 = .ok (.iconst 0, 1) := by decide +kernel
theorem dd_N_admits_110 : decode bb_N_admits 110 = .ok (.ireturn, 1) := by decide +kernel
theorem dd_N_admits_111 : decode bb_N_admits 111 = .ok (.iload_n 1, 1) := by decide +kernel
theorem dd_N_admits_112 : decode bb_N_admits 112 = .ok (.ifCond .ne 16, 3) := by decide +kernel
theorem dd_N_admits_115 : decode bb_N_admits 115 = .ok (.iload_n 2, 1) := by decide +kernel
theorem dd_N_admits_116 : decode bb_N_admits 116 = .ok (.iconst 1, 1) := by decide +kernel
theorem dd_N_admits_117 : decode bb_N_admits 117 = .ok (.if_icmp .ne 7, 3) := by decide +kernel
theorem dd_N_admits_120 : decode bb_N_admits 120 = .ok (.iconst 1, 1) := by decide +kernel
theorem dd_N_admits_121 : decode bb_N_admits 121 = .ok (.goto 25, 3) := by decide +kernel
theorem dd_N_admits_124 : decode bb_N_admits 124 = .ok (.iconst 0, 1) := by decide +kernel
theorem dd_N_admits_125 : decode bb_N_admits 125 = .ok (.goto 21, 3) := by decide +kernel
theorem dd_N_admits_128 : decode bb_N_admits 128 = .ok (.iload_n 1, 1) := by decide +kernel
theorem dd_N_admits_129 : decode bb_N_admits 129 = .ok (.iconst 1, 1) := by decide +kernel
theorem dd_N_admits_130 : decode bb_N_admits 130 = .ok (.if_icmp .eq 11, 3) := by decide +kernel
theorem dd_N_admits_133 : decode bb_N_admits 133 = .ok (.iload_n 2, 1) := by decide +kernel
theorem dd_N_admits_134 : decode bb_N_admits 134 = .ok (.aload_n 0, 1) := by decide +kernel
theorem dd_N_admits_135 : decode bb_N_admits 135 = .ok (.getfield 15, 3) := by decide +kernel
theorem dd_N_admits_138 : decode bb_N_admits 138 = .ok (.if_icmp .ne 7, 3) := by decide +kernel
theorem dd_N_admits_141 : decode bb_N_admits 141 = .ok (.iconst 1, 1) := by decide +kernel
theorem dd_N_admits_142 : decode bb_N_admits 142 = .ok (.goto 4, 3) := by decide +kernel
theorem dd_N_admits_145 : decode bb_N_admits 145 = .ok (.iconst 0, 1) := by decide +kernel
theorem dd_N_admits_146 : decode bb_N_admits 146 = .ok (.ireturn, 1) := by decide +kernel
theorem dd_N_admits_147 : decode bb_N_admits 147 = .ok (.iconst 1, 1) := by decide +kernel
theorem dd_N_admits_148 : decode bb_N_admits 148 = .ok (.ireturn, 1) := by decide +kernel
theorem dd_N_admits_149 : decode bb_N_admits 149 = .ok (.iload_n 2, 1) := by decide +kernel
theorem dd_N_admits_150 : decode bb_N_admits 150 = .ok (.iload_n 1, 1) := by decide +kernel
theorem dd_N_admits_151 : decode bb_N_admits 151 = .ok (.ifCond .ne 7, 3) := by decide +kernel
theorem dd_N_admits_154 : decode bb_N_admits 154 = .ok (.iconst 0, 1) := by decide +kernel
theorem dd_N_admits_155 : decode bb_N_admits 155 = .ok (.goto 4, 3) := by decide +kernel
theorem dd_N_admits_158 : decode bb_N_admits 158 = .ok (.iconst 3, 1) := by decide +kernel
theorem dd_N_admits_159 : decode bb_N_admits 159 = .ok (.if_icmp .ne 7, 3) := by decide +kernel
theorem dd_N_admits_162 : decode bb_N_admits 162 = .ok (.iconst 1, 1) := by decide +kernel
theorem dd_N_admits_163 : decode bb_N_admits 163 = .ok (.goto 4, 3) := by decide +kernel
theorem dd_N_admits_166 : decode bb_N_admits 166 = .ok (.iconst 0, 1) := by decide +kernel
theorem dd_N_admits_167 : decode bb_N_admits 167 = .ok (.ireturn, 1) := by decide +kernel
theorem dd_N_admits_168 : decode bb_N_admits 168 = .ok (.aload_n 0, 1) := by decide +kernel
theorem dd_N_admits_169 : decode bb_N_admits 169 = .ok (.getfield 24, 3) := by decide +kernel
theorem dd_N_admits_172 : decode bb_N_admits 172 = .ok (.ifnull 19, 3) := by decide +kernel
theorem dd_N_admits_175 : decode bb_N_admits 175 = .ok (.iload_n 2, 1) := by decide +kernel
theorem dd_N_admits_176 : decode bb_N_admits 176 = .ok (.aload_n 0, 1) := by decide +kernel
theorem dd_N_admits_177 : decode bb_N_admits 177 = .ok (.getfield 24, 3) := by decide +kernel
theorem dd_N_admits_180 : decode bb_N_admits 180 = .ok (.iload_n 1, 1) := by decide +kernel
theorem dd_N_admits_181 : decode bb_N_admits 181 = .ok (.invokevirtual 92, 3) := by decide +kernel
theorem dd_N_admits_184 : decode bb_N_admits 184 = .ok (.if_icmp .ne 7, 3) := by decide +kernel
theorem dd_N_admits_187 : decode bb_N_admits 187 = .ok (.iconst 1, 1) := by decide +kernel
theorem dd_N_admits_188 : decode bb_N_admits 188 = .ok (.goto 4, 3) := by decide +kernel
theorem dd_N_admits_191 : decode bb_N_admits 191 = .ok (.iconst 0, 1) := by decide +kernel
theorem dd_N_admits_192 : decode bb_N_admits 192 = .ok (.ireturn, 1) := by decide +kernel
theorem dd_N_admits_193 : decode bb_N_admits 193 = .ok (.iload_n 2, 1) := by decide +kernel
theorem dd_N_admits_194 : decode bb_N_admits 194 = .ok (.iconst 1, 1) := by decide +kernel
theorem dd_N_admits_195 : decode bb_N_admits 195 = .ok (.if_icmp .ne 7, 3) := by decide +kernel
theorem dd_N_admits_198 : decode bb_N_admits 198 = .ok (.iconst 1, 1) := by decide +kernel
theorem dd_N_admits_199 : decode bb_N_admits 199 = .ok (.goto 4, 3) := by decide +kernel
theorem dd_N_admits_202 : decode bb_N_admits 202 = .ok (.iconst 0, 1) := by decide +kernel
theorem dd_N_admits_203 : decode bb_N_admits 203 = .ok (.ireturn, 1) := by decide +kernel
theorem dd_N_admits_204 : decode bb_N_admits 204 = .ok (.iload_n 1, 1) := by decide +kernel
theorem dd_N_admits_205 : decode bb_N_admits 205 = .ok (.ifCond .gt 13, 3) := by decide +kernel
theorem dd_N_admits_208 : decode bb_N_admits 208 = .ok (.iload_n 2, 1) := by decide +kernel
theorem dd_N_admits_209 : decode bb_N_admits 209 = .ok (.iconst 2, 1) := by decide +kernel
theorem dd_N_admits_210 : decode bb_N_admits 210 = .ok (.if_icmp .eq 8, 3) := by decide +kernel
theorem dd_N_admits_213 : decode bb_N_admits 213 = .ok (.iload_n 2, 1) := by decide +kernel
theorem dd_N_admits_214 : decode bb_N_admits 214 = .ok (.iconst 3, 1) := by decide +kernel
theorem dd_N_admits_215 : decode bb_N_admits 215 = .ok (.if_icmp .ne 7, 3) := by decide +kernel
theorem dd_N_admits_218 : decode bb_N_admits 218 = .ok (.iconst 1, 1) := by decide +kernel
theorem dd_N_admits_219 : decode bb_N_admits 219 = .ok (.goto 4, 3) := by decide +kernel
theorem dd_N_admits_222 : decode bb_N_admits 222 = .ok (.iconst 0, 1) := by decide +kernel
theorem dd_N_admits_223 : decode bb_N_admits 223 = .ok (.ireturn, 1) := by decide +kernel
theorem dd_N_admits_224 : decode bb_N_admits 224 = .ok (.iload_n 2, 1) := by decide +kernel
theorem dd_N_admits_225 : decode bb_N_admits 225 = .ok (.invokestatic 105, 3) := by decide +kernel
theorem dd_N_admits_228 : decode bb_N_admits 228 = .ok (.ireturn, 1) := by decide +kernel
theorem dd_N_admits_229 : decode bb_N_admits 229 = .ok (.iload_n 2, 1) := by decide +kernel
theorem dd_N_admits_230 : decode bb_N_admits 230 = .ok (.ifCond .ne 7, 3) := by decide +kernel
theorem dd_N_admits_233 : decode bb_N_admits 233 = .ok (.iconst 1, 1) := by decide +kernel
theorem dd_N_admits_234 : decode bb_N_admits 234 = .ok (.goto 4, 3) := by decide +kernel
theorem dd_N_admits_237 : decode bb_N_admits 237 = .ok (.iconst 0, 1) := by decide +kernel
theorem dd_N_admits_238 : decode bb_N_admits 238 = .ok (.ireturn, 1) := by decide +kernel
theorem dd_N_hearOf_0 : decode bb_N_hearOf 0 = .ok (.iload_n 1, 1) := by decide +kernel
theorem dd_N_hearOf_1 : decode bb_N_hearOf 1 = .ok (.ifCond .ne 22, 3) := by decide +kernel
theorem dd_N_hearOf_4 : decode bb_N_hearOf 4 = .ok (.aload_n 0, 1) := by decide +kernel
theorem dd_N_hearOf_5 : decode bb_N_hearOf 5 = .ok (.getfield 49, 3) := by decide +kernel
theorem dd_N_hearOf_8 : decode bb_N_hearOf 8 = .ok (.invokestatic 73, 3) := by decide +kernel
theorem dd_N_hearOf_11 : decode bb_N_hearOf 11 = .ok (.ifCond .eq 12, 3) := by decide +kernel
theorem dd_N_hearOf_14 : decode bb_N_hearOf 14 = .ok (.aload_n 0, 1) := by decide +kernel
theorem dd_N_hearOf_15 : decode bb_N_hearOf 15 = .ok (.aload_n 0, 1) := by decide +kernel
theorem dd_N_hearOf_16 : decode bb_N_hearOf 16 = .ok (.iload_n 2, 1) := by decide +kernel
theorem dd_N_hearOf_17 : decode bb_N_hearOf 17 = .ok (.invokevirtual 108, 3) := by decide +kernel
theorem dd_N_hearOf_20 : decode bb_N_hearOf 20 = .ok (.putfield 18, 3) := by decide +kernel
theorem dd_N_hearOf_23 : decode bb_N_hearOf 23 = .ok (.aload_n 0, 1) := by decide +kernel
theorem dd_N_hearOf_24 : decode bb_N_hearOf 24 = .ok (.getfield 49, 3) := by decide +kernel
theorem dd_N_hearOf_27 : decode bb_N_hearOf 27 = .ok (.invokestatic 111, 3) := by decide +kernel
theorem dd_N_hearOf_30 : decode bb_N_hearOf 30 = .ok (.ifCond .eq 8, 3) := by decide +kernel
theorem dd_N_hearOf_33 : decode bb_N_hearOf 33 = .ok (.aload_n 0, 1) := by decide +kernel
theorem dd_N_hearOf_34 : decode bb_N_hearOf 34 = .ok (.iload_n 2, 1) := by decide +kernel
theorem dd_N_hearOf_35 : decode bb_N_hearOf 35 = .ok (.putfield 15, 3) := by decide +kernel
theorem dd_N_hearOf_38 : decode bb_N_hearOf 38 = .ok (.return_, 1) := by decide +kernel
theorem dd_N_typeOfXAfter_0 : decode bb_N_typeOfXAfter 0 = .ok (.aload_n 0, 1) := by decide +kernel
theorem dd_N_typeOfXAfter_1 : decode bb_N_typeOfXAfter 1 = .ok (.getfield 49, 3) := by decide +kernel
theorem dd_N_typeOfXAfter_4 : decode bb_N_typeOfXAfter 4 = .ok (.invokestatic 114, 3) := by decide +kernel
theorem dd_N_typeOfXAfter_7 : decode bb_N_typeOfXAfter 7 = .ok (.ifCond .eq 5, 3) := by decide +kernel
theorem dd_N_typeOfXAfter_10 : decode bb_N_typeOfXAfter 10 = .ok (.iload_n 1, 1) := by decide +kernel
theorem dd_N_typeOfXAfter_11 : decode bb_N_typeOfXAfter 11 = .ok (.ireturn, 1) := by decide +kernel
theorem dd_N_typeOfXAfter_12 : decode bb_N_typeOfXAfter 12 = .ok (.aload_n 0, 1) := by decide +kernel
theorem dd_N_typeOfXAfter_13 : decode bb_N_typeOfXAfter 13 = .ok (.getfield 49, 3) := by decide +kernel
theorem dd_N_typeOfXAfter_16 : decode bb_N_typeOfXAfter 16 = .ok (.bipush 18, 2) := by decide +kernel
theorem dd_N_typeOfXAfter_18 : decode bb_N_typeOfXAfter 18 = .ok (.if_icmp .ne 12, 3) := by decide +kernel
theorem dd_N_typeOfXAfter_21 : decode bb_N_typeOfXAfter 21 = .ok (.iload_n 1, 1) := by decide +kernel
theorem dd_N_typeOfXAfter_22 : decode bb_N_typeOfXAfter 22 = .ok (.iconst 3, 1) := by decide +kernel
theorem dd_N_typeOfXAfter_23 : decode bb_N_typeOfXAfter 23 = .ok (.if_icmp .ne 7, 3) := by decide +kernel
theorem dd_N_typeOfXAfter_26 : decode bb_N_typeOfXAfter 26 = .ok (.iconst 1, 1) := by decide +kernel
theorem dd_N_typeOfXAfter_27 : decode bb_N_typeOfXAfter 27 = .ok (.goto 4, 3) := by decide +kernel
theorem dd_N_typeOfXAfter_30 : decode bb_N_typeOfXAfter 30 = .ok (.iconst 0, 1) := by decide +kernel
theorem dd_N_typeOfXAfter_31 : decode bb_N_typeOfXAfter 31 = .ok (.ireturn, 1) := by decide +kernel
theorem dd_T_isType_0 : decode bb_T_isType 0 = .ok (.iload_n 0, 1) := by decide +kernel
theorem dd_T_isType_1 : decode bb_T_isType 1 = .ok (.ifCond .lt 12, 3) := by decide +kernel
theorem dd_T_isType_4 : decode bb_T_isType 4 = .ok (.iload_n 0, 1) := by decide +kernel
theorem dd_T_isType_5 : decode bb_T_isType 5 = .ok (.iconst 3, 1) := by decide +kernel
theorem dd_T_isType_6 : decode bb_T_isType 6 = .ok (.if_icmp .gt 7, 3) := by decide +kernel
theorem dd_T_isType_9 : decode bb_T_isType 9 = .ok (.iconst 1, 1) := by decide +kernel
theorem dd_T_isType_10 : decode bb_T_isType 10 = .ok (.goto 4, 3) := by decide +kernel
theorem dd_T_isType_13 : decode bb_T_isType 13 = .ok (.iconst 0, 1) := by decide +kernel
theorem dd_T_isType_14 : decode bb_T_isType 14 = .ok (.ireturn, 1) := by decide +kernel
theorem dd_T_isWritten_0 : decode bb_T_isWritten 0 = .ok (.iload_n 0, 1) := by decide +kernel
theorem dd_T_isWritten_1 : decode bb_T_isWritten 1 = .ok (.ifCond .eq 8, 3) := by decide +kernel
theorem dd_T_isWritten_4 : decode bb_T_isWritten 4 = .ok (.iload_n 0, 1) := by decide +kernel
theorem dd_T_isWritten_5 : decode bb_T_isWritten 5 = .ok (.iconst 1, 1) := by decide +kernel
theorem dd_T_isWritten_6 : decode bb_T_isWritten 6 = .ok (.if_icmp .ne 7, 3) := by decide +kernel
theorem dd_T_isWritten_9 : decode bb_T_isWritten 9 = .ok (.iconst 1, 1) := by decide +kernel
theorem dd_T_isWritten_10 : decode bb_T_isWritten 10 = .ok (.goto 4, 3) := by decide +kernel
theorem dd_T_isWritten_13 : decode bb_T_isWritten 13 = .ok (.iconst 0, 1) := by decide +kernel
theorem dd_T_isWritten_14 : decode bb_T_isWritten 14 = .ok (.ireturn, 1) := by decide +kernel
end
section
set_option maxHeartbeats 4000000 in
set_option maxRecDepth 100000 in
theorem cc_K_isKind {l : Launch} {G : gC} {M : mC} {k : Int32} : cR l yy_K_isKind bb_K_isKind 1 (some .boolean) 0 G M [.int k] (.int (bI (k_isKind k))) := by
  refine me_R (by decide) (Nat.le_of_ble_eq_true rfl) ?_
  intro p e s m below meth c ls hx hb hr hlocks hml hown ht hM hK hl
  have hown : s.vm.findClass RR_K = some m.cls := hown
  have hl : lv_has ls 1 [(0, .int k)] := hl
  refine lv_iload_n hx hb dd_K_isKind_0 rfl (lv_at hl 0 rfl) ?_
  refine lv_if_lt (tgt := 14) hx hb dd_K_isKind_1 (by decide) (fun c1 => ?_) (fun c1 => ?_)
  · refine lv_iconst (v := 0) hx hb dd_K_isKind_14 (by decide) ?_
    exact mr_i hx hb hr hlocks rfl (by simp [bI, k_isKind, c1]) dd_K_isKind_15
  · refine lv_iload_n hx hb dd_K_isKind_4 rfl (lv_at hl 0 rfl) ?_
    refine lv_bipush (v := 23) hx hb dd_K_isKind_5 (by decide) ?_
    refine lv_icmp_gt (tgt := 14) hx hb dd_K_isKind_7 (by decide) (fun c2 => ?_) (fun c2 => ?_)
    · refine lv_iconst (v := 0) hx hb dd_K_isKind_14 (by decide) ?_
      exact mr_i hx hb hr hlocks rfl (by simp [bI, k_isKind, c1, c2]) dd_K_isKind_15
    · refine lv_iconst (v := 1) hx hb dd_K_isKind_10 (by decide) ?_
      refine lv_goto (tgt := 15) hx hb dd_K_isKind_11 (by decide) ?_
      exact mr_i hx hb hr hlocks rfl (by simp [bI, k_isKind, c1, c2]) dd_K_isKind_15

set_option maxHeartbeats 4000000 in
set_option maxRecDepth 100000 in
theorem cc_K_isChange {l : Launch} {G : gC} {M : mC} {k : Int32} : cR l yy_K_isChange bb_K_isChange 1 (some .boolean) 0 G M [.int k] (.int (bI (k_isChange k))) := by
  refine me_R (by decide) (Nat.le_of_ble_eq_true rfl) ?_
  intro p e s m below meth c ls hx hb hr hlocks hml hown ht hM hK hl
  have hown : s.vm.findClass RR_K = some m.cls := hown
  have hl : lv_has ls 1 [(0, .int k)] := hl
  refine lv_iload_n hx hb dd_K_isChange_0 rfl (lv_at hl 0 rfl) ?_
  refine lv_bipush (v := 18) hx hb dd_K_isChange_1 (by decide) ?_
  refine lv_icmp_lt (tgt := 10) hx hb dd_K_isChange_3 (by decide) (fun c1 => ?_) (fun c1 => ?_)
  · refine lv_iconst (v := 0) hx hb dd_K_isChange_10 (by decide) ?_
    exact mr_i hx hb hr hlocks rfl (by simp [bI, k_isChange, c1]) dd_K_isChange_11
  · refine lv_iconst (v := 1) hx hb dd_K_isChange_6 (by decide) ?_
    refine lv_goto (tgt := 11) hx hb dd_K_isChange_7 (by decide) ?_
    exact mr_i hx hb hr hlocks rfl (by simp [bI, k_isChange, c1]) dd_K_isChange_11

set_option maxHeartbeats 4000000 in
set_option maxRecDepth 100000 in
theorem cc_K_isCall {l : Launch} {G : gC} {M : mC} {k : Int32} : cR l yy_K_isCall bb_K_isCall 1 (some .boolean) 0 G M [.int k] (.int (bI (k_isCall k))) := by
  refine me_R (by decide) (Nat.le_of_ble_eq_true rfl) ?_
  intro p e s m below meth c ls hx hb hr hlocks hml hown ht hM hK hl
  have hown : s.vm.findClass RR_K = some m.cls := hown
  have hl : lv_has ls 1 [(0, .int k)] := hl
  refine lv_iload_n hx hb dd_K_isCall_0 rfl (lv_at hl 0 rfl) ?_
  refine lv_bipush (v := 14) hx hb dd_K_isCall_1 (by decide) ?_
  refine lv_icmp_eq (tgt := 18) hx hb dd_K_isCall_3 (by decide) (fun c1 => ?_) (fun c1 => ?_)
  · refine lv_iconst (v := 1) hx hb dd_K_isCall_18 (by decide) ?_
    refine lv_goto (tgt := 23) hx hb dd_K_isCall_19 (by decide) ?_
    exact mr_i hx hb hr hlocks rfl (by simp [bI, k_isCall, eq_true c1]) dd_K_isCall_23
  · refine lv_iload_n hx hb dd_K_isCall_6 rfl (lv_at hl 0 rfl) ?_
    refine lv_bipush (v := 15) hx hb dd_K_isCall_7 (by decide) ?_
    refine lv_icmp_eq (tgt := 18) hx hb dd_K_isCall_9 (by decide) (fun c2 => ?_) (fun c2 => ?_)
    · refine lv_iconst (v := 1) hx hb dd_K_isCall_18 (by decide) ?_
      refine lv_goto (tgt := 23) hx hb dd_K_isCall_19 (by decide) ?_
      exact mr_i hx hb hr hlocks rfl (by simp [bI, k_isCall, c1, eq_true c2]) dd_K_isCall_23
    · refine lv_iload_n hx hb dd_K_isCall_12 rfl (lv_at hl 0 rfl) ?_
      refine lv_bipush (v := 23) hx hb dd_K_isCall_13 (by decide) ?_
      refine lv_icmp_ne (tgt := 22) hx hb dd_K_isCall_15 (by decide) (fun c3 => ?_) (fun c3 => ?_)
      · refine lv_iconst (v := 0) hx hb dd_K_isCall_22 (by decide) ?_
        exact mr_i hx hb hr hlocks rfl (by simp [bI, k_isCall, c1, c2, c3]) dd_K_isCall_23
      · refine lv_iconst (v := 1) hx hb dd_K_isCall_18 (by decide) ?_
        refine lv_goto (tgt := 23) hx hb dd_K_isCall_19 (by decide) ?_
        exact mr_i hx hb hr hlocks rfl (by simp [bI, k_isCall, c1, c2, eq_true c3]) dd_K_isCall_23

set_option maxHeartbeats 4000000 in
set_option maxRecDepth 100000 in
theorem cc_K_isCase {l : Launch} {G : gC} {M : mC} {k : Int32} : cR l yy_K_isCase bb_K_isCase 1 (some .boolean) 0 G M [.int k] (.int (bI (k_isCase k))) := by
  refine me_R (by decide) (Nat.le_of_ble_eq_true rfl) ?_
  intro p e s m below meth c ls hx hb hr hlocks hml hown ht hM hK hl
  have hown : s.vm.findClass RR_K = some m.cls := hown
  have hl : lv_has ls 1 [(0, .int k)] := hl
  refine lv_iload_n hx hb dd_K_isCase_0 rfl (lv_at hl 0 rfl) ?_
  refine lv_bipush (v := 12) hx hb dd_K_isCase_1 (by decide) ?_
  refine lv_icmp_eq (tgt := 12) hx hb dd_K_isCase_3 (by decide) (fun c1 => ?_) (fun c1 => ?_)
  · refine lv_iconst (v := 1) hx hb dd_K_isCase_12 (by decide) ?_
    refine lv_goto (tgt := 17) hx hb dd_K_isCase_13 (by decide) ?_
    exact mr_i hx hb hr hlocks rfl (by simp [bI, k_isCase, eq_true c1]) dd_K_isCase_17
  · refine lv_iload_n hx hb dd_K_isCase_6 rfl (lv_at hl 0 rfl) ?_
    refine lv_bipush (v := 22) hx hb dd_K_isCase_7 (by decide) ?_
    refine lv_icmp_ne (tgt := 16) hx hb dd_K_isCase_9 (by decide) (fun c2 => ?_) (fun c2 => ?_)
    · refine lv_iconst (v := 0) hx hb dd_K_isCase_16 (by decide) ?_
      exact mr_i hx hb hr hlocks rfl (by simp [bI, k_isCase, c1, c2]) dd_K_isCase_17
    · refine lv_iconst (v := 1) hx hb dd_K_isCase_12 (by decide) ?_
      refine lv_goto (tgt := 17) hx hb dd_K_isCase_13 (by decide) ?_
      exact mr_i hx hb hr hlocks rfl (by simp [bI, k_isCase, c1, eq_true c2]) dd_K_isCase_17

set_option maxHeartbeats 4000000 in
set_option maxRecDepth 100000 in
theorem cc_K_isLet {l : Launch} {G : gC} {M : mC} {k : Int32} : cR l yy_K_isLet bb_K_isLet 1 (some .boolean) 0 G M [.int k] (.int (bI (k_isLet k))) := by
  refine me_R (by decide) (Nat.le_of_ble_eq_true rfl) ?_
  intro p e s m below meth c ls hx hb hr hlocks hml hown ht hM hK hl
  have hown : s.vm.findClass RR_K = some m.cls := hown
  have hl : lv_has ls 1 [(0, .int k)] := hl
  refine lv_iload_n hx hb dd_K_isLet_0 rfl (lv_at hl 0 rfl) ?_
  refine lv_bipush (v := 11) hx hb dd_K_isLet_1 (by decide) ?_
  refine lv_icmp_eq (tgt := 12) hx hb dd_K_isLet_3 (by decide) (fun c1 => ?_) (fun c1 => ?_)
  · refine lv_iconst (v := 1) hx hb dd_K_isLet_12 (by decide) ?_
    refine lv_goto (tgt := 17) hx hb dd_K_isLet_13 (by decide) ?_
    exact mr_i hx hb hr hlocks rfl (by simp [bI, k_isLet, eq_true c1]) dd_K_isLet_17
  · refine lv_iload_n hx hb dd_K_isLet_6 rfl (lv_at hl 0 rfl) ?_
    refine lv_bipush (v := 21) hx hb dd_K_isLet_7 (by decide) ?_
    refine lv_icmp_ne (tgt := 16) hx hb dd_K_isLet_9 (by decide) (fun c2 => ?_) (fun c2 => ?_)
    · refine lv_iconst (v := 0) hx hb dd_K_isLet_16 (by decide) ?_
      exact mr_i hx hb hr hlocks rfl (by simp [bI, k_isLet, c1, c2]) dd_K_isLet_17
    · refine lv_iconst (v := 1) hx hb dd_K_isLet_12 (by decide) ?_
      refine lv_goto (tgt := 17) hx hb dd_K_isLet_13 (by decide) ?_
      exact mr_i hx hb hr hlocks rfl (by simp [bI, k_isLet, c1, eq_true c2]) dd_K_isLet_17

set_option maxHeartbeats 4000000 in
set_option maxRecDepth 100000 in
theorem cc_K_isBinder {l : Launch} {G : gC} {M : mC} {k : Int32} : cR l yy_K_isBinder bb_K_isBinder 1 (some .boolean) 0 G M [.int k] (.int (bI (k_isBinder k))) := by
  refine me_R (by decide) (Nat.le_of_ble_eq_true rfl) ?_
  intro p e s m below meth c ls hx hb hr hlocks hml hown ht hM hK hl
  have hown : s.vm.findClass RR_K = some m.cls := hown
  have hl : lv_has ls 1 [(0, .int k)] := hl
  refine lv_iload_n hx hb dd_K_isBinder_0 rfl (lv_at hl 0 rfl) ?_
  refine lv_bipush (v := 11) hx hb dd_K_isBinder_1 (by decide) ?_
  refine lv_icmp_eq (tgt := 30) hx hb dd_K_isBinder_3 (by decide) (fun c1 => ?_) (fun c1 => ?_)
  · refine lv_iconst (v := 1) hx hb dd_K_isBinder_30 (by decide) ?_
    refine lv_goto (tgt := 35) hx hb dd_K_isBinder_31 (by decide) ?_
    exact mr_i hx hb hr hlocks rfl (by simp [bI, k_isBinder, eq_true c1]) dd_K_isBinder_35
  · refine lv_iload_n hx hb dd_K_isBinder_6 rfl (lv_at hl 0 rfl) ?_
    refine lv_bipush (v := 12) hx hb dd_K_isBinder_7 (by decide) ?_
    refine lv_icmp_eq (tgt := 30) hx hb dd_K_isBinder_9 (by decide) (fun c2 => ?_) (fun c2 => ?_)
    · refine lv_iconst (v := 1) hx hb dd_K_isBinder_30 (by decide) ?_
      refine lv_goto (tgt := 35) hx hb dd_K_isBinder_31 (by decide) ?_
      exact mr_i hx hb hr hlocks rfl (by simp [bI, k_isBinder, c1, eq_true c2]) dd_K_isBinder_35
    · refine lv_iload_n hx hb dd_K_isBinder_12 rfl (lv_at hl 0 rfl) ?_
      refine lv_bipush (v := 18) hx hb dd_K_isBinder_13 (by decide) ?_
      refine lv_icmp_eq (tgt := 30) hx hb dd_K_isBinder_15 (by decide) (fun c3 => ?_) (fun c3 => ?_)
      · refine lv_iconst (v := 1) hx hb dd_K_isBinder_30 (by decide) ?_
        refine lv_goto (tgt := 35) hx hb dd_K_isBinder_31 (by decide) ?_
        exact mr_i hx hb hr hlocks rfl (by simp [bI, k_isBinder, c1, c2, eq_true c3]) dd_K_isBinder_35
      · refine lv_iload_n hx hb dd_K_isBinder_18 rfl (lv_at hl 0 rfl) ?_
        refine lv_bipush (v := 21) hx hb dd_K_isBinder_19 (by decide) ?_
        refine lv_icmp_eq (tgt := 30) hx hb dd_K_isBinder_21 (by decide) (fun c4 => ?_) (fun c4 => ?_)
        · refine lv_iconst (v := 1) hx hb dd_K_isBinder_30 (by decide) ?_
          refine lv_goto (tgt := 35) hx hb dd_K_isBinder_31 (by decide) ?_
          exact mr_i hx hb hr hlocks rfl (by simp [bI, k_isBinder, c1, c2, c3, eq_true c4]) dd_K_isBinder_35
        · refine lv_iload_n hx hb dd_K_isBinder_24 rfl (lv_at hl 0 rfl) ?_
          refine lv_bipush (v := 22) hx hb dd_K_isBinder_25 (by decide) ?_
          refine lv_icmp_ne (tgt := 34) hx hb dd_K_isBinder_27 (by decide) (fun c5 => ?_) (fun c5 => ?_)
          · refine lv_iconst (v := 0) hx hb dd_K_isBinder_34 (by decide) ?_
            exact mr_i hx hb hr hlocks rfl (by simp [bI, k_isBinder, c1, c2, c3, c4, c5]) dd_K_isBinder_35
          · refine lv_iconst (v := 1) hx hb dd_K_isBinder_30 (by decide) ?_
            refine lv_goto (tgt := 35) hx hb dd_K_isBinder_31 (by decide) ?_
            exact mr_i hx hb hr hlocks rfl (by simp [bI, k_isBinder, c1, c2, c3, c4, eq_true c5]) dd_K_isBinder_35

set_option maxHeartbeats 4000000 in
set_option maxRecDepth 100000 in
theorem cc_K_isAsLastPart {l : Launch} {G : gC} {M : mC} {k : Int32} : cR l yy_K_isAsLastPart bb_K_isAsLastPart 1 (some .boolean) 0 G M [.int k] (.int (bI (k_isAsLast k))) := by
  refine me_R (by decide) (Nat.le_of_ble_eq_true rfl) ?_
  intro p e s m below meth c ls hx hb hr hlocks hml hown ht hM hK hl
  have hown : s.vm.findClass RR_K = some m.cls := hown
  have hl : lv_has ls 1 [(0, .int k)] := hl
  refine lv_iload_n hx hb dd_K_isAsLastPart_0 rfl (lv_at hl 0 rfl) ?_
  refine lv_bipush (v := 10) hx hb dd_K_isAsLastPart_1 (by decide) ?_
  refine lv_icmp_lt (tgt := 12) hx hb dd_K_isAsLastPart_3 (by decide) (fun c1 => ?_) (fun c1 => ?_)
  · refine lv_iload_n hx hb dd_K_isAsLastPart_12 rfl (lv_at hl 0 rfl) ?_
    refine lv_bipush (v := 18) hx hb dd_K_isAsLastPart_13 (by decide) ?_
    refine lv_icmp_lt (tgt := 28) hx hb dd_K_isAsLastPart_15 (by decide) (fun c2 => ?_) (fun c2 => ?_)
    · refine lv_iconst (v := 0) hx hb dd_K_isAsLastPart_28 (by decide) ?_
      exact mr_i hx hb hr hlocks rfl (by simp [bI, k_isAsLast, c1, c2]) dd_K_isAsLastPart_29
    · refine lv_iload_n hx hb dd_K_isAsLastPart_18 rfl (lv_at hl 0 rfl) ?_
      refine lv_bipush (v := 22) hx hb dd_K_isAsLastPart_19 (by decide) ?_
      refine lv_icmp_gt (tgt := 28) hx hb dd_K_isAsLastPart_21 (by decide) (fun c3 => ?_) (fun c3 => ?_)
      · refine lv_iconst (v := 0) hx hb dd_K_isAsLastPart_28 (by decide) ?_
        exact mr_i hx hb hr hlocks rfl (by simp [bI, k_isAsLast, c1, c2, c3]) dd_K_isAsLastPart_29
      · refine lv_iconst (v := 1) hx hb dd_K_isAsLastPart_24 (by decide) ?_
        refine lv_goto (tgt := 29) hx hb dd_K_isAsLastPart_25 (by decide) ?_
        exact mr_i hx hb hr hlocks rfl (by simp [bI, k_isAsLast, c1, c2, c3]) dd_K_isAsLastPart_29
  · refine lv_iload_n hx hb dd_K_isAsLastPart_6 rfl (lv_at hl 0 rfl) ?_
    refine lv_bipush (v := 12) hx hb dd_K_isAsLastPart_7 (by decide) ?_
    refine lv_icmp_le (tgt := 24) hx hb dd_K_isAsLastPart_9 (by decide) (fun c4 => ?_) (fun c4 => ?_)
    · refine lv_iconst (v := 1) hx hb dd_K_isAsLastPart_24 (by decide) ?_
      refine lv_goto (tgt := 29) hx hb dd_K_isAsLastPart_25 (by decide) ?_
      exact mr_i hx hb hr hlocks rfl (by simp [bI, k_isAsLast, c1, c4]) dd_K_isAsLastPart_29
    · refine lv_iload_n hx hb dd_K_isAsLastPart_12 rfl (lv_at hl 0 rfl) ?_
      refine lv_bipush (v := 18) hx hb dd_K_isAsLastPart_13 (by decide) ?_
      refine lv_icmp_lt (tgt := 28) hx hb dd_K_isAsLastPart_15 (by decide) (fun c5 => ?_) (fun c5 => ?_)
      · refine lv_iconst (v := 0) hx hb dd_K_isAsLastPart_28 (by decide) ?_
        exact mr_i hx hb hr hlocks rfl (by simp [bI, k_isAsLast, c1, c4, c5]) dd_K_isAsLastPart_29
      · refine lv_iload_n hx hb dd_K_isAsLastPart_18 rfl (lv_at hl 0 rfl) ?_
        refine lv_bipush (v := 22) hx hb dd_K_isAsLastPart_19 (by decide) ?_
        refine lv_icmp_gt (tgt := 28) hx hb dd_K_isAsLastPart_21 (by decide) (fun c6 => ?_) (fun c6 => ?_)
        · refine lv_iconst (v := 0) hx hb dd_K_isAsLastPart_28 (by decide) ?_
          exact mr_i hx hb hr hlocks rfl (by simp [bI, k_isAsLast, c1, c4, c5, c6]) dd_K_isAsLastPart_29
        · refine lv_iconst (v := 1) hx hb dd_K_isAsLastPart_24 (by decide) ?_
          refine lv_goto (tgt := 29) hx hb dd_K_isAsLastPart_25 (by decide) ?_
          exact mr_i hx hb hr hlocks rfl (by simp [bI, k_isAsLast, c1, c4, c5, c6]) dd_K_isAsLastPart_29

set_option maxHeartbeats 4000000 in
set_option maxRecDepth 100000 in
theorem cc_T_isType {l : Launch} {G : gC} {M : mC} {k : Int32} : cR l yy_T_isType bb_T_isType 1 (some .boolean) 0 G M [.int k] (.int (bI (k_isType k))) := by
  refine me_R (by decide) (Nat.le_of_ble_eq_true rfl) ?_
  intro p e s m below meth c ls hx hb hr hlocks hml hown ht hM hK hl
  have hown : s.vm.findClass RR_T = some m.cls := hown
  have hl : lv_has ls 1 [(0, .int k)] := hl
  refine lv_iload_n hx hb dd_T_isType_0 rfl (lv_at hl 0 rfl) ?_
  refine lv_if_lt (tgt := 13) hx hb dd_T_isType_1 (by decide) (fun c1 => ?_) (fun c1 => ?_)
  · refine lv_iconst (v := 0) hx hb dd_T_isType_13 (by decide) ?_
    exact mr_i hx hb hr hlocks rfl (by simp [bI, k_isType, c1]) dd_T_isType_14
  · refine lv_iload_n hx hb dd_T_isType_4 rfl (lv_at hl 0 rfl) ?_
    refine lv_iconst (v := 3) hx hb dd_T_isType_5 (by decide) ?_
    refine lv_icmp_gt (tgt := 13) hx hb dd_T_isType_6 (by decide) (fun c2 => ?_) (fun c2 => ?_)
    · refine lv_iconst (v := 0) hx hb dd_T_isType_13 (by decide) ?_
      exact mr_i hx hb hr hlocks rfl (by simp [bI, k_isType, c1, c2]) dd_T_isType_14
    · refine lv_iconst (v := 1) hx hb dd_T_isType_9 (by decide) ?_
      refine lv_goto (tgt := 14) hx hb dd_T_isType_10 (by decide) ?_
      exact mr_i hx hb hr hlocks rfl (by simp [bI, k_isType, c1, c2]) dd_T_isType_14

set_option maxHeartbeats 4000000 in
set_option maxRecDepth 100000 in
theorem cc_T_isWritten {l : Launch} {G : gC} {M : mC} {k : Int32} : cR l yy_T_isWritten bb_T_isWritten 1 (some .boolean) 0 G M [.int k] (.int (bI (k_isWritten k))) := by
  refine me_R (by decide) (Nat.le_of_ble_eq_true rfl) ?_
  intro p e s m below meth c ls hx hb hr hlocks hml hown ht hM hK hl
  have hown : s.vm.findClass RR_T = some m.cls := hown
  have hl : lv_has ls 1 [(0, .int k)] := hl
  refine lv_iload_n hx hb dd_T_isWritten_0 rfl (lv_at hl 0 rfl) ?_
  refine lv_if_eq (tgt := 9) hx hb dd_T_isWritten_1 (by decide) (fun c1 => ?_) (fun c1 => ?_)
  · refine lv_iconst (v := 1) hx hb dd_T_isWritten_9 (by decide) ?_
    refine lv_goto (tgt := 14) hx hb dd_T_isWritten_10 (by decide) ?_
    exact mr_i hx hb hr hlocks rfl (by simp [bI, k_isWritten, eq_true c1]) dd_T_isWritten_14
  · refine lv_iload_n hx hb dd_T_isWritten_4 rfl (lv_at hl 0 rfl) ?_
    refine lv_iconst (v := 1) hx hb dd_T_isWritten_5 (by decide) ?_
    refine lv_icmp_ne (tgt := 13) hx hb dd_T_isWritten_6 (by decide) (fun c2 => ?_) (fun c2 => ?_)
    · refine lv_iconst (v := 0) hx hb dd_T_isWritten_13 (by decide) ?_
      exact mr_i hx hb hr hlocks rfl (by simp [bI, k_isWritten, c1, c2]) dd_T_isWritten_14
    · refine lv_iconst (v := 1) hx hb dd_T_isWritten_9 (by decide) ?_
      refine lv_goto (tgt := 14) hx hb dd_T_isWritten_10 (by decide) ?_
      exact mr_i hx hb hr hlocks rfl (by simp [bI, k_isWritten, c1, eq_true c2]) dd_T_isWritten_14

set_option maxHeartbeats 4000000 in
set_option maxRecDepth 100000 in
theorem cc_K_wantsChange {l : Launch} {G : gC} {M : mC} {k pl : Int32} : cR l yy_K_wantsChange bb_K_wantsChange 2 (some .boolean) 0 G M [.int k, .int pl] (.int (bI (k_wants k pl))) := by
  refine me_R (by decide) (Nat.le_of_ble_eq_true rfl) ?_
  intro p e s m below meth c ls hx hb hr hlocks hml hown ht hM hK hl
  have hown : s.vm.findClass RR_K = some m.cls := hown
  have hl : lv_has ls 2 [(0, .int k), (1, .int pl)] := hl
  refine lv_iload_n hx hb dd_K_wantsChange_0 rfl (lv_at hl 0 rfl) ?_
  by_cases c2 : k = 16
  · refine lv_tableIn (tgt := 44) hx hb dd_K_wantsChange_1 (by rw [c2]; decide) (by rw [c2]; decide) (by rw [c2]; rfl) (by decide) ?_
    refine lv_iconst (v := 1) hx hb dd_K_wantsChange_44 (by decide) ?_
    exact mr_i hx hb hr hlocks rfl (by simp [bI, k_wants, eq_true c2]) dd_K_wantsChange_45
  by_cases c3 : k = 17
  · refine lv_tableIn (tgt := 44) hx hb dd_K_wantsChange_1 (by rw [c3]; decide) (by rw [c3]; decide) (by rw [c3]; rfl) (by decide) ?_
    refine lv_iconst (v := 1) hx hb dd_K_wantsChange_44 (by decide) ?_
    exact mr_i hx hb hr hlocks rfl (by simp [bI, k_wants, c2, eq_true c3]) dd_K_wantsChange_45
  by_cases c4 : k = 18
  · refine lv_tableIn (tgt := 46) hx hb dd_K_wantsChange_1 (by rw [c4]; decide) (by rw [c4]; decide) (by rw [c4]; rfl) (by decide) ?_
    refine lv_iload_n hx hb dd_K_wantsChange_46 rfl (lv_at hl 1 rfl) ?_
    refine lv_if_le (tgt := 54) hx hb dd_K_wantsChange_47 (by decide) (fun c5 => ?_) (fun c5 => ?_)
    · refine lv_iconst (v := 0) hx hb dd_K_wantsChange_54 (by decide) ?_
      exact mr_i hx hb hr hlocks rfl (by simp [bI, k_wants, c2, c3, eq_true c4, c5]) dd_K_wantsChange_55
    · refine lv_iconst (v := 1) hx hb dd_K_wantsChange_50 (by decide) ?_
      refine lv_goto (tgt := 55) hx hb dd_K_wantsChange_51 (by decide) ?_
      exact mr_i hx hb hr hlocks rfl (by simp [bI, k_wants, c2, c3, eq_true c4, c5]) dd_K_wantsChange_55
  by_cases c6 : k = 20
  · refine lv_tableIn (tgt := 46) hx hb dd_K_wantsChange_1 (by rw [c6]; decide) (by rw [c6]; decide) (by rw [c6]; rfl) (by decide) ?_
    refine lv_iload_n hx hb dd_K_wantsChange_46 rfl (lv_at hl 1 rfl) ?_
    refine lv_if_le (tgt := 54) hx hb dd_K_wantsChange_47 (by decide) (fun c7 => ?_) (fun c7 => ?_)
    · refine lv_iconst (v := 0) hx hb dd_K_wantsChange_54 (by decide) ?_
      exact mr_i hx hb hr hlocks rfl (by simp [bI, k_wants, c2, c3, c4, eq_true c6, c7]) dd_K_wantsChange_55
    · refine lv_iconst (v := 1) hx hb dd_K_wantsChange_50 (by decide) ?_
      refine lv_goto (tgt := 55) hx hb dd_K_wantsChange_51 (by decide) ?_
      exact mr_i hx hb hr hlocks rfl (by simp [bI, k_wants, c2, c3, c4, eq_true c6, c7]) dd_K_wantsChange_55
  by_cases c8 : k = 21
  · refine lv_tableIn (tgt := 46) hx hb dd_K_wantsChange_1 (by rw [c8]; decide) (by rw [c8]; decide) (by rw [c8]; rfl) (by decide) ?_
    refine lv_iload_n hx hb dd_K_wantsChange_46 rfl (lv_at hl 1 rfl) ?_
    refine lv_if_le (tgt := 54) hx hb dd_K_wantsChange_47 (by decide) (fun c9 => ?_) (fun c9 => ?_)
    · refine lv_iconst (v := 0) hx hb dd_K_wantsChange_54 (by decide) ?_
      exact mr_i hx hb hr hlocks rfl (by simp [bI, k_wants, c2, c3, c4, c6, eq_true c8, c9]) dd_K_wantsChange_55
    · refine lv_iconst (v := 1) hx hb dd_K_wantsChange_50 (by decide) ?_
      refine lv_goto (tgt := 55) hx hb dd_K_wantsChange_51 (by decide) ?_
      exact mr_i hx hb hr hlocks rfl (by simp [bI, k_wants, c2, c3, c4, c6, eq_true c8, c9]) dd_K_wantsChange_55
  by_cases c10 : k = 22
  · refine lv_tableIn (tgt := 46) hx hb dd_K_wantsChange_1 (by rw [c10]; decide) (by rw [c10]; decide) (by rw [c10]; rfl) (by decide) ?_
    refine lv_iload_n hx hb dd_K_wantsChange_46 rfl (lv_at hl 1 rfl) ?_
    refine lv_if_le (tgt := 54) hx hb dd_K_wantsChange_47 (by decide) (fun c11 => ?_) (fun c11 => ?_)
    · refine lv_iconst (v := 0) hx hb dd_K_wantsChange_54 (by decide) ?_
      exact mr_i hx hb hr hlocks rfl (by simp [bI, k_wants, c2, c3, c4, c6, c8, eq_true c10, c11]) dd_K_wantsChange_55
    · refine lv_iconst (v := 1) hx hb dd_K_wantsChange_50 (by decide) ?_
      refine lv_goto (tgt := 55) hx hb dd_K_wantsChange_51 (by decide) ?_
      exact mr_i hx hb hr hlocks rfl (by simp [bI, k_wants, c2, c3, c4, c6, c8, eq_true c10, c11]) dd_K_wantsChange_55
  by_cases c12 : k = 19
  · refine lv_tableIn (tgt := 56) hx hb dd_K_wantsChange_1 (by rw [c12]; decide) (by rw [c12]; decide) (by rw [c12]; rfl) (by decide) ?_
    refine lv_iconst (v := 0) hx hb dd_K_wantsChange_56 (by decide) ?_
    exact mr_i hx hb hr hlocks rfl (by simp [bI, k_wants, c2, c3, c4, c6, c8, c10, eq_true c12]) dd_K_wantsChange_57
  have c13 : (k : Int32).toInt < 16 ∨ 22 < (k : Int32).toInt := by (have z0 := lv_neT (a := 16) c2 (by decide); have z1 := lv_neT (a := 17) c3 (by decide); have z2 := lv_neT (a := 18) c4 (by decide); have z3 := lv_neT (a := 20) c6 (by decide); have z4 := lv_neT (a := 21) c8 (by decide); have z5 := lv_neT (a := 22) c10 (by decide); have z6 := lv_neT (a := 19) c12 (by decide); omega)
  refine lv_tableOut (tgt := 56) hx hb dd_K_wantsChange_1 c13 (by decide) ?_
  refine lv_iconst (v := 0) hx hb dd_K_wantsChange_56 (by decide) ?_
  exact mr_i hx hb hr hlocks rfl (by simp [bI, k_wants, c2, c3, c4, c6, c8, c10, c12]) dd_K_wantsChange_57

set_option maxHeartbeats 4000000 in
set_option maxRecDepth 100000 in
theorem cc_K_namesFit {l : Launch} {G : gC} {M : mC} {k : Int32} {f z : Int64} : cR l yy_K_namesFit bb_K_namesFit 8 (some .boolean) 1 G M [.int k, .long f, .long z] (.int (bI (k_namesFit k f z))) := by
  refine me_R (by decide) (Nat.le_of_ble_eq_true rfl) ?_
  intro p e s m below meth c ls hx hb hr hlocks hml hown ht hM hK hl
  have hown : s.vm.findClass RR_K = some m.cls := hown
  have hl : lv_has ls 8 [(0, .int k), (1, .long f), (3, .long z)] := hl
  refine lv_iload_n hx hb dd_K_namesFit_0 rfl (lv_at hl 0 rfl) ?_
  refine lv_iconst (v := 1) hx hb dd_K_namesFit_1 (by decide) ?_
  refine lv_icmp_eq (tgt := 19) hx hb dd_K_namesFit_2 (by decide) (fun c1 => ?_) (fun c1 => ?_)
  · refine lv_iconst (v := 1) hx hb dd_K_namesFit_19 (by decide) ?_
    refine lv_goto (tgt := 24) hx hb dd_K_namesFit_20 (by decide) ?_
    refine lv_istore (lv' := [(5, .int 1), (0, .int k), (1, .long f), (3, .long z)]) hx hb dd_K_namesFit_24 hl (by decide) rfl (fun ls hl => ?_)
    refine lv_iload hx hb dd_K_namesFit_26 (lv_at hl 0 rfl) ?_
    refine lv_if_eq (tgt := 45) hx hb dd_K_namesFit_28 (by decide) (fun z => absurd z (by decide)) (fun _ => ?_)
    refine lv_lload_n hx hb dd_K_namesFit_31 rfl (lv_at hl 2 rfl) ?_
    refine lv_lconst (v := 0) hx hb dd_K_namesFit_32 (by decide) ?_
    refine W.lcmp hx hb dd_K_namesFit_33 ?_
    refine lc_if_le (tgt := 41) hx hb dd_K_namesFit_34 (by decide) (fun c2 => ?_) (fun c2 => ?_)
    · refine lv_iconst (v := 0) hx hb dd_K_namesFit_41 (by decide) ?_
      refine lv_goto (tgt := 56) hx hb dd_K_namesFit_42 (by decide) ?_
      refine lv_istore (lv' := [(6, .int 0), (5, .int 1), (0, .int k), (1, .long f), (3, .long z)]) hx hb dd_K_namesFit_56 hl (by decide) rfl (fun ls hl => ?_)
      refine lv_iload_n hx hb dd_K_namesFit_58 rfl (lv_at hl 2 rfl) ?_
      refine mc_S (As := [.int k]) (rest := []) 1 (cc_K_isCase (k := k)) hx hb hml hown ht hM hK hl.1 lk_K_25 (by decide +kernel) (by decide) rfl rfl (Nat.le_of_ble_eq_true rfl) dd_K_namesFit_59 ⟨Nat.zero_le _, Nat.zero_le _⟩ ?_
      refine lb_if_eq (tgt := 85) hx hb dd_K_namesFit_62 (by decide) (fun c3 => ?_) (fun c3 => ?_)
      · refine lv_lload_n hx hb dd_K_namesFit_85 rfl (lv_at hl 4 rfl) ?_
        refine lv_lconst (v := 0) hx hb dd_K_namesFit_86 (by decide) ?_
        refine W.lcmp hx hb dd_K_namesFit_87 ?_
        refine lc_if_ne (tgt := 95) hx hb dd_K_namesFit_88 (by decide) (fun c4 => ?_) (fun c4 => ?_)
        · refine lv_iconst (v := 0) hx hb dd_K_namesFit_95 (by decide) ?_
          refine lv_istore (lv' := [(7, .int 0), (6, .int 0), (5, .int 1), (0, .int k), (1, .long f), (3, .long z)]) hx hb dd_K_namesFit_96 hl (by decide) rfl (fun ls hl => ?_)
          refine lv_iload hx hb dd_K_namesFit_98 (lv_at hl 1 rfl) ?_
          refine lv_if_eq (tgt := 112) hx hb dd_K_namesFit_100 (by decide) (fun _ => ?_) (fun z => absurd (by decide) z)
          refine lv_iconst (v := 0) hx hb dd_K_namesFit_112 (by decide) ?_
          exact mr_i hx hb hr hlocks rfl (by simp [bI, k_namesFit, k_hasFirst, eq_true c1, c2, c3, c4]) dd_K_namesFit_113
        · refine lv_iconst (v := 1) hx hb dd_K_namesFit_91 (by decide) ?_
          refine lv_goto (tgt := 96) hx hb dd_K_namesFit_92 (by decide) ?_
          refine lv_istore (lv' := [(7, .int 1), (6, .int 0), (5, .int 1), (0, .int k), (1, .long f), (3, .long z)]) hx hb dd_K_namesFit_96 hl (by decide) rfl (fun ls hl => ?_)
          refine lv_iload hx hb dd_K_namesFit_98 (lv_at hl 1 rfl) ?_
          refine lv_if_eq (tgt := 112) hx hb dd_K_namesFit_100 (by decide) (fun _ => ?_) (fun z => absurd (by decide) z)
          refine lv_iconst (v := 0) hx hb dd_K_namesFit_112 (by decide) ?_
          exact mr_i hx hb hr hlocks rfl (by simp [bI, k_namesFit, k_hasFirst, eq_true c1, c2, c3, eq_true c4]) dd_K_namesFit_113
      · refine lv_lload_n hx hb dd_K_namesFit_65 rfl (lv_at hl 4 rfl) ?_
        refine lv_lconst (v := 0) hx hb dd_K_namesFit_66 (by decide) ?_
        refine W.lcmp hx hb dd_K_namesFit_67 ?_
        refine lc_if_le (tgt := 81) hx hb dd_K_namesFit_68 (by decide) (fun c5 => ?_) (fun c5 => ?_)
        · refine lv_iconst (v := 0) hx hb dd_K_namesFit_81 (by decide) ?_
          refine lv_goto (tgt := 96) hx hb dd_K_namesFit_82 (by decide) ?_
          refine lv_istore (lv' := [(7, .int 0), (6, .int 0), (5, .int 1), (0, .int k), (1, .long f), (3, .long z)]) hx hb dd_K_namesFit_96 hl (by decide) rfl (fun ls hl => ?_)
          refine lv_iload hx hb dd_K_namesFit_98 (lv_at hl 1 rfl) ?_
          refine lv_if_eq (tgt := 112) hx hb dd_K_namesFit_100 (by decide) (fun _ => ?_) (fun z => absurd (by decide) z)
          refine lv_iconst (v := 0) hx hb dd_K_namesFit_112 (by decide) ?_
          exact mr_i hx hb hr hlocks rfl (by simp [bI, k_namesFit, k_hasFirst, eq_true c1, c2, c3, c5]) dd_K_namesFit_113
        · refine lv_lload_n hx hb dd_K_namesFit_71 rfl (lv_at hl 4 rfl) ?_
          refine lv_lload_n hx hb dd_K_namesFit_72 rfl (lv_at hl 3 rfl) ?_
          refine W.lcmp hx hb dd_K_namesFit_73 ?_
          refine lc_if_eq (tgt := 81) hx hb dd_K_namesFit_74 (by decide) (fun c6 => ?_) (fun c6 => ?_)
          · refine lv_iconst (v := 0) hx hb dd_K_namesFit_81 (by decide) ?_
            refine lv_goto (tgt := 96) hx hb dd_K_namesFit_82 (by decide) ?_
            refine lv_istore (lv' := [(7, .int 0), (6, .int 0), (5, .int 1), (0, .int k), (1, .long f), (3, .long z)]) hx hb dd_K_namesFit_96 hl (by decide) rfl (fun ls hl => ?_)
            refine lv_iload hx hb dd_K_namesFit_98 (lv_at hl 1 rfl) ?_
            refine lv_if_eq (tgt := 112) hx hb dd_K_namesFit_100 (by decide) (fun _ => ?_) (fun z => absurd (by decide) z)
            refine lv_iconst (v := 0) hx hb dd_K_namesFit_112 (by decide) ?_
            exact mr_i hx hb hr hlocks rfl (by simp [bI, k_namesFit, k_hasFirst, eq_true c1, c2, c3, c5, eq_true c6]) dd_K_namesFit_113
          · refine lv_iconst (v := 1) hx hb dd_K_namesFit_77 (by decide) ?_
            refine lv_goto (tgt := 96) hx hb dd_K_namesFit_78 (by decide) ?_
            refine lv_istore (lv' := [(7, .int 1), (6, .int 0), (5, .int 1), (0, .int k), (1, .long f), (3, .long z)]) hx hb dd_K_namesFit_96 hl (by decide) rfl (fun ls hl => ?_)
            refine lv_iload hx hb dd_K_namesFit_98 (lv_at hl 1 rfl) ?_
            refine lv_if_eq (tgt := 112) hx hb dd_K_namesFit_100 (by decide) (fun _ => ?_) (fun z => absurd (by decide) z)
            refine lv_iconst (v := 0) hx hb dd_K_namesFit_112 (by decide) ?_
            exact mr_i hx hb hr hlocks rfl (by simp [bI, k_namesFit, k_hasFirst, eq_true c1, c2, c3, c5, c6]) dd_K_namesFit_113
    · refine lv_iconst (v := 1) hx hb dd_K_namesFit_37 (by decide) ?_
      refine lv_goto (tgt := 56) hx hb dd_K_namesFit_38 (by decide) ?_
      refine lv_istore (lv' := [(6, .int 1), (5, .int 1), (0, .int k), (1, .long f), (3, .long z)]) hx hb dd_K_namesFit_56 hl (by decide) rfl (fun ls hl => ?_)
      refine lv_iload_n hx hb dd_K_namesFit_58 rfl (lv_at hl 2 rfl) ?_
      refine mc_S (As := [.int k]) (rest := []) 1 (cc_K_isCase (k := k)) hx hb hml hown ht hM hK hl.1 lk_K_25 (by decide +kernel) (by decide) rfl rfl (Nat.le_of_ble_eq_true rfl) dd_K_namesFit_59 ⟨Nat.zero_le _, Nat.zero_le _⟩ ?_
      refine lb_if_eq (tgt := 85) hx hb dd_K_namesFit_62 (by decide) (fun c7 => ?_) (fun c7 => ?_)
      · refine lv_lload_n hx hb dd_K_namesFit_85 rfl (lv_at hl 4 rfl) ?_
        refine lv_lconst (v := 0) hx hb dd_K_namesFit_86 (by decide) ?_
        refine W.lcmp hx hb dd_K_namesFit_87 ?_
        refine lc_if_ne (tgt := 95) hx hb dd_K_namesFit_88 (by decide) (fun c8 => ?_) (fun c8 => ?_)
        · refine lv_iconst (v := 0) hx hb dd_K_namesFit_95 (by decide) ?_
          refine lv_istore (lv' := [(7, .int 0), (6, .int 1), (5, .int 1), (0, .int k), (1, .long f), (3, .long z)]) hx hb dd_K_namesFit_96 hl (by decide) rfl (fun ls hl => ?_)
          refine lv_iload hx hb dd_K_namesFit_98 (lv_at hl 1 rfl) ?_
          refine lv_if_eq (tgt := 112) hx hb dd_K_namesFit_100 (by decide) (fun z => absurd z (by decide)) (fun _ => ?_)
          refine lv_iload hx hb dd_K_namesFit_103 (lv_at hl 0 rfl) ?_
          refine lv_if_eq (tgt := 112) hx hb dd_K_namesFit_105 (by decide) (fun _ => ?_) (fun z => absurd (by decide) z)
          refine lv_iconst (v := 0) hx hb dd_K_namesFit_112 (by decide) ?_
          exact mr_i hx hb hr hlocks rfl (by simp [bI, k_namesFit, k_hasFirst, eq_true c1, c2, c7, c8]) dd_K_namesFit_113
        · refine lv_iconst (v := 1) hx hb dd_K_namesFit_91 (by decide) ?_
          refine lv_goto (tgt := 96) hx hb dd_K_namesFit_92 (by decide) ?_
          refine lv_istore (lv' := [(7, .int 1), (6, .int 1), (5, .int 1), (0, .int k), (1, .long f), (3, .long z)]) hx hb dd_K_namesFit_96 hl (by decide) rfl (fun ls hl => ?_)
          refine lv_iload hx hb dd_K_namesFit_98 (lv_at hl 1 rfl) ?_
          refine lv_if_eq (tgt := 112) hx hb dd_K_namesFit_100 (by decide) (fun z => absurd z (by decide)) (fun _ => ?_)
          refine lv_iload hx hb dd_K_namesFit_103 (lv_at hl 0 rfl) ?_
          refine lv_if_eq (tgt := 112) hx hb dd_K_namesFit_105 (by decide) (fun z => absurd z (by decide)) (fun _ => ?_)
          refine lv_iconst (v := 1) hx hb dd_K_namesFit_108 (by decide) ?_
          refine lv_goto (tgt := 113) hx hb dd_K_namesFit_109 (by decide) ?_
          exact mr_i hx hb hr hlocks rfl (by simp [bI, k_namesFit, k_hasFirst, eq_true c1, c2, c7, eq_true c8]) dd_K_namesFit_113
      · refine lv_lload_n hx hb dd_K_namesFit_65 rfl (lv_at hl 4 rfl) ?_
        refine lv_lconst (v := 0) hx hb dd_K_namesFit_66 (by decide) ?_
        refine W.lcmp hx hb dd_K_namesFit_67 ?_
        refine lc_if_le (tgt := 81) hx hb dd_K_namesFit_68 (by decide) (fun c9 => ?_) (fun c9 => ?_)
        · refine lv_iconst (v := 0) hx hb dd_K_namesFit_81 (by decide) ?_
          refine lv_goto (tgt := 96) hx hb dd_K_namesFit_82 (by decide) ?_
          refine lv_istore (lv' := [(7, .int 0), (6, .int 1), (5, .int 1), (0, .int k), (1, .long f), (3, .long z)]) hx hb dd_K_namesFit_96 hl (by decide) rfl (fun ls hl => ?_)
          refine lv_iload hx hb dd_K_namesFit_98 (lv_at hl 1 rfl) ?_
          refine lv_if_eq (tgt := 112) hx hb dd_K_namesFit_100 (by decide) (fun z => absurd z (by decide)) (fun _ => ?_)
          refine lv_iload hx hb dd_K_namesFit_103 (lv_at hl 0 rfl) ?_
          refine lv_if_eq (tgt := 112) hx hb dd_K_namesFit_105 (by decide) (fun _ => ?_) (fun z => absurd (by decide) z)
          refine lv_iconst (v := 0) hx hb dd_K_namesFit_112 (by decide) ?_
          exact mr_i hx hb hr hlocks rfl (by simp [bI, k_namesFit, k_hasFirst, eq_true c1, c2, c7, c9]) dd_K_namesFit_113
        · refine lv_lload_n hx hb dd_K_namesFit_71 rfl (lv_at hl 4 rfl) ?_
          refine lv_lload_n hx hb dd_K_namesFit_72 rfl (lv_at hl 3 rfl) ?_
          refine W.lcmp hx hb dd_K_namesFit_73 ?_
          refine lc_if_eq (tgt := 81) hx hb dd_K_namesFit_74 (by decide) (fun c10 => ?_) (fun c10 => ?_)
          · refine lv_iconst (v := 0) hx hb dd_K_namesFit_81 (by decide) ?_
            refine lv_goto (tgt := 96) hx hb dd_K_namesFit_82 (by decide) ?_
            refine lv_istore (lv' := [(7, .int 0), (6, .int 1), (5, .int 1), (0, .int k), (1, .long f), (3, .long z)]) hx hb dd_K_namesFit_96 hl (by decide) rfl (fun ls hl => ?_)
            refine lv_iload hx hb dd_K_namesFit_98 (lv_at hl 1 rfl) ?_
            refine lv_if_eq (tgt := 112) hx hb dd_K_namesFit_100 (by decide) (fun z => absurd z (by decide)) (fun _ => ?_)
            refine lv_iload hx hb dd_K_namesFit_103 (lv_at hl 0 rfl) ?_
            refine lv_if_eq (tgt := 112) hx hb dd_K_namesFit_105 (by decide) (fun _ => ?_) (fun z => absurd (by decide) z)
            refine lv_iconst (v := 0) hx hb dd_K_namesFit_112 (by decide) ?_
            exact mr_i hx hb hr hlocks rfl (by simp [bI, k_namesFit, k_hasFirst, eq_true c1, c2, c7, c9, eq_true c10]) dd_K_namesFit_113
          · refine lv_iconst (v := 1) hx hb dd_K_namesFit_77 (by decide) ?_
            refine lv_goto (tgt := 96) hx hb dd_K_namesFit_78 (by decide) ?_
            refine lv_istore (lv' := [(7, .int 1), (6, .int 1), (5, .int 1), (0, .int k), (1, .long f), (3, .long z)]) hx hb dd_K_namesFit_96 hl (by decide) rfl (fun ls hl => ?_)
            refine lv_iload hx hb dd_K_namesFit_98 (lv_at hl 1 rfl) ?_
            refine lv_if_eq (tgt := 112) hx hb dd_K_namesFit_100 (by decide) (fun z => absurd z (by decide)) (fun _ => ?_)
            refine lv_iload hx hb dd_K_namesFit_103 (lv_at hl 0 rfl) ?_
            refine lv_if_eq (tgt := 112) hx hb dd_K_namesFit_105 (by decide) (fun z => absurd z (by decide)) (fun _ => ?_)
            refine lv_iconst (v := 1) hx hb dd_K_namesFit_108 (by decide) ?_
            refine lv_goto (tgt := 113) hx hb dd_K_namesFit_109 (by decide) ?_
            exact mr_i hx hb hr hlocks rfl (by simp [bI, k_namesFit, k_hasFirst, eq_true c1, c2, c7, c9, c10]) dd_K_namesFit_113
  · refine lv_iload_n hx hb dd_K_namesFit_5 rfl (lv_at hl 0 rfl) ?_
    refine mc_S (As := [.int k]) (rest := []) 1 (cc_K_isBinder (k := k)) hx hb hml hown ht hM hK hl.1 lk_K_19 (by decide +kernel) (by decide) rfl rfl (Nat.le_of_ble_eq_true rfl) dd_K_namesFit_6 ⟨Nat.zero_le _, Nat.zero_le _⟩ ?_
    refine lb_if_ne (tgt := 19) hx hb dd_K_namesFit_9 (by decide) (fun c11 => ?_) (fun c11 => ?_)
    · refine lv_iconst (v := 1) hx hb dd_K_namesFit_19 (by decide) ?_
      refine lv_goto (tgt := 24) hx hb dd_K_namesFit_20 (by decide) ?_
      refine lv_istore (lv' := [(5, .int 1), (0, .int k), (1, .long f), (3, .long z)]) hx hb dd_K_namesFit_24 hl (by decide) rfl (fun ls hl => ?_)
      refine lv_iload hx hb dd_K_namesFit_26 (lv_at hl 0 rfl) ?_
      refine lv_if_eq (tgt := 45) hx hb dd_K_namesFit_28 (by decide) (fun z => absurd z (by decide)) (fun _ => ?_)
      refine lv_lload_n hx hb dd_K_namesFit_31 rfl (lv_at hl 2 rfl) ?_
      refine lv_lconst (v := 0) hx hb dd_K_namesFit_32 (by decide) ?_
      refine W.lcmp hx hb dd_K_namesFit_33 ?_
      refine lc_if_le (tgt := 41) hx hb dd_K_namesFit_34 (by decide) (fun c12 => ?_) (fun c12 => ?_)
      · refine lv_iconst (v := 0) hx hb dd_K_namesFit_41 (by decide) ?_
        refine lv_goto (tgt := 56) hx hb dd_K_namesFit_42 (by decide) ?_
        refine lv_istore (lv' := [(6, .int 0), (5, .int 1), (0, .int k), (1, .long f), (3, .long z)]) hx hb dd_K_namesFit_56 hl (by decide) rfl (fun ls hl => ?_)
        refine lv_iload_n hx hb dd_K_namesFit_58 rfl (lv_at hl 2 rfl) ?_
        refine mc_S (As := [.int k]) (rest := []) 1 (cc_K_isCase (k := k)) hx hb hml hown ht hM hK hl.1 lk_K_25 (by decide +kernel) (by decide) rfl rfl (Nat.le_of_ble_eq_true rfl) dd_K_namesFit_59 ⟨Nat.zero_le _, Nat.zero_le _⟩ ?_
        refine lb_if_eq (tgt := 85) hx hb dd_K_namesFit_62 (by decide) (fun c13 => ?_) (fun c13 => ?_)
        · refine lv_lload_n hx hb dd_K_namesFit_85 rfl (lv_at hl 4 rfl) ?_
          refine lv_lconst (v := 0) hx hb dd_K_namesFit_86 (by decide) ?_
          refine W.lcmp hx hb dd_K_namesFit_87 ?_
          refine lc_if_ne (tgt := 95) hx hb dd_K_namesFit_88 (by decide) (fun c14 => ?_) (fun c14 => ?_)
          · refine lv_iconst (v := 0) hx hb dd_K_namesFit_95 (by decide) ?_
            refine lv_istore (lv' := [(7, .int 0), (6, .int 0), (5, .int 1), (0, .int k), (1, .long f), (3, .long z)]) hx hb dd_K_namesFit_96 hl (by decide) rfl (fun ls hl => ?_)
            refine lv_iload hx hb dd_K_namesFit_98 (lv_at hl 1 rfl) ?_
            refine lv_if_eq (tgt := 112) hx hb dd_K_namesFit_100 (by decide) (fun _ => ?_) (fun z => absurd (by decide) z)
            refine lv_iconst (v := 0) hx hb dd_K_namesFit_112 (by decide) ?_
            exact mr_i hx hb hr hlocks rfl (by simp [bI, k_namesFit, k_hasFirst, c1, c11, c12, c13, c14]) dd_K_namesFit_113
          · refine lv_iconst (v := 1) hx hb dd_K_namesFit_91 (by decide) ?_
            refine lv_goto (tgt := 96) hx hb dd_K_namesFit_92 (by decide) ?_
            refine lv_istore (lv' := [(7, .int 1), (6, .int 0), (5, .int 1), (0, .int k), (1, .long f), (3, .long z)]) hx hb dd_K_namesFit_96 hl (by decide) rfl (fun ls hl => ?_)
            refine lv_iload hx hb dd_K_namesFit_98 (lv_at hl 1 rfl) ?_
            refine lv_if_eq (tgt := 112) hx hb dd_K_namesFit_100 (by decide) (fun _ => ?_) (fun z => absurd (by decide) z)
            refine lv_iconst (v := 0) hx hb dd_K_namesFit_112 (by decide) ?_
            exact mr_i hx hb hr hlocks rfl (by simp [bI, k_namesFit, k_hasFirst, c1, c11, c12, c13, eq_true c14]) dd_K_namesFit_113
        · refine lv_lload_n hx hb dd_K_namesFit_65 rfl (lv_at hl 4 rfl) ?_
          refine lv_lconst (v := 0) hx hb dd_K_namesFit_66 (by decide) ?_
          refine W.lcmp hx hb dd_K_namesFit_67 ?_
          refine lc_if_le (tgt := 81) hx hb dd_K_namesFit_68 (by decide) (fun c15 => ?_) (fun c15 => ?_)
          · refine lv_iconst (v := 0) hx hb dd_K_namesFit_81 (by decide) ?_
            refine lv_goto (tgt := 96) hx hb dd_K_namesFit_82 (by decide) ?_
            refine lv_istore (lv' := [(7, .int 0), (6, .int 0), (5, .int 1), (0, .int k), (1, .long f), (3, .long z)]) hx hb dd_K_namesFit_96 hl (by decide) rfl (fun ls hl => ?_)
            refine lv_iload hx hb dd_K_namesFit_98 (lv_at hl 1 rfl) ?_
            refine lv_if_eq (tgt := 112) hx hb dd_K_namesFit_100 (by decide) (fun _ => ?_) (fun z => absurd (by decide) z)
            refine lv_iconst (v := 0) hx hb dd_K_namesFit_112 (by decide) ?_
            exact mr_i hx hb hr hlocks rfl (by simp [bI, k_namesFit, k_hasFirst, c1, c11, c12, c13, c15]) dd_K_namesFit_113
          · refine lv_lload_n hx hb dd_K_namesFit_71 rfl (lv_at hl 4 rfl) ?_
            refine lv_lload_n hx hb dd_K_namesFit_72 rfl (lv_at hl 3 rfl) ?_
            refine W.lcmp hx hb dd_K_namesFit_73 ?_
            refine lc_if_eq (tgt := 81) hx hb dd_K_namesFit_74 (by decide) (fun c16 => ?_) (fun c16 => ?_)
            · refine lv_iconst (v := 0) hx hb dd_K_namesFit_81 (by decide) ?_
              refine lv_goto (tgt := 96) hx hb dd_K_namesFit_82 (by decide) ?_
              refine lv_istore (lv' := [(7, .int 0), (6, .int 0), (5, .int 1), (0, .int k), (1, .long f), (3, .long z)]) hx hb dd_K_namesFit_96 hl (by decide) rfl (fun ls hl => ?_)
              refine lv_iload hx hb dd_K_namesFit_98 (lv_at hl 1 rfl) ?_
              refine lv_if_eq (tgt := 112) hx hb dd_K_namesFit_100 (by decide) (fun _ => ?_) (fun z => absurd (by decide) z)
              refine lv_iconst (v := 0) hx hb dd_K_namesFit_112 (by decide) ?_
              exact mr_i hx hb hr hlocks rfl (by simp [bI, k_namesFit, k_hasFirst, c1, c11, c12, c13, c15, eq_true c16]) dd_K_namesFit_113
            · refine lv_iconst (v := 1) hx hb dd_K_namesFit_77 (by decide) ?_
              refine lv_goto (tgt := 96) hx hb dd_K_namesFit_78 (by decide) ?_
              refine lv_istore (lv' := [(7, .int 1), (6, .int 0), (5, .int 1), (0, .int k), (1, .long f), (3, .long z)]) hx hb dd_K_namesFit_96 hl (by decide) rfl (fun ls hl => ?_)
              refine lv_iload hx hb dd_K_namesFit_98 (lv_at hl 1 rfl) ?_
              refine lv_if_eq (tgt := 112) hx hb dd_K_namesFit_100 (by decide) (fun _ => ?_) (fun z => absurd (by decide) z)
              refine lv_iconst (v := 0) hx hb dd_K_namesFit_112 (by decide) ?_
              exact mr_i hx hb hr hlocks rfl (by simp [bI, k_namesFit, k_hasFirst, c1, c11, c12, c13, c15, c16]) dd_K_namesFit_113
      · refine lv_iconst (v := 1) hx hb dd_K_namesFit_37 (by decide) ?_
        refine lv_goto (tgt := 56) hx hb dd_K_namesFit_38 (by decide) ?_
        refine lv_istore (lv' := [(6, .int 1), (5, .int 1), (0, .int k), (1, .long f), (3, .long z)]) hx hb dd_K_namesFit_56 hl (by decide) rfl (fun ls hl => ?_)
        refine lv_iload_n hx hb dd_K_namesFit_58 rfl (lv_at hl 2 rfl) ?_
        refine mc_S (As := [.int k]) (rest := []) 1 (cc_K_isCase (k := k)) hx hb hml hown ht hM hK hl.1 lk_K_25 (by decide +kernel) (by decide) rfl rfl (Nat.le_of_ble_eq_true rfl) dd_K_namesFit_59 ⟨Nat.zero_le _, Nat.zero_le _⟩ ?_
        refine lb_if_eq (tgt := 85) hx hb dd_K_namesFit_62 (by decide) (fun c17 => ?_) (fun c17 => ?_)
        · refine lv_lload_n hx hb dd_K_namesFit_85 rfl (lv_at hl 4 rfl) ?_
          refine lv_lconst (v := 0) hx hb dd_K_namesFit_86 (by decide) ?_
          refine W.lcmp hx hb dd_K_namesFit_87 ?_
          refine lc_if_ne (tgt := 95) hx hb dd_K_namesFit_88 (by decide) (fun c18 => ?_) (fun c18 => ?_)
          · refine lv_iconst (v := 0) hx hb dd_K_namesFit_95 (by decide) ?_
            refine lv_istore (lv' := [(7, .int 0), (6, .int 1), (5, .int 1), (0, .int k), (1, .long f), (3, .long z)]) hx hb dd_K_namesFit_96 hl (by decide) rfl (fun ls hl => ?_)
            refine lv_iload hx hb dd_K_namesFit_98 (lv_at hl 1 rfl) ?_
            refine lv_if_eq (tgt := 112) hx hb dd_K_namesFit_100 (by decide) (fun z => absurd z (by decide)) (fun _ => ?_)
            refine lv_iload hx hb dd_K_namesFit_103 (lv_at hl 0 rfl) ?_
            refine lv_if_eq (tgt := 112) hx hb dd_K_namesFit_105 (by decide) (fun _ => ?_) (fun z => absurd (by decide) z)
            refine lv_iconst (v := 0) hx hb dd_K_namesFit_112 (by decide) ?_
            exact mr_i hx hb hr hlocks rfl (by simp [bI, k_namesFit, k_hasFirst, c1, c11, c12, c17, c18]) dd_K_namesFit_113
          · refine lv_iconst (v := 1) hx hb dd_K_namesFit_91 (by decide) ?_
            refine lv_goto (tgt := 96) hx hb dd_K_namesFit_92 (by decide) ?_
            refine lv_istore (lv' := [(7, .int 1), (6, .int 1), (5, .int 1), (0, .int k), (1, .long f), (3, .long z)]) hx hb dd_K_namesFit_96 hl (by decide) rfl (fun ls hl => ?_)
            refine lv_iload hx hb dd_K_namesFit_98 (lv_at hl 1 rfl) ?_
            refine lv_if_eq (tgt := 112) hx hb dd_K_namesFit_100 (by decide) (fun z => absurd z (by decide)) (fun _ => ?_)
            refine lv_iload hx hb dd_K_namesFit_103 (lv_at hl 0 rfl) ?_
            refine lv_if_eq (tgt := 112) hx hb dd_K_namesFit_105 (by decide) (fun z => absurd z (by decide)) (fun _ => ?_)
            refine lv_iconst (v := 1) hx hb dd_K_namesFit_108 (by decide) ?_
            refine lv_goto (tgt := 113) hx hb dd_K_namesFit_109 (by decide) ?_
            exact mr_i hx hb hr hlocks rfl (by simp [bI, k_namesFit, k_hasFirst, c1, c11, c12, c17, eq_true c18]) dd_K_namesFit_113
        · refine lv_lload_n hx hb dd_K_namesFit_65 rfl (lv_at hl 4 rfl) ?_
          refine lv_lconst (v := 0) hx hb dd_K_namesFit_66 (by decide) ?_
          refine W.lcmp hx hb dd_K_namesFit_67 ?_
          refine lc_if_le (tgt := 81) hx hb dd_K_namesFit_68 (by decide) (fun c19 => ?_) (fun c19 => ?_)
          · refine lv_iconst (v := 0) hx hb dd_K_namesFit_81 (by decide) ?_
            refine lv_goto (tgt := 96) hx hb dd_K_namesFit_82 (by decide) ?_
            refine lv_istore (lv' := [(7, .int 0), (6, .int 1), (5, .int 1), (0, .int k), (1, .long f), (3, .long z)]) hx hb dd_K_namesFit_96 hl (by decide) rfl (fun ls hl => ?_)
            refine lv_iload hx hb dd_K_namesFit_98 (lv_at hl 1 rfl) ?_
            refine lv_if_eq (tgt := 112) hx hb dd_K_namesFit_100 (by decide) (fun z => absurd z (by decide)) (fun _ => ?_)
            refine lv_iload hx hb dd_K_namesFit_103 (lv_at hl 0 rfl) ?_
            refine lv_if_eq (tgt := 112) hx hb dd_K_namesFit_105 (by decide) (fun _ => ?_) (fun z => absurd (by decide) z)
            refine lv_iconst (v := 0) hx hb dd_K_namesFit_112 (by decide) ?_
            exact mr_i hx hb hr hlocks rfl (by simp [bI, k_namesFit, k_hasFirst, c1, c11, c12, c17, c19]) dd_K_namesFit_113
          · refine lv_lload_n hx hb dd_K_namesFit_71 rfl (lv_at hl 4 rfl) ?_
            refine lv_lload_n hx hb dd_K_namesFit_72 rfl (lv_at hl 3 rfl) ?_
            refine W.lcmp hx hb dd_K_namesFit_73 ?_
            refine lc_if_eq (tgt := 81) hx hb dd_K_namesFit_74 (by decide) (fun c20 => ?_) (fun c20 => ?_)
            · refine lv_iconst (v := 0) hx hb dd_K_namesFit_81 (by decide) ?_
              refine lv_goto (tgt := 96) hx hb dd_K_namesFit_82 (by decide) ?_
              refine lv_istore (lv' := [(7, .int 0), (6, .int 1), (5, .int 1), (0, .int k), (1, .long f), (3, .long z)]) hx hb dd_K_namesFit_96 hl (by decide) rfl (fun ls hl => ?_)
              refine lv_iload hx hb dd_K_namesFit_98 (lv_at hl 1 rfl) ?_
              refine lv_if_eq (tgt := 112) hx hb dd_K_namesFit_100 (by decide) (fun z => absurd z (by decide)) (fun _ => ?_)
              refine lv_iload hx hb dd_K_namesFit_103 (lv_at hl 0 rfl) ?_
              refine lv_if_eq (tgt := 112) hx hb dd_K_namesFit_105 (by decide) (fun _ => ?_) (fun z => absurd (by decide) z)
              refine lv_iconst (v := 0) hx hb dd_K_namesFit_112 (by decide) ?_
              exact mr_i hx hb hr hlocks rfl (by simp [bI, k_namesFit, k_hasFirst, c1, c11, c12, c17, c19, eq_true c20]) dd_K_namesFit_113
            · refine lv_iconst (v := 1) hx hb dd_K_namesFit_77 (by decide) ?_
              refine lv_goto (tgt := 96) hx hb dd_K_namesFit_78 (by decide) ?_
              refine lv_istore (lv' := [(7, .int 1), (6, .int 1), (5, .int 1), (0, .int k), (1, .long f), (3, .long z)]) hx hb dd_K_namesFit_96 hl (by decide) rfl (fun ls hl => ?_)
              refine lv_iload hx hb dd_K_namesFit_98 (lv_at hl 1 rfl) ?_
              refine lv_if_eq (tgt := 112) hx hb dd_K_namesFit_100 (by decide) (fun z => absurd z (by decide)) (fun _ => ?_)
              refine lv_iload hx hb dd_K_namesFit_103 (lv_at hl 0 rfl) ?_
              refine lv_if_eq (tgt := 112) hx hb dd_K_namesFit_105 (by decide) (fun z => absurd z (by decide)) (fun _ => ?_)
              refine lv_iconst (v := 1) hx hb dd_K_namesFit_108 (by decide) ?_
              refine lv_goto (tgt := 113) hx hb dd_K_namesFit_109 (by decide) ?_
              exact mr_i hx hb hr hlocks rfl (by simp [bI, k_namesFit, k_hasFirst, c1, c11, c12, c17, c19, c20]) dd_K_namesFit_113
    · refine lv_iload_n hx hb dd_K_namesFit_12 rfl (lv_at hl 0 rfl) ?_
      refine mc_S (As := [.int k]) (rest := []) 1 (cc_K_isCall (k := k)) hx hb hml hown ht hM hK hl.1 lk_K_22 (by decide +kernel) (by decide) rfl rfl (Nat.le_of_ble_eq_true rfl) dd_K_namesFit_13 ⟨Nat.zero_le _, Nat.zero_le _⟩ ?_
      refine lb_if_eq (tgt := 23) hx hb dd_K_namesFit_16 (by decide) (fun c21 => ?_) (fun c21 => ?_)
      · refine lv_iconst (v := 0) hx hb dd_K_namesFit_23 (by decide) ?_
        refine lv_istore (lv' := [(5, .int 0), (0, .int k), (1, .long f), (3, .long z)]) hx hb dd_K_namesFit_24 hl (by decide) rfl (fun ls hl => ?_)
        refine lv_iload hx hb dd_K_namesFit_26 (lv_at hl 0 rfl) ?_
        refine lv_if_eq (tgt := 45) hx hb dd_K_namesFit_28 (by decide) (fun _ => ?_) (fun z => absurd (by decide) z)
        refine lv_lload_n hx hb dd_K_namesFit_45 rfl (lv_at hl 2 rfl) ?_
        refine lv_lconst (v := 0) hx hb dd_K_namesFit_46 (by decide) ?_
        refine W.lcmp hx hb dd_K_namesFit_47 ?_
        refine lc_if_ne (tgt := 55) hx hb dd_K_namesFit_48 (by decide) (fun c22 => ?_) (fun c22 => ?_)
        · refine lv_iconst (v := 0) hx hb dd_K_namesFit_55 (by decide) ?_
          refine lv_istore (lv' := [(6, .int 0), (5, .int 0), (0, .int k), (1, .long f), (3, .long z)]) hx hb dd_K_namesFit_56 hl (by decide) rfl (fun ls hl => ?_)
          refine lv_iload_n hx hb dd_K_namesFit_58 rfl (lv_at hl 2 rfl) ?_
          refine mc_S (As := [.int k]) (rest := []) 1 (cc_K_isCase (k := k)) hx hb hml hown ht hM hK hl.1 lk_K_25 (by decide +kernel) (by decide) rfl rfl (Nat.le_of_ble_eq_true rfl) dd_K_namesFit_59 ⟨Nat.zero_le _, Nat.zero_le _⟩ ?_
          refine lb_if_eq (tgt := 85) hx hb dd_K_namesFit_62 (by decide) (fun c23 => ?_) (fun c23 => ?_)
          · refine lv_lload_n hx hb dd_K_namesFit_85 rfl (lv_at hl 4 rfl) ?_
            refine lv_lconst (v := 0) hx hb dd_K_namesFit_86 (by decide) ?_
            refine W.lcmp hx hb dd_K_namesFit_87 ?_
            refine lc_if_ne (tgt := 95) hx hb dd_K_namesFit_88 (by decide) (fun c24 => ?_) (fun c24 => ?_)
            · refine lv_iconst (v := 0) hx hb dd_K_namesFit_95 (by decide) ?_
              refine lv_istore (lv' := [(7, .int 0), (6, .int 0), (5, .int 0), (0, .int k), (1, .long f), (3, .long z)]) hx hb dd_K_namesFit_96 hl (by decide) rfl (fun ls hl => ?_)
              refine lv_iload hx hb dd_K_namesFit_98 (lv_at hl 1 rfl) ?_
              refine lv_if_eq (tgt := 112) hx hb dd_K_namesFit_100 (by decide) (fun _ => ?_) (fun z => absurd (by decide) z)
              refine lv_iconst (v := 0) hx hb dd_K_namesFit_112 (by decide) ?_
              exact mr_i hx hb hr hlocks rfl (by simp [bI, k_namesFit, k_hasFirst, c1, c11, c21, c22, c23, c24]) dd_K_namesFit_113
            · refine lv_iconst (v := 1) hx hb dd_K_namesFit_91 (by decide) ?_
              refine lv_goto (tgt := 96) hx hb dd_K_namesFit_92 (by decide) ?_
              refine lv_istore (lv' := [(7, .int 1), (6, .int 0), (5, .int 0), (0, .int k), (1, .long f), (3, .long z)]) hx hb dd_K_namesFit_96 hl (by decide) rfl (fun ls hl => ?_)
              refine lv_iload hx hb dd_K_namesFit_98 (lv_at hl 1 rfl) ?_
              refine lv_if_eq (tgt := 112) hx hb dd_K_namesFit_100 (by decide) (fun _ => ?_) (fun z => absurd (by decide) z)
              refine lv_iconst (v := 0) hx hb dd_K_namesFit_112 (by decide) ?_
              exact mr_i hx hb hr hlocks rfl (by simp [bI, k_namesFit, k_hasFirst, c1, c11, c21, c22, c23, eq_true c24]) dd_K_namesFit_113
          · refine lv_lload_n hx hb dd_K_namesFit_65 rfl (lv_at hl 4 rfl) ?_
            refine lv_lconst (v := 0) hx hb dd_K_namesFit_66 (by decide) ?_
            refine W.lcmp hx hb dd_K_namesFit_67 ?_
            refine lc_if_le (tgt := 81) hx hb dd_K_namesFit_68 (by decide) (fun c25 => ?_) (fun c25 => ?_)
            · refine lv_iconst (v := 0) hx hb dd_K_namesFit_81 (by decide) ?_
              refine lv_goto (tgt := 96) hx hb dd_K_namesFit_82 (by decide) ?_
              refine lv_istore (lv' := [(7, .int 0), (6, .int 0), (5, .int 0), (0, .int k), (1, .long f), (3, .long z)]) hx hb dd_K_namesFit_96 hl (by decide) rfl (fun ls hl => ?_)
              refine lv_iload hx hb dd_K_namesFit_98 (lv_at hl 1 rfl) ?_
              refine lv_if_eq (tgt := 112) hx hb dd_K_namesFit_100 (by decide) (fun _ => ?_) (fun z => absurd (by decide) z)
              refine lv_iconst (v := 0) hx hb dd_K_namesFit_112 (by decide) ?_
              exact mr_i hx hb hr hlocks rfl (by simp [bI, k_namesFit, k_hasFirst, c1, c11, c21, c22, c23, c25]) dd_K_namesFit_113
            · refine lv_lload_n hx hb dd_K_namesFit_71 rfl (lv_at hl 4 rfl) ?_
              refine lv_lload_n hx hb dd_K_namesFit_72 rfl (lv_at hl 3 rfl) ?_
              refine W.lcmp hx hb dd_K_namesFit_73 ?_
              refine lc_if_eq (tgt := 81) hx hb dd_K_namesFit_74 (by decide) (fun c26 => ?_) (fun c26 => ?_)
              · refine lv_iconst (v := 0) hx hb dd_K_namesFit_81 (by decide) ?_
                refine lv_goto (tgt := 96) hx hb dd_K_namesFit_82 (by decide) ?_
                refine lv_istore (lv' := [(7, .int 0), (6, .int 0), (5, .int 0), (0, .int k), (1, .long f), (3, .long z)]) hx hb dd_K_namesFit_96 hl (by decide) rfl (fun ls hl => ?_)
                refine lv_iload hx hb dd_K_namesFit_98 (lv_at hl 1 rfl) ?_
                refine lv_if_eq (tgt := 112) hx hb dd_K_namesFit_100 (by decide) (fun _ => ?_) (fun z => absurd (by decide) z)
                refine lv_iconst (v := 0) hx hb dd_K_namesFit_112 (by decide) ?_
                exact mr_i hx hb hr hlocks rfl (by simp [bI, k_namesFit, k_hasFirst, c1, c11, c21, c22, c23, c25, eq_true c26]) dd_K_namesFit_113
              · refine lv_iconst (v := 1) hx hb dd_K_namesFit_77 (by decide) ?_
                refine lv_goto (tgt := 96) hx hb dd_K_namesFit_78 (by decide) ?_
                refine lv_istore (lv' := [(7, .int 1), (6, .int 0), (5, .int 0), (0, .int k), (1, .long f), (3, .long z)]) hx hb dd_K_namesFit_96 hl (by decide) rfl (fun ls hl => ?_)
                refine lv_iload hx hb dd_K_namesFit_98 (lv_at hl 1 rfl) ?_
                refine lv_if_eq (tgt := 112) hx hb dd_K_namesFit_100 (by decide) (fun _ => ?_) (fun z => absurd (by decide) z)
                refine lv_iconst (v := 0) hx hb dd_K_namesFit_112 (by decide) ?_
                exact mr_i hx hb hr hlocks rfl (by simp [bI, k_namesFit, k_hasFirst, c1, c11, c21, c22, c23, c25, c26]) dd_K_namesFit_113
        · refine lv_iconst (v := 1) hx hb dd_K_namesFit_51 (by decide) ?_
          refine lv_goto (tgt := 56) hx hb dd_K_namesFit_52 (by decide) ?_
          refine lv_istore (lv' := [(6, .int 1), (5, .int 0), (0, .int k), (1, .long f), (3, .long z)]) hx hb dd_K_namesFit_56 hl (by decide) rfl (fun ls hl => ?_)
          refine lv_iload_n hx hb dd_K_namesFit_58 rfl (lv_at hl 2 rfl) ?_
          refine mc_S (As := [.int k]) (rest := []) 1 (cc_K_isCase (k := k)) hx hb hml hown ht hM hK hl.1 lk_K_25 (by decide +kernel) (by decide) rfl rfl (Nat.le_of_ble_eq_true rfl) dd_K_namesFit_59 ⟨Nat.zero_le _, Nat.zero_le _⟩ ?_
          refine lb_if_eq (tgt := 85) hx hb dd_K_namesFit_62 (by decide) (fun c27 => ?_) (fun c27 => ?_)
          · refine lv_lload_n hx hb dd_K_namesFit_85 rfl (lv_at hl 4 rfl) ?_
            refine lv_lconst (v := 0) hx hb dd_K_namesFit_86 (by decide) ?_
            refine W.lcmp hx hb dd_K_namesFit_87 ?_
            refine lc_if_ne (tgt := 95) hx hb dd_K_namesFit_88 (by decide) (fun c28 => ?_) (fun c28 => ?_)
            · refine lv_iconst (v := 0) hx hb dd_K_namesFit_95 (by decide) ?_
              refine lv_istore (lv' := [(7, .int 0), (6, .int 1), (5, .int 0), (0, .int k), (1, .long f), (3, .long z)]) hx hb dd_K_namesFit_96 hl (by decide) rfl (fun ls hl => ?_)
              refine lv_iload hx hb dd_K_namesFit_98 (lv_at hl 1 rfl) ?_
              refine lv_if_eq (tgt := 112) hx hb dd_K_namesFit_100 (by decide) (fun z => absurd z (by decide)) (fun _ => ?_)
              refine lv_iload hx hb dd_K_namesFit_103 (lv_at hl 0 rfl) ?_
              refine lv_if_eq (tgt := 112) hx hb dd_K_namesFit_105 (by decide) (fun _ => ?_) (fun z => absurd (by decide) z)
              refine lv_iconst (v := 0) hx hb dd_K_namesFit_112 (by decide) ?_
              exact mr_i hx hb hr hlocks rfl (by simp [bI, k_namesFit, k_hasFirst, c1, c11, c21, eq_true c22, c27, c28]) dd_K_namesFit_113
            · refine lv_iconst (v := 1) hx hb dd_K_namesFit_91 (by decide) ?_
              refine lv_goto (tgt := 96) hx hb dd_K_namesFit_92 (by decide) ?_
              refine lv_istore (lv' := [(7, .int 1), (6, .int 1), (5, .int 0), (0, .int k), (1, .long f), (3, .long z)]) hx hb dd_K_namesFit_96 hl (by decide) rfl (fun ls hl => ?_)
              refine lv_iload hx hb dd_K_namesFit_98 (lv_at hl 1 rfl) ?_
              refine lv_if_eq (tgt := 112) hx hb dd_K_namesFit_100 (by decide) (fun z => absurd z (by decide)) (fun _ => ?_)
              refine lv_iload hx hb dd_K_namesFit_103 (lv_at hl 0 rfl) ?_
              refine lv_if_eq (tgt := 112) hx hb dd_K_namesFit_105 (by decide) (fun z => absurd z (by decide)) (fun _ => ?_)
              refine lv_iconst (v := 1) hx hb dd_K_namesFit_108 (by decide) ?_
              refine lv_goto (tgt := 113) hx hb dd_K_namesFit_109 (by decide) ?_
              exact mr_i hx hb hr hlocks rfl (by simp [bI, k_namesFit, k_hasFirst, c1, c11, c21, eq_true c22, c27, eq_true c28]) dd_K_namesFit_113
          · refine lv_lload_n hx hb dd_K_namesFit_65 rfl (lv_at hl 4 rfl) ?_
            refine lv_lconst (v := 0) hx hb dd_K_namesFit_66 (by decide) ?_
            refine W.lcmp hx hb dd_K_namesFit_67 ?_
            refine lc_if_le (tgt := 81) hx hb dd_K_namesFit_68 (by decide) (fun c29 => ?_) (fun c29 => ?_)
            · refine lv_iconst (v := 0) hx hb dd_K_namesFit_81 (by decide) ?_
              refine lv_goto (tgt := 96) hx hb dd_K_namesFit_82 (by decide) ?_
              refine lv_istore (lv' := [(7, .int 0), (6, .int 1), (5, .int 0), (0, .int k), (1, .long f), (3, .long z)]) hx hb dd_K_namesFit_96 hl (by decide) rfl (fun ls hl => ?_)
              refine lv_iload hx hb dd_K_namesFit_98 (lv_at hl 1 rfl) ?_
              refine lv_if_eq (tgt := 112) hx hb dd_K_namesFit_100 (by decide) (fun z => absurd z (by decide)) (fun _ => ?_)
              refine lv_iload hx hb dd_K_namesFit_103 (lv_at hl 0 rfl) ?_
              refine lv_if_eq (tgt := 112) hx hb dd_K_namesFit_105 (by decide) (fun _ => ?_) (fun z => absurd (by decide) z)
              refine lv_iconst (v := 0) hx hb dd_K_namesFit_112 (by decide) ?_
              exact mr_i hx hb hr hlocks rfl (by simp [bI, k_namesFit, k_hasFirst, c1, c11, c21, eq_true c22, c27, c29]) dd_K_namesFit_113
            · refine lv_lload_n hx hb dd_K_namesFit_71 rfl (lv_at hl 4 rfl) ?_
              refine lv_lload_n hx hb dd_K_namesFit_72 rfl (lv_at hl 3 rfl) ?_
              refine W.lcmp hx hb dd_K_namesFit_73 ?_
              refine lc_if_eq (tgt := 81) hx hb dd_K_namesFit_74 (by decide) (fun c30 => ?_) (fun c30 => ?_)
              · refine lv_iconst (v := 0) hx hb dd_K_namesFit_81 (by decide) ?_
                refine lv_goto (tgt := 96) hx hb dd_K_namesFit_82 (by decide) ?_
                refine lv_istore (lv' := [(7, .int 0), (6, .int 1), (5, .int 0), (0, .int k), (1, .long f), (3, .long z)]) hx hb dd_K_namesFit_96 hl (by decide) rfl (fun ls hl => ?_)
                refine lv_iload hx hb dd_K_namesFit_98 (lv_at hl 1 rfl) ?_
                refine lv_if_eq (tgt := 112) hx hb dd_K_namesFit_100 (by decide) (fun z => absurd z (by decide)) (fun _ => ?_)
                refine lv_iload hx hb dd_K_namesFit_103 (lv_at hl 0 rfl) ?_
                refine lv_if_eq (tgt := 112) hx hb dd_K_namesFit_105 (by decide) (fun _ => ?_) (fun z => absurd (by decide) z)
                refine lv_iconst (v := 0) hx hb dd_K_namesFit_112 (by decide) ?_
                exact mr_i hx hb hr hlocks rfl (by simp [bI, k_namesFit, k_hasFirst, c1, c11, c21, eq_true c22, c27, c29, eq_true c30]) dd_K_namesFit_113
              · refine lv_iconst (v := 1) hx hb dd_K_namesFit_77 (by decide) ?_
                refine lv_goto (tgt := 96) hx hb dd_K_namesFit_78 (by decide) ?_
                refine lv_istore (lv' := [(7, .int 1), (6, .int 1), (5, .int 0), (0, .int k), (1, .long f), (3, .long z)]) hx hb dd_K_namesFit_96 hl (by decide) rfl (fun ls hl => ?_)
                refine lv_iload hx hb dd_K_namesFit_98 (lv_at hl 1 rfl) ?_
                refine lv_if_eq (tgt := 112) hx hb dd_K_namesFit_100 (by decide) (fun z => absurd z (by decide)) (fun _ => ?_)
                refine lv_iload hx hb dd_K_namesFit_103 (lv_at hl 0 rfl) ?_
                refine lv_if_eq (tgt := 112) hx hb dd_K_namesFit_105 (by decide) (fun z => absurd z (by decide)) (fun _ => ?_)
                refine lv_iconst (v := 1) hx hb dd_K_namesFit_108 (by decide) ?_
                refine lv_goto (tgt := 113) hx hb dd_K_namesFit_109 (by decide) ?_
                exact mr_i hx hb hr hlocks rfl (by simp [bI, k_namesFit, k_hasFirst, c1, c11, c21, eq_true c22, c27, c29, c30]) dd_K_namesFit_113
      · refine lv_iconst (v := 1) hx hb dd_K_namesFit_19 (by decide) ?_
        refine lv_goto (tgt := 24) hx hb dd_K_namesFit_20 (by decide) ?_
        refine lv_istore (lv' := [(5, .int 1), (0, .int k), (1, .long f), (3, .long z)]) hx hb dd_K_namesFit_24 hl (by decide) rfl (fun ls hl => ?_)
        refine lv_iload hx hb dd_K_namesFit_26 (lv_at hl 0 rfl) ?_
        refine lv_if_eq (tgt := 45) hx hb dd_K_namesFit_28 (by decide) (fun z => absurd z (by decide)) (fun _ => ?_)
        refine lv_lload_n hx hb dd_K_namesFit_31 rfl (lv_at hl 2 rfl) ?_
        refine lv_lconst (v := 0) hx hb dd_K_namesFit_32 (by decide) ?_
        refine W.lcmp hx hb dd_K_namesFit_33 ?_
        refine lc_if_le (tgt := 41) hx hb dd_K_namesFit_34 (by decide) (fun c31 => ?_) (fun c31 => ?_)
        · refine lv_iconst (v := 0) hx hb dd_K_namesFit_41 (by decide) ?_
          refine lv_goto (tgt := 56) hx hb dd_K_namesFit_42 (by decide) ?_
          refine lv_istore (lv' := [(6, .int 0), (5, .int 1), (0, .int k), (1, .long f), (3, .long z)]) hx hb dd_K_namesFit_56 hl (by decide) rfl (fun ls hl => ?_)
          refine lv_iload_n hx hb dd_K_namesFit_58 rfl (lv_at hl 2 rfl) ?_
          refine mc_S (As := [.int k]) (rest := []) 1 (cc_K_isCase (k := k)) hx hb hml hown ht hM hK hl.1 lk_K_25 (by decide +kernel) (by decide) rfl rfl (Nat.le_of_ble_eq_true rfl) dd_K_namesFit_59 ⟨Nat.zero_le _, Nat.zero_le _⟩ ?_
          refine lb_if_eq (tgt := 85) hx hb dd_K_namesFit_62 (by decide) (fun c32 => ?_) (fun c32 => ?_)
          · refine lv_lload_n hx hb dd_K_namesFit_85 rfl (lv_at hl 4 rfl) ?_
            refine lv_lconst (v := 0) hx hb dd_K_namesFit_86 (by decide) ?_
            refine W.lcmp hx hb dd_K_namesFit_87 ?_
            refine lc_if_ne (tgt := 95) hx hb dd_K_namesFit_88 (by decide) (fun c33 => ?_) (fun c33 => ?_)
            · refine lv_iconst (v := 0) hx hb dd_K_namesFit_95 (by decide) ?_
              refine lv_istore (lv' := [(7, .int 0), (6, .int 0), (5, .int 1), (0, .int k), (1, .long f), (3, .long z)]) hx hb dd_K_namesFit_96 hl (by decide) rfl (fun ls hl => ?_)
              refine lv_iload hx hb dd_K_namesFit_98 (lv_at hl 1 rfl) ?_
              refine lv_if_eq (tgt := 112) hx hb dd_K_namesFit_100 (by decide) (fun _ => ?_) (fun z => absurd (by decide) z)
              refine lv_iconst (v := 0) hx hb dd_K_namesFit_112 (by decide) ?_
              exact mr_i hx hb hr hlocks rfl (by simp [bI, k_namesFit, k_hasFirst, c1, c11, c21, c31, c32, c33]) dd_K_namesFit_113
            · refine lv_iconst (v := 1) hx hb dd_K_namesFit_91 (by decide) ?_
              refine lv_goto (tgt := 96) hx hb dd_K_namesFit_92 (by decide) ?_
              refine lv_istore (lv' := [(7, .int 1), (6, .int 0), (5, .int 1), (0, .int k), (1, .long f), (3, .long z)]) hx hb dd_K_namesFit_96 hl (by decide) rfl (fun ls hl => ?_)
              refine lv_iload hx hb dd_K_namesFit_98 (lv_at hl 1 rfl) ?_
              refine lv_if_eq (tgt := 112) hx hb dd_K_namesFit_100 (by decide) (fun _ => ?_) (fun z => absurd (by decide) z)
              refine lv_iconst (v := 0) hx hb dd_K_namesFit_112 (by decide) ?_
              exact mr_i hx hb hr hlocks rfl (by simp [bI, k_namesFit, k_hasFirst, c1, c11, c21, c31, c32, eq_true c33]) dd_K_namesFit_113
          · refine lv_lload_n hx hb dd_K_namesFit_65 rfl (lv_at hl 4 rfl) ?_
            refine lv_lconst (v := 0) hx hb dd_K_namesFit_66 (by decide) ?_
            refine W.lcmp hx hb dd_K_namesFit_67 ?_
            refine lc_if_le (tgt := 81) hx hb dd_K_namesFit_68 (by decide) (fun c34 => ?_) (fun c34 => ?_)
            · refine lv_iconst (v := 0) hx hb dd_K_namesFit_81 (by decide) ?_
              refine lv_goto (tgt := 96) hx hb dd_K_namesFit_82 (by decide) ?_
              refine lv_istore (lv' := [(7, .int 0), (6, .int 0), (5, .int 1), (0, .int k), (1, .long f), (3, .long z)]) hx hb dd_K_namesFit_96 hl (by decide) rfl (fun ls hl => ?_)
              refine lv_iload hx hb dd_K_namesFit_98 (lv_at hl 1 rfl) ?_
              refine lv_if_eq (tgt := 112) hx hb dd_K_namesFit_100 (by decide) (fun _ => ?_) (fun z => absurd (by decide) z)
              refine lv_iconst (v := 0) hx hb dd_K_namesFit_112 (by decide) ?_
              exact mr_i hx hb hr hlocks rfl (by simp [bI, k_namesFit, k_hasFirst, c1, c11, c21, c31, c32, c34]) dd_K_namesFit_113
            · refine lv_lload_n hx hb dd_K_namesFit_71 rfl (lv_at hl 4 rfl) ?_
              refine lv_lload_n hx hb dd_K_namesFit_72 rfl (lv_at hl 3 rfl) ?_
              refine W.lcmp hx hb dd_K_namesFit_73 ?_
              refine lc_if_eq (tgt := 81) hx hb dd_K_namesFit_74 (by decide) (fun c35 => ?_) (fun c35 => ?_)
              · refine lv_iconst (v := 0) hx hb dd_K_namesFit_81 (by decide) ?_
                refine lv_goto (tgt := 96) hx hb dd_K_namesFit_82 (by decide) ?_
                refine lv_istore (lv' := [(7, .int 0), (6, .int 0), (5, .int 1), (0, .int k), (1, .long f), (3, .long z)]) hx hb dd_K_namesFit_96 hl (by decide) rfl (fun ls hl => ?_)
                refine lv_iload hx hb dd_K_namesFit_98 (lv_at hl 1 rfl) ?_
                refine lv_if_eq (tgt := 112) hx hb dd_K_namesFit_100 (by decide) (fun _ => ?_) (fun z => absurd (by decide) z)
                refine lv_iconst (v := 0) hx hb dd_K_namesFit_112 (by decide) ?_
                exact mr_i hx hb hr hlocks rfl (by simp [bI, k_namesFit, k_hasFirst, c1, c11, c21, c31, c32, c34, eq_true c35]) dd_K_namesFit_113
              · refine lv_iconst (v := 1) hx hb dd_K_namesFit_77 (by decide) ?_
                refine lv_goto (tgt := 96) hx hb dd_K_namesFit_78 (by decide) ?_
                refine lv_istore (lv' := [(7, .int 1), (6, .int 0), (5, .int 1), (0, .int k), (1, .long f), (3, .long z)]) hx hb dd_K_namesFit_96 hl (by decide) rfl (fun ls hl => ?_)
                refine lv_iload hx hb dd_K_namesFit_98 (lv_at hl 1 rfl) ?_
                refine lv_if_eq (tgt := 112) hx hb dd_K_namesFit_100 (by decide) (fun _ => ?_) (fun z => absurd (by decide) z)
                refine lv_iconst (v := 0) hx hb dd_K_namesFit_112 (by decide) ?_
                exact mr_i hx hb hr hlocks rfl (by simp [bI, k_namesFit, k_hasFirst, c1, c11, c21, c31, c32, c34, c35]) dd_K_namesFit_113
        · refine lv_iconst (v := 1) hx hb dd_K_namesFit_37 (by decide) ?_
          refine lv_goto (tgt := 56) hx hb dd_K_namesFit_38 (by decide) ?_
          refine lv_istore (lv' := [(6, .int 1), (5, .int 1), (0, .int k), (1, .long f), (3, .long z)]) hx hb dd_K_namesFit_56 hl (by decide) rfl (fun ls hl => ?_)
          refine lv_iload_n hx hb dd_K_namesFit_58 rfl (lv_at hl 2 rfl) ?_
          refine mc_S (As := [.int k]) (rest := []) 1 (cc_K_isCase (k := k)) hx hb hml hown ht hM hK hl.1 lk_K_25 (by decide +kernel) (by decide) rfl rfl (Nat.le_of_ble_eq_true rfl) dd_K_namesFit_59 ⟨Nat.zero_le _, Nat.zero_le _⟩ ?_
          refine lb_if_eq (tgt := 85) hx hb dd_K_namesFit_62 (by decide) (fun c36 => ?_) (fun c36 => ?_)
          · refine lv_lload_n hx hb dd_K_namesFit_85 rfl (lv_at hl 4 rfl) ?_
            refine lv_lconst (v := 0) hx hb dd_K_namesFit_86 (by decide) ?_
            refine W.lcmp hx hb dd_K_namesFit_87 ?_
            refine lc_if_ne (tgt := 95) hx hb dd_K_namesFit_88 (by decide) (fun c37 => ?_) (fun c37 => ?_)
            · refine lv_iconst (v := 0) hx hb dd_K_namesFit_95 (by decide) ?_
              refine lv_istore (lv' := [(7, .int 0), (6, .int 1), (5, .int 1), (0, .int k), (1, .long f), (3, .long z)]) hx hb dd_K_namesFit_96 hl (by decide) rfl (fun ls hl => ?_)
              refine lv_iload hx hb dd_K_namesFit_98 (lv_at hl 1 rfl) ?_
              refine lv_if_eq (tgt := 112) hx hb dd_K_namesFit_100 (by decide) (fun z => absurd z (by decide)) (fun _ => ?_)
              refine lv_iload hx hb dd_K_namesFit_103 (lv_at hl 0 rfl) ?_
              refine lv_if_eq (tgt := 112) hx hb dd_K_namesFit_105 (by decide) (fun _ => ?_) (fun z => absurd (by decide) z)
              refine lv_iconst (v := 0) hx hb dd_K_namesFit_112 (by decide) ?_
              exact mr_i hx hb hr hlocks rfl (by simp [bI, k_namesFit, k_hasFirst, c1, c11, c21, c31, c36, c37]) dd_K_namesFit_113
            · refine lv_iconst (v := 1) hx hb dd_K_namesFit_91 (by decide) ?_
              refine lv_goto (tgt := 96) hx hb dd_K_namesFit_92 (by decide) ?_
              refine lv_istore (lv' := [(7, .int 1), (6, .int 1), (5, .int 1), (0, .int k), (1, .long f), (3, .long z)]) hx hb dd_K_namesFit_96 hl (by decide) rfl (fun ls hl => ?_)
              refine lv_iload hx hb dd_K_namesFit_98 (lv_at hl 1 rfl) ?_
              refine lv_if_eq (tgt := 112) hx hb dd_K_namesFit_100 (by decide) (fun z => absurd z (by decide)) (fun _ => ?_)
              refine lv_iload hx hb dd_K_namesFit_103 (lv_at hl 0 rfl) ?_
              refine lv_if_eq (tgt := 112) hx hb dd_K_namesFit_105 (by decide) (fun z => absurd z (by decide)) (fun _ => ?_)
              refine lv_iconst (v := 1) hx hb dd_K_namesFit_108 (by decide) ?_
              refine lv_goto (tgt := 113) hx hb dd_K_namesFit_109 (by decide) ?_
              exact mr_i hx hb hr hlocks rfl (by simp [bI, k_namesFit, k_hasFirst, c1, c11, c21, c31, c36, eq_true c37]) dd_K_namesFit_113
          · refine lv_lload_n hx hb dd_K_namesFit_65 rfl (lv_at hl 4 rfl) ?_
            refine lv_lconst (v := 0) hx hb dd_K_namesFit_66 (by decide) ?_
            refine W.lcmp hx hb dd_K_namesFit_67 ?_
            refine lc_if_le (tgt := 81) hx hb dd_K_namesFit_68 (by decide) (fun c38 => ?_) (fun c38 => ?_)
            · refine lv_iconst (v := 0) hx hb dd_K_namesFit_81 (by decide) ?_
              refine lv_goto (tgt := 96) hx hb dd_K_namesFit_82 (by decide) ?_
              refine lv_istore (lv' := [(7, .int 0), (6, .int 1), (5, .int 1), (0, .int k), (1, .long f), (3, .long z)]) hx hb dd_K_namesFit_96 hl (by decide) rfl (fun ls hl => ?_)
              refine lv_iload hx hb dd_K_namesFit_98 (lv_at hl 1 rfl) ?_
              refine lv_if_eq (tgt := 112) hx hb dd_K_namesFit_100 (by decide) (fun z => absurd z (by decide)) (fun _ => ?_)
              refine lv_iload hx hb dd_K_namesFit_103 (lv_at hl 0 rfl) ?_
              refine lv_if_eq (tgt := 112) hx hb dd_K_namesFit_105 (by decide) (fun _ => ?_) (fun z => absurd (by decide) z)
              refine lv_iconst (v := 0) hx hb dd_K_namesFit_112 (by decide) ?_
              exact mr_i hx hb hr hlocks rfl (by simp [bI, k_namesFit, k_hasFirst, c1, c11, c21, c31, c36, c38]) dd_K_namesFit_113
            · refine lv_lload_n hx hb dd_K_namesFit_71 rfl (lv_at hl 4 rfl) ?_
              refine lv_lload_n hx hb dd_K_namesFit_72 rfl (lv_at hl 3 rfl) ?_
              refine W.lcmp hx hb dd_K_namesFit_73 ?_
              refine lc_if_eq (tgt := 81) hx hb dd_K_namesFit_74 (by decide) (fun c39 => ?_) (fun c39 => ?_)
              · refine lv_iconst (v := 0) hx hb dd_K_namesFit_81 (by decide) ?_
                refine lv_goto (tgt := 96) hx hb dd_K_namesFit_82 (by decide) ?_
                refine lv_istore (lv' := [(7, .int 0), (6, .int 1), (5, .int 1), (0, .int k), (1, .long f), (3, .long z)]) hx hb dd_K_namesFit_96 hl (by decide) rfl (fun ls hl => ?_)
                refine lv_iload hx hb dd_K_namesFit_98 (lv_at hl 1 rfl) ?_
                refine lv_if_eq (tgt := 112) hx hb dd_K_namesFit_100 (by decide) (fun z => absurd z (by decide)) (fun _ => ?_)
                refine lv_iload hx hb dd_K_namesFit_103 (lv_at hl 0 rfl) ?_
                refine lv_if_eq (tgt := 112) hx hb dd_K_namesFit_105 (by decide) (fun _ => ?_) (fun z => absurd (by decide) z)
                refine lv_iconst (v := 0) hx hb dd_K_namesFit_112 (by decide) ?_
                exact mr_i hx hb hr hlocks rfl (by simp [bI, k_namesFit, k_hasFirst, c1, c11, c21, c31, c36, c38, eq_true c39]) dd_K_namesFit_113
              · refine lv_iconst (v := 1) hx hb dd_K_namesFit_77 (by decide) ?_
                refine lv_goto (tgt := 96) hx hb dd_K_namesFit_78 (by decide) ?_
                refine lv_istore (lv' := [(7, .int 1), (6, .int 1), (5, .int 1), (0, .int k), (1, .long f), (3, .long z)]) hx hb dd_K_namesFit_96 hl (by decide) rfl (fun ls hl => ?_)
                refine lv_iload hx hb dd_K_namesFit_98 (lv_at hl 1 rfl) ?_
                refine lv_if_eq (tgt := 112) hx hb dd_K_namesFit_100 (by decide) (fun z => absurd z (by decide)) (fun _ => ?_)
                refine lv_iload hx hb dd_K_namesFit_103 (lv_at hl 0 rfl) ?_
                refine lv_if_eq (tgt := 112) hx hb dd_K_namesFit_105 (by decide) (fun z => absurd z (by decide)) (fun _ => ?_)
                refine lv_iconst (v := 1) hx hb dd_K_namesFit_108 (by decide) ?_
                refine lv_goto (tgt := 113) hx hb dd_K_namesFit_109 (by decide) ?_
                exact mr_i hx hb hr hlocks rfl (by simp [bI, k_namesFit, k_hasFirst, c1, c11, c21, c31, c36, c38, c39]) dd_K_namesFit_113

set_option maxHeartbeats 4000000 in
set_option maxRecDepth 100000 in
theorem cc_K_ownType {l : Launch} {G : gC} {M : mC} {k : Int32} : cR l yy_K_ownType bb_K_ownType 1 (some .int) 0 G M [.int k] (.int (k_ownType k)) := by
  refine me_R (by decide) (Nat.le_of_ble_eq_true rfl) ?_
  intro p e s m below meth c ls hx hb hr hlocks hml hown ht hM hK hl
  have hown : s.vm.findClass RR_K = some m.cls := hown
  have hl : lv_has ls 1 [(0, .int k)] := hl
  refine lv_iload_n hx hb dd_K_ownType_0 rfl (lv_at hl 0 rfl) ?_
  refine lv_if_eq (tgt := 15) hx hb dd_K_ownType_1 (by decide) (fun c1 => ?_) (fun c1 => ?_)
  · refine lv_iconst (v := 0) hx hb dd_K_ownType_15 (by decide) ?_
    exact mr_i hx hb hr hlocks rfl (by simp [bI, k_ownType, k_ownSw, eq_true c1]) dd_K_ownType_16
  · refine lv_iload_n hx hb dd_K_ownType_4 rfl (lv_at hl 0 rfl) ?_
    refine lv_iconst (v := 3) hx hb dd_K_ownType_5 (by decide) ?_
    refine lv_icmp_lt (tgt := 17) hx hb dd_K_ownType_6 (by decide) (fun c2 => ?_) (fun c2 => ?_)
    · refine lv_iload_n hx hb dd_K_ownType_17 rfl (lv_at hl 0 rfl) ?_
      by_cases c3 : k = 2
      · refine lv_lookup (tgt := 60) (off := 42) hx hb dd_K_ownType_18 (by decide) (by rw [c3]; decide) (by decide) ?_
        refine lv_iconst (v := 1) hx hb dd_K_ownType_60 (by decide) ?_
        exact mr_i hx hb hr hlocks rfl (by simp [bI, k_ownType, k_ownSw, c1, c2, eq_true c3]) dd_K_ownType_61
      by_cases c4 : k = 13
      · refine lv_lookup (tgt := 60) (off := 42) hx hb dd_K_ownType_18 (by decide) (by rw [c4]; decide) (by decide) ?_
        refine lv_iconst (v := 1) hx hb dd_K_ownType_60 (by decide) ?_
        exact mr_i hx hb hr hlocks rfl (by simp [bI, k_ownType, k_ownSw, c1, c2, c3, eq_true c4]) dd_K_ownType_61
      by_cases c5 : k = 16
      · refine lv_lookup (tgt := 62) (off := 44) hx hb dd_K_ownType_18 (by decide) (by rw [c5]; decide) (by decide) ?_
        refine lv_iconst (v := 2) hx hb dd_K_ownType_62 (by decide) ?_
        exact mr_i hx hb hr hlocks rfl (by simp [bI, k_ownType, k_ownSw, c1, c2, c3, c4, eq_true c5]) dd_K_ownType_63
      by_cases c6 : k = 17
      · refine lv_lookup (tgt := 64) (off := 46) hx hb dd_K_ownType_18 (by decide) (by rw [c6]; decide) (by decide) ?_
        refine lv_iconst (v := 3) hx hb dd_K_ownType_64 (by decide) ?_
        exact mr_i hx hb hr hlocks rfl (by simp [bI, k_ownType, k_ownSw, c1, c2, c3, c4, c5, eq_true c6]) dd_K_ownType_65
      refine lv_lookup (tgt := 66) (off := 48) hx hb dd_K_ownType_18 (by decide) (by refine (lv_osw c3 (by decide)).trans ?_; refine (lv_osw c4 (by decide)).trans ?_; refine (lv_osw c5 (by decide)).trans ?_; refine (lv_osw c6 (by decide)).trans ?_; rfl) (by decide) ?_
      refine lv_iconst (v := -1) hx hb dd_K_ownType_66 (by decide) ?_
      exact mr_i hx hb hr hlocks rfl (by simp [bI, k_ownType, k_ownSw, c1, c2, c3, c4, c5, c6]) dd_K_ownType_67
    · refine lv_iload_n hx hb dd_K_ownType_9 rfl (lv_at hl 0 rfl) ?_
      refine lv_bipush (v := 9) hx hb dd_K_ownType_10 (by decide) ?_
      refine lv_icmp_gt (tgt := 17) hx hb dd_K_ownType_12 (by decide) (fun c7 => ?_) (fun c7 => ?_)
      · refine lv_iload_n hx hb dd_K_ownType_17 rfl (lv_at hl 0 rfl) ?_
        by_cases c8 : k = 2
        · refine lv_lookup (tgt := 60) (off := 42) hx hb dd_K_ownType_18 (by decide) (by rw [c8]; decide) (by decide) ?_
          refine lv_iconst (v := 1) hx hb dd_K_ownType_60 (by decide) ?_
          exact mr_i hx hb hr hlocks rfl (by simp [bI, k_ownType, k_ownSw, c1, c2, c7, eq_true c8]) dd_K_ownType_61
        by_cases c9 : k = 13
        · refine lv_lookup (tgt := 60) (off := 42) hx hb dd_K_ownType_18 (by decide) (by rw [c9]; decide) (by decide) ?_
          refine lv_iconst (v := 1) hx hb dd_K_ownType_60 (by decide) ?_
          exact mr_i hx hb hr hlocks rfl (by simp [bI, k_ownType, k_ownSw, c1, c2, c7, c8, eq_true c9]) dd_K_ownType_61
        by_cases c10 : k = 16
        · refine lv_lookup (tgt := 62) (off := 44) hx hb dd_K_ownType_18 (by decide) (by rw [c10]; decide) (by decide) ?_
          refine lv_iconst (v := 2) hx hb dd_K_ownType_62 (by decide) ?_
          exact mr_i hx hb hr hlocks rfl (by simp [bI, k_ownType, k_ownSw, c1, c2, c7, c8, c9, eq_true c10]) dd_K_ownType_63
        by_cases c11 : k = 17
        · refine lv_lookup (tgt := 64) (off := 46) hx hb dd_K_ownType_18 (by decide) (by rw [c11]; decide) (by decide) ?_
          refine lv_iconst (v := 3) hx hb dd_K_ownType_64 (by decide) ?_
          exact mr_i hx hb hr hlocks rfl (by simp [bI, k_ownType, k_ownSw, c1, c2, c7, c8, c9, c10, eq_true c11]) dd_K_ownType_65
        refine lv_lookup (tgt := 66) (off := 48) hx hb dd_K_ownType_18 (by decide) (by refine (lv_osw c8 (by decide)).trans ?_; refine (lv_osw c9 (by decide)).trans ?_; refine (lv_osw c10 (by decide)).trans ?_; refine (lv_osw c11 (by decide)).trans ?_; rfl) (by decide) ?_
        refine lv_iconst (v := -1) hx hb dd_K_ownType_66 (by decide) ?_
        exact mr_i hx hb hr hlocks rfl (by simp [bI, k_ownType, k_ownSw, c1, c2, c7, c8, c9, c10, c11]) dd_K_ownType_67
      · refine lv_iconst (v := 0) hx hb dd_K_ownType_15 (by decide) ?_
        exact mr_i hx hb hr hlocks rfl (by simp [bI, k_ownType, k_ownSw, c1, c2, c7]) dd_K_ownType_16

set_option maxHeartbeats 4000000 in
set_option maxRecDepth 100000 in
theorem cc_N_variablesOfLastPart {l : Launch} {G : gC} {M : mC} {h0 : Nat} {r : nR} (m0 : M h0 = some (nC r)) : cR l yy_N_variablesOfLastPart bb_N_variablesOfLastPart 1 (some .int) 1 G M [.ref h0] (.int (n_varsLast r)) := by
  refine me_R (by decide) (Nat.le_of_ble_eq_true rfl) ?_
  intro p e s m below meth c ls hx hb hr hlocks hml hown ht hM hK hl
  have hown : s.vm.findClass RR_N = some m.cls := hown
  have hl : lv_has ls 1 [(0, .ref h0)] := hl
  refine lv_aload_n hx hb dd_N_variablesOfLastPart_0 rfl (lv_at hl 0 rfl) ?_
  refine mg_get hx hb ht ii_N hown hK hM m0 rfl 4 (by decide) wd_2_41 (fun _ h => h) rfl dd_N_variablesOfLastPart_1 ?_
  refine mc_S (As := [.int (n_kd r)]) (rest := []) 1 (cc_K_isBinder (k := (n_kd r))) hx hb hml hown ht hM hK hl.1 lk_N_73 (by decide +kernel) (by decide) rfl rfl (Nat.le_of_ble_eq_true rfl) dd_N_variablesOfLastPart_4 ⟨Nat.zero_le _, Nat.zero_le _⟩ ?_
  refine lb_if_ne (tgt := 12) hx hb dd_N_variablesOfLastPart_7 (by decide) (fun c1 => ?_) (fun c1 => ?_)
  · refine lv_aload_n hx hb dd_N_variablesOfLastPart_12 rfl (lv_at hl 0 rfl) ?_
    refine mg_get hx hb ht ii_N hown hK hM m0 rfl 4 (by decide) wd_2_41 (fun _ h => h) rfl dd_N_variablesOfLastPart_13 ?_
    refine mc_S (As := [.int (n_kd r)]) (rest := []) 1 (cc_K_isCase (k := (n_kd r))) hx hb hml hown ht hM hK hl.1 lk_N_79 (by decide +kernel) (by decide) rfl rfl (Nat.le_of_ble_eq_true rfl) dd_N_variablesOfLastPart_16 ⟨Nat.zero_le _, Nat.zero_le _⟩ ?_
    refine lb_if_eq (tgt := 26) hx hb dd_N_variablesOfLastPart_19 (by decide) (fun c2 => ?_) (fun c2 => ?_)
    · refine lv_iconst (v := 1) hx hb dd_N_variablesOfLastPart_26 (by decide) ?_
      exact mr_i hx hb hr hlocks rfl (by simp [bI, n_varsLast, c1, c2]) dd_N_variablesOfLastPart_27
    · refine lv_iconst (v := 2) hx hb dd_N_variablesOfLastPart_22 (by decide) ?_
      refine lv_goto (tgt := 27) hx hb dd_N_variablesOfLastPart_23 (by decide) ?_
      exact mr_i hx hb hr hlocks rfl (by simp [bI, n_varsLast, c1, c2]) dd_N_variablesOfLastPart_27
  · refine lv_iconst (v := 0) hx hb dd_N_variablesOfLastPart_10 (by decide) ?_
    exact mr_i hx hb hr hlocks rfl (by simp [bI, n_varsLast, c1]) dd_N_variablesOfLastPart_11

set_option maxHeartbeats 4000000 in
set_option maxRecDepth 100000 in
theorem cc_N_bindsInLastPart {l : Launch} {G : gC} {M : mC} {h0 : Nat} {r : nR} (m0 : M h0 = some (nC r)) {x : Int64} : cR l yy_N_bindsInLastPart bb_N_bindsInLastPart 3 (some .boolean) 1 G M [.ref h0, .long x] (.int (bI (n_binds r x))) := by
  refine me_R (by decide) (Nat.le_of_ble_eq_true rfl) ?_
  intro p e s m below meth c ls hx hb hr hlocks hml hown ht hM hK hl
  have hown : s.vm.findClass RR_N = some m.cls := hown
  have hl : lv_has ls 3 [(0, .ref h0), (1, .long x)] := hl
  refine lv_aload_n hx hb dd_N_bindsInLastPart_0 rfl (lv_at hl 0 rfl) ?_
  refine mg_get hx hb ht ii_N hown hK hM m0 rfl 4 (by decide) wd_2_41 (fun _ h => h) rfl dd_N_bindsInLastPart_1 ?_
  refine mc_S (As := [.int (n_kd r)]) (rest := []) 1 (cc_K_isBinder (k := (n_kd r))) hx hb hml hown ht hM hK hl.1 lk_N_73 (by decide +kernel) (by decide) rfl rfl (Nat.le_of_ble_eq_true rfl) dd_N_bindsInLastPart_4 ⟨Nat.zero_le _, Nat.zero_le _⟩ ?_
  refine lb_if_eq (tgt := 32) hx hb dd_N_bindsInLastPart_7 (by decide) (fun c1 => ?_) (fun c1 => ?_)
  · refine lv_iconst (v := 0) hx hb dd_N_bindsInLastPart_32 (by decide) ?_
    exact mr_i hx hb hr hlocks rfl (by simp [bI, n_binds, c1]) dd_N_bindsInLastPart_33
  · refine lv_aload_n hx hb dd_N_bindsInLastPart_10 rfl (lv_at hl 0 rfl) ?_
    refine mg_get hx hb ht ii_N hown hK hM m0 rfl 5 (by decide) wd_2_44 (fun _ h => h) rfl dd_N_bindsInLastPart_11 ?_
    refine lv_lload_n hx hb dd_N_bindsInLastPart_14 rfl (lv_at hl 1 rfl) ?_
    refine W.lcmp hx hb dd_N_bindsInLastPart_15 ?_
    refine lc_if_eq (tgt := 28) hx hb dd_N_bindsInLastPart_16 (by decide) (fun c2 => ?_) (fun c2 => ?_)
    · refine lv_iconst (v := 1) hx hb dd_N_bindsInLastPart_28 (by decide) ?_
      refine lv_goto (tgt := 33) hx hb dd_N_bindsInLastPart_29 (by decide) ?_
      exact mr_i hx hb hr hlocks rfl (by simp [bI, n_binds, c1, eq_true c2]) dd_N_bindsInLastPart_33
    · refine lv_aload_n hx hb dd_N_bindsInLastPart_19 rfl (lv_at hl 0 rfl) ?_
      refine mg_get hx hb ht ii_N hown hK hM m0 rfl 6 (by decide) wd_2_46 (fun _ h => h) rfl dd_N_bindsInLastPart_20 ?_
      refine lv_lload_n hx hb dd_N_bindsInLastPart_23 rfl (lv_at hl 1 rfl) ?_
      refine W.lcmp hx hb dd_N_bindsInLastPart_24 ?_
      refine lc_if_ne (tgt := 32) hx hb dd_N_bindsInLastPart_25 (by decide) (fun c3 => ?_) (fun c3 => ?_)
      · refine lv_iconst (v := 0) hx hb dd_N_bindsInLastPart_32 (by decide) ?_
        exact mr_i hx hb hr hlocks rfl (by simp [bI, n_binds, c1, c2, c3]) dd_N_bindsInLastPart_33
      · refine lv_iconst (v := 1) hx hb dd_N_bindsInLastPart_28 (by decide) ?_
        refine lv_goto (tgt := 33) hx hb dd_N_bindsInLastPart_29 (by decide) ?_
        exact mr_i hx hb hr hlocks rfl (by simp [bI, n_binds, c1, c2, eq_true c3]) dd_N_bindsInLastPart_33

set_option maxHeartbeats 4000000 in
set_option maxRecDepth 100000 in
theorem cc_N_typeOfXAfter {l : Launch} {G : gC} {M : mC} {h0 : Nat} {r : nR} (m0 : M h0 = some (nC r)) {t : Int32} : cR l yy_N_typeOfXAfter bb_N_typeOfXAfter 2 (some .int) 1 G M [.ref h0, .int t] (.int (n_txAfter r t)) := by
  refine me_R (by decide) (Nat.le_of_ble_eq_true rfl) ?_
  intro p e s m below meth c ls hx hb hr hlocks hml hown ht hM hK hl
  have hown : s.vm.findClass RR_N = some m.cls := hown
  have hl : lv_has ls 2 [(0, .ref h0), (1, .int t)] := hl
  refine lv_aload_n hx hb dd_N_typeOfXAfter_0 rfl (lv_at hl 0 rfl) ?_
  refine mg_get hx hb ht ii_N hown hK hM m0 rfl 4 (by decide) wd_2_41 (fun _ h => h) rfl dd_N_typeOfXAfter_1 ?_
  refine mc_S (As := [.int (n_kd r)]) (rest := []) 1 (cc_K_isLet (k := (n_kd r))) hx hb hml hown ht hM hK hl.1 lk_N_114 (by decide +kernel) (by decide) rfl rfl (Nat.le_of_ble_eq_true rfl) dd_N_typeOfXAfter_4 ⟨Nat.zero_le _, Nat.zero_le _⟩ ?_
  refine lb_if_eq (tgt := 12) hx hb dd_N_typeOfXAfter_7 (by decide) (fun c1 => ?_) (fun c1 => ?_)
  · refine lv_aload_n hx hb dd_N_typeOfXAfter_12 rfl (lv_at hl 0 rfl) ?_
    refine mg_get hx hb ht ii_N hown hK hM m0 rfl 4 (by decide) wd_2_41 (fun _ h => h) rfl dd_N_typeOfXAfter_13 ?_
    refine lv_bipush (v := 18) hx hb dd_N_typeOfXAfter_16 (by decide) ?_
    refine lv_icmp_ne (tgt := 30) hx hb dd_N_typeOfXAfter_18 (by decide) (fun c2 => ?_) (fun c2 => ?_)
    · refine lv_iconst (v := 0) hx hb dd_N_typeOfXAfter_30 (by decide) ?_
      exact mr_i hx hb hr hlocks rfl (by simp [bI, n_txAfter, c1, c2]) dd_N_typeOfXAfter_31
    · refine lv_iload_n hx hb dd_N_typeOfXAfter_21 rfl (lv_at hl 1 rfl) ?_
      refine lv_iconst (v := 3) hx hb dd_N_typeOfXAfter_22 (by decide) ?_
      refine lv_icmp_ne (tgt := 30) hx hb dd_N_typeOfXAfter_23 (by decide) (fun c3 => ?_) (fun c3 => ?_)
      · refine lv_iconst (v := 0) hx hb dd_N_typeOfXAfter_30 (by decide) ?_
        exact mr_i hx hb hr hlocks rfl (by simp [bI, n_txAfter, c1, eq_true c2, c3]) dd_N_typeOfXAfter_31
      · refine lv_iconst (v := 1) hx hb dd_N_typeOfXAfter_26 (by decide) ?_
        refine lv_goto (tgt := 31) hx hb dd_N_typeOfXAfter_27 (by decide) ?_
        exact mr_i hx hb hr hlocks rfl (by simp [bI, n_txAfter, c1, eq_true c2, eq_true c3]) dd_N_typeOfXAfter_31
  · refine lv_iload_n hx hb dd_N_typeOfXAfter_10 rfl (lv_at hl 1 rfl) ?_
    exact mr_i hx hb hr hlocks rfl (by simp [bI, n_txAfter, c1]) dd_N_typeOfXAfter_11

set_option maxHeartbeats 4000000 in
set_option maxRecDepth 100000 in
theorem cc_N_isLastPart {l : Launch} {G : gC} {M : mC} {h0 : Nat} {r : nR} (m0 : M h0 = some (nC r)) {q : nR} (mp : ∀ y, n_pa r = some y → M y = some (nC q)) : cR l yy_N_isLastPart bb_N_isLastPart 1 (some .boolean) 0 G M [.ref h0] (.int (bI (n_isLast r q))) := by
  refine me_R (by decide) (Nat.le_of_ble_eq_true rfl) ?_
  intro p e s m below meth c ls hx hb hr hlocks hml hown ht hM hK hl
  have hown : s.vm.findClass RR_N = some m.cls := hown
  have hl : lv_has ls 1 [(0, .ref h0)] := hl
  refine lv_aload_n hx hb dd_N_isLastPart_0 rfl (lv_at hl 0 rfl) ?_
  refine mg_get hx hb ht ii_N hown hK hM m0 rfl 2 (by decide) wd_2_36 (fun _ h => h) rfl dd_N_isLastPart_1 ?_
  refine lr_ifnull (tgt := 27) hx hb dd_N_isLastPart_4 (by decide) (fun ey1 => ?_) (fun y1 ey1 => ?_)
  · refine lv_iconst (v := 0) hx hb dd_N_isLastPart_27 (by decide) ?_
    exact mr_i hx hb hr hlocks rfl (by simp [bI, n_isLast, ey1]) dd_N_isLastPart_28
  · have my1 := mp y1 ey1
    refine lv_aload_n hx hb dd_N_isLastPart_7 rfl (lv_at hl 0 rfl) ?_
    refine mg_get hx hb ht ii_N hown hK hM m0 rfl 3 (by decide) wd_2_39 (fun _ h => h) rfl dd_N_isLastPart_8 ?_
    refine lv_aload_n hx hb dd_N_isLastPart_11 rfl (lv_at hl 0 rfl) ?_
    refine mg_get (v := .ref y1) hx hb ht ii_N hown hK hM m0 rfl 2 (by decide) wd_2_36 (fun _ h => h) (congrArg (fun z => some (va_rf z)) ey1) dd_N_isLastPart_12 ?_
    refine mg_get hx hb ht ii_N hown hK hM my1 rfl 7 (by decide) wd_2_47 (fun _ h => h) rfl dd_N_isLastPart_15 ?_
    refine lv_iconst (v := 1) hx hb dd_N_isLastPart_18 (by decide) ?_
    refine lv_isub hx hb dd_N_isLastPart_19 ?_
    refine lv_icmp_ne (tgt := 27) hx hb dd_N_isLastPart_20 (by decide) (fun c2 => ?_) (fun c2 => ?_)
    · refine lv_iconst (v := 0) hx hb dd_N_isLastPart_27 (by decide) ?_
      exact mr_i hx hb hr hlocks rfl (by simp [bI, n_isLast, ey1, c2]) dd_N_isLastPart_28
    · refine lv_iconst (v := 1) hx hb dd_N_isLastPart_23 (by decide) ?_
      refine lv_goto (tgt := 28) hx hb dd_N_isLastPart_24 (by decide) ?_
      exact mr_i hx hb hr hlocks rfl (by simp [bI, n_isLast, ey1, eq_true c2]) dd_N_isLastPart_28

set_option maxHeartbeats 4000000 in
set_option maxRecDepth 100000 in
theorem cc_D_isWhole {l : Launch} {G : gC} {M : mC} {h0 : Nat} {r : dR} (m0 : M h0 = some (dC r)) : cR l yy_D_isWhole bb_D_isWhole 1 (some .boolean) 0 G M [.ref h0] (.int (bI (d_whole r))) := by
  refine me_R (by decide) (Nat.le_of_ble_eq_true rfl) ?_
  intro p e s m below meth c ls hx hb hr hlocks hml hown ht hM hK hl
  have hown : s.vm.findClass RR_D = some m.cls := hown
  have hl : lv_has ls 1 [(0, .ref h0)] := hl
  refine lv_aload_n hx hb dd_D_isWhole_0 rfl (lv_at hl 0 rfl) ?_
  refine mg_get hx hb ht ii_D hown hK hM m0 rfl 7 (by decide) wd_1_142 (fun _ h => h) rfl dd_D_isWhole_1 ?_
  refine lb_if_eq (tgt := 18) hx hb dd_D_isWhole_4 (by decide) (fun c1 => ?_) (fun c1 => ?_)
  · refine lv_iconst (v := 0) hx hb dd_D_isWhole_18 (by decide) ?_
    exact mr_i hx hb hr hlocks rfl (by simp [bI, d_whole, c1]) dd_D_isWhole_19
  · refine lv_aload_n hx hb dd_D_isWhole_7 rfl (lv_at hl 0 rfl) ?_
    refine mg_get hx hb ht ii_D hown hK hM m0 rfl 8 (by decide) wd_1_144 (fun _ h => h) rfl dd_D_isWhole_8 ?_
    refine lr_ifnonnull (tgt := 18) hx hb dd_D_isWhole_11 (by decide) (fun y2 ey2 => ?_) (fun ey2 => ?_)
    · refine lv_iconst (v := 0) hx hb dd_D_isWhole_18 (by decide) ?_
      exact mr_i hx hb hr hlocks rfl (by simp [bI, d_whole, c1, ey2]) dd_D_isWhole_19
    · refine lv_iconst (v := 1) hx hb dd_D_isWhole_14 (by decide) ?_
      refine lv_goto (tgt := 19) hx hb dd_D_isWhole_15 (by decide) ?_
      exact mr_i hx hb hr hlocks rfl (by simp [bI, d_whole, c1, ey2]) dd_D_isWhole_19

set_option maxHeartbeats 4000000 in
set_option maxRecDepth 100000 in
theorem cc_D_wantsChange {l : Launch} {G : gC} {M : mC} {h0 : Nat} {r : dR} (m0 : M h0 = some (dC r)) {q : nR} (mp : ∀ y, d_op r = some y → M y = some (nC q)) : cR l yy_D_wantsChange bb_D_wantsChange 1 (some .boolean) 1 G M [.ref h0] (.int (bI (d_wants r q))) := by
  refine me_R (by decide) (Nat.le_of_ble_eq_true rfl) ?_
  intro p e s m below meth c ls hx hb hr hlocks hml hown ht hM hK hl
  have hown : s.vm.findClass RR_D = some m.cls := hown
  have hl : lv_has ls 1 [(0, .ref h0)] := hl
  refine lv_aload_n hx hb dd_D_wantsChange_0 rfl (lv_at hl 0 rfl) ?_
  refine mg_get hx hb ht ii_D hown hK hM m0 rfl 8 (by decide) wd_1_144 (fun _ h => h) rfl dd_D_wantsChange_1 ?_
  refine lr_ifnonnull (tgt := 14) hx hb dd_D_wantsChange_4 (by decide) (fun y1 ey1 => ?_) (fun ey1 => ?_)
  · have my1 := mp y1 ey1
    refine lv_aload_n hx hb dd_D_wantsChange_14 rfl (lv_at hl 0 rfl) ?_
    refine mg_get (v := .ref y1) hx hb ht ii_D hown hK hM m0 rfl 8 (by decide) wd_1_144 (fun _ h => h) (congrArg (fun z => some (va_rf z)) ey1) dd_D_wantsChange_15 ?_
    refine mg_get hx hb ht ii_N hown hK hM my1 rfl 4 (by decide) wd_2_42 (fun _ h => h) rfl dd_D_wantsChange_18 ?_
    refine lv_aload_n hx hb dd_D_wantsChange_21 rfl (lv_at hl 0 rfl) ?_
    refine mg_get (v := .ref y1) hx hb ht ii_D hown hK hM m0 rfl 8 (by decide) wd_1_144 (fun _ h => h) (congrArg (fun z => some (va_rf z)) ey1) dd_D_wantsChange_22 ?_
    refine mg_get hx hb ht ii_N hown hK hM my1 rfl 8 (by decide) wd_2_51 (fun _ h => h) rfl dd_D_wantsChange_25 ?_
    refine mc_S (As := [.int (n_kd q), .int (n_fl q)]) (rest := []) 2 (cc_K_wantsChange (k := (n_kd q)) (pl := (n_fl q))) hx hb hml hown ht hM hK hl.1 lk_D_52 (by decide +kernel) (by decide) rfl rfl (Nat.le_of_ble_eq_true rfl) dd_D_wantsChange_28 ⟨Nat.zero_le _, Nat.zero_le _⟩ ?_
    exact mr_i hx hb hr hlocks bI_z (by simp [bI, d_wants, ey1]) dd_D_wantsChange_31
  · refine lv_aload_n hx hb dd_D_wantsChange_7 rfl (lv_at hl 0 rfl) ?_
    refine mg_get hx hb ht ii_D hown hK hM m0 rfl 1 (by decide) wd_1_129 (fun _ h => h) rfl dd_D_wantsChange_8 ?_
    refine lv_goto (tgt := 31) hx hb dd_D_wantsChange_11 (by decide) ?_
    exact mr_i hx hb hr hlocks bI_z (by simp [bI, d_wants, ey1]) dd_D_wantsChange_31

set_option maxHeartbeats 4000000 in
set_option maxRecDepth 100000 in
theorem cc_D_parameterType {l : Launch} {G : gC} {M : mC} {h0 : Nat} {r : dR} (m0 : M h0 = some (dC r)) {pt : Nat → Int32} (mt : M (d_apt r) = some (iA G 8 pt)) {i : Int32} : cR l yy_D_parameterType bb_D_parameterType 2 (some .int) 0 G M [.ref h0, .int i] (.int (d_ptype r pt i)) := by
  refine me_R (by decide) (Nat.le_of_ble_eq_true rfl) ?_
  intro p e s m below meth c ls hx hb hr hlocks hml hown ht hM hK hl
  have hown : s.vm.findClass RR_D = some m.cls := hown
  have hl : lv_has ls 2 [(0, .ref h0), (1, .int i)] := hl
  refine lv_iload_n hx hb dd_D_parameterType_0 rfl (lv_at hl 1 rfl) ?_
  refine lv_if_lt (tgt := 18) hx hb dd_D_parameterType_1 (by decide) (fun c1 => ?_) (fun c1 => ?_)
  · refine lv_iconst (v := -1) hx hb dd_D_parameterType_18 (by decide) ?_
    refine lv_goto (tgt := 28) hx hb dd_D_parameterType_19 (by decide) ?_
    exact mr_i hx hb hr hlocks rfl (by simp [bI, d_ptype, c1]) dd_D_parameterType_28
  · refine lv_iload_n hx hb dd_D_parameterType_4 rfl (lv_at hl 1 rfl) ?_
    refine lv_aload_n hx hb dd_D_parameterType_5 rfl (lv_at hl 0 rfl) ?_
    refine mg_get hx hb ht ii_D hown hK hM m0 rfl 6 (by decide) wd_1_139 (fun _ h => h) rfl dd_D_parameterType_6 ?_
    refine lv_icmp_ge (tgt := 18) hx hb dd_D_parameterType_9 (by decide) (fun c2 => ?_) (fun c2 => ?_)
    · refine lv_iconst (v := -1) hx hb dd_D_parameterType_18 (by decide) ?_
      refine lv_goto (tgt := 28) hx hb dd_D_parameterType_19 (by decide) ?_
      exact mr_i hx hb hr hlocks rfl (by simp [bI, d_ptype, c1, c2]) dd_D_parameterType_28
    · refine lv_iload_n hx hb dd_D_parameterType_12 rfl (lv_at hl 1 rfl) ?_
      refine lv_bipush (v := 8) hx hb dd_D_parameterType_13 (by decide) ?_
      refine lv_icmp_lt (tgt := 22) hx hb dd_D_parameterType_15 (by decide) (fun c3 => ?_) (fun c3 => ?_)
      · refine lv_aload_n hx hb dd_D_parameterType_22 rfl (lv_at hl 0 rfl) ?_
        refine mg_get hx hb ht ii_D hown hK hM m0 rfl 5 (by decide) wd_1_138 (fun _ h => h) rfl dd_D_parameterType_23 ?_
        refine lv_iload_n hx hb dd_D_parameterType_26 rfl (lv_at hl 1 rfl) ?_
        refine mg_iald hx hb hK hM mt (vp_8 c1 c3) dd_D_parameterType_27 ?_
        exact mr_i hx hb hr hlocks rfl (by simp [bI, d_ptype, c1, c2, c3]) dd_D_parameterType_28
      · refine lv_iconst (v := -1) hx hb dd_D_parameterType_18 (by decide) ?_
        refine lv_goto (tgt := 28) hx hb dd_D_parameterType_19 (by decide) ?_
        exact mr_i hx hb hr hlocks rfl (by simp [bI, d_ptype, c1, c2, c3]) dd_D_parameterType_28

set_option maxHeartbeats 4000000 in
set_option maxRecDepth 100000 in
theorem cc_N_admits {l : Launch} {G : gC} {M : mC} {h0 : Nat} {r : nR} (m0 : M h0 = some (nC r)) {d : dR} {pt : Nat → Int32} (mp : ∀ y, n_ca r = some y → M y = some (dC d)) (mt : n_ca r ≠ none → M (d_apt d) = some (iA G 8 pt)) {k t : Int32} : cR l yy_N_admits bb_N_admits 3 (some .boolean) 1 G M [.ref h0, .int k, .int t] (.int (bI (n_admits r d pt k t))) := by
  refine me_R (by decide) (Nat.le_of_ble_eq_true rfl) ?_
  intro p e s m below meth c ls hx hb hr hlocks hml hown ht hM hK hl
  have hown : s.vm.findClass RR_N = some m.cls := hown
  have hl : lv_has ls 3 [(0, .ref h0), (1, .int k), (2, .int t)] := hl
  refine lv_aload_n hx hb dd_N_admits_0 rfl (lv_at hl 0 rfl) ?_
  refine mg_get hx hb ht ii_N hown hK hM m0 rfl 4 (by decide) wd_2_41 (fun _ h => h) rfl dd_N_admits_1 ?_
  by_cases c2 : (n_kd r) = 10
  · refine lv_tableIn (tgt := 76) hx hb dd_N_admits_4 (by rw [c2]; decide) (by rw [c2]; decide) (by rw [c2]; rfl) (by decide) ?_
    refine lv_iload_n hx hb dd_N_admits_76 rfl (lv_at hl 1 rfl) ?_
    refine lv_if_ne (tgt := 92) hx hb dd_N_admits_77 (by decide) (fun c3 => ?_) (fun c3 => ?_)
    · refine lv_iload_n hx hb dd_N_admits_92 rfl (lv_at hl 1 rfl) ?_
      refine lv_iconst (v := 1) hx hb dd_N_admits_93 (by decide) ?_
      refine lv_icmp_eq (tgt := 105) hx hb dd_N_admits_94 (by decide) (fun c4 => ?_) (fun c4 => ?_)
      · refine lv_iconst (v := 1) hx hb dd_N_admits_105 (by decide) ?_
        refine lv_goto (tgt := 110) hx hb dd_N_admits_106 (by decide) ?_
        exact mr_i hx hb hr hlocks rfl (by simp [bI, n_admits, eq_true c2, c3, eq_true c4]) dd_N_admits_110
      · refine lv_iload_n hx hb dd_N_admits_97 rfl (lv_at hl 2 rfl) ?_
        refine lv_aload_n hx hb dd_N_admits_98 rfl (lv_at hl 0 rfl) ?_
        refine mg_get hx hb ht ii_N hown hK hM m0 rfl 9 (by decide) wd_2_52 (fun _ h => h) rfl dd_N_admits_99 ?_
        refine lv_icmp_ne (tgt := 109) hx hb dd_N_admits_102 (by decide) (fun c5 => ?_) (fun c5 => ?_)
        · refine lv_iconst (v := 0) hx hb dd_N_admits_109 (by decide) ?_
          exact mr_i hx hb hr hlocks rfl (by simp [bI, n_admits, eq_true c2, c3, c4, c5]) dd_N_admits_110
        · refine lv_iconst (v := 1) hx hb dd_N_admits_105 (by decide) ?_
          refine lv_goto (tgt := 110) hx hb dd_N_admits_106 (by decide) ?_
          exact mr_i hx hb hr hlocks rfl (by simp [bI, n_admits, eq_true c2, c3, c4, eq_true c5]) dd_N_admits_110
    · refine lv_iload_n hx hb dd_N_admits_80 rfl (lv_at hl 2 rfl) ?_
      refine lv_if_ne (tgt := 88) hx hb dd_N_admits_81 (by decide) (fun c6 => ?_) (fun c6 => ?_)
      · refine lv_iconst (v := 0) hx hb dd_N_admits_88 (by decide) ?_
        refine lv_goto (tgt := 110) hx hb dd_N_admits_89 (by decide) ?_
        exact mr_i hx hb hr hlocks rfl (by simp [bI, n_admits, eq_true c2, eq_true c3, c6]) dd_N_admits_110
      · refine lv_iconst (v := 1) hx hb dd_N_admits_84 (by decide) ?_
        refine lv_goto (tgt := 110) hx hb dd_N_admits_85 (by decide) ?_
        exact mr_i hx hb hr hlocks rfl (by simp [bI, n_admits, eq_true c2, eq_true c3, eq_true c6]) dd_N_admits_110
  by_cases c7 : (n_kd r) = 11
  · refine lv_tableIn (tgt := 147) hx hb dd_N_admits_4 (by rw [c7]; decide) (by rw [c7]; decide) (by rw [c7]; rfl) (by decide) ?_
    refine lv_iconst (v := 1) hx hb dd_N_admits_147 (by decide) ?_
    exact mr_i hx hb hr hlocks rfl (by simp [bI, n_admits, c2, eq_true c7]) dd_N_admits_148
  by_cases c8 : (n_kd r) = 12
  · refine lv_tableIn (tgt := 111) hx hb dd_N_admits_4 (by rw [c8]; decide) (by rw [c8]; decide) (by rw [c8]; rfl) (by decide) ?_
    refine lv_iload_n hx hb dd_N_admits_111 rfl (lv_at hl 1 rfl) ?_
    refine lv_if_ne (tgt := 128) hx hb dd_N_admits_112 (by decide) (fun c9 => ?_) (fun c9 => ?_)
    · refine lv_iload_n hx hb dd_N_admits_128 rfl (lv_at hl 1 rfl) ?_
      refine lv_iconst (v := 1) hx hb dd_N_admits_129 (by decide) ?_
      refine lv_icmp_eq (tgt := 141) hx hb dd_N_admits_130 (by decide) (fun c10 => ?_) (fun c10 => ?_)
      · refine lv_iconst (v := 1) hx hb dd_N_admits_141 (by decide) ?_
        refine lv_goto (tgt := 146) hx hb dd_N_admits_142 (by decide) ?_
        exact mr_i hx hb hr hlocks rfl (by simp [bI, n_admits, c2, c7, eq_true c8, c9, eq_true c10]) dd_N_admits_146
      · refine lv_iload_n hx hb dd_N_admits_133 rfl (lv_at hl 2 rfl) ?_
        refine lv_aload_n hx hb dd_N_admits_134 rfl (lv_at hl 0 rfl) ?_
        refine mg_get hx hb ht ii_N hown hK hM m0 rfl 9 (by decide) wd_2_52 (fun _ h => h) rfl dd_N_admits_135 ?_
        refine lv_icmp_ne (tgt := 145) hx hb dd_N_admits_138 (by decide) (fun c11 => ?_) (fun c11 => ?_)
        · refine lv_iconst (v := 0) hx hb dd_N_admits_145 (by decide) ?_
          exact mr_i hx hb hr hlocks rfl (by simp [bI, n_admits, c2, c7, eq_true c8, c9, c10, c11]) dd_N_admits_146
        · refine lv_iconst (v := 1) hx hb dd_N_admits_141 (by decide) ?_
          refine lv_goto (tgt := 146) hx hb dd_N_admits_142 (by decide) ?_
          exact mr_i hx hb hr hlocks rfl (by simp [bI, n_admits, c2, c7, eq_true c8, c9, c10, eq_true c11]) dd_N_admits_146
    · refine lv_iload_n hx hb dd_N_admits_115 rfl (lv_at hl 2 rfl) ?_
      refine lv_iconst (v := 1) hx hb dd_N_admits_116 (by decide) ?_
      refine lv_icmp_ne (tgt := 124) hx hb dd_N_admits_117 (by decide) (fun c12 => ?_) (fun c12 => ?_)
      · refine lv_iconst (v := 0) hx hb dd_N_admits_124 (by decide) ?_
        refine lv_goto (tgt := 146) hx hb dd_N_admits_125 (by decide) ?_
        exact mr_i hx hb hr hlocks rfl (by simp [bI, n_admits, c2, c7, eq_true c8, eq_true c9, c12]) dd_N_admits_146
      · refine lv_iconst (v := 1) hx hb dd_N_admits_120 (by decide) ?_
        refine lv_goto (tgt := 146) hx hb dd_N_admits_121 (by decide) ?_
        exact mr_i hx hb hr hlocks rfl (by simp [bI, n_admits, c2, c7, eq_true c8, eq_true c9, eq_true c12]) dd_N_admits_146
  by_cases c13 : (n_kd r) = 13
  · refine lv_tableIn (tgt := 149) hx hb dd_N_admits_4 (by rw [c13]; decide) (by rw [c13]; decide) (by rw [c13]; rfl) (by decide) ?_
    refine lv_iload_n hx hb dd_N_admits_149 rfl (lv_at hl 2 rfl) ?_
    refine lv_iload_n hx hb dd_N_admits_150 rfl (lv_at hl 1 rfl) ?_
    refine lv_if_ne (tgt := 158) hx hb dd_N_admits_151 (by decide) (fun c14 => ?_) (fun c14 => ?_)
    · refine lv_iconst (v := 3) hx hb dd_N_admits_158 (by decide) ?_
      refine lv_icmp_ne (tgt := 166) hx hb dd_N_admits_159 (by decide) (fun c15 => ?_) (fun c15 => ?_)
      · refine lv_iconst (v := 0) hx hb dd_N_admits_166 (by decide) ?_
        exact mr_i hx hb hr hlocks rfl (by simp [bI, n_admits, c2, c7, c8, eq_true c13, c14, c15]) dd_N_admits_167
      · refine lv_iconst (v := 1) hx hb dd_N_admits_162 (by decide) ?_
        refine lv_goto (tgt := 167) hx hb dd_N_admits_163 (by decide) ?_
        exact mr_i hx hb hr hlocks rfl (by simp [bI, n_admits, c2, c7, c8, eq_true c13, c14, eq_true c15]) dd_N_admits_167
    · refine lv_iconst (v := 0) hx hb dd_N_admits_154 (by decide) ?_
      refine lv_goto (tgt := 159) hx hb dd_N_admits_155 (by decide) ?_
      refine lv_icmp_ne (tgt := 166) hx hb dd_N_admits_159 (by decide) (fun c16 => ?_) (fun c16 => ?_)
      · refine lv_iconst (v := 0) hx hb dd_N_admits_166 (by decide) ?_
        exact mr_i hx hb hr hlocks rfl (by simp [bI, n_admits, c2, c7, c8, eq_true c13, eq_true c14, c16]) dd_N_admits_167
      · refine lv_iconst (v := 1) hx hb dd_N_admits_162 (by decide) ?_
        refine lv_goto (tgt := 167) hx hb dd_N_admits_163 (by decide) ?_
        exact mr_i hx hb hr hlocks rfl (by simp [bI, n_admits, c2, c7, c8, eq_true c13, eq_true c14, eq_true c16]) dd_N_admits_167
  by_cases c17 : (n_kd r) = 14
  · refine lv_tableIn (tgt := 168) hx hb dd_N_admits_4 (by rw [c17]; decide) (by rw [c17]; decide) (by rw [c17]; rfl) (by decide) ?_
    refine lv_aload_n hx hb dd_N_admits_168 rfl (lv_at hl 0 rfl) ?_
    refine mg_get hx hb ht ii_N hown hK hM m0 rfl 12 (by decide) wd_2_57 (fun _ h => h) rfl dd_N_admits_169 ?_
    refine lr_ifnull (tgt := 191) hx hb dd_N_admits_172 (by decide) (fun ey18 => ?_) (fun y18 ey18 => ?_)
    · refine lv_iconst (v := 0) hx hb dd_N_admits_191 (by decide) ?_
      exact mr_i hx hb hr hlocks rfl (by simp [bI, n_admits, c2, c7, c8, c13, eq_true c17, ey18]) dd_N_admits_192
    · have my18 := mp y18 ey18
      refine lv_iload_n hx hb dd_N_admits_175 rfl (lv_at hl 2 rfl) ?_
      refine lv_aload_n hx hb dd_N_admits_176 rfl (lv_at hl 0 rfl) ?_
      refine mg_get (v := .ref y18) hx hb ht ii_N hown hK hM m0 rfl 12 (by decide) wd_2_57 (fun _ h => h) (congrArg (fun z => some (va_rf z)) ey18) dd_N_admits_177 ?_
      refine lv_iload_n hx hb dd_N_admits_180 rfl (lv_at hl 1 rfl) ?_
      refine mc_V (As := [.int k]) (rest := [.int t]) 1 (cc_D_parameterType (i := k) my18 (mt (by rw [ey18]; exact Option.some_ne_none _))) hx hb hml hown ht hM hK hl.1 lk_N_92 (by decide +kernel) (by decide) my18 rfl rfl rfl (Nat.le_of_ble_eq_true rfl) dd_N_admits_181 ⟨Nat.zero_le _, Nat.zero_le _⟩ ?_
      refine lv_icmp_ne (tgt := 191) hx hb dd_N_admits_184 (by decide) (fun c19 => ?_) (fun c19 => ?_)
      · refine lv_iconst (v := 0) hx hb dd_N_admits_191 (by decide) ?_
        exact mr_i hx hb hr hlocks rfl (by simp [bI, n_admits, c2, c7, c8, c13, eq_true c17, ey18, c19]) dd_N_admits_192
      · refine lv_iconst (v := 1) hx hb dd_N_admits_187 (by decide) ?_
        refine lv_goto (tgt := 192) hx hb dd_N_admits_188 (by decide) ?_
        exact mr_i hx hb hr hlocks rfl (by simp [bI, n_admits, c2, c7, c8, c13, eq_true c17, ey18, eq_true c19]) dd_N_admits_192
  by_cases c20 : (n_kd r) = 15
  · refine lv_tableIn (tgt := 168) hx hb dd_N_admits_4 (by rw [c20]; decide) (by rw [c20]; decide) (by rw [c20]; rfl) (by decide) ?_
    refine lv_aload_n hx hb dd_N_admits_168 rfl (lv_at hl 0 rfl) ?_
    refine mg_get hx hb ht ii_N hown hK hM m0 rfl 12 (by decide) wd_2_57 (fun _ h => h) rfl dd_N_admits_169 ?_
    refine lr_ifnull (tgt := 191) hx hb dd_N_admits_172 (by decide) (fun ey21 => ?_) (fun y21 ey21 => ?_)
    · refine lv_iconst (v := 0) hx hb dd_N_admits_191 (by decide) ?_
      exact mr_i hx hb hr hlocks rfl (by simp [bI, n_admits, c2, c7, c8, c13, c17, eq_true c20, ey21]) dd_N_admits_192
    · have my21 := mp y21 ey21
      refine lv_iload_n hx hb dd_N_admits_175 rfl (lv_at hl 2 rfl) ?_
      refine lv_aload_n hx hb dd_N_admits_176 rfl (lv_at hl 0 rfl) ?_
      refine mg_get (v := .ref y21) hx hb ht ii_N hown hK hM m0 rfl 12 (by decide) wd_2_57 (fun _ h => h) (congrArg (fun z => some (va_rf z)) ey21) dd_N_admits_177 ?_
      refine lv_iload_n hx hb dd_N_admits_180 rfl (lv_at hl 1 rfl) ?_
      refine mc_V (As := [.int k]) (rest := [.int t]) 1 (cc_D_parameterType (i := k) my21 (mt (by rw [ey21]; exact Option.some_ne_none _))) hx hb hml hown ht hM hK hl.1 lk_N_92 (by decide +kernel) (by decide) my21 rfl rfl rfl (Nat.le_of_ble_eq_true rfl) dd_N_admits_181 ⟨Nat.zero_le _, Nat.zero_le _⟩ ?_
      refine lv_icmp_ne (tgt := 191) hx hb dd_N_admits_184 (by decide) (fun c22 => ?_) (fun c22 => ?_)
      · refine lv_iconst (v := 0) hx hb dd_N_admits_191 (by decide) ?_
        exact mr_i hx hb hr hlocks rfl (by simp [bI, n_admits, c2, c7, c8, c13, c17, eq_true c20, ey21, c22]) dd_N_admits_192
      · refine lv_iconst (v := 1) hx hb dd_N_admits_187 (by decide) ?_
        refine lv_goto (tgt := 192) hx hb dd_N_admits_188 (by decide) ?_
        exact mr_i hx hb hr hlocks rfl (by simp [bI, n_admits, c2, c7, c8, c13, c17, eq_true c20, ey21, eq_true c22]) dd_N_admits_192
  by_cases c23 : (n_kd r) = 17
  · refine lv_tableIn (tgt := 193) hx hb dd_N_admits_4 (by rw [c23]; decide) (by rw [c23]; decide) (by rw [c23]; rfl) (by decide) ?_
    refine lv_iload_n hx hb dd_N_admits_193 rfl (lv_at hl 2 rfl) ?_
    refine lv_iconst (v := 1) hx hb dd_N_admits_194 (by decide) ?_
    refine lv_icmp_ne (tgt := 202) hx hb dd_N_admits_195 (by decide) (fun c24 => ?_) (fun c24 => ?_)
    · refine lv_iconst (v := 0) hx hb dd_N_admits_202 (by decide) ?_
      exact mr_i hx hb hr hlocks rfl (by simp [bI, n_admits, c2, c7, c8, c13, c17, c20, eq_true c23, c24]) dd_N_admits_203
    · refine lv_iconst (v := 1) hx hb dd_N_admits_198 (by decide) ?_
      refine lv_goto (tgt := 203) hx hb dd_N_admits_199 (by decide) ?_
      exact mr_i hx hb hr hlocks rfl (by simp [bI, n_admits, c2, c7, c8, c13, c17, c20, eq_true c23, eq_true c24]) dd_N_admits_203
  by_cases c25 : (n_kd r) = 18
  · refine lv_tableIn (tgt := 204) hx hb dd_N_admits_4 (by rw [c25]; decide) (by rw [c25]; decide) (by rw [c25]; rfl) (by decide) ?_
    refine lv_iload_n hx hb dd_N_admits_204 rfl (lv_at hl 1 rfl) ?_
    refine lv_if_gt (tgt := 218) hx hb dd_N_admits_205 (by decide) (fun c26 => ?_) (fun c26 => ?_)
    · refine lv_iconst (v := 1) hx hb dd_N_admits_218 (by decide) ?_
      refine lv_goto (tgt := 223) hx hb dd_N_admits_219 (by decide) ?_
      exact mr_i hx hb hr hlocks rfl (by simp [bI, n_admits, c2, c7, c8, c13, c17, c20, c23, eq_true c25, c26]) dd_N_admits_223
    · refine lv_iload_n hx hb dd_N_admits_208 rfl (lv_at hl 2 rfl) ?_
      refine lv_iconst (v := 2) hx hb dd_N_admits_209 (by decide) ?_
      refine lv_icmp_eq (tgt := 218) hx hb dd_N_admits_210 (by decide) (fun c27 => ?_) (fun c27 => ?_)
      · refine lv_iconst (v := 1) hx hb dd_N_admits_218 (by decide) ?_
        refine lv_goto (tgt := 223) hx hb dd_N_admits_219 (by decide) ?_
        exact mr_i hx hb hr hlocks rfl (by simp [bI, n_admits, c2, c7, c8, c13, c17, c20, c23, eq_true c25, c26, eq_true c27]) dd_N_admits_223
      · refine lv_iload_n hx hb dd_N_admits_213 rfl (lv_at hl 2 rfl) ?_
        refine lv_iconst (v := 3) hx hb dd_N_admits_214 (by decide) ?_
        refine lv_icmp_ne (tgt := 222) hx hb dd_N_admits_215 (by decide) (fun c28 => ?_) (fun c28 => ?_)
        · refine lv_iconst (v := 0) hx hb dd_N_admits_222 (by decide) ?_
          exact mr_i hx hb hr hlocks rfl (by simp [bI, n_admits, c2, c7, c8, c13, c17, c20, c23, eq_true c25, c26, c27, c28]) dd_N_admits_223
        · refine lv_iconst (v := 1) hx hb dd_N_admits_218 (by decide) ?_
          refine lv_goto (tgt := 223) hx hb dd_N_admits_219 (by decide) ?_
          exact mr_i hx hb hr hlocks rfl (by simp [bI, n_admits, c2, c7, c8, c13, c17, c20, c23, eq_true c25, c26, c27, eq_true c28]) dd_N_admits_223
  by_cases c29 : (n_kd r) = 19
  · refine lv_tableIn (tgt := 224) hx hb dd_N_admits_4 (by rw [c29]; decide) (by rw [c29]; decide) (by rw [c29]; rfl) (by decide) ?_
    refine lv_iload_n hx hb dd_N_admits_224 rfl (lv_at hl 2 rfl) ?_
    refine mc_S (As := [.int t]) (rest := []) 1 (cc_T_isWritten (k := t)) hx hb hml hown ht hM hK hl.1 lk_N_105 (by decide +kernel) (by decide) rfl rfl (Nat.le_of_ble_eq_true rfl) dd_N_admits_225 ⟨Nat.zero_le _, Nat.zero_le _⟩ ?_
    exact mr_i hx hb hr hlocks bI_z (by simp [bI, n_admits, c2, c7, c8, c13, c17, c20, c23, c25, eq_true c29]) dd_N_admits_228
  by_cases c30 : (n_kd r) = 20
  · refine lv_tableIn (tgt := 76) hx hb dd_N_admits_4 (by rw [c30]; decide) (by rw [c30]; decide) (by rw [c30]; rfl) (by decide) ?_
    refine lv_iload_n hx hb dd_N_admits_76 rfl (lv_at hl 1 rfl) ?_
    refine lv_if_ne (tgt := 92) hx hb dd_N_admits_77 (by decide) (fun c31 => ?_) (fun c31 => ?_)
    · refine lv_iload_n hx hb dd_N_admits_92 rfl (lv_at hl 1 rfl) ?_
      refine lv_iconst (v := 1) hx hb dd_N_admits_93 (by decide) ?_
      refine lv_icmp_eq (tgt := 105) hx hb dd_N_admits_94 (by decide) (fun c32 => ?_) (fun c32 => ?_)
      · refine lv_iconst (v := 1) hx hb dd_N_admits_105 (by decide) ?_
        refine lv_goto (tgt := 110) hx hb dd_N_admits_106 (by decide) ?_
        exact mr_i hx hb hr hlocks rfl (by simp [bI, n_admits, c2, c7, c8, c13, c17, c20, c23, c25, c29, eq_true c30, c31, eq_true c32]) dd_N_admits_110
      · refine lv_iload_n hx hb dd_N_admits_97 rfl (lv_at hl 2 rfl) ?_
        refine lv_aload_n hx hb dd_N_admits_98 rfl (lv_at hl 0 rfl) ?_
        refine mg_get hx hb ht ii_N hown hK hM m0 rfl 9 (by decide) wd_2_52 (fun _ h => h) rfl dd_N_admits_99 ?_
        refine lv_icmp_ne (tgt := 109) hx hb dd_N_admits_102 (by decide) (fun c33 => ?_) (fun c33 => ?_)
        · refine lv_iconst (v := 0) hx hb dd_N_admits_109 (by decide) ?_
          exact mr_i hx hb hr hlocks rfl (by simp [bI, n_admits, c2, c7, c8, c13, c17, c20, c23, c25, c29, eq_true c30, c31, c32, c33]) dd_N_admits_110
        · refine lv_iconst (v := 1) hx hb dd_N_admits_105 (by decide) ?_
          refine lv_goto (tgt := 110) hx hb dd_N_admits_106 (by decide) ?_
          exact mr_i hx hb hr hlocks rfl (by simp [bI, n_admits, c2, c7, c8, c13, c17, c20, c23, c25, c29, eq_true c30, c31, c32, eq_true c33]) dd_N_admits_110
    · refine lv_iload_n hx hb dd_N_admits_80 rfl (lv_at hl 2 rfl) ?_
      refine lv_if_ne (tgt := 88) hx hb dd_N_admits_81 (by decide) (fun c34 => ?_) (fun c34 => ?_)
      · refine lv_iconst (v := 0) hx hb dd_N_admits_88 (by decide) ?_
        refine lv_goto (tgt := 110) hx hb dd_N_admits_89 (by decide) ?_
        exact mr_i hx hb hr hlocks rfl (by simp [bI, n_admits, c2, c7, c8, c13, c17, c20, c23, c25, c29, eq_true c30, eq_true c31, c34]) dd_N_admits_110
      · refine lv_iconst (v := 1) hx hb dd_N_admits_84 (by decide) ?_
        refine lv_goto (tgt := 110) hx hb dd_N_admits_85 (by decide) ?_
        exact mr_i hx hb hr hlocks rfl (by simp [bI, n_admits, c2, c7, c8, c13, c17, c20, c23, c25, c29, eq_true c30, eq_true c31, eq_true c34]) dd_N_admits_110
  by_cases c35 : (n_kd r) = 21
  · refine lv_tableIn (tgt := 147) hx hb dd_N_admits_4 (by rw [c35]; decide) (by rw [c35]; decide) (by rw [c35]; rfl) (by decide) ?_
    refine lv_iconst (v := 1) hx hb dd_N_admits_147 (by decide) ?_
    exact mr_i hx hb hr hlocks rfl (by simp [bI, n_admits, c2, c7, c8, c13, c17, c20, c23, c25, c29, c30, eq_true c35]) dd_N_admits_148
  by_cases c36 : (n_kd r) = 22
  · refine lv_tableIn (tgt := 111) hx hb dd_N_admits_4 (by rw [c36]; decide) (by rw [c36]; decide) (by rw [c36]; rfl) (by decide) ?_
    refine lv_iload_n hx hb dd_N_admits_111 rfl (lv_at hl 1 rfl) ?_
    refine lv_if_ne (tgt := 128) hx hb dd_N_admits_112 (by decide) (fun c37 => ?_) (fun c37 => ?_)
    · refine lv_iload_n hx hb dd_N_admits_128 rfl (lv_at hl 1 rfl) ?_
      refine lv_iconst (v := 1) hx hb dd_N_admits_129 (by decide) ?_
      refine lv_icmp_eq (tgt := 141) hx hb dd_N_admits_130 (by decide) (fun c38 => ?_) (fun c38 => ?_)
      · refine lv_iconst (v := 1) hx hb dd_N_admits_141 (by decide) ?_
        refine lv_goto (tgt := 146) hx hb dd_N_admits_142 (by decide) ?_
        exact mr_i hx hb hr hlocks rfl (by simp [bI, n_admits, c2, c7, c8, c13, c17, c20, c23, c25, c29, c30, c35, eq_true c36, c37, eq_true c38]) dd_N_admits_146
      · refine lv_iload_n hx hb dd_N_admits_133 rfl (lv_at hl 2 rfl) ?_
        refine lv_aload_n hx hb dd_N_admits_134 rfl (lv_at hl 0 rfl) ?_
        refine mg_get hx hb ht ii_N hown hK hM m0 rfl 9 (by decide) wd_2_52 (fun _ h => h) rfl dd_N_admits_135 ?_
        refine lv_icmp_ne (tgt := 145) hx hb dd_N_admits_138 (by decide) (fun c39 => ?_) (fun c39 => ?_)
        · refine lv_iconst (v := 0) hx hb dd_N_admits_145 (by decide) ?_
          exact mr_i hx hb hr hlocks rfl (by simp [bI, n_admits, c2, c7, c8, c13, c17, c20, c23, c25, c29, c30, c35, eq_true c36, c37, c38, c39]) dd_N_admits_146
        · refine lv_iconst (v := 1) hx hb dd_N_admits_141 (by decide) ?_
          refine lv_goto (tgt := 146) hx hb dd_N_admits_142 (by decide) ?_
          exact mr_i hx hb hr hlocks rfl (by simp [bI, n_admits, c2, c7, c8, c13, c17, c20, c23, c25, c29, c30, c35, eq_true c36, c37, c38, eq_true c39]) dd_N_admits_146
    · refine lv_iload_n hx hb dd_N_admits_115 rfl (lv_at hl 2 rfl) ?_
      refine lv_iconst (v := 1) hx hb dd_N_admits_116 (by decide) ?_
      refine lv_icmp_ne (tgt := 124) hx hb dd_N_admits_117 (by decide) (fun c40 => ?_) (fun c40 => ?_)
      · refine lv_iconst (v := 0) hx hb dd_N_admits_124 (by decide) ?_
        refine lv_goto (tgt := 146) hx hb dd_N_admits_125 (by decide) ?_
        exact mr_i hx hb hr hlocks rfl (by simp [bI, n_admits, c2, c7, c8, c13, c17, c20, c23, c25, c29, c30, c35, eq_true c36, eq_true c37, c40]) dd_N_admits_146
      · refine lv_iconst (v := 1) hx hb dd_N_admits_120 (by decide) ?_
        refine lv_goto (tgt := 146) hx hb dd_N_admits_121 (by decide) ?_
        exact mr_i hx hb hr hlocks rfl (by simp [bI, n_admits, c2, c7, c8, c13, c17, c20, c23, c25, c29, c30, c35, eq_true c36, eq_true c37, eq_true c40]) dd_N_admits_146
  by_cases c41 : (n_kd r) = 23
  · refine lv_tableIn (tgt := 168) hx hb dd_N_admits_4 (by rw [c41]; decide) (by rw [c41]; decide) (by rw [c41]; rfl) (by decide) ?_
    refine lv_aload_n hx hb dd_N_admits_168 rfl (lv_at hl 0 rfl) ?_
    refine mg_get hx hb ht ii_N hown hK hM m0 rfl 12 (by decide) wd_2_57 (fun _ h => h) rfl dd_N_admits_169 ?_
    refine lr_ifnull (tgt := 191) hx hb dd_N_admits_172 (by decide) (fun ey42 => ?_) (fun y42 ey42 => ?_)
    · refine lv_iconst (v := 0) hx hb dd_N_admits_191 (by decide) ?_
      exact mr_i hx hb hr hlocks rfl (by simp [bI, n_admits, c2, c7, c8, c13, c17, c20, c23, c25, c29, c30, c35, c36, eq_true c41, ey42]) dd_N_admits_192
    · have my42 := mp y42 ey42
      refine lv_iload_n hx hb dd_N_admits_175 rfl (lv_at hl 2 rfl) ?_
      refine lv_aload_n hx hb dd_N_admits_176 rfl (lv_at hl 0 rfl) ?_
      refine mg_get (v := .ref y42) hx hb ht ii_N hown hK hM m0 rfl 12 (by decide) wd_2_57 (fun _ h => h) (congrArg (fun z => some (va_rf z)) ey42) dd_N_admits_177 ?_
      refine lv_iload_n hx hb dd_N_admits_180 rfl (lv_at hl 1 rfl) ?_
      refine mc_V (As := [.int k]) (rest := [.int t]) 1 (cc_D_parameterType (i := k) my42 (mt (by rw [ey42]; exact Option.some_ne_none _))) hx hb hml hown ht hM hK hl.1 lk_N_92 (by decide +kernel) (by decide) my42 rfl rfl rfl (Nat.le_of_ble_eq_true rfl) dd_N_admits_181 ⟨Nat.zero_le _, Nat.zero_le _⟩ ?_
      refine lv_icmp_ne (tgt := 191) hx hb dd_N_admits_184 (by decide) (fun c43 => ?_) (fun c43 => ?_)
      · refine lv_iconst (v := 0) hx hb dd_N_admits_191 (by decide) ?_
        exact mr_i hx hb hr hlocks rfl (by simp [bI, n_admits, c2, c7, c8, c13, c17, c20, c23, c25, c29, c30, c35, c36, eq_true c41, ey42, c43]) dd_N_admits_192
      · refine lv_iconst (v := 1) hx hb dd_N_admits_187 (by decide) ?_
        refine lv_goto (tgt := 192) hx hb dd_N_admits_188 (by decide) ?_
        exact mr_i hx hb hr hlocks rfl (by simp [bI, n_admits, c2, c7, c8, c13, c17, c20, c23, c25, c29, c30, c35, c36, eq_true c41, ey42, eq_true c43]) dd_N_admits_192
  by_cases c44 : (n_kd r) = 16
  · refine lv_tableIn (tgt := 229) hx hb dd_N_admits_4 (by rw [c44]; decide) (by rw [c44]; decide) (by rw [c44]; rfl) (by decide) ?_
    refine lv_iload_n hx hb dd_N_admits_229 rfl (lv_at hl 2 rfl) ?_
    refine lv_if_ne (tgt := 237) hx hb dd_N_admits_230 (by decide) (fun c45 => ?_) (fun c45 => ?_)
    · refine lv_iconst (v := 0) hx hb dd_N_admits_237 (by decide) ?_
      exact mr_i hx hb hr hlocks rfl (by simp [bI, n_admits, c2, c7, c8, c13, c17, c20, c23, c25, c29, c30, c35, c36, c41, eq_true c44, c45]) dd_N_admits_238
    · refine lv_iconst (v := 1) hx hb dd_N_admits_233 (by decide) ?_
      refine lv_goto (tgt := 238) hx hb dd_N_admits_234 (by decide) ?_
      exact mr_i hx hb hr hlocks rfl (by simp [bI, n_admits, c2, c7, c8, c13, c17, c20, c23, c25, c29, c30, c35, c36, c41, eq_true c44, eq_true c45]) dd_N_admits_238
  have c46 : ((n_kd r) : Int32).toInt < 10 ∨ 23 < ((n_kd r) : Int32).toInt := by (have z0 := lv_neT (a := 10) c2 (by decide); have z1 := lv_neT (a := 11) c7 (by decide); have z2 := lv_neT (a := 12) c8 (by decide); have z3 := lv_neT (a := 13) c13 (by decide); have z4 := lv_neT (a := 14) c17 (by decide); have z5 := lv_neT (a := 15) c20 (by decide); have z6 := lv_neT (a := 17) c23 (by decide); have z7 := lv_neT (a := 18) c25 (by decide); have z8 := lv_neT (a := 19) c29 (by decide); have z9 := lv_neT (a := 20) c30 (by decide); have z10 := lv_neT (a := 21) c35 (by decide); have z11 := lv_neT (a := 22) c36 (by decide); have z12 := lv_neT (a := 23) c41 (by decide); have z13 := lv_neT (a := 16) c44 (by decide); omega)
  refine lv_tableOut (tgt := 229) hx hb dd_N_admits_4 c46 (by decide) ?_
  refine lv_iload_n hx hb dd_N_admits_229 rfl (lv_at hl 2 rfl) ?_
  refine lv_if_ne (tgt := 237) hx hb dd_N_admits_230 (by decide) (fun c47 => ?_) (fun c47 => ?_)
  · refine lv_iconst (v := 0) hx hb dd_N_admits_237 (by decide) ?_
    exact mr_i hx hb hr hlocks rfl (by simp [bI, n_admits, c2, c7, c8, c13, c17, c20, c23, c25, c29, c30, c35, c36, c41, c44, c47]) dd_N_admits_238
  · refine lv_iconst (v := 1) hx hb dd_N_admits_233 (by decide) ?_
    refine lv_goto (tgt := 238) hx hb dd_N_admits_234 (by decide) ?_
    exact mr_i hx hb hr hlocks rfl (by simp [bI, n_admits, c2, c7, c8, c13, c17, c20, c23, c25, c29, c30, c35, c36, c41, c44, eq_true c47]) dd_N_admits_238
set_option maxHeartbeats 4000000 in
set_option maxRecDepth 100000 in
theorem cc_D_indexOfParameter {l : Launch} {G : gC} {M : mC} {h0 : Nat} {r : dR} (m0 : M h0 = some (dC r)) {pn : Nat → Int64} (mn : M (d_apn r) = some (lA G 8 pn)) {x : Int64} : cR l yy_D_indexOfParameter bb_D_indexOfParameter 4 (some .int) 0 G M [.ref h0, .long x] (.int (d_index r pn x)) := by
  refine me_R (by decide) (Nat.le_of_ble_eq_true rfl) ?_
  intro p e s m below meth c ls hx hb hr hlocks hml hown ht hM hK hl
  have hown : s.vm.findClass RR_D = some m.cls := hown
  have hl : lv_has ls 4 [(0, .ref h0), (1, .long x)] := hl
  have loop : ∀ (k i : Nat) (ls : Array Slot), i + k = 8 → lv_has ls 4 [(3, .int (nI i)), (0, .ref h0), (1, .long x)] → d_idx (d_np r) pn x k i = d_index r pn x → W p l e (rd 0 0 0) s m ([.ref h0, .long x] : List Value).toArray below meth c s.heap [] 0 0 (MQ below (k2_QcV (.int (d_index r pn x))) ([.ref h0, .long x] : List Value).toArray s 0 0 (fun _ => False)) (F0 m 2 ls []) := by
    intro k
    induction k with
    | zero =>
      intro i ls hik hl hres
      refine lv_iload_n hx hb dd_D_indexOfParameter_2 rfl (lv_at hl 0 rfl) ?_
      refine lv_aload_n hx hb dd_D_indexOfParameter_3 rfl (lv_at hl 1 rfl) ?_
      refine mg_get hx hb ht ii_D hown hK hM m0 rfl 6 (by decide) wd_1_139 (fun _ h => h) rfl dd_D_indexOfParameter_4 ?_
      refine lv_icmp_ge (tgt := 35) hx hb dd_D_indexOfParameter_7 (by decide) (fun c1 => ?_) (fun c1 => ?_)
      · refine lv_iconst (v := -1) hx hb dd_D_indexOfParameter_35 (by decide) ?_
        exact mr_i hx hb hr hlocks rfl (by rw [← hres]; simp [d_idx, c1]) dd_D_indexOfParameter_36
      · refine lv_iload_n hx hb dd_D_indexOfParameter_10 rfl (lv_at hl 0 rfl) ?_
        refine lv_bipush (v := 8) hx hb dd_D_indexOfParameter_11 (by decide) ?_
        refine lv_icmp_ge (tgt := 35) hx hb dd_D_indexOfParameter_13 (by decide) (fun c9 => ?_) (fun z => absurd (by rw [show i = 8 by omega]; decide) z)
        refine lv_iconst (v := -1) hx hb dd_D_indexOfParameter_35 (by decide) ?_
        exact mr_i hx hb hr hlocks rfl (by rw [← hres]; simp [d_idx, c1]) dd_D_indexOfParameter_36
    | succ k ih =>
      intro i ls hik hl hres
      refine lv_iload_n hx hb dd_D_indexOfParameter_2 rfl (lv_at hl 0 rfl) ?_
      refine lv_aload_n hx hb dd_D_indexOfParameter_3 rfl (lv_at hl 1 rfl) ?_
      refine mg_get hx hb ht ii_D hown hK hM m0 rfl 6 (by decide) wd_1_139 (fun _ h => h) rfl dd_D_indexOfParameter_4 ?_
      refine lv_icmp_ge (tgt := 35) hx hb dd_D_indexOfParameter_7 (by decide) (fun c1 => ?_) (fun c1 => ?_)
      · refine lv_iconst (v := -1) hx hb dd_D_indexOfParameter_35 (by decide) ?_
        exact mr_i hx hb hr hlocks rfl (by rw [← hres]; simp [d_idx, c1]) dd_D_indexOfParameter_36
      · refine lv_iload_n hx hb dd_D_indexOfParameter_10 rfl (lv_at hl 0 rfl) ?_
        refine lv_bipush (v := 8) hx hb dd_D_indexOfParameter_11 (by decide) ?_
        refine lv_icmp_ge (tgt := 35) hx hb dd_D_indexOfParameter_13 (by decide) (fun z => absurd z (i8_ge (by omega))) (fun _ => ?_)
        refine lv_aload_n hx hb dd_D_indexOfParameter_16 rfl (lv_at hl 1 rfl) ?_
        refine mg_get hx hb ht ii_D hown hK hM m0 rfl 4 (by decide) wd_1_137 (fun _ h => h) rfl dd_D_indexOfParameter_17 ?_
        refine lv_iload_n hx hb dd_D_indexOfParameter_20 rfl (lv_at hl 0 rfl) ?_
        refine mg_lald hx hb hK hM mn (vp_in_nI (show i < 8 by omega) (by decide)) dd_D_indexOfParameter_21 ?_
        rw [nI_clamp (show i < 2 ^ 31 by omega)]
        refine lv_lload_n hx hb dd_D_indexOfParameter_22 rfl (lv_at hl 2 rfl) ?_
        refine W.lcmp hx hb dd_D_indexOfParameter_23 ?_
        refine lc_if_ne (tgt := 29) hx hb dd_D_indexOfParameter_24 (by decide) (fun c2 => ?_) (fun c2 => ?_)
        · obtain ⟨x3, ex3⟩ : ∃ y : Int32, y = (nI i) + 1 := ⟨_, rfl⟩
          refine lv_iinc (v := x3) (lv' := [(3, .int x3), (0, .ref h0), (1, .long x)]) hx hb dd_D_indexOfParameter_29 hl (k := 0) rfl (by rw [ex3]; rfl) (by decide) rfl (fun ls hl => ?_)
          refine lv_goto (tgt := 2) hx hb dd_D_indexOfParameter_32 (by decide) ?_
          rw [ex3, nI_1] at hl
          exact ih (i + 1) ls (by omega) hl (by rw [← hres]; simp [d_idx, c1, c2])
        · refine lv_iload_n hx hb dd_D_indexOfParameter_27 rfl (lv_at hl 0 rfl) ?_
          exact mr_i hx hb hr hlocks rfl (by rw [← hres]; simp [d_idx, c1, eq_true c2]) dd_D_indexOfParameter_28
  refine lv_iconst (v := 0) hx hb dd_D_indexOfParameter_0 (by decide) ?_
  refine lv_istore_n (lv' := [(3, .int 0), (0, .ref h0), (1, .long x)]) hx hb dd_D_indexOfParameter_1 rfl hl (by decide) rfl (fun ls hl => ?_)
  exact loop 8 0 ls rfl (by rw [nI_0]; exact hl) rfl
end
section
set_option maxHeartbeats 4000000 in
set_option maxRecDepth 100000 in
theorem cc_N_countVariables {l : Launch} {G : gC} {M : mC} {sz : Nat} {h0 : Nat} {r : nR} (m0 : M h0 = some (nC r)) {d : dR} (md : M (n_ho r) = some (dC d)) {q : nR} (mp : ∀ y, n_pa r = some y → M y = some (nC q)) (hne : ∀ y, n_pa r = some y → y ≠ h0) : cW l yy_N_countVariables bb_N_countVariables 1 none 2 0 0 G M sz [.ref h0] (fun v u => v = none ∧ u = mp_up M h0 (nC (n_s_va r (n_count r q d)))) := by
  refine me_W (by decide) (Nat.le_of_ble_eq_true rfl) ?_
  intro p e s m below meth c ls hx hb hr hlocks hml hown hname ht hsz hM hK hZ hl
  have hown : s.vm.findClass RR_N = some m.cls := hown
  have hl : lv_has ls 1 [(0, .ref h0)] := hl
  have hS : va_S (fr M sz) s.heap s.heap [] := va_S.rf
  have hF : ∀ q, M q ≠ none → fr M sz q := fr_M
  have hA : ∀ q, s.heap.size ≤ q → fr M sz q := fun q h => fr_A q (by rw [← hsz]; exact h)
  refine lv_aload_n hx hb dd_N_countVariables_0 rfl (lv_at hl 0 rfl) ?_
  refine mg_get hx hb ht ii_N hown hK hM m0 rfl 2 (by decide) wd_2_36 (fun _ h => h) rfl dd_N_countVariables_1 ?_
  refine lr_ifnonnull (tgt := 21) hx hb dd_N_countVariables_4 (by decide) (fun y1 ey1 => ?_) (fun ey1 => ?_)
  · have my1 := mp y1 ey1
    refine lv_aload_n hx hb dd_N_countVariables_21 rfl (lv_at hl 0 rfl) ?_
    refine lv_aload_n hx hb dd_N_countVariables_22 rfl (lv_at hl 0 rfl) ?_
    refine mg_get (v := .ref y1) hx hb ht ii_N hown hK hM m0 rfl 2 (by decide) wd_2_36 (fun _ h => h) (congrArg (fun z => some (va_rf z)) ey1) dd_N_countVariables_23 ?_
    refine mg_get hx hb ht ii_N hown hK hM my1 rfl 13 (by decide) wd_2_59 (fun _ h => h) rfl dd_N_countVariables_26 ?_
    refine lv_aload_n hx hb dd_N_countVariables_29 rfl (lv_at hl 0 rfl) ?_
    refine mc_V (As := []) (rest := [.int (n_va q), .ref h0]) 0 (cc_N_isLastPart m0 (q := q) mp) hx hb hml hown ht hM hK hl.1 lk_N_65 (by decide +kernel) (by decide) m0 rfl rfl rfl (Nat.le_of_ble_eq_true rfl) dd_N_countVariables_30 ⟨Nat.zero_le _, Nat.zero_le _⟩ ?_
    refine lb_if_eq (tgt := 46) hx hb dd_N_countVariables_33 (by decide) (fun c2 => ?_) (fun c2 => ?_)
    · refine lv_iconst (v := 0) hx hb dd_N_countVariables_46 (by decide) ?_
      refine lv_iadd hx hb dd_N_countVariables_47 ?_
      refine mg_put (v := .int ((n_va q) + 0)) hx hb ht ii_N tt_N tt_N_ok nn_N hown hK hM hS (hF _ (by rw [m0]; exact Option.some_ne_none _)) m0 rfl 13 (by decide) wd_2_59 (fun _ h => h) (Or.inl rfl) rfl rfl rfl (Nat.le_of_ble_eq_true rfl) dd_N_countVariables_48 (fun H locs hM hz hoq hS => ?_)
      have hsz := hz.trans hsz
      have hM : hm G (mp_up M h0 (nC (n_s_va r ((n_va q) + 0)))) H := hM
      have hF : ∀ z9, (mp_up M h0 (nC (n_s_va r ((n_va q) + 0)))) z9 ≠ none → fr M sz z9 := hF_put hF (hF _ (by rw [m0]; exact Option.some_ne_none _))
      have m0 : (mp_up M h0 (nC (n_s_va r ((n_va q) + 0)))) h0 = some (nC (n_s_va r ((n_va q) + 0))) := mp_self _ _ _
      exact mw_v hx hb hr hlocks hM hF hS (Nat.zero_le _) (Nat.zero_le _) ⟨rfl, congrArg (a₁ := ((n_va q) + 0)) (a₂ := n_count r q d) (fun z => mp_up M h0 (nC (n_s_va r z))) (by simp [n_count, ey1, c2])⟩ dd_N_countVariables_51
    · refine lv_aload_n hx hb dd_N_countVariables_36 rfl (lv_at hl 0 rfl) ?_
      refine mg_get (v := .ref y1) hx hb ht ii_N hown hK hM m0 rfl 2 (by decide) wd_2_36 (fun _ h => h) (congrArg (fun z => some (va_rf z)) ey1) dd_N_countVariables_37 ?_
      refine mc_V (As := []) (rest := [.int (n_va q), .ref h0]) 0 (cc_N_variablesOfLastPart my1) hx hb hml hown ht hM hK hl.1 lk_N_69 (by decide +kernel) (by decide) my1 rfl rfl rfl (Nat.le_of_ble_eq_true rfl) dd_N_countVariables_40 ⟨Nat.zero_le _, Nat.zero_le _⟩ ?_
      refine lv_goto (tgt := 47) hx hb dd_N_countVariables_43 (by decide) ?_
      refine lv_iadd hx hb dd_N_countVariables_47 ?_
      refine mg_put (v := .int ((n_va q) + (n_varsLast q))) hx hb ht ii_N tt_N tt_N_ok nn_N hown hK hM hS (hF _ (by rw [m0]; exact Option.some_ne_none _)) m0 rfl 13 (by decide) wd_2_59 (fun _ h => h) (Or.inl rfl) rfl rfl rfl (Nat.le_of_ble_eq_true rfl) dd_N_countVariables_48 (fun H locs hM hz hoq hS => ?_)
      have hsz := hz.trans hsz
      have hM : hm G (mp_up M h0 (nC (n_s_va r ((n_va q) + (n_varsLast q))))) H := hM
      have hF : ∀ z9, (mp_up M h0 (nC (n_s_va r ((n_va q) + (n_varsLast q))))) z9 ≠ none → fr M sz z9 := hF_put hF (hF _ (by rw [m0]; exact Option.some_ne_none _))
      have m0 : (mp_up M h0 (nC (n_s_va r ((n_va q) + (n_varsLast q))))) h0 = some (nC (n_s_va r ((n_va q) + (n_varsLast q)))) := mp_self _ _ _
      exact mw_v hx hb hr hlocks hM hF hS (Nat.zero_le _) (Nat.zero_le _) ⟨rfl, congrArg (a₁ := ((n_va q) + (n_varsLast q))) (a₂ := n_count r q d) (fun z => mp_up M h0 (nC (n_s_va r z))) (by simp [n_count, ey1, c2])⟩ dd_N_countVariables_51
  · refine lv_aload_n hx hb dd_N_countVariables_7 rfl (lv_at hl 0 rfl) ?_
    refine lv_aload_n hx hb dd_N_countVariables_8 rfl (lv_at hl 0 rfl) ?_
    refine mg_get hx hb ht ii_N hown hK hM m0 rfl 1 (by decide) wd_2_34 (fun _ h => h) rfl dd_N_countVariables_9 ?_
    refine mg_get hx hb ht ii_D hown hK hM md rfl 6 (by decide) wd_1_140 (fun _ h => h) rfl dd_N_countVariables_12 ?_
    refine mg_put (v := .int (d_np d)) hx hb ht ii_N tt_N tt_N_ok nn_N hown hK hM hS (hF _ (by rw [m0]; exact Option.some_ne_none _)) m0 rfl 13 (by decide) wd_2_59 (fun _ h => h) (Or.inl rfl) rfl rfl rfl (Nat.le_of_ble_eq_true rfl) dd_N_countVariables_15 (fun H locs hM hz hoq hS => ?_)
    have hsz := hz.trans hsz
    have hM : hm G (mp_up M h0 (nC (n_s_va r (d_np d)))) H := hM
    have hF : ∀ z9, (mp_up M h0 (nC (n_s_va r (d_np d)))) z9 ≠ none → fr M sz z9 := hF_put hF (hF _ (by rw [m0]; exact Option.some_ne_none _))
    have m0 : (mp_up M h0 (nC (n_s_va r (d_np d)))) h0 = some (nC (n_s_va r (d_np d))) := mp_self _ _ _
    refine lv_goto (tgt := 51) hx hb dd_N_countVariables_18 (by decide) ?_
    exact mw_v hx hb hr hlocks hM hF hS (Nat.zero_le _) (Nat.zero_le _) ⟨rfl, congrArg (a₁ := (d_np d)) (a₂ := n_count r q d) (fun z => mp_up M h0 (nC (n_s_va r z))) (by simp [n_count, ey1])⟩ dd_N_countVariables_51

set_option maxHeartbeats 4000000 in
set_option maxRecDepth 100000 in
theorem cc_N_aimAt_n {l : Launch} {G : gC} {M : mC} {sz : Nat} {h0 : Nat} {r : nR} (m0 : M h0 = some (nC r)) : cW l yy_N_aimAt bb_N_aimAt 3 (some .boolean) 0 0 0 G M sz [.ref h0, .null] (fun v u => v = some (.int 0) ∧ u = M) := by
  refine me_W (by decide) (Nat.le_of_ble_eq_true rfl) ?_
  intro p e s m below meth c ls hx hb hr hlocks hml hown hname ht hsz hM hK hZ hl
  have hown : s.vm.findClass RR_N = some m.cls := hown
  have hl : lv_has ls 3 [(0, .ref h0), (1, .null)] := hl
  have hS : va_S (fr M sz) s.heap s.heap [] := va_S.rf
  have hF : ∀ q, M q ≠ none → fr M sz q := fr_M
  have hA : ∀ q, s.heap.size ≤ q → fr M sz q := fun q h => fr_A q (by rw [← hsz]; exact h)
  refine lv_aload_n hx hb dd_N_aimAt_0 rfl (lv_at hl 0 rfl) ?_
  refine mg_get hx hb ht ii_N hown hK hM m0 rfl 4 (by decide) wd_2_41 (fun _ h => h) rfl dd_N_aimAt_1 ?_
  refine lv_bipush (v := 23) hx hb dd_N_aimAt_4 (by decide) ?_
  refine lv_icmp_ne (tgt := 13) hx hb dd_N_aimAt_6 (by decide) (fun c1 => ?_) (fun c1 => ?_)
  · refine lv_iconst (v := 0) hx hb dd_N_aimAt_13 (by decide) ?_
    refine lv_istore_n (lv' := [(2, .int 0), (0, .ref h0), (1, .null)]) hx hb dd_N_aimAt_14 rfl hl (by decide) rfl (fun ls hl => ?_)
    refine lv_aload_nN hx hb dd_N_aimAt_15 rfl (lv_at hl 2 rfl) ?_
    refine lv_ifnullN (tgt := 38) hx hb dd_N_aimAt_16 (by decide) ?_
    refine lv_iconst (v := 0) hx hb dd_N_aimAt_38 (by decide) ?_
    exact mw_i hx hb hr hlocks rfl hM hF hS (Nat.zero_le _) (Nat.zero_le _) ⟨rfl, rfl⟩ dd_N_aimAt_39
  · refine lv_iconst (v := 1) hx hb dd_N_aimAt_9 (by decide) ?_
    refine lv_goto (tgt := 14) hx hb dd_N_aimAt_10 (by decide) ?_
    refine lv_istore_n (lv' := [(2, .int 1), (0, .ref h0), (1, .null)]) hx hb dd_N_aimAt_14 rfl hl (by decide) rfl (fun ls hl => ?_)
    refine lv_aload_nN hx hb dd_N_aimAt_15 rfl (lv_at hl 2 rfl) ?_
    refine lv_ifnullN (tgt := 38) hx hb dd_N_aimAt_16 (by decide) ?_
    refine lv_iconst (v := 0) hx hb dd_N_aimAt_38 (by decide) ?_
    exact mw_i hx hb hr hlocks rfl hM hF hS (Nat.zero_le _) (Nat.zero_le _) ⟨rfl, rfl⟩ dd_N_aimAt_39

set_option maxHeartbeats 4000000 in
set_option maxRecDepth 100000 in
theorem cc_N_aimAt_s {l : Launch} {G : gC} {M : mC} {sz : Nat} {h0 : Nat} {r : nR} (m0 : M h0 = some (nC r)) {y : Nat} {d : dR} (md : M y = some (dC d)) (hne : y ≠ h0) : cW l yy_N_aimAt bb_N_aimAt 3 (some .boolean) 0 0 0 G M sz [.ref h0, .ref y] (fun v u => v = some (.int (bI (n_aimOk r d))) ∧ u = (if n_aimOk r d = true then mp_up M h0 (nC (n_s_vt (n_s_ca r (some y)) (d_vt d))) else M)) := by
  refine me_W (by decide) (Nat.le_of_ble_eq_true rfl) ?_
  intro p e s m below meth c ls hx hb hr hlocks hml hown hname ht hsz hM hK hZ hl
  have hown : s.vm.findClass RR_N = some m.cls := hown
  have hl : lv_has ls 3 [(0, .ref h0), (1, .ref y)] := hl
  have hS : va_S (fr M sz) s.heap s.heap [] := va_S.rf
  have hF : ∀ q, M q ≠ none → fr M sz q := fr_M
  have hA : ∀ q, s.heap.size ≤ q → fr M sz q := fun q h => fr_A q (by rw [← hsz]; exact h)
  refine lv_aload_n hx hb dd_N_aimAt_0 rfl (lv_at hl 0 rfl) ?_
  refine mg_get hx hb ht ii_N hown hK hM m0 rfl 4 (by decide) wd_2_41 (fun _ h => h) rfl dd_N_aimAt_1 ?_
  refine lv_bipush (v := 23) hx hb dd_N_aimAt_4 (by decide) ?_
  refine lv_icmp_ne (tgt := 13) hx hb dd_N_aimAt_6 (by decide) (fun c1 => ?_) (fun c1 => ?_)
  · refine lv_iconst (v := 0) hx hb dd_N_aimAt_13 (by decide) ?_
    refine lv_istore_n (lv' := [(2, .int 0), (0, .ref h0), (1, .ref y)]) hx hb dd_N_aimAt_14 rfl hl (by decide) rfl (fun ls hl => ?_)
    refine lv_aload_n hx hb dd_N_aimAt_15 rfl (lv_at hl 2 rfl) ?_
    refine lv_ifnull hx hb dd_N_aimAt_16 ?_
    refine lv_aload_n hx hb dd_N_aimAt_19 rfl (lv_at hl 2 rfl) ?_
    refine mg_get hx hb ht ii_D hown hK hM md rfl 1 (by decide) wd_1_130 (fun _ h => h) rfl dd_N_aimAt_20 ?_
    refine lv_iload_n hx hb dd_N_aimAt_23 rfl (lv_at hl 0 rfl) ?_
    refine lv_icmp_ne (tgt := 38) hx hb dd_N_aimAt_24 (by decide) (fun c2 => ?_) (fun c2 => ?_)
    · have c2 := bI_n.mp c2
      refine lv_iconst (v := 0) hx hb dd_N_aimAt_38 (by decide) ?_
      exact mw_i hx hb hr hlocks rfl hM hF hS (Nat.zero_le _) (Nat.zero_le _) ⟨by simp [n_aimOk, bI, bI_eq, c1, c2], by rw [if_neg (by simp [n_aimOk, bI, bI_eq, c1, c2])]⟩ dd_N_aimAt_39
    · have c2 := bI_0.mp c2
      refine lv_aload_n hx hb dd_N_aimAt_27 rfl (lv_at hl 2 rfl) ?_
      refine mg_get hx hb ht ii_D hown hK hM md rfl 6 (by decide) wd_1_140 (fun _ h => h) rfl dd_N_aimAt_28 ?_
      refine lv_aload_n hx hb dd_N_aimAt_31 rfl (lv_at hl 1 rfl) ?_
      refine mg_get hx hb ht ii_N hown hK hM m0 rfl 7 (by decide) wd_2_47 (fun _ h => h) rfl dd_N_aimAt_32 ?_
      refine lv_icmp_eq (tgt := 40) hx hb dd_N_aimAt_35 (by decide) (fun c3 => ?_) (fun c3 => ?_)
      · refine lv_aload_n hx hb dd_N_aimAt_40 rfl (lv_at hl 1 rfl) ?_
        refine lv_aload_n hx hb dd_N_aimAt_41 rfl (lv_at hl 2 rfl) ?_
        refine mg_put (v := .ref y) hx hb ht ii_N tt_N tt_N_ok nn_N hown hK hM hS (hF _ (by rw [m0]; exact Option.some_ne_none _)) m0 rfl 12 (by decide) wd_2_57 (fun _ h => h) (Or.inl rfl) rfl rfl rfl (Nat.le_of_ble_eq_true rfl) dd_N_aimAt_42 (fun H locs hM hz hoq hS => ?_)
        have hsz := hz.trans hsz
        have hM : hm G (mp_up M h0 (nC (n_s_ca r (some y)))) H := hM
        have hF : ∀ z9, (mp_up M h0 (nC (n_s_ca r (some y)))) z9 ≠ none → fr M sz z9 := hF_put hF (hF _ (by rw [m0]; exact Option.some_ne_none _))
        have m0 : (mp_up M h0 (nC (n_s_ca r (some y)))) h0 = some (nC (n_s_ca r (some y))) := mp_self _ _ _
        refine lv_aload_n hx hb dd_N_aimAt_45 rfl (lv_at hl 1 rfl) ?_
        refine lv_aload_n hx hb dd_N_aimAt_46 rfl (lv_at hl 2 rfl) ?_
        have md := mp_at (M := M) (a := h0) (e := (nC (n_s_ca r (some y)))) hne md
        refine mg_get hx hb ht ii_D hown hK hM md rfl 3 (by decide) wd_1_135 (fun _ h => h) rfl dd_N_aimAt_47 ?_
        refine mg_put (v := .int (d_vt d)) hx hb ht ii_N tt_N tt_N_ok nn_N hown hK hM hS (hF _ (by rw [m0]; exact Option.some_ne_none _)) m0 rfl 9 (by decide) wd_2_52 (fun _ h => h) (Or.inl rfl) rfl rfl rfl (Nat.le_of_ble_eq_true rfl) dd_N_aimAt_50 (fun H locs hM hz hoq hS => ?_)
        have hsz := hz.trans hsz
        rw [mp_mp] at hM
        have hM : hm G (mp_up M h0 (nC (n_s_vt (n_s_ca r (some y)) (d_vt d)))) H := hM
        have hF : ∀ z9, (mp_up M h0 (nC (n_s_vt (n_s_ca r (some y)) (d_vt d)))) z9 ≠ none → fr M sz z9 := hF_same hF
        have m0 : (mp_up M h0 (nC (n_s_vt (n_s_ca r (some y)) (d_vt d)))) h0 = some (nC (n_s_vt (n_s_ca r (some y)) (d_vt d))) := mp_self _ _ _
        refine lv_iconst (v := 1) hx hb dd_N_aimAt_53 (by decide) ?_
        exact mw_i hx hb hr hlocks rfl hM hF hS (Nat.zero_le _) (Nat.zero_le _) ⟨by simp [n_aimOk, bI, bI_eq, c1, c2, eq_true c3], by rw [if_pos (by simp [n_aimOk, bI, bI_eq, c1, c2, eq_true c3])]⟩ dd_N_aimAt_54
      · refine lv_iconst (v := 0) hx hb dd_N_aimAt_38 (by decide) ?_
        exact mw_i hx hb hr hlocks rfl hM hF hS (Nat.zero_le _) (Nat.zero_le _) ⟨by simp [n_aimOk, bI, bI_eq, c1, c2, c3], by rw [if_neg (by simp [n_aimOk, bI, bI_eq, c1, c2, c3])]⟩ dd_N_aimAt_39
  · refine lv_iconst (v := 1) hx hb dd_N_aimAt_9 (by decide) ?_
    refine lv_goto (tgt := 14) hx hb dd_N_aimAt_10 (by decide) ?_
    refine lv_istore_n (lv' := [(2, .int 1), (0, .ref h0), (1, .ref y)]) hx hb dd_N_aimAt_14 rfl hl (by decide) rfl (fun ls hl => ?_)
    refine lv_aload_n hx hb dd_N_aimAt_15 rfl (lv_at hl 2 rfl) ?_
    refine lv_ifnull hx hb dd_N_aimAt_16 ?_
    refine lv_aload_n hx hb dd_N_aimAt_19 rfl (lv_at hl 2 rfl) ?_
    refine mg_get hx hb ht ii_D hown hK hM md rfl 1 (by decide) wd_1_130 (fun _ h => h) rfl dd_N_aimAt_20 ?_
    refine lv_iload_n hx hb dd_N_aimAt_23 rfl (lv_at hl 0 rfl) ?_
    refine lv_icmp_ne (tgt := 38) hx hb dd_N_aimAt_24 (by decide) (fun c4 => ?_) (fun c4 => ?_)
    · have c4 := bI_m.mp c4
      refine lv_iconst (v := 0) hx hb dd_N_aimAt_38 (by decide) ?_
      exact mw_i hx hb hr hlocks rfl hM hF hS (Nat.zero_le _) (Nat.zero_le _) ⟨by simp [n_aimOk, bI, bI_eq, eq_true c1, c4], by rw [if_neg (by simp [n_aimOk, bI, bI_eq, eq_true c1, c4])]⟩ dd_N_aimAt_39
    · have c4 := bI_1.mp c4
      refine lv_aload_n hx hb dd_N_aimAt_27 rfl (lv_at hl 2 rfl) ?_
      refine mg_get hx hb ht ii_D hown hK hM md rfl 6 (by decide) wd_1_140 (fun _ h => h) rfl dd_N_aimAt_28 ?_
      refine lv_aload_n hx hb dd_N_aimAt_31 rfl (lv_at hl 1 rfl) ?_
      refine mg_get hx hb ht ii_N hown hK hM m0 rfl 7 (by decide) wd_2_47 (fun _ h => h) rfl dd_N_aimAt_32 ?_
      refine lv_icmp_eq (tgt := 40) hx hb dd_N_aimAt_35 (by decide) (fun c5 => ?_) (fun c5 => ?_)
      · refine lv_aload_n hx hb dd_N_aimAt_40 rfl (lv_at hl 1 rfl) ?_
        refine lv_aload_n hx hb dd_N_aimAt_41 rfl (lv_at hl 2 rfl) ?_
        refine mg_put (v := .ref y) hx hb ht ii_N tt_N tt_N_ok nn_N hown hK hM hS (hF _ (by rw [m0]; exact Option.some_ne_none _)) m0 rfl 12 (by decide) wd_2_57 (fun _ h => h) (Or.inl rfl) rfl rfl rfl (Nat.le_of_ble_eq_true rfl) dd_N_aimAt_42 (fun H locs hM hz hoq hS => ?_)
        have hsz := hz.trans hsz
        have hM : hm G (mp_up M h0 (nC (n_s_ca r (some y)))) H := hM
        have hF : ∀ z9, (mp_up M h0 (nC (n_s_ca r (some y)))) z9 ≠ none → fr M sz z9 := hF_put hF (hF _ (by rw [m0]; exact Option.some_ne_none _))
        have m0 : (mp_up M h0 (nC (n_s_ca r (some y)))) h0 = some (nC (n_s_ca r (some y))) := mp_self _ _ _
        refine lv_aload_n hx hb dd_N_aimAt_45 rfl (lv_at hl 1 rfl) ?_
        refine lv_aload_n hx hb dd_N_aimAt_46 rfl (lv_at hl 2 rfl) ?_
        have md := mp_at (M := M) (a := h0) (e := (nC (n_s_ca r (some y)))) hne md
        refine mg_get hx hb ht ii_D hown hK hM md rfl 3 (by decide) wd_1_135 (fun _ h => h) rfl dd_N_aimAt_47 ?_
        refine mg_put (v := .int (d_vt d)) hx hb ht ii_N tt_N tt_N_ok nn_N hown hK hM hS (hF _ (by rw [m0]; exact Option.some_ne_none _)) m0 rfl 9 (by decide) wd_2_52 (fun _ h => h) (Or.inl rfl) rfl rfl rfl (Nat.le_of_ble_eq_true rfl) dd_N_aimAt_50 (fun H locs hM hz hoq hS => ?_)
        have hsz := hz.trans hsz
        rw [mp_mp] at hM
        have hM : hm G (mp_up M h0 (nC (n_s_vt (n_s_ca r (some y)) (d_vt d)))) H := hM
        have hF : ∀ z9, (mp_up M h0 (nC (n_s_vt (n_s_ca r (some y)) (d_vt d)))) z9 ≠ none → fr M sz z9 := hF_same hF
        have m0 : (mp_up M h0 (nC (n_s_vt (n_s_ca r (some y)) (d_vt d)))) h0 = some (nC (n_s_vt (n_s_ca r (some y)) (d_vt d))) := mp_self _ _ _
        refine lv_iconst (v := 1) hx hb dd_N_aimAt_53 (by decide) ?_
        exact mw_i hx hb hr hlocks rfl hM hF hS (Nat.zero_le _) (Nat.zero_le _) ⟨by simp [n_aimOk, bI, bI_eq, eq_true c1, c4, eq_true c5], by rw [if_pos (by simp [n_aimOk, bI, bI_eq, eq_true c1, c4, eq_true c5])]⟩ dd_N_aimAt_54
      · refine lv_iconst (v := 0) hx hb dd_N_aimAt_38 (by decide) ?_
        exact mw_i hx hb hr hlocks rfl hM hF hS (Nat.zero_le _) (Nat.zero_le _) ⟨by simp [n_aimOk, bI, bI_eq, eq_true c1, c4, c5], by rw [if_neg (by simp [n_aimOk, bI, bI_eq, eq_true c1, c4, c5])]⟩ dd_N_aimAt_39

set_option maxHeartbeats 4000000 in
set_option maxRecDepth 100000 in
theorem cc_N_hearOf {l : Launch} {G : gC} {M : mC} {sz : Nat} {h0 : Nat} {r : nR} (m0 : M h0 = some (nC r)) {k t : Int32} : cW l yy_N_hearOf bb_N_hearOf 3 none 2 0 0 G M sz [.ref h0, .int k, .int t] (fun v u => v = none ∧ ((n_hear r k t = r ∧ u = M) ∨ u = mp_up M h0 (nC (n_hear r k t)))) := by
  refine me_W (by decide) (Nat.le_of_ble_eq_true rfl) ?_
  intro p e s m below meth c ls hx hb hr hlocks hml hown hname ht hsz hM hK hZ hl
  have hown : s.vm.findClass RR_N = some m.cls := hown
  have hl : lv_has ls 3 [(0, .ref h0), (1, .int k), (2, .int t)] := hl
  have hS : va_S (fr M sz) s.heap s.heap [] := va_S.rf
  have hF : ∀ q, M q ≠ none → fr M sz q := fr_M
  have hA : ∀ q, s.heap.size ≤ q → fr M sz q := fun q h => fr_A q (by rw [← hsz]; exact h)
  refine lv_iload_n hx hb dd_N_hearOf_0 rfl (lv_at hl 1 rfl) ?_
  refine lv_if_ne (tgt := 23) hx hb dd_N_hearOf_1 (by decide) (fun c1 => ?_) (fun c1 => ?_)
  · refine lv_aload_n hx hb dd_N_hearOf_23 rfl (lv_at hl 0 rfl) ?_
    refine mg_get hx hb ht ii_N hown hK hM m0 rfl 4 (by decide) wd_2_41 (fun _ h => h) rfl dd_N_hearOf_24 ?_
    refine mc_S (As := [.int (n_kd r)]) (rest := []) 1 (cc_K_isAsLastPart (k := (n_kd r))) hx hb hml hown ht hM hK hl.1 lk_N_111 (by decide +kernel) (by decide) rfl rfl (Nat.le_of_ble_eq_true rfl) dd_N_hearOf_27 ⟨Nat.zero_le _, Nat.zero_le _⟩ ?_
    refine lb_if_eq (tgt := 38) hx hb dd_N_hearOf_30 (by decide) (fun c2 => ?_) (fun c2 => ?_)
    · exact mw_v hx hb hr hlocks hM hF hS (Nat.zero_le _) (Nat.zero_le _) ⟨rfl, Or.inl ⟨by simp [n_hear, c1, c2], rfl⟩⟩ dd_N_hearOf_38
    · refine lv_aload_n hx hb dd_N_hearOf_33 rfl (lv_at hl 0 rfl) ?_
      refine lv_iload_n hx hb dd_N_hearOf_34 rfl (lv_at hl 2 rfl) ?_
      refine mg_put (v := .int t) hx hb ht ii_N tt_N tt_N_ok nn_N hown hK hM hS (hF _ (by rw [m0]; exact Option.some_ne_none _)) m0 rfl 9 (by decide) wd_2_52 (fun _ h => h) (Or.inl rfl) rfl rfl rfl (Nat.le_of_ble_eq_true rfl) dd_N_hearOf_35 (fun H locs hM hz hoq hS => ?_)
      have hsz := hz.trans hsz
      have hM : hm G (mp_up M h0 (nC (n_s_vt r t))) H := hM
      have hF : ∀ z9, (mp_up M h0 (nC (n_s_vt r t))) z9 ≠ none → fr M sz z9 := hF_put hF (hF _ (by rw [m0]; exact Option.some_ne_none _))
      have m0 : (mp_up M h0 (nC (n_s_vt r t))) h0 = some (nC (n_s_vt r t)) := mp_self _ _ _
      exact mw_v hx hb hr hlocks hM hF hS (Nat.zero_le _) (Nat.zero_le _) ⟨rfl, Or.inr (congrArg (fun z => mp_up M h0 (nC z)) (by simp [n_hear, c1, c2]))⟩ dd_N_hearOf_38
  · refine lv_aload_n hx hb dd_N_hearOf_4 rfl (lv_at hl 0 rfl) ?_
    refine mg_get hx hb ht ii_N hown hK hM m0 rfl 4 (by decide) wd_2_41 (fun _ h => h) rfl dd_N_hearOf_5 ?_
    refine mc_S (As := [.int (n_kd r)]) (rest := []) 1 (cc_K_isBinder (k := (n_kd r))) hx hb hml hown ht hM hK hl.1 lk_N_73 (by decide +kernel) (by decide) rfl rfl (Nat.le_of_ble_eq_true rfl) dd_N_hearOf_8 ⟨Nat.zero_le _, Nat.zero_le _⟩ ?_
    refine lb_if_eq (tgt := 23) hx hb dd_N_hearOf_11 (by decide) (fun c3 => ?_) (fun c3 => ?_)
    · refine lv_aload_n hx hb dd_N_hearOf_23 rfl (lv_at hl 0 rfl) ?_
      refine mg_get hx hb ht ii_N hown hK hM m0 rfl 4 (by decide) wd_2_41 (fun _ h => h) rfl dd_N_hearOf_24 ?_
      refine mc_S (As := [.int (n_kd r)]) (rest := []) 1 (cc_K_isAsLastPart (k := (n_kd r))) hx hb hml hown ht hM hK hl.1 lk_N_111 (by decide +kernel) (by decide) rfl rfl (Nat.le_of_ble_eq_true rfl) dd_N_hearOf_27 ⟨Nat.zero_le _, Nat.zero_le _⟩ ?_
      refine lb_if_eq (tgt := 38) hx hb dd_N_hearOf_30 (by decide) (fun c4 => ?_) (fun c4 => ?_)
      · exact mw_v hx hb hr hlocks hM hF hS (Nat.zero_le _) (Nat.zero_le _) ⟨rfl, Or.inl ⟨by simp [n_hear, eq_true c1, c3, c4], rfl⟩⟩ dd_N_hearOf_38
      · refine lv_aload_n hx hb dd_N_hearOf_33 rfl (lv_at hl 0 rfl) ?_
        refine lv_iload_n hx hb dd_N_hearOf_34 rfl (lv_at hl 2 rfl) ?_
        refine mg_put (v := .int t) hx hb ht ii_N tt_N tt_N_ok nn_N hown hK hM hS (hF _ (by rw [m0]; exact Option.some_ne_none _)) m0 rfl 9 (by decide) wd_2_52 (fun _ h => h) (Or.inl rfl) rfl rfl rfl (Nat.le_of_ble_eq_true rfl) dd_N_hearOf_35 (fun H locs hM hz hoq hS => ?_)
        have hsz := hz.trans hsz
        have hM : hm G (mp_up M h0 (nC (n_s_vt r t))) H := hM
        have hF : ∀ z9, (mp_up M h0 (nC (n_s_vt r t))) z9 ≠ none → fr M sz z9 := hF_put hF (hF _ (by rw [m0]; exact Option.some_ne_none _))
        have m0 : (mp_up M h0 (nC (n_s_vt r t))) h0 = some (nC (n_s_vt r t)) := mp_self _ _ _
        exact mw_v hx hb hr hlocks hM hF hS (Nat.zero_le _) (Nat.zero_le _) ⟨rfl, Or.inr (congrArg (fun z => mp_up M h0 (nC z)) (by simp [n_hear, eq_true c1, c3, c4]))⟩ dd_N_hearOf_38
    · refine lv_aload_n hx hb dd_N_hearOf_14 rfl (lv_at hl 0 rfl) ?_
      refine lv_aload_n hx hb dd_N_hearOf_15 rfl (lv_at hl 0 rfl) ?_
      refine lv_iload_n hx hb dd_N_hearOf_16 rfl (lv_at hl 2 rfl) ?_
      refine mc_V (As := [.int t]) (rest := [.ref h0]) 1 (cc_N_typeOfXAfter m0 (t := t)) hx hb hml hown ht hM hK hl.1 lk_N_108 (by decide +kernel) (by decide) m0 rfl rfl rfl (Nat.le_of_ble_eq_true rfl) dd_N_hearOf_17 ⟨Nat.zero_le _, Nat.zero_le _⟩ ?_
      refine mg_put (v := .int (n_txAfter r t)) hx hb ht ii_N tt_N tt_N_ok nn_N hown hK hM hS (hF _ (by rw [m0]; exact Option.some_ne_none _)) m0 rfl 10 (by decide) wd_2_54 (fun _ h => h) (Or.inl rfl) rfl rfl rfl (Nat.le_of_ble_eq_true rfl) dd_N_hearOf_20 (fun H locs hM hz hoq hS => ?_)
      have hsz := hz.trans hsz
      have hM : hm G (mp_up M h0 (nC (n_s_tx r (n_txAfter r t)))) H := hM
      have hF : ∀ z9, (mp_up M h0 (nC (n_s_tx r (n_txAfter r t)))) z9 ≠ none → fr M sz z9 := hF_put hF (hF _ (by rw [m0]; exact Option.some_ne_none _))
      have m0 : (mp_up M h0 (nC (n_s_tx r (n_txAfter r t)))) h0 = some (nC (n_s_tx r (n_txAfter r t))) := mp_self _ _ _
      refine lv_aload_n hx hb dd_N_hearOf_23 rfl (lv_at hl 0 rfl) ?_
      refine mg_get hx hb ht ii_N hown hK hM m0 rfl 4 (by decide) wd_2_41 (fun _ h => h) rfl dd_N_hearOf_24 ?_
      refine mc_S (As := [.int (n_kd (n_s_tx r (n_txAfter r t)))]) (rest := []) 1 (cc_K_isAsLastPart (k := (n_kd (n_s_tx r (n_txAfter r t))))) hx hb hml hown ht hM hK hl.1 lk_N_111 (by decide +kernel) (by decide) rfl rfl (Nat.le_of_ble_eq_true rfl) dd_N_hearOf_27 ⟨Nat.zero_le _, Nat.zero_le _⟩ ?_
      refine lb_if_eq (tgt := 38) hx hb dd_N_hearOf_30 (by decide) (fun c5 => ?_) (fun c5 => ?_)
      · exact mw_v hx hb hr hlocks hM hF hS (Nat.zero_le _) (Nat.zero_le _) ⟨rfl, Or.inr (congrArg (fun z => mp_up M h0 (nC z)) (by simp [n_hear, eq_true c1, c3, c5]))⟩ dd_N_hearOf_38
      · refine lv_aload_n hx hb dd_N_hearOf_33 rfl (lv_at hl 0 rfl) ?_
        refine lv_iload_n hx hb dd_N_hearOf_34 rfl (lv_at hl 2 rfl) ?_
        refine mg_put (v := .int t) hx hb ht ii_N tt_N tt_N_ok nn_N hown hK hM hS (hF _ (by rw [m0]; exact Option.some_ne_none _)) m0 rfl 9 (by decide) wd_2_52 (fun _ h => h) (Or.inl rfl) rfl rfl rfl (Nat.le_of_ble_eq_true rfl) dd_N_hearOf_35 (fun H locs hM hz hoq hS => ?_)
        have hsz := hz.trans hsz
        rw [mp_mp] at hM
        have hM : hm G (mp_up M h0 (nC (n_s_vt (n_s_tx r (n_txAfter r t)) t))) H := hM
        have hF : ∀ z9, (mp_up M h0 (nC (n_s_vt (n_s_tx r (n_txAfter r t)) t))) z9 ≠ none → fr M sz z9 := hF_same hF
        have m0 : (mp_up M h0 (nC (n_s_vt (n_s_tx r (n_txAfter r t)) t))) h0 = some (nC (n_s_vt (n_s_tx r (n_txAfter r t)) t)) := mp_self _ _ _
        exact mw_v hx hb hr hlocks hM hF hS (Nat.zero_le _) (Nat.zero_le _) ⟨rfl, Or.inr (congrArg (fun z => mp_up M h0 (nC z)) (by simp [n_hear, eq_true c1, c3, c5]))⟩ dd_N_hearOf_38

set_option maxHeartbeats 4000000 in
set_option maxRecDepth 100000 in
theorem cc_N_init {l : Launch} {G : gC} {M : mC} {sz : Nat} {h0 hd : Nat} (m0 : M h0 = some (.inr (2, [.int 0, .null, .null, .int 0, .int 0, .long 0, .long 0, .int 0, .int 0, .int 0, .int 0, .int 0, .null, .int 0]))) {d : dR} (md : M hd = some (dC d)) (hnd : hd ≠ h0) {q : nR} (mp : ∀ y, d_op d = some y → M y = some (nC q)) (hne : ∀ y, d_op d = some y → y ≠ h0) {k0 k1 k4 : Int32} {k2 k3 : Int64} : cW l yy_N_init bb_N_init 9 none 1 0 0 G M sz [.ref h0, .int k0, .ref hd, .int k1, .long k2, .long k3, .int k4] (fun v u => v = none ∧ u = mp_up M h0 (nC (k0, hd, d_op d, d_slot d q, k1, k2, k3, k4, 0, -1, -1, -1, none, 0))) := by
  refine me_W (by decide) (Nat.le_of_ble_eq_true rfl) ?_
  intro p e s m below meth c ls hx hb hr hlocks hml hown hname ht hsz hM hK hZ hl
  have hown : s.vm.findClass RR_N = some m.cls := hown
  have hl : lv_has ls 9 [(0, .ref h0), (1, .int k0), (2, .ref hd), (3, .int k1), (4, .long k2), (6, .long k3), (8, .int k4)] := hl
  have hS : va_S (fr M sz) s.heap s.heap [] := va_S.rf
  have hF : ∀ q, M q ≠ none → fr M sz q := fr_M
  have hA : ∀ q, s.heap.size ≤ q → fr M sz q := fun q h => fr_A q (by rw [← hsz]; exact h)
  refine lv_aload_n hx hb dd_N_init_0 rfl (lv_at hl 0 rfl) ?_
  refine W.objInit hx hb hown (ht _ wd_2_31) (ht _ wd_1_22) (ht _ wd_1_23) rfl (by rw [hml]; exact hl.1) rfl dd_N_init_1 (Nat.le_of_ble_eq_true rfl) (Nat.le_of_ble_eq_true rfl) ?_
  refine W.eq (g2 := F0 m 4 ls []) rfl ?_
  refine lv_aload_n hx hb dd_N_init_4 rfl (lv_at hl 0 rfl) ?_
  refine lv_iconst (v := 0) hx hb dd_N_init_5 (by decide) ?_
  refine mg_put (v := .int 0) hx hb ht ii_N tt_N tt_N_ok nn_N hown hK hM hS (hF _ (by rw [m0]; exact Option.some_ne_none _)) m0 rfl 8 (by decide) wd_2_50 (fun _ h => h) (Or.inl rfl) rfl rfl rfl (Nat.le_of_ble_eq_true rfl) dd_N_init_6 (fun H locs hM hz hoq hS => ?_)
  have hsz := hz.trans hsz
  have hM : hm G (mp_up M h0 (.inr (2, [.int 0, .null, .null, .int 0, .int 0, .long 0, .long 0, .int 0, .int 0, .int 0, .int 0, .int 0, .null, .int 0]))) H := hM
  have hF : ∀ z9, (mp_up M h0 (.inr (2, [.int 0, .null, .null, .int 0, .int 0, .long 0, .long 0, .int 0, .int 0, .int 0, .int 0, .int 0, .null, .int 0]))) z9 ≠ none → fr M sz z9 := hF_put hF (hF _ (by rw [m0]; exact Option.some_ne_none _))
  have m0 : (mp_up M h0 (.inr (2, [.int 0, .null, .null, .int 0, .int 0, .long 0, .long 0, .int 0, .int 0, .int 0, .int 0, .int 0, .null, .int 0]))) h0 = some (.inr (2, [.int 0, .null, .null, .int 0, .int 0, .long 0, .long 0, .int 0, .int 0, .int 0, .int 0, .int 0, .null, .int 0])) := mp_self _ _ _
  refine lv_aload_n hx hb dd_N_init_9 rfl (lv_at hl 0 rfl) ?_
  refine lv_iconst (v := -1) hx hb dd_N_init_10 (by decide) ?_
  refine mg_put (v := .int (-1)) hx hb ht ii_N tt_N tt_N_ok nn_N hown hK hM hS (hF _ (by rw [m0]; exact Option.some_ne_none _)) m0 rfl 9 (by decide) wd_2_52 (fun _ h => h) (Or.inl rfl) rfl rfl rfl (Nat.le_of_ble_eq_true rfl) dd_N_init_11 (fun H locs hM hz hoq hS => ?_)
  have hsz := hz.trans hsz
  rw [mp_mp] at hM
  have hM : hm G (mp_up M h0 (.inr (2, [.int 0, .null, .null, .int 0, .int 0, .long 0, .long 0, .int 0, .int 0, .int (-1), .int 0, .int 0, .null, .int 0]))) H := hM
  have hF : ∀ z9, (mp_up M h0 (.inr (2, [.int 0, .null, .null, .int 0, .int 0, .long 0, .long 0, .int 0, .int 0, .int (-1), .int 0, .int 0, .null, .int 0]))) z9 ≠ none → fr M sz z9 := hF_same hF
  have m0 : (mp_up M h0 (.inr (2, [.int 0, .null, .null, .int 0, .int 0, .long 0, .long 0, .int 0, .int 0, .int (-1), .int 0, .int 0, .null, .int 0]))) h0 = some (.inr (2, [.int 0, .null, .null, .int 0, .int 0, .long 0, .long 0, .int 0, .int 0, .int (-1), .int 0, .int 0, .null, .int 0])) := mp_self _ _ _
  refine lv_aload_n hx hb dd_N_init_14 rfl (lv_at hl 0 rfl) ?_
  refine lv_iconst (v := -1) hx hb dd_N_init_15 (by decide) ?_
  refine mg_put (v := .int (-1)) hx hb ht ii_N tt_N tt_N_ok nn_N hown hK hM hS (hF _ (by rw [m0]; exact Option.some_ne_none _)) m0 rfl 10 (by decide) wd_2_54 (fun _ h => h) (Or.inl rfl) rfl rfl rfl (Nat.le_of_ble_eq_true rfl) dd_N_init_16 (fun H locs hM hz hoq hS => ?_)
  have hsz := hz.trans hsz
  rw [mp_mp] at hM
  have hM : hm G (mp_up M h0 (.inr (2, [.int 0, .null, .null, .int 0, .int 0, .long 0, .long 0, .int 0, .int 0, .int (-1), .int (-1), .int 0, .null, .int 0]))) H := hM
  have hF : ∀ z9, (mp_up M h0 (.inr (2, [.int 0, .null, .null, .int 0, .int 0, .long 0, .long 0, .int 0, .int 0, .int (-1), .int (-1), .int 0, .null, .int 0]))) z9 ≠ none → fr M sz z9 := hF_same hF
  have m0 : (mp_up M h0 (.inr (2, [.int 0, .null, .null, .int 0, .int 0, .long 0, .long 0, .int 0, .int 0, .int (-1), .int (-1), .int 0, .null, .int 0]))) h0 = some (.inr (2, [.int 0, .null, .null, .int 0, .int 0, .long 0, .long 0, .int 0, .int 0, .int (-1), .int (-1), .int 0, .null, .int 0])) := mp_self _ _ _
  refine lv_aload_n hx hb dd_N_init_19 rfl (lv_at hl 0 rfl) ?_
  refine lv_iconst (v := -1) hx hb dd_N_init_20 (by decide) ?_
  refine mg_put (v := .int (-1)) hx hb ht ii_N tt_N tt_N_ok nn_N hown hK hM hS (hF _ (by rw [m0]; exact Option.some_ne_none _)) m0 rfl 11 (by decide) wd_2_55 (fun _ h => h) (Or.inl rfl) rfl rfl rfl (Nat.le_of_ble_eq_true rfl) dd_N_init_21 (fun H locs hM hz hoq hS => ?_)
  have hsz := hz.trans hsz
  rw [mp_mp] at hM
  have hM : hm G (mp_up M h0 (.inr (2, [.int 0, .null, .null, .int 0, .int 0, .long 0, .long 0, .int 0, .int 0, .int (-1), .int (-1), .int (-1), .null, .int 0]))) H := hM
  have hF : ∀ z9, (mp_up M h0 (.inr (2, [.int 0, .null, .null, .int 0, .int 0, .long 0, .long 0, .int 0, .int 0, .int (-1), .int (-1), .int (-1), .null, .int 0]))) z9 ≠ none → fr M sz z9 := hF_same hF
  have m0 : (mp_up M h0 (.inr (2, [.int 0, .null, .null, .int 0, .int 0, .long 0, .long 0, .int 0, .int 0, .int (-1), .int (-1), .int (-1), .null, .int 0]))) h0 = some (.inr (2, [.int 0, .null, .null, .int 0, .int 0, .long 0, .long 0, .int 0, .int 0, .int (-1), .int (-1), .int (-1), .null, .int 0])) := mp_self _ _ _
  refine lv_aload_n hx hb dd_N_init_24 rfl (lv_at hl 0 rfl) ?_
  refine lv_null hx hb dd_N_init_25 ?_
  refine mg_put (v := .null) hx hb ht ii_N tt_N tt_N_ok nn_N hown hK hM hS (hF _ (by rw [m0]; exact Option.some_ne_none _)) m0 rfl 12 (by decide) wd_2_57 (fun _ h => h) (Or.inl rfl) rfl rfl rfl (Nat.le_of_ble_eq_true rfl) dd_N_init_26 (fun H locs hM hz hoq hS => ?_)
  have hsz := hz.trans hsz
  rw [mp_mp] at hM
  have hM : hm G (mp_up M h0 (.inr (2, [.int 0, .null, .null, .int 0, .int 0, .long 0, .long 0, .int 0, .int 0, .int (-1), .int (-1), .int (-1), .null, .int 0]))) H := hM
  have hF : ∀ z9, (mp_up M h0 (.inr (2, [.int 0, .null, .null, .int 0, .int 0, .long 0, .long 0, .int 0, .int 0, .int (-1), .int (-1), .int (-1), .null, .int 0]))) z9 ≠ none → fr M sz z9 := hF_same hF
  have m0 : (mp_up M h0 (.inr (2, [.int 0, .null, .null, .int 0, .int 0, .long 0, .long 0, .int 0, .int 0, .int (-1), .int (-1), .int (-1), .null, .int 0]))) h0 = some (.inr (2, [.int 0, .null, .null, .int 0, .int 0, .long 0, .long 0, .int 0, .int 0, .int (-1), .int (-1), .int (-1), .null, .int 0])) := mp_self _ _ _
  refine lv_aload_n hx hb dd_N_init_29 rfl (lv_at hl 0 rfl) ?_
  refine lv_iconst (v := 0) hx hb dd_N_init_30 (by decide) ?_
  refine mg_put (v := .int 0) hx hb ht ii_N tt_N tt_N_ok nn_N hown hK hM hS (hF _ (by rw [m0]; exact Option.some_ne_none _)) m0 rfl 13 (by decide) wd_2_59 (fun _ h => h) (Or.inl rfl) rfl rfl rfl (Nat.le_of_ble_eq_true rfl) dd_N_init_31 (fun H locs hM hz hoq hS => ?_)
  have hsz := hz.trans hsz
  rw [mp_mp] at hM
  have hM : hm G (mp_up M h0 (.inr (2, [.int 0, .null, .null, .int 0, .int 0, .long 0, .long 0, .int 0, .int 0, .int (-1), .int (-1), .int (-1), .null, .int 0]))) H := hM
  have hF : ∀ z9, (mp_up M h0 (.inr (2, [.int 0, .null, .null, .int 0, .int 0, .long 0, .long 0, .int 0, .int 0, .int (-1), .int (-1), .int (-1), .null, .int 0]))) z9 ≠ none → fr M sz z9 := hF_same hF
  have m0 : (mp_up M h0 (.inr (2, [.int 0, .null, .null, .int 0, .int 0, .long 0, .long 0, .int 0, .int 0, .int (-1), .int (-1), .int (-1), .null, .int 0]))) h0 = some (.inr (2, [.int 0, .null, .null, .int 0, .int 0, .long 0, .long 0, .int 0, .int 0, .int (-1), .int (-1), .int (-1), .null, .int 0])) := mp_self _ _ _
  refine lv_aload_n hx hb dd_N_init_34 rfl (lv_at hl 0 rfl) ?_
  refine lv_iload_n hx hb dd_N_init_35 rfl (lv_at hl 1 rfl) ?_
  refine mg_put (v := .int k0) hx hb ht ii_N tt_N tt_N_ok nn_N hown hK hM hS (hF _ (by rw [m0]; exact Option.some_ne_none _)) m0 rfl 0 (by decide) wd_2_32 (fun _ h => h) (Or.inr ⟨rfl, hname, rfl⟩) rfl rfl rfl (Nat.le_of_ble_eq_true rfl) dd_N_init_36 (fun H locs hM hz hoq hS => ?_)
  have hsz := hz.trans hsz
  rw [mp_mp] at hM
  have hM : hm G (mp_up M h0 (.inr (2, [.int k0, .null, .null, .int 0, .int 0, .long 0, .long 0, .int 0, .int 0, .int (-1), .int (-1), .int (-1), .null, .int 0]))) H := hM
  have hF : ∀ z9, (mp_up M h0 (.inr (2, [.int k0, .null, .null, .int 0, .int 0, .long 0, .long 0, .int 0, .int 0, .int (-1), .int (-1), .int (-1), .null, .int 0]))) z9 ≠ none → fr M sz z9 := hF_same hF
  have m0 : (mp_up M h0 (.inr (2, [.int k0, .null, .null, .int 0, .int 0, .long 0, .long 0, .int 0, .int 0, .int (-1), .int (-1), .int (-1), .null, .int 0]))) h0 = some (.inr (2, [.int k0, .null, .null, .int 0, .int 0, .long 0, .long 0, .int 0, .int 0, .int (-1), .int (-1), .int (-1), .null, .int 0])) := mp_self _ _ _
  refine lv_aload_n hx hb dd_N_init_39 rfl (lv_at hl 0 rfl) ?_
  refine lv_aload_n hx hb dd_N_init_40 rfl (lv_at hl 2 rfl) ?_
  refine mg_put (v := .ref hd) hx hb ht ii_N tt_N tt_N_ok nn_N hown hK hM hS (hF _ (by rw [m0]; exact Option.some_ne_none _)) m0 rfl 1 (by decide) wd_2_34 (fun _ h => h) (Or.inr ⟨rfl, hname, rfl⟩) rfl rfl rfl (Nat.le_of_ble_eq_true rfl) dd_N_init_41 (fun H locs hM hz hoq hS => ?_)
  have hsz := hz.trans hsz
  rw [mp_mp] at hM
  have hM : hm G (mp_up M h0 (.inr (2, [.int k0, .ref hd, .null, .int 0, .int 0, .long 0, .long 0, .int 0, .int 0, .int (-1), .int (-1), .int (-1), .null, .int 0]))) H := hM
  have hF : ∀ z9, (mp_up M h0 (.inr (2, [.int k0, .ref hd, .null, .int 0, .int 0, .long 0, .long 0, .int 0, .int 0, .int (-1), .int (-1), .int (-1), .null, .int 0]))) z9 ≠ none → fr M sz z9 := hF_same hF
  have m0 : (mp_up M h0 (.inr (2, [.int k0, .ref hd, .null, .int 0, .int 0, .long 0, .long 0, .int 0, .int 0, .int (-1), .int (-1), .int (-1), .null, .int 0]))) h0 = some (.inr (2, [.int k0, .ref hd, .null, .int 0, .int 0, .long 0, .long 0, .int 0, .int 0, .int (-1), .int (-1), .int (-1), .null, .int 0])) := mp_self _ _ _
  refine lv_aload_n hx hb dd_N_init_44 rfl (lv_at hl 0 rfl) ?_
  refine lv_aload_n hx hb dd_N_init_45 rfl (lv_at hl 2 rfl) ?_
  have md := mp_at (M := M) (a := h0) (e := (.inr (2, [.int k0, .ref hd, .null, .int 0, .int 0, .long 0, .long 0, .int 0, .int 0, .int (-1), .int (-1), .int (-1), .null, .int 0]))) hnd md
  refine mg_get hx hb ht ii_D hown hK hM md rfl 8 (by decide) wd_1_145 (fun _ h => h) rfl dd_N_init_46 ?_
  refine mg_put (v := va_rf (d_op d)) hx hb ht ii_N tt_N tt_N_ok nn_N hown hK hM hS (hF _ (by rw [m0]; exact Option.some_ne_none _)) m0 rfl 2 (by decide) wd_2_36 (fun _ h => h) (Or.inr ⟨rfl, hname, rfl⟩) rfl rf_nar rf_fit (Nat.le_of_ble_eq_true rfl) dd_N_init_49 (fun H locs hM hz hoq hS => ?_)
  have hsz := hz.trans hsz
  rw [mp_mp] at hM
  have hM : hm G (mp_up M h0 (.inr (2, [.int k0, .ref hd, va_rf (d_op d), .int 0, .int 0, .long 0, .long 0, .int 0, .int 0, .int (-1), .int (-1), .int (-1), .null, .int 0]))) H := hM
  have hF : ∀ z9, (mp_up M h0 (.inr (2, [.int k0, .ref hd, va_rf (d_op d), .int 0, .int 0, .long 0, .long 0, .int 0, .int 0, .int (-1), .int (-1), .int (-1), .null, .int 0]))) z9 ≠ none → fr M sz z9 := hF_same hF
  have m0 : (mp_up M h0 (.inr (2, [.int k0, .ref hd, va_rf (d_op d), .int 0, .int 0, .long 0, .long 0, .int 0, .int 0, .int (-1), .int (-1), .int (-1), .null, .int 0]))) h0 = some (.inr (2, [.int k0, .ref hd, va_rf (d_op d), .int 0, .int 0, .long 0, .long 0, .int 0, .int 0, .int (-1), .int (-1), .int (-1), .null, .int 0])) := mp_self _ _ _
  refine lv_aload_n hx hb dd_N_init_52 rfl (lv_at hl 0 rfl) ?_
  refine lv_aload_n hx hb dd_N_init_53 rfl (lv_at hl 2 rfl) ?_
  have md := mp_re (M := M) (a := h0) (e' := (.inr (2, [.int k0, .ref hd, va_rf (d_op d), .int 0, .int 0, .long 0, .long 0, .int 0, .int 0, .int (-1), .int (-1), .int (-1), .null, .int 0]))) hnd md
  refine mg_get hx hb ht ii_D hown hK hM md rfl 8 (by decide) wd_1_145 (fun _ h => h) rfl dd_N_init_54 ?_
  refine lr_ifnonnull (tgt := 64) hx hb dd_N_init_57 (by decide) (fun y1 ey1 => ?_) (fun ey1 => ?_)
  · have my1 := mp y1 ey1
    refine lv_aload_n hx hb dd_N_init_64 rfl (lv_at hl 2 rfl) ?_
    refine mg_get (v := .ref y1) hx hb ht ii_D hown hK hM md rfl 8 (by decide) wd_1_145 (fun _ h => h) (congrArg (fun z => some (va_rf z)) ey1) dd_N_init_65 ?_
    have my1 := mp_at (M := M) (a := h0) (e := (.inr (2, [.int k0, .ref hd, va_rf (d_op d), .int 0, .int 0, .long 0, .long 0, .int 0, .int 0, .int (-1), .int (-1), .int (-1), .null, .int 0]))) (hne _ ey1) my1
    refine mg_get hx hb ht ii_N hown hK hM my1 rfl 8 (by decide) wd_2_50 (fun _ h => h) rfl dd_N_init_68 ?_
    refine mg_put (v := .int (n_fl q)) hx hb ht ii_N tt_N tt_N_ok nn_N hown hK hM hS (hF _ (by rw [m0]; exact Option.some_ne_none _)) m0 rfl 3 (by decide) wd_2_39 (fun _ h => h) (Or.inr ⟨rfl, hname, rfl⟩) rfl rfl rfl (Nat.le_of_ble_eq_true rfl) dd_N_init_71 (fun H locs hM hz hoq hS => ?_)
    have hsz := hz.trans hsz
    rw [mp_mp] at hM
    have hM : hm G (mp_up M h0 (.inr (2, [.int k0, .ref hd, va_rf (d_op d), .int (n_fl q), .int 0, .long 0, .long 0, .int 0, .int 0, .int (-1), .int (-1), .int (-1), .null, .int 0]))) H := hM
    have hF : ∀ z9, (mp_up M h0 (.inr (2, [.int k0, .ref hd, va_rf (d_op d), .int (n_fl q), .int 0, .long 0, .long 0, .int 0, .int 0, .int (-1), .int (-1), .int (-1), .null, .int 0]))) z9 ≠ none → fr M sz z9 := hF_same hF
    have m0 : (mp_up M h0 (.inr (2, [.int k0, .ref hd, va_rf (d_op d), .int (n_fl q), .int 0, .long 0, .long 0, .int 0, .int 0, .int (-1), .int (-1), .int (-1), .null, .int 0]))) h0 = some (.inr (2, [.int k0, .ref hd, va_rf (d_op d), .int (n_fl q), .int 0, .long 0, .long 0, .int 0, .int 0, .int (-1), .int (-1), .int (-1), .null, .int 0])) := mp_self _ _ _
    refine lv_aload_n hx hb dd_N_init_74 rfl (lv_at hl 0 rfl) ?_
    refine lv_iload_n hx hb dd_N_init_75 rfl (lv_at hl 3 rfl) ?_
    refine mg_put (v := .int k1) hx hb ht ii_N tt_N tt_N_ok nn_N hown hK hM hS (hF _ (by rw [m0]; exact Option.some_ne_none _)) m0 rfl 4 (by decide) wd_2_41 (fun _ h => h) (Or.inr ⟨rfl, hname, rfl⟩) rfl rfl rfl (Nat.le_of_ble_eq_true rfl) dd_N_init_76 (fun H locs hM hz hoq hS => ?_)
    have hsz := hz.trans hsz
    rw [mp_mp] at hM
    have hM : hm G (mp_up M h0 (.inr (2, [.int k0, .ref hd, va_rf (d_op d), .int (n_fl q), .int k1, .long 0, .long 0, .int 0, .int 0, .int (-1), .int (-1), .int (-1), .null, .int 0]))) H := hM
    have hF : ∀ z9, (mp_up M h0 (.inr (2, [.int k0, .ref hd, va_rf (d_op d), .int (n_fl q), .int k1, .long 0, .long 0, .int 0, .int 0, .int (-1), .int (-1), .int (-1), .null, .int 0]))) z9 ≠ none → fr M sz z9 := hF_same hF
    have m0 : (mp_up M h0 (.inr (2, [.int k0, .ref hd, va_rf (d_op d), .int (n_fl q), .int k1, .long 0, .long 0, .int 0, .int 0, .int (-1), .int (-1), .int (-1), .null, .int 0]))) h0 = some (.inr (2, [.int k0, .ref hd, va_rf (d_op d), .int (n_fl q), .int k1, .long 0, .long 0, .int 0, .int 0, .int (-1), .int (-1), .int (-1), .null, .int 0])) := mp_self _ _ _
    refine lv_aload_n hx hb dd_N_init_79 rfl (lv_at hl 0 rfl) ?_
    refine lv_lload hx hb dd_N_init_80 (lv_at hl 4 rfl) ?_
    refine mg_put (v := .long k2) hx hb ht ii_N tt_N tt_N_ok nn_N hown hK hM hS (hF _ (by rw [m0]; exact Option.some_ne_none _)) m0 rfl 5 (by decide) wd_2_44 (fun _ h => h) (Or.inr ⟨rfl, hname, rfl⟩) rfl rfl rfl (Nat.le_of_ble_eq_true rfl) dd_N_init_82 (fun H locs hM hz hoq hS => ?_)
    have hsz := hz.trans hsz
    rw [mp_mp] at hM
    have hM : hm G (mp_up M h0 (.inr (2, [.int k0, .ref hd, va_rf (d_op d), .int (n_fl q), .int k1, .long k2, .long 0, .int 0, .int 0, .int (-1), .int (-1), .int (-1), .null, .int 0]))) H := hM
    have hF : ∀ z9, (mp_up M h0 (.inr (2, [.int k0, .ref hd, va_rf (d_op d), .int (n_fl q), .int k1, .long k2, .long 0, .int 0, .int 0, .int (-1), .int (-1), .int (-1), .null, .int 0]))) z9 ≠ none → fr M sz z9 := hF_same hF
    have m0 : (mp_up M h0 (.inr (2, [.int k0, .ref hd, va_rf (d_op d), .int (n_fl q), .int k1, .long k2, .long 0, .int 0, .int 0, .int (-1), .int (-1), .int (-1), .null, .int 0]))) h0 = some (.inr (2, [.int k0, .ref hd, va_rf (d_op d), .int (n_fl q), .int k1, .long k2, .long 0, .int 0, .int 0, .int (-1), .int (-1), .int (-1), .null, .int 0])) := mp_self _ _ _
    refine lv_aload_n hx hb dd_N_init_85 rfl (lv_at hl 0 rfl) ?_
    refine lv_lload hx hb dd_N_init_86 (lv_at hl 5 rfl) ?_
    refine mg_put (v := .long k3) hx hb ht ii_N tt_N tt_N_ok nn_N hown hK hM hS (hF _ (by rw [m0]; exact Option.some_ne_none _)) m0 rfl 6 (by decide) wd_2_46 (fun _ h => h) (Or.inr ⟨rfl, hname, rfl⟩) rfl rfl rfl (Nat.le_of_ble_eq_true rfl) dd_N_init_88 (fun H locs hM hz hoq hS => ?_)
    have hsz := hz.trans hsz
    rw [mp_mp] at hM
    have hM : hm G (mp_up M h0 (.inr (2, [.int k0, .ref hd, va_rf (d_op d), .int (n_fl q), .int k1, .long k2, .long k3, .int 0, .int 0, .int (-1), .int (-1), .int (-1), .null, .int 0]))) H := hM
    have hF : ∀ z9, (mp_up M h0 (.inr (2, [.int k0, .ref hd, va_rf (d_op d), .int (n_fl q), .int k1, .long k2, .long k3, .int 0, .int 0, .int (-1), .int (-1), .int (-1), .null, .int 0]))) z9 ≠ none → fr M sz z9 := hF_same hF
    have m0 : (mp_up M h0 (.inr (2, [.int k0, .ref hd, va_rf (d_op d), .int (n_fl q), .int k1, .long k2, .long k3, .int 0, .int 0, .int (-1), .int (-1), .int (-1), .null, .int 0]))) h0 = some (.inr (2, [.int k0, .ref hd, va_rf (d_op d), .int (n_fl q), .int k1, .long k2, .long k3, .int 0, .int 0, .int (-1), .int (-1), .int (-1), .null, .int 0])) := mp_self _ _ _
    refine lv_aload_n hx hb dd_N_init_91 rfl (lv_at hl 0 rfl) ?_
    refine lv_iload hx hb dd_N_init_92 (lv_at hl 6 rfl) ?_
    refine mg_put (v := .int k4) hx hb ht ii_N tt_N tt_N_ok nn_N hown hK hM hS (hF _ (by rw [m0]; exact Option.some_ne_none _)) m0 rfl 7 (by decide) wd_2_47 (fun _ h => h) (Or.inr ⟨rfl, hname, rfl⟩) rfl rfl rfl (Nat.le_of_ble_eq_true rfl) dd_N_init_94 (fun H locs hM hz hoq hS => ?_)
    have hsz := hz.trans hsz
    rw [mp_mp] at hM
    have hM : hm G (mp_up M h0 (.inr (2, [.int k0, .ref hd, va_rf (d_op d), .int (n_fl q), .int k1, .long k2, .long k3, .int k4, .int 0, .int (-1), .int (-1), .int (-1), .null, .int 0]))) H := hM
    have hF : ∀ z9, (mp_up M h0 (.inr (2, [.int k0, .ref hd, va_rf (d_op d), .int (n_fl q), .int k1, .long k2, .long k3, .int k4, .int 0, .int (-1), .int (-1), .int (-1), .null, .int 0]))) z9 ≠ none → fr M sz z9 := hF_same hF
    have m0 : (mp_up M h0 (.inr (2, [.int k0, .ref hd, va_rf (d_op d), .int (n_fl q), .int k1, .long k2, .long k3, .int k4, .int 0, .int (-1), .int (-1), .int (-1), .null, .int 0]))) h0 = some (.inr (2, [.int k0, .ref hd, va_rf (d_op d), .int (n_fl q), .int k1, .long k2, .long k3, .int k4, .int 0, .int (-1), .int (-1), .int (-1), .null, .int 0])) := mp_self _ _ _
    exact mw_v hx hb hr hlocks hM hF hS (Nat.zero_le _) (Nat.zero_le _) ⟨rfl, congrArg (a₁ := (n_fl q)) (a₂ := d_slot d q) (fun z : Int32 => mp_up M h0 (nC (k0, hd, d_op d, z, k1, k2, k3, k4, 0, -1, -1, -1, none, 0))) (by simp [d_slot, ey1])⟩ dd_N_init_97
  · refine lv_iconst (v := 0) hx hb dd_N_init_60 (by decide) ?_
    refine lv_goto (tgt := 71) hx hb dd_N_init_61 (by decide) ?_
    refine mg_put (v := .int 0) hx hb ht ii_N tt_N tt_N_ok nn_N hown hK hM hS (hF _ (by rw [m0]; exact Option.some_ne_none _)) m0 rfl 3 (by decide) wd_2_39 (fun _ h => h) (Or.inr ⟨rfl, hname, rfl⟩) rfl rfl rfl (Nat.le_of_ble_eq_true rfl) dd_N_init_71 (fun H locs hM hz hoq hS => ?_)
    have hsz := hz.trans hsz
    rw [mp_mp] at hM
    have hM : hm G (mp_up M h0 (.inr (2, [.int k0, .ref hd, va_rf (d_op d), .int 0, .int 0, .long 0, .long 0, .int 0, .int 0, .int (-1), .int (-1), .int (-1), .null, .int 0]))) H := hM
    have hF : ∀ z9, (mp_up M h0 (.inr (2, [.int k0, .ref hd, va_rf (d_op d), .int 0, .int 0, .long 0, .long 0, .int 0, .int 0, .int (-1), .int (-1), .int (-1), .null, .int 0]))) z9 ≠ none → fr M sz z9 := hF_same hF
    have m0 : (mp_up M h0 (.inr (2, [.int k0, .ref hd, va_rf (d_op d), .int 0, .int 0, .long 0, .long 0, .int 0, .int 0, .int (-1), .int (-1), .int (-1), .null, .int 0]))) h0 = some (.inr (2, [.int k0, .ref hd, va_rf (d_op d), .int 0, .int 0, .long 0, .long 0, .int 0, .int 0, .int (-1), .int (-1), .int (-1), .null, .int 0])) := mp_self _ _ _
    refine lv_aload_n hx hb dd_N_init_74 rfl (lv_at hl 0 rfl) ?_
    refine lv_iload_n hx hb dd_N_init_75 rfl (lv_at hl 3 rfl) ?_
    refine mg_put (v := .int k1) hx hb ht ii_N tt_N tt_N_ok nn_N hown hK hM hS (hF _ (by rw [m0]; exact Option.some_ne_none _)) m0 rfl 4 (by decide) wd_2_41 (fun _ h => h) (Or.inr ⟨rfl, hname, rfl⟩) rfl rfl rfl (Nat.le_of_ble_eq_true rfl) dd_N_init_76 (fun H locs hM hz hoq hS => ?_)
    have hsz := hz.trans hsz
    rw [mp_mp] at hM
    have hM : hm G (mp_up M h0 (.inr (2, [.int k0, .ref hd, va_rf (d_op d), .int 0, .int k1, .long 0, .long 0, .int 0, .int 0, .int (-1), .int (-1), .int (-1), .null, .int 0]))) H := hM
    have hF : ∀ z9, (mp_up M h0 (.inr (2, [.int k0, .ref hd, va_rf (d_op d), .int 0, .int k1, .long 0, .long 0, .int 0, .int 0, .int (-1), .int (-1), .int (-1), .null, .int 0]))) z9 ≠ none → fr M sz z9 := hF_same hF
    have m0 : (mp_up M h0 (.inr (2, [.int k0, .ref hd, va_rf (d_op d), .int 0, .int k1, .long 0, .long 0, .int 0, .int 0, .int (-1), .int (-1), .int (-1), .null, .int 0]))) h0 = some (.inr (2, [.int k0, .ref hd, va_rf (d_op d), .int 0, .int k1, .long 0, .long 0, .int 0, .int 0, .int (-1), .int (-1), .int (-1), .null, .int 0])) := mp_self _ _ _
    refine lv_aload_n hx hb dd_N_init_79 rfl (lv_at hl 0 rfl) ?_
    refine lv_lload hx hb dd_N_init_80 (lv_at hl 4 rfl) ?_
    refine mg_put (v := .long k2) hx hb ht ii_N tt_N tt_N_ok nn_N hown hK hM hS (hF _ (by rw [m0]; exact Option.some_ne_none _)) m0 rfl 5 (by decide) wd_2_44 (fun _ h => h) (Or.inr ⟨rfl, hname, rfl⟩) rfl rfl rfl (Nat.le_of_ble_eq_true rfl) dd_N_init_82 (fun H locs hM hz hoq hS => ?_)
    have hsz := hz.trans hsz
    rw [mp_mp] at hM
    have hM : hm G (mp_up M h0 (.inr (2, [.int k0, .ref hd, va_rf (d_op d), .int 0, .int k1, .long k2, .long 0, .int 0, .int 0, .int (-1), .int (-1), .int (-1), .null, .int 0]))) H := hM
    have hF : ∀ z9, (mp_up M h0 (.inr (2, [.int k0, .ref hd, va_rf (d_op d), .int 0, .int k1, .long k2, .long 0, .int 0, .int 0, .int (-1), .int (-1), .int (-1), .null, .int 0]))) z9 ≠ none → fr M sz z9 := hF_same hF
    have m0 : (mp_up M h0 (.inr (2, [.int k0, .ref hd, va_rf (d_op d), .int 0, .int k1, .long k2, .long 0, .int 0, .int 0, .int (-1), .int (-1), .int (-1), .null, .int 0]))) h0 = some (.inr (2, [.int k0, .ref hd, va_rf (d_op d), .int 0, .int k1, .long k2, .long 0, .int 0, .int 0, .int (-1), .int (-1), .int (-1), .null, .int 0])) := mp_self _ _ _
    refine lv_aload_n hx hb dd_N_init_85 rfl (lv_at hl 0 rfl) ?_
    refine lv_lload hx hb dd_N_init_86 (lv_at hl 5 rfl) ?_
    refine mg_put (v := .long k3) hx hb ht ii_N tt_N tt_N_ok nn_N hown hK hM hS (hF _ (by rw [m0]; exact Option.some_ne_none _)) m0 rfl 6 (by decide) wd_2_46 (fun _ h => h) (Or.inr ⟨rfl, hname, rfl⟩) rfl rfl rfl (Nat.le_of_ble_eq_true rfl) dd_N_init_88 (fun H locs hM hz hoq hS => ?_)
    have hsz := hz.trans hsz
    rw [mp_mp] at hM
    have hM : hm G (mp_up M h0 (.inr (2, [.int k0, .ref hd, va_rf (d_op d), .int 0, .int k1, .long k2, .long k3, .int 0, .int 0, .int (-1), .int (-1), .int (-1), .null, .int 0]))) H := hM
    have hF : ∀ z9, (mp_up M h0 (.inr (2, [.int k0, .ref hd, va_rf (d_op d), .int 0, .int k1, .long k2, .long k3, .int 0, .int 0, .int (-1), .int (-1), .int (-1), .null, .int 0]))) z9 ≠ none → fr M sz z9 := hF_same hF
    have m0 : (mp_up M h0 (.inr (2, [.int k0, .ref hd, va_rf (d_op d), .int 0, .int k1, .long k2, .long k3, .int 0, .int 0, .int (-1), .int (-1), .int (-1), .null, .int 0]))) h0 = some (.inr (2, [.int k0, .ref hd, va_rf (d_op d), .int 0, .int k1, .long k2, .long k3, .int 0, .int 0, .int (-1), .int (-1), .int (-1), .null, .int 0])) := mp_self _ _ _
    refine lv_aload_n hx hb dd_N_init_91 rfl (lv_at hl 0 rfl) ?_
    refine lv_iload hx hb dd_N_init_92 (lv_at hl 6 rfl) ?_
    refine mg_put (v := .int k4) hx hb ht ii_N tt_N tt_N_ok nn_N hown hK hM hS (hF _ (by rw [m0]; exact Option.some_ne_none _)) m0 rfl 7 (by decide) wd_2_47 (fun _ h => h) (Or.inr ⟨rfl, hname, rfl⟩) rfl rfl rfl (Nat.le_of_ble_eq_true rfl) dd_N_init_94 (fun H locs hM hz hoq hS => ?_)
    have hsz := hz.trans hsz
    rw [mp_mp] at hM
    have hM : hm G (mp_up M h0 (.inr (2, [.int k0, .ref hd, va_rf (d_op d), .int 0, .int k1, .long k2, .long k3, .int k4, .int 0, .int (-1), .int (-1), .int (-1), .null, .int 0]))) H := hM
    have hF : ∀ z9, (mp_up M h0 (.inr (2, [.int k0, .ref hd, va_rf (d_op d), .int 0, .int k1, .long k2, .long k3, .int k4, .int 0, .int (-1), .int (-1), .int (-1), .null, .int 0]))) z9 ≠ none → fr M sz z9 := hF_same hF
    have m0 : (mp_up M h0 (.inr (2, [.int k0, .ref hd, va_rf (d_op d), .int 0, .int k1, .long k2, .long k3, .int k4, .int 0, .int (-1), .int (-1), .int (-1), .null, .int 0]))) h0 = some (.inr (2, [.int k0, .ref hd, va_rf (d_op d), .int 0, .int k1, .long k2, .long k3, .int k4, .int 0, .int (-1), .int (-1), .int (-1), .null, .int 0])) := mp_self _ _ _
    exact mw_v hx hb hr hlocks hM hF hS (Nat.zero_le _) (Nat.zero_le _) ⟨rfl, congrArg (a₁ := 0) (a₂ := d_slot d q) (fun z : Int32 => mp_up M h0 (nC (k0, hd, d_op d, z, k1, k2, k3, k4, 0, -1, -1, -1, none, 0))) (by simp [d_slot, ey1])⟩ dd_N_init_97
end
section
/-! arrays that are written, cells that are made, statics, class objects: over maps -/
theorem hS_new {A : Nat → Prop} {H0 H H1 : Heap} {locs : List Loc} (hS : va_S A H0 H locs) (z : H1.size = H.size + 1) (o : ∀ q : Nat, q < H.size → H1[q]? = H[q]?) : va_S A H0 H1 locs := ⟨Nat.le_trans hS.1 (by omega), fun x h1 h2 => (o x (Nat.lt_of_lt_of_le h1 hS.1)).trans (hS.2.1 x h1 h2), hS.2.2⟩
section MARR
variable {p : Program} {l : Launch} {e : Env} {R : Room} {s : State} {m : MethodId} {args : Array Value} {below : List Frame} {meth : Method} {c : Code} {H : Heap} {locs : List Loc} {cells slots : Nat} {Q : State → Prop}
variable {cc : ByteArray} {pc : Nat} {ls : Array Slot} {rest : List Value} {G : gC} {M : mC} {a : Nat} {A : Nat → Prop} {H0 : Heap}
theorem mg_zald (hexec : p.tables.exec = Jvm.exec) (hb : c.code = cc) (hK : mK G s) (hM : hm G M H) {n : Nat} {f : Nat → Int32} (ha : M a = some (zA G n f)) {i : Int32} (hin : vp_in i n) (hdg : decode cc pc = .ok (.baload, 1))
    (kk : W p l e R s m args below meth c H locs cells slots Q (F0 m (pc + 1) ls (.int (f i.toNatClampNeg) :: rest))) : W p l e R s m args below meth c H locs cells slots Q (F0 m pc ls (.int i :: .ref a :: rest)) :=
  va_zald hexec hb hK.1 (hm_P hM ha) 0 3 rfl rfl hin hdg kk
theorem mg_iast (hexec : p.tables.exec = Jvm.exec) (hb : c.code = cc) (hK : mK G s) (hM : hm G M H) (hS : va_S A H0 H locs) (haA : A a) {n : Nat} {f : Nat → Int32} (ha : M a = some (iA G n f)) {i x : Int32} (hin : vp_in i n) (hdg : decode cc pc = .ok (.iastore, 1))
    (kk : ∀ (H1 : Heap) (locs1 : List Loc), hm G (mp_up M a (iA G n (upd f i.toNatClampNeg x))) H1 → H1.size = H.size → va_S A H0 H1 locs1 → W p l e R s m args below meth c H1 locs1 cells slots Q (F0 m (pc + 1) ls rest)) : W p l e R s m args below meth c H locs cells slots Q (F0 m pc ls (.int x :: .int i :: .ref a :: rest)) := by
  refine W.iast hexec hb (hM a _ ha) ((hK.1.2 0 _ rfl).1 n (fun j => .int (f j))) (fun q => by cases q) (by show ¬ (i < 0 ∨ (arrV _ _ _).slots.size ≤ _); rw [arrV_size]; exact hin) rfl rfl hdg fun H1 e z oq => ?_
  refine kk H1 _ (hm_put hM ?_ oq) z (hS.put z oq haA)
  show H1[a]? = some (vp_cell _ _)
  rw [e, vp_cell_i, vp_cell_i, arrV_store]
  congr 2
  funext q
  by_cases hq : q = i.toNatClampNeg
  · subst hq
    simp [updV, upd]
  · simp [updV, upd, hq]
theorem mg_zast (hexec : p.tables.exec = Jvm.exec) (hb : c.code = cc) (hK : mK G s) (hM : hm G M H) (hS : va_S A H0 H locs) (haA : A a) {n : Nat} {f : Nat → Int32} (ha : M a = some (zA G n f)) {i : Int32} {x : Bool} (hin : vp_in i n) (hdg : decode cc pc = .ok (.bastore, 1))
    (kk : ∀ (H1 : Heap) (locs1 : List Loc), hm G (mp_up M a (zA G n (upd f i.toNatClampNeg (bI x)))) H1 → H1.size = H.size → va_S A H0 H1 locs1 → W p l e R s m args below meth c H1 locs1 cells slots Q (F0 m (pc + 1) ls rest)) : W p l e R s m args below meth c H locs cells slots Q (F0 m pc ls (.int (bI x) :: .int i :: .ref a :: rest)) := by
  refine W.zast hexec hb (hM a _ ha) ((hK.1.2 3 _ rfl).1 n (fun j => .int (f j))) (fun q => by cases q) (by show ¬ (i < 0 ∨ (arrV _ _ _).slots.size ≤ _); rw [arrV_size]; exact hin) rfl rfl hdg fun H1 e z oq => ?_
  refine kk H1 _ (hm_put hM ?_ oq) z (hS.put z oq haA)
  show H1[a]? = some (vp_cell _ _)
  rw [e, bI_z, vp_cell_i, vp_cell_i, arrV_store]
  congr 2
  funext q
  by_cases hq : q = i.toNatClampNeg
  · subst hq
    simp [updV, upd]
  · simp [updV, upd, hq]
theorem mg_last (hexec : p.tables.exec = Jvm.exec) (hb : c.code = cc) (hK : mK G s) (hM : hm G M H) (hS : va_S A H0 H locs) (haA : A a) {n : Nat} {f : Nat → Int64} (ha : M a = some (lA G n f)) {i : Int32} {x : Int64} (hin : vp_in i n) (hdg : decode cc pc = .ok (.lastore, 1))
    (kk : ∀ (H1 : Heap) (locs1 : List Loc), hm G (mp_up M a (lA G n (vp_updL f i.toNatClampNeg x))) H1 → H1.size = H.size → va_S A H0 H1 locs1 → W p l e R s m args below meth c H1 locs1 cells slots Q (F0 m (pc + 1) ls rest)) : W p l e R s m args below meth c H locs cells slots Q (F0 m pc ls (.long x :: .int i :: .ref a :: rest)) := by
  refine W.last hexec hb (hM a _ ha) ((hK.1.2 1 _ rfl).1 n (fun j => .long (f j))) (fun q => by cases q) (by show ¬ (i < 0 ∨ (arrV _ _ _).slots.size ≤ _); rw [arrV_size]; exact hin) rfl rfl hdg fun H1 e z oq => ?_
  refine kk H1 _ (hm_put hM ?_ oq) z (hS.put z oq haA)
  show H1[a]? = some (vp_cell _ _)
  rw [e, vp_cell_l, vp_cell_l, arrV_store]
  congr 2
  funext q
  by_cases hq : q = i.toNatClampNeg
  · subst hq
    simp [updV, vp_updL]
  · simp [updV, vp_updL, hq]
theorem mg_aastN (hexec : p.tables.exec = Jvm.exec) (hb : c.code = cc) (hK : mK G s) (hM : hm G M H) (hS : va_S A H0 H locs) (haA : A a) {n : Nat} {f : Nat → Option Nat} (ha : M a = some (oA G n f)) {i : Int32} (hin : vp_in i n) (hdg : decode cc pc = .ok (.aastore, 1))
    (kk : ∀ (H1 : Heap) (locs1 : List Loc), hm G (mp_up M a (oA G n (va_up f i.toNatClampNeg none))) H1 → H1.size = H.size → va_S A H0 H1 locs1 → W p l e R s m args below meth c H1 locs1 cells slots Q (F0 m (pc + 1) ls rest)) : W p l e R s m args below meth c H locs cells slots Q (F0 m pc ls (.null :: .int i :: .ref a :: rest)) := by
  refine va_WaastN (C := "java/lang/Object") hexec hb (hM a _ ha) ((hK.1.2 2 _ rfl).1 n (fun j => va_rf (f j))) (fun h => by cases h) (by show ¬ (i < 0 ∨ (arrV _ _ _).slots.size ≤ _); rw [arrV_size]; exact hin) rfl rfl hdg fun H1 e z oq => ?_
  refine kk H1 _ (hm_put hM ?_ oq) z (hS.put z oq haA)
  show H1[a]? = some (vp_cell _ _)
  rw [e, vp_cell_q, vp_cell_q, arrV_store]
  congr 2
  funext q
  by_cases hq : q = i.toNatClampNeg
  · subst hq
    simp [updV, va_up, va_rf]
  · simp [updV, va_up, hq]
/-- an object that may lie in a row of Object -/
def ob_ok (M : mC) (v : Nat) : Prop := (∃ r : nR, M v = some (nC r)) ∨ ∃ r : dR, M v = some (dC r)
theorem ob_up {M : mC} {v a : Nat} {e : va_E} (h : ob_ok M v) (ha : M a = none) : ob_ok (mp_up M a e) v := h.elim (fun ⟨r, h⟩ => Or.inl ⟨r, mp_old h ha⟩) (fun ⟨r, h⟩ => Or.inr ⟨r, mp_old h ha⟩)
theorem ob_any (hK : mK G s) (hM : hm G M H) {v : Nat} (h : ob_ok M v) : va_Any "java/lang/Object" s H v := by
  rcases h with ⟨r, h⟩ | ⟨r, h⟩
  · exact va_rAny (ws := [(v, nC r)]) (q0 := 0) (ci := 2) hK.1 (hm_P hM h) rfl rfl (vb_asgC hK.2.2.2.2.2)
  · exact va_rAny (ws := [(v, dC r)]) (q0 := 0) (ci := 1) hK.1 (hm_P hM h) rfl rfl (vb_asgC hK.2.2.2.2.1)
theorem mg_aast (hexec : p.tables.exec = Jvm.exec) (hb : c.code = cc) (hK : mK G s) (hM : hm G M H) (hS : va_S A H0 H locs) (haA : A a) {n v : Nat} {f : Nat → Option Nat} (ha : M a = some (oA G n f)) (hv : ob_ok M v) {i : Int32} (hin : vp_in i n) (hdg : decode cc pc = .ok (.aastore, 1))
    (kk : ∀ (H1 : Heap) (locs1 : List Loc), hm G (mp_up M a (oA G n (va_up f i.toNatClampNeg (some v)))) H1 → H1.size = H.size → va_S A H0 H1 locs1 → W p l e R s m args below meth c H1 locs1 cells slots Q (F0 m (pc + 1) ls rest)) : W p l e R s m args below meth c H locs cells slots Q (F0 m pc ls (.ref v :: .int i :: .ref a :: rest)) := by
  have hlt : i.toNatClampNeg < n := Nat.not_le.mp fun q => hin (Or.inr q)
  have h0 : ¬ i < 0 := fun q => hin (Or.inl q)
  obtain ⟨cellV, g1, g3, ⟨kC, hkC⟩, hasg⟩ := ob_any hK hM hv
  obtain ⟨kA, comp, k1, k2, k3, -⟩ := (hK.1.2 2 _ rfl).2
  obtain ⟨kE, hkE, -⟩ := Vm.findClass_spec k3
  refine W.aast hexec hb (hM a _ ha) (fun q h => by cases h) (fun h => by cases h) k1 k2 rfl hkE ⟨h0, by show _ < (arrV _ _ _).slots.size; rw [arrV_size]; exact hlt⟩ g1 (fun q h => by rw [h] at g3; cases g3) hkC (hasg _ k3) rfl rfl hdg fun H1 e z oq => ?_
  refine kk H1 _ (hm_put hM ?_ oq) z (hS.put z oq haA)
  show H1[a]? = some (vp_cell _ _)
  rw [e, vp_cell_q, vp_cell_q, arrV_store]
  congr 2
  funext q
  by_cases hq : q = i.toNatClampNeg
  · subst hq
    simp [updV, va_up, va_rf]
  · simp [updV, va_up, hq]
/-- a new object -/
theorem mg_new (hexec : p.tables.exec = Jvm.exec) (hb : c.code = cc) {own C : String} {T : u_T} {N ci index : Nat} (ht : ∀ w ∈ tb, w.before args s = true) (hin : ∀ w ∈ u_ws C T N, w ∈ tb) (ty : Nat → FieldType) (hty : ∀ k, k < N → parseFieldDescriptor (T k).2.2.1 = some (ty k)) (hown : s.vm.findClass own = some m.cls) (hcl : Cond.classLink own index C ∈ tb) (hinst : Cond.instantiable C N ∈ tb) (hini : Cond.initialized C ∈ tb)
    (hK : mK G s) (hM : hm G M H) (hS : va_S A H0 H locs) (hc : classes[ci]? = some (C, T, N)) (fs : List Value) (hfs : ∀ j, j < N → defaultValue (ty j) = vp_V fs j) (hcells : cells + 1 ≤ R.cells) (hslots : slots + N ≤ R.slots) (hdg : decode cc pc = .ok (.new index, 3))
    (kk : ∀ (H1 : Heap), hm G (mp_up M H.size (.inr (ci, fs))) H1 → H1.size = H.size + 1 → va_S A H0 H1 locs → W p l e R s m args below meth c H1 locs (cells + 1) (slots + N) Q (F0 m (pc + 3) ls (.ref H.size :: rest))) : W p l e R s m args below meth c H locs cells slots Q (F0 m pc ls rest) := by
  have hKn := hK.1.1 ci _ hc
  refine W.newcK hexec hb hown (ht _ hcl) (ht _ hinst) (ht _ hini) rfl hdg hcells hslots hKn.2.1 rfl fun H1 kC hkC e1 z1 o1 => ?_
  exact kk H1 (hm_push hM ⟨_, hc, (u_born ty ht hin hKn hkC e1 hty).to hfs⟩ o1) z1 (hS_new hS z1 o1)
/-- new arrays -/
theorem mg_newi (hexec : p.tables.exec = Jvm.exec) (hb : c.code = cc) (ht : ∀ w ∈ tb, w.before args s = true) (hac : Cond.arrayClass .int ∈ tb) (hK : mK G s) (hM : hm G M H) (hS : va_S A H0 H locs) {n : Int32} {N : Nat} (hn : ¬ n < 0) (hN : n.toNatClampNeg = N) (hby : N * 4 ≤ 536870912) (hcells : cells + 1 ≤ R.cells) (hslots : slots + N ≤ R.slots) (hdg : decode cc pc = .ok (.newarray .int, 2))
    (kk : ∀ (H1 : Heap), hm G (mp_up M H.size (iA G N (fun _ => 0))) H1 → H1.size = H.size + 1 → va_S A H0 H1 locs → W p l e R s m args below meth c H1 locs (cells + 1) (slots + N) Q (F0 m (pc + 2) ls (.ref H.size :: rest))) : W p l e R s m args below meth c H locs cells slots Q (F0 m pc ls (.int n :: rest)) := by
  refine va_newaK (atype := .int) hexec hb (ht _ hac) rfl hdg rfl hn hN hby hcells hslots rfl fun H1 cA e1 z1 o1 hAr hNm => ?_
  have hc : cA = G.2.1.1 := Option.some.inj (hNm.symm.trans (hK.1.2 0 _ rfl).2)
  subst hc
  exact kk H1 (hm_push hM (show H1[H.size]? = some (vp_cell _ _) from e1) o1) z1 (hS_new hS z1 o1)
theorem mg_newl (hexec : p.tables.exec = Jvm.exec) (hb : c.code = cc) (ht : ∀ w ∈ tb, w.before args s = true) (hac : Cond.arrayClass .long ∈ tb) (hK : mK G s) (hM : hm G M H) (hS : va_S A H0 H locs) {n : Int32} {N : Nat} (hn : ¬ n < 0) (hN : n.toNatClampNeg = N) (hby : N * 8 ≤ 536870912) (hcells : cells + 1 ≤ R.cells) (hslots : slots + N ≤ R.slots) (hdg : decode cc pc = .ok (.newarray .long, 2))
    (kk : ∀ (H1 : Heap), hm G (mp_up M H.size (lA G N (fun _ => 0))) H1 → H1.size = H.size + 1 → va_S A H0 H1 locs → W p l e R s m args below meth c H1 locs (cells + 1) (slots + N) Q (F0 m (pc + 2) ls (.ref H.size :: rest))) : W p l e R s m args below meth c H locs cells slots Q (F0 m pc ls (.int n :: rest)) := by
  refine va_newaK (atype := .long) hexec hb (ht _ hac) rfl hdg rfl hn hN hby hcells hslots rfl fun H1 cA e1 z1 o1 hAr hNm => ?_
  have hc : cA = G.2.1.2.1 := Option.some.inj (hNm.symm.trans (hK.1.2 1 _ rfl).2)
  subst hc
  exact kk H1 (hm_push hM (show H1[H.size]? = some (vp_cell _ _) from e1) o1) z1 (hS_new hS z1 o1)
theorem mg_newz (hexec : p.tables.exec = Jvm.exec) (hb : c.code = cc) (ht : ∀ w ∈ tb, w.before args s = true) (hac : Cond.arrayClass .boolean ∈ tb) (hK : mK G s) (hM : hm G M H) (hS : va_S A H0 H locs) {n : Int32} {N : Nat} (hn : ¬ n < 0) (hN : n.toNatClampNeg = N) (hby : N * 1 ≤ 536870912) (hcells : cells + 1 ≤ R.cells) (hslots : slots + N ≤ R.slots) (hdg : decode cc pc = .ok (.newarray .boolean, 2))
    (kk : ∀ (H1 : Heap), hm G (mp_up M H.size (zA G N (fun _ => 0))) H1 → H1.size = H.size + 1 → va_S A H0 H1 locs → W p l e R s m args below meth c H1 locs (cells + 1) (slots + N) Q (F0 m (pc + 2) ls (.ref H.size :: rest))) : W p l e R s m args below meth c H locs cells slots Q (F0 m pc ls (.int n :: rest)) := by
  refine va_newaK (atype := .boolean) hexec hb (ht _ hac) rfl hdg rfl hn hN hby hcells hslots rfl fun H1 cA e1 z1 o1 hAr hNm => ?_
  have hc : cA = G.2.1.2.2.2 := Option.some.inj (hNm.symm.trans (hK.1.2 3 _ rfl).2)
  subst hc
  exact kk H1 (hm_push hM (show H1[H.size]? = some (vp_cell _ _) from e1) o1) z1 (hS_new hS z1 o1)
theorem mg_newo (hexec : p.tables.exec = Jvm.exec) (hb : c.code = cc) {own : String} {index : Nat} (hown : s.vm.findClass own = some m.cls) (ht : ∀ w ∈ tb, w.before args s = true) (hcl : Cond.classLink own index "java/lang/Object" ∈ tb) (hK : mK G s) (hM : hm G M H) (hS : va_S A H0 H locs) {n : Int32} {N : Nat} (hn : ¬ n < 0) (hN : n.toNatClampNeg = N) (hby : N * 4 ≤ 536870912) (hcells : cells + 1 ≤ R.cells) (hslots : slots + N ≤ R.slots) (hdg : decode cc pc = .ok (.anewarray index, 3))
    (kk : ∀ (H1 : Heap), hm G (mp_up M H.size (oA G N (fun _ => none))) H1 → H1.size = H.size + 1 → va_S A H0 H1 locs → W p l e R s m args below meth c H1 locs (cells + 1) (slots + N) Q (F0 m (pc + 3) ls (.ref H.size :: rest))) : W p l e R s m args below meth c H locs cells slots Q (F0 m pc ls (.int n :: rest)) := by
  subst hN
  refine W.anew hexec hb hown (ht _ hcl) (va_AO.use hK.2.1) rfl hdg rfl hn hby hcells hslots fun cA kA comp f1 f2 f3 f4 => ?_
  generalize hH1 : H.push ({ cls := cA, slots := Array.replicate n.toNatClampNeg .null, vm := .none } : Cell) = H1
  have z1 : H1.size = H.size + 1 := by rw [← hH1, Array.size_push]
  have e1 : H1[H.size]? = some (arrV cA n.toNatClampNeg (fun _ => .null)) := by rw [← hH1, Array.getElem?_push_size, ← arrV_new]
  have o1 : ∀ q : Nat, q < H.size → H1[q]? = H[q]? := fun q hq => by rw [← hH1, Array.getElem?_push, if_neg (Nat.ne_of_lt hq)]
  obtain ⟨-, -, -, -, -, h4⟩ := (hK.1.2 2 _ rfl).2
  have hc : cA = G.2.1.2.2.1 := Option.some.inj (f1.symm.trans h4)
  subst hc
  exact kk H1 (hm_push hM (show H1[H.size]? = some (vp_cell _ _) from e1) o1) z1 (hS_new hS z1 o1)
end MARR
section MCPY
variable {p : Program} {l : Launch} {e : Env} {R : Room} {s : State} {m : MethodId} {args : Array Value} {below : List Frame} {meth : Method} {c : Code} {H : Heap} {locs : List Loc} {cells slots : Nat} {Q : State → Prop}
variable {cc : ByteArray} {pc : Nat} {ls : Array Slot} {rest : List Value} {G : gC} {M : mC} {a a0 : Nat} {A : Nat → Prop} {H0 : Heap}
/-- System.arraycopy from one row of objects to another: the kit's row, and what it says of all other cells -/
theorem mg_copy (hexec : p.tables.exec = Jvm.exec) (hb : c.code = cc) (hml : c.maxLocals = ls.size) {own : String} {index : Nat} (hown : s.vm.findClass own = some m.cls) (ht : ∀ w ∈ tb, w.before args s = true) (hlink : Cond.methodLink own index arraycopyName ∈ tb) (hnat : Cond.native arraycopyName ∈ tb) (hstat : Cond.static arraycopyName ∈ tb) (hini : Cond.initialized "java/lang/System" ∈ tb)
    (hK : mK G s) (hM : hm G M H) (hS : va_S A H0 H locs) (haA : A a) {n0 n1 : Nat} {f g : Nat → Option Nat} (ha0 : M a0 = some (oA G n0 f)) (ha1 : M a = some (oA G n1 g)) (hne : a0 ≠ a)
    {sp dp n : Int32} (h1 : ¬ sp < 0) (h2 : ¬ dp < 0) (h3 : ¬ n < 0) (h4 : sp.toNatClampNeg + n.toNatClampNeg ≤ n0) (h5 : dp.toNatClampNeg + n.toNatClampNeg ≤ n1) (hel : ∀ i : Nat, i < n.toNatClampNeg → ∀ y : Nat, f (sp.toNatClampNeg + i) = some y → ob_ok M y)
    (hframes : 1 ≤ R.frames) (hlocals : (rest.map fun v => v.category).sum + (nativeFrameWords "java/lang/System" "arraycopy" 5 + 11) ≤ R.locals) (hdg : decode cc pc = .ok (.invokestatic index, 3))
    (kk : ∀ (H1 : Heap) (locs1 : List Loc), hm G (mp_up M a (oA G n1 (va_cpy f g sp.toNatClampNeg dp.toNatClampNeg n.toNatClampNeg))) H1 → H1.size = H.size → va_S A H0 H1 locs1 → W p l e R s m args below meth c H1 locs1 cells slots Q (F0 m (pc + 3) ls rest)) : W p l e R s m args below meth c H locs cells slots Q (F0 m pc ls (.int n :: .int dp :: .ref a :: .int sp :: .ref a0 :: rest)) := by
  have hP : va_P G.1 classes [(a0, oA G n0 f), (a, oA G n1 g)] H := (hm_P hM ha0).app (hm_P hM ha1)
  have nn : ∀ z : Int32, ¬ z < 0 → z.toInt = (z.toNatClampNeg : Int) := by
    intro z hz
    have hz0 : (0 : Int) ≤ z.toInt := by
      have := Int32.not_lt.mp hz
      simpa using Int32.le_iff_toInt_le.mp this
    show z.toInt = ((z.toInt.toNat : Nat) : Int)
    omega
  intro T hT X
  have hc0 : H[a0]? = some (vp_cell G.2.1.2.2.1 (n0, .inr (.inr (.inr (.inr f))))) := hM a0 _ ha0
  have hc1 : H[a]? = some (vp_cell G.2.1.2.2.1 (n1, .inr (.inr (.inr (.inr g))))) := hM a _ ha1
  obtain ⟨-, k0, hk0, cm0, hkk0⟩ := (hK.1.2 2 _ rfl).1 n0 (fun j => va_rf (f j))
  obtain ⟨-, k1, hk1, cm1, hkk1⟩ := (hK.1.2 2 _ rfl).1 n1 (fun j => va_rf (g j))
  obtain ⟨vm', X', step⟩ := X.arraycopy hexec hown (ht _ hlink) (ht _ hnat) (ht _ hstat) (ht _ hini) (src := a0) (dst := a) (cs := vp_cell G.2.1.2.2.1 (n0, .inr (.inr (.inr (.inr f))))) (cd := vp_cell G.2.1.2.2.1 (n1, .inr (.inr (.inr (.inr g))))) (srcPos := sp) (destPos := dp) (n := n) (by rw [hT]; exact hc0) (by rw [hT]; exact hc1)
    (fun _ h => by cases h) (fun _ h => by cases h) (fun h => by cases h) (fun h => by cases h) hk0 hk1 hkk0 hkk1 rfl h1 h2 h3
    (by rw [nn sp h1, nn n h3]; show ¬ _ > ((arrV G.2.1.2.2.1 n0 (fun j => va_rf (f j))).slots.size : Int); rw [arrV_size]; omega)
    (by rw [nn dp h2, nn n h3]; show ¬ _ > ((arrV G.2.1.2.2.1 n1 (fun j => va_rf (g j))).slots.size : Int); rw [arrV_size]; omega)
    (fun vm₁ hal i hi => by
      have e : (vp_cell G.2.1.2.2.1 (n0, .inr (.inr (.inr (.inr f))))).slots.getD (sp.toNatClampNeg + i) .null = va_rf (f (sp.toNatClampNeg + i)) := by
        show (arrV G.2.1.2.2.1 n0 (fun j => va_rf (f j))).slots.getD _ _ = _
        rw [Array.getD_eq_getD_getElem?, arrV_read _ _ (by omega)]
        rfl
      rw [e]
      cases hy : f (sp.toNatClampNeg + i) with
      | none => exact ⟨rfl, trivial⟩
      | some y =>
        obtain ⟨cellV, g1, g2, ⟨kC, hkC⟩, hasg⟩ := ob_any hK hM (hel i hi y hy)
        obtain ⟨kA, comp, r1, r2, r3, -⟩ := (hK.1.2 2 _ rfl).2
        cases hk1.symm.trans r1
        cases hkk1.symm.trans r2
        obtain ⟨kE, hkE, -⟩ := Vm.findClass_spec r3
        obtain ⟨kC', hkC', -⟩ := hal.2.2 _ _ hkC
        obtain ⟨kE', hkE', -⟩ := hal.2.2 _ _ hkE
        refine ⟨rfl, cellV, (show T.heap[y]? = some cellV by rw [hT]; exact g1), (fun q h => by rw [h] at g2; cases g2), ⟨kC', hkC'⟩, ?_, ?_⟩
        · exact ⟨kE', hkE'⟩
        · show vm₁.assignable _ _ = true
          rw [hal.assignable]
          exact hasg _ r3)
    (g := F0 m pc ls (.int n :: .int dp :: .ref a :: .int sp :: .ref a0 :: rest)) rfl (by rw [hml]) (rest := rest) rfl (by rw [hb]; exact hdg) hframes (by show 2 * 0 + _ + _ ≤ _; omega)
  have e1 : copied (vp_cell G.2.1.2.2.1 (n0, .inr (.inr (.inr (.inr f))))) (vp_cell G.2.1.2.2.1 (n1, .inr (.inr (.inr (.inr g))))) sp dp n = vp_cell G.2.1.2.2.1 (n1, .inr (.inr (.inr (.inr (va_cpy f g sp.toNatClampNeg dp.toNatClampNeg n.toNatClampNeg))))) := by
    rw [vp_cell_q, vp_cell_q, vp_cell_q]
    exact va_copied (fun z => va_rf z) G.2.1.2.2.1 G.2.1.2.2.1 f g h4
  rw [e1] at X' step
  have hl : a < H.size := (Array.getElem?_eq_some_iff.mp hc1).1
  have hheap : ((T.setVm vm').setCell a (vp_cell G.2.1.2.2.1 (n1, .inr (.inr (.inr (.inr (va_cpy f g sp.toNatClampNeg dp.toNatClampNeg n.toNatClampNeg))))))).heap = H.setIfInBounds a (vp_cell G.2.1.2.2.1 (n1, .inr (.inr (.inr (.inr (va_cpy f g sp.toNatClampNeg dp.toNatClampNeg n.toNatClampNeg)))))) := by rw [← hT]; rfl
  have oq : ∀ q : Nat, q ≠ a → (H.setIfInBounds a (vp_cell G.2.1.2.2.1 (n1, .inr (.inr (.inr (.inr (va_cpy f g sp.toNatClampNeg dp.toNatClampNeg n.toNatClampNeg)))))))[q]? = H[q]? := fun q hq => by simp [Array.getElem?_setIfInBounds, Ne.symm hq]
  obtain ⟨t, a1, b1⟩ := kk _ _ (hm_put hM (show (H.setIfInBounds a _)[a]? = some _ by simp [Array.getElem?_setIfInBounds, hl]) oq) (by simp) ⟨by simp; exact hS.1, fun q g1 g2 => by
      rw [oq q (fun e => g2 (by rw [e]; exact haA))]
      exact hS.2.1 q g1 g2, fun q hq => by
      rcases List.mem_append.mp hq with h | h
      · exact hS.2.2 q h
      · obtain ⟨z, -, hz⟩ := List.mem_map.mp h
        rw [← hz]
        exact haA⟩ _ hheap X'
  exact ⟨t, step t a1, b1⟩
/-- getClass() of a row of objects -/
theorem mg_getC (hexec : p.tables.exec = Jvm.exec) (hb : c.code = cc) (hml : c.maxLocals = ls.size) {own : String} {index : Nat} (hown : s.vm.findClass own = some m.cls) (ht : ∀ w ∈ tb, w.before args s = true) (hlink : Cond.methodLink own index ⟨"java/lang/Object", "getClass", "()Ljava/lang/Class;"⟩ ∈ tb)
    (hsel : Cond.selects "[Ljava/lang/Object;" ⟨"java/lang/Object", "getClass", "()Ljava/lang/Class;"⟩ ⟨"java/lang/Object", "getClass", "()Ljava/lang/Class;"⟩ ∈ tb) (hinst : Cond.instanceMethod ⟨"java/lang/Object", "getClass", "()Ljava/lang/Class;"⟩ ∈ tb) (hnat : Cond.native ⟨"java/lang/Object", "getClass", "()Ljava/lang/Class;"⟩ ∈ tb) (hK : mK G s) (hM : hm G M H) {n : Nat} {f : Nat → Option Nat} (ha : M a = some (oA G n f)) (hframes : 1 ≤ R.frames) (hlocals : (rest.map fun v => v.category).sum + 14 ≤ R.locals) (hdg : decode cc pc = .ok (.invokevirtual index, 3))
    (k : W p l e R s m args below meth c H locs cells slots Q (F0 m (pc + 3) ls (.ref G.2.2.2.2 :: rest))) : W p l e R s m args below meth c H locs cells slots Q (F0 m pc ls (.ref a :: rest)) :=
  va_getC hexec hb hml hown (ht _ hlink) (va_Dc.use hK.2.2.2.1) (ht _ hsel) (ht _ hinst) (ht _ hnat) hK.2.2.1 ⟨_, hM a _ ha, rfl, va_nmO (hK.1.2 2 _ rfl).2 (by decide)⟩ hframes hlocals hdg k
end MCPY
end
section
theorem dd_AC_init_0 : decode bb_AC_init 0 = .ok (.aload_n 0, 1) := by decide +kernel
theorem dd_AC_init_1 : decode bb_AC_init 1 = .ok (.invokespecial 1, 3) := by decide +kernel
theorem dd_AC_init_4 : decode bb_AC_init 4 = .ok (.return_, 1) := by decide +kernel
theorem dd_AL_init_0 : decode bb_AL_init 0 = .ok (.aload_n 0, 1) := by decide +kernel
theorem dd_AL_init_1 : decode bb_AL_init 1 = .ok (.invokespecial 1, 3) := by decide +kernel
theorem dd_AL_init_4 : decode bb_AL_init 4 = .ok (.aload_n 0, 1) := by decide +kernel
theorem dd_AL_init_5 : decode bb_AL_init 5 = .ok (.iconst 0, 1) := by decide +kernel
theorem dd_AL_init_6 : decode bb_AL_init 6 = .ok (.putfield 7, 3) := by decide +kernel
theorem dd_AL_init_9 : decode bb_AL_init 9 = .ok (.return_, 1) := by decide +kernel
theorem dd_A_init_0 : decode bb_A_init 0 = .ok (.aload_n 0, 1) := by decide +kernel
theorem dd_A_init_1 : decode bb_A_init 1 = .ok (.invokespecial 1, 3) := by decide +kernel
theorem dd_A_init_4 : decode bb_A_init 4 = .ok (.aload_n 0, 1) := by decide +kernel
theorem dd_A_init_5 : decode bb_A_init 5 = .ok (.getstatic 39, 3) := by decide +kernel
theorem dd_A_init_8 : decode bb_A_init 8 = .ok (.putfield 9, 3) := by decide +kernel
theorem dd_A_init_11 : decode bb_A_init 11 = .ok (.return_, 1) := by decide +kernel
theorem dd_A_add_0 : decode bb_A_add 0 = .ok (.aload_n 0, 1) := by decide +kernel
theorem dd_A_add_1 : decode bb_A_add 1 = .ok (.dup, 1) := by decide +kernel
theorem dd_A_add_2 : decode bb_A_add 2 = .ok (.getfield 63, 3) := by decide +kernel
theorem dd_A_add_5 : decode bb_A_add 5 = .ok (.iconst 1, 1) := by decide +kernel
theorem dd_A_add_6 : decode bb_A_add 6 = .ok (.iadd, 1) := by decide +kernel
theorem dd_A_add_7 : decode bb_A_add 7 = .ok (.putfield 63, 3) := by decide +kernel
theorem dd_A_add_10 : decode bb_A_add 10 = .ok (.aload_n 0, 1) := by decide +kernel
theorem dd_A_add_11 : decode bb_A_add 11 = .ok (.aload_n 1, 1) := by decide +kernel
theorem dd_A_add_12 : decode bb_A_add 12 = .ok (.aload_n 0, 1) := by decide +kernel
theorem dd_A_add_13 : decode bb_A_add 13 = .ok (.getfield 9, 3) := by decide +kernel
theorem dd_A_add_16 : decode bb_A_add 16 = .ok (.aload_n 0, 1) := by decide +kernel
theorem dd_A_add_17 : decode bb_A_add 17 = .ok (.getfield 48, 3) := by decide +kernel
theorem dd_A_add_20 : decode bb_A_add 20 = .ok (.invokevirtual 131, 3) := by decide +kernel
theorem dd_A_add_23 : decode bb_A_add 23 = .ok (.iconst 1, 1) := by decide +kernel
theorem dd_A_add_24 : decode bb_A_add 24 = .ok (.ireturn, 1) := by decide +kernel
theorem dd_A_add3_0 : decode bb_A_add3 0 = .ok (.iload_n 3, 1) := by decide +kernel
theorem dd_A_add3_1 : decode bb_A_add3 1 = .ok (.aload_n 2, 1) := by decide +kernel
theorem dd_A_add3_2 : decode bb_A_add3 2 = .ok (.arraylength, 1) := by decide +kernel
theorem dd_A_add3_3 : decode bb_A_add3 3 = .ok (.if_icmp .ne 8, 3) := by decide +kernel
theorem dd_A_add3_6 : decode bb_A_add3 6 = .ok (.aload_n 0, 1) := by decide +kernel
theorem dd_A_add3_7 : decode bb_A_add3 7 = .ok (.invokevirtual 129, 3) := by decide +kernel
theorem dd_A_add3_10 : decode bb_A_add3 10 = .ok (.astore_n 2, 1) := by decide +kernel
theorem dd_A_add3_11 : decode bb_A_add3 11 = .ok (.aload_n 2, 1) := by decide +kernel
theorem dd_A_add3_12 : decode bb_A_add3 12 = .ok (.iload_n 3, 1) := by decide +kernel
theorem dd_A_add3_13 : decode bb_A_add3 13 = .ok (.aload_n 1, 1) := by decide +kernel
theorem dd_A_add3_14 : decode bb_A_add3 14 = .ok (.aastore, 1) := by decide +kernel
theorem dd_A_add3_15 : decode bb_A_add3 15 = .ok (.aload_n 0, 1) := by decide +kernel
theorem dd_A_add3_16 : decode bb_A_add3 16 = .ok (.iload_n 3, 1) := by decide +kernel
theorem dd_A_add3_17 : decode bb_A_add3 17 = .ok (.iconst 1, 1) := by decide +kernel
theorem dd_A_add3_18 : decode bb_A_add3 18 = .ok (.iadd, 1) := by decide +kernel
theorem dd_A_add3_19 : decode bb_A_add3 19 = .ok (.putfield 48, 3) := by decide +kernel
theorem dd_A_add3_22 : decode bb_A_add3 22 = .ok (.return_, 1) := by decide +kernel
theorem dd_A_clear_0 : decode bb_A_clear 0 = .ok (.aload_n 0, 1) := by decide +kernel
theorem dd_A_clear_1 : decode bb_A_clear 1 = .ok (.dup, 1) := by decide +kernel
theorem dd_A_clear_2 : decode bb_A_clear 2 = .ok (.getfield 63, 3) := by decide +kernel
theorem dd_A_clear_5 : decode bb_A_clear 5 = .ok (.iconst 1, 1) := by decide +kernel
theorem dd_A_clear_6 : decode bb_A_clear 6 = .ok (.iadd, 1) := by decide +kernel
theorem dd_A_clear_7 : decode bb_A_clear 7 = .ok (.putfield 63, 3) := by decide +kernel
theorem dd_A_clear_10 : decode bb_A_clear 10 = .ok (.aload_n 0, 1) := by decide +kernel
theorem dd_A_clear_11 : decode bb_A_clear 11 = .ok (.getfield 9, 3) := by decide +kernel
theorem dd_A_clear_14 : decode bb_A_clear 14 = .ok (.astore_n 1, 1) := by decide +kernel
theorem dd_A_clear_15 : decode bb_A_clear 15 = .ok (.aload_n 0, 1) := by decide +kernel
theorem dd_A_clear_16 : decode bb_A_clear 16 = .ok (.getfield 48, 3) := by decide +kernel
theorem dd_A_clear_19 : decode bb_A_clear 19 = .ok (.istore_n 2, 1) := by decide +kernel
theorem dd_A_clear_20 : decode bb_A_clear 20 = .ok (.aload_n 0, 1) := by decide +kernel
theorem dd_A_clear_21 : decode bb_A_clear 21 = .ok (.iconst 0, 1) := by decide +kernel
theorem dd_A_clear_22 : decode bb_A_clear 22 = .ok (.dup_x1, 1) := by decide +kernel
theorem dd_A_clear_23 : decode bb_A_clear 23 = .ok (.putfield 48, 3) := by decide +kernel
theorem dd_A_clear_26 : decode bb_A_clear 26 = .ok (.istore_n 3, 1) := by decide +kernel
theorem dd_A_clear_27 : decode bb_A_clear 27 = .ok (.iload_n 3, 1) := by decide +kernel
theorem dd_A_clear_28 : decode bb_A_clear 28 = .ok (.iload_n 2, 1) := by decide +kernel
theorem dd_A_clear_29 : decode bb_A_clear 29 = .ok (.if_icmp .ge 13, 3) := by decide +kernel
theorem dd_A_clear_32 : decode bb_A_clear 32 = .ok (.aload_n 1, 1) := by decide +kernel
theorem dd_A_clear_33 : decode bb_A_clear 33 = .ok (.iload_n 3, 1) := by decide +kernel
theorem dd_A_clear_34 : decode bb_A_clear 34 = .ok (.aconst_null, 1) := by decide +kernel
theorem dd_A_clear_35 : decode bb_A_clear 35 = .ok (.aastore, 1) := by decide +kernel
theorem dd_A_clear_36 : decode bb_A_clear 36 = .ok (.iinc 3 1, 3) := by decide +kernel
theorem dd_A_clear_39 : decode bb_A_clear 39 = .ok (.goto (-12), 3) := by decide +kernel
theorem dd_A_clear_42 : decode bb_A_clear 42 = .ok (.return_, 1) := by decide +kernel
theorem dd_A_elementData_0 : decode bb_A_elementData 0 = .ok (.aload_n 0, 1) := by decide +kernel
theorem dd_A_elementData_1 : decode bb_A_elementData 1 = .ok (.getfield 9, 3) := by decide +kernel
theorem dd_A_elementData_4 : decode bb_A_elementData 4 = .ok (.iload_n 1, 1) := by decide +kernel
theorem dd_A_elementData_5 : decode bb_A_elementData 5 = .ok (.aaload, 1) := by decide +kernel
theorem dd_A_elementData_6 : decode bb_A_elementData 6 = .ok (.areturn, 1) := by decide +kernel
theorem dd_A_get_0 : decode bb_A_get 0 = .ok (.iload_n 1, 1) := by decide +kernel
theorem dd_A_get_1 : decode bb_A_get 1 = .ok (.aload_n 0, 1) := by decide +kernel
theorem dd_A_get_2 : decode bb_A_get 2 = .ok (.getfield 48, 3) := by decide +kernel
theorem dd_A_get_5 : decode bb_A_get 5 = .ok (.invokestatic 118, 3) := by decide +kernel
theorem dd_A_get_8 : decode bb_A_get 8 = .ok (.pop, 1) := by decide +kernel
theorem dd_A_get_9 : decode bb_A_get 9 = .ok (.aload_n 0, 1) := by decide +kernel
theorem dd_A_get_10 : decode bb_A_get 10 = .ok (.iload_n 1, 1) := by decide +kernel
theorem dd_A_get_11 : decode bb_A_get 11 = .ok (.invokevirtual 123, 3) := by decide +kernel
theorem dd_A_get_14 : decode bb_A_get 14 = .ok (.areturn, 1) := by decide +kernel
theorem dd_A_grow_0 : decode bb_A_grow 0 = .ok (.aload_n 0, 1) := by decide +kernel
theorem dd_A_grow_1 : decode bb_A_grow 1 = .ok (.aload_n 0, 1) := by decide +kernel
theorem dd_A_grow_2 : decode bb_A_grow 2 = .ok (.getfield 48, 3) := by decide +kernel
theorem dd_A_grow_5 : decode bb_A_grow 5 = .ok (.iconst 1, 1) := by decide +kernel
theorem dd_A_grow_6 : decode bb_A_grow 6 = .ok (.iadd, 1) := by decide +kernel
theorem dd_A_grow_7 : decode bb_A_grow 7 = .ok (.invokevirtual 69, 3) := by decide +kernel
theorem dd_A_grow_10 : decode bb_A_grow 10 = .ok (.areturn, 1) := by decide +kernel
theorem dd_A_grow1_0 : decode bb_A_grow1 0 = .ok (.aload_n 0, 1) := by decide +kernel
theorem dd_A_grow1_1 : decode bb_A_grow1 1 = .ok (.getfield 9, 3) := by decide +kernel
theorem dd_A_grow1_4 : decode bb_A_grow1 4 = .ok (.arraylength, 1) := by decide +kernel
theorem dd_A_grow1_5 : decode bb_A_grow1 5 = .ok (.istore_n 2, 1) := by decide +kernel
theorem dd_A_grow1_6 : decode bb_A_grow1 6 = .ok (.iload_n 2, 1) := by decide +kernel
theorem dd_A_grow1_7 : decode bb_A_grow1 7 = .ok (.ifCond .gt 13, 3) := by decide +kernel
theorem dd_A_grow1_10 : decode bb_A_grow1 10 = .ok (.aload_n 0, 1) := by decide +kernel
theorem dd_A_grow1_11 : decode bb_A_grow1 11 = .ok (.getfield 9, 3) := by decide +kernel
theorem dd_A_grow1_14 : decode bb_A_grow1 14 = .ok (.getstatic 39, 3) := by decide +kernel
theorem dd_A_grow1_17 : decode bb_A_grow1 17 = .ok (.if_acmp .eq 28, 3) := by decide +kernel
theorem dd_A_grow1_20 : decode bb_A_grow1 20 = .ok (.iload_n 2, 1) := by decide +kernel
theorem dd_A_grow1_21 : decode bb_A_grow1 21 = .ok (.iload_n 1, 1) := by decide +kernel
theorem dd_A_grow1_22 : decode bb_A_grow1 22 = .ok (.iload_n 2, 1) := by decide +kernel
theorem dd_A_grow1_23 : decode bb_A_grow1 23 = .ok (.isub, 1) := by decide +kernel
theorem dd_A_grow1_24 : decode bb_A_grow1 24 = .ok (.iload_n 2, 1) := by decide +kernel
theorem dd_A_grow1_25 : decode bb_A_grow1 25 = .ok (.iconst 1, 1) := by decide +kernel
theorem dd_A_grow1_26 : decode bb_A_grow1 26 = .ok (.ishr, 1) := by decide +kernel
theorem dd_A_grow1_27 : decode bb_A_grow1 27 = .ok (.invokestatic 73, 3) := by decide +kernel
theorem dd_A_grow1_30 : decode bb_A_grow1 30 = .ok (.istore_n 3, 1) := by decide +kernel
theorem dd_A_grow1_31 : decode bb_A_grow1 31 = .ok (.aload_n 0, 1) := by decide +kernel
theorem dd_A_grow1_32 : decode bb_A_grow1 32 = .ok (.aload_n 0, 1) := by decide +kernel
theorem dd_A_grow1_33 : decode bb_A_grow1 33 = .ok (.getfield 9, 3) := by decide +kernel
theorem dd_A_grow1_36 : decode bb_A_grow1 36 = .ok (.iload_n 3, 1) := by decide +kernel
theorem dd_A_grow1_37 : decode bb_A_grow1 37 = .ok (.invokestatic 66, 3) := by decide +kernel
theorem dd_A_grow1_40 : decode bb_A_grow1 40 = .ok (.dup_x1, 1) := by decide +kernel
theorem dd_A_grow1_41 : decode bb_A_grow1 41 = .ok (.putfield 9, 3) := by decide +kernel
theorem dd_A_grow1_44 : decode bb_A_grow1 44 = .ok (.areturn, 1) := by decide +kernel
theorem dd_A_grow1_45 : decode bb_A_grow1 45 = .ok (.aload_n 0, 1) := by decide +kernel
theorem dd_A_grow1_46 : decode bb_A_grow1 46 = .ok (.bipush 10, 2) := by decide +kernel
theorem dd_A_grow1_48 : decode bb_A_grow1 48 = .ok (.iload_n 1, 1) := by decide +kernel
theorem dd_A_grow1_49 : decode bb_A_grow1 49 = .ok (.invokestatic 79, 3) := by decide +kernel
theorem dd_A_grow1_52 : decode bb_A_grow1 52 = .ok (.anewarray 7, 3) := by decide +kernel
theorem dd_A_grow1_55 : decode bb_A_grow1 55 = .ok (.dup_x1, 1) := by decide +kernel
theorem dd_A_grow1_56 : decode bb_A_grow1 56 = .ok (.putfield 9, 3) := by decide +kernel
theorem dd_A_grow1_59 : decode bb_A_grow1 59 = .ok (.areturn, 1) := by decide +kernel
theorem dd_A_size_0 : decode bb_A_size 0 = .ok (.aload_n 0, 1) := by decide +kernel
theorem dd_A_size_1 : decode bb_A_size 1 = .ok (.getfield 48, 3) := by decide +kernel
theorem dd_A_size_4 : decode bb_A_size 4 = .ok (.ireturn, 1) := by decide +kernel
theorem dd_AR_copyOf_0 : decode bb_AR_copyOf 0 = .ok (.aload_n 0, 1) := by decide +kernel
theorem dd_AR_copyOf_1 : decode bb_AR_copyOf 1 = .ok (.iload_n 1, 1) := by decide +kernel
theorem dd_AR_copyOf_2 : decode bb_AR_copyOf 2 = .ok (.aload_n 0, 1) := by decide +kernel
theorem dd_AR_copyOf_3 : decode bb_AR_copyOf 3 = .ok (.invokevirtual 86, 3) := by decide +kernel
theorem dd_AR_copyOf_6 : decode bb_AR_copyOf 6 = .ok (.invokestatic 300, 3) := by decide +kernel
theorem dd_AR_copyOf_9 : decode bb_AR_copyOf 9 = .ok (.areturn, 1) := by decide +kernel
theorem dd_AR_copyOf3_0 : decode bb_AR_copyOf3 0 = .ok (.aload_n 2, 1) := by decide +kernel
theorem dd_AR_copyOf3_1 : decode bb_AR_copyOf3 1 = .ok (.ldc 110, 2) := by decide +kernel
theorem dd_AR_copyOf3_3 : decode bb_AR_copyOf3 3 = .ok (.if_acmp .ne 10, 3) := by decide +kernel
theorem dd_AR_copyOf3_6 : decode bb_AR_copyOf3 6 = .ok (.iload_n 1, 1) := by decide +kernel
theorem dd_AR_copyOf3_7 : decode bb_AR_copyOf3 7 = .ok (.anewarray 2, 3) := by decide +kernel
theorem dd_AR_copyOf3_10 : decode bb_AR_copyOf3 10 = .ok (.goto 14, 3) := by decide +kernel
theorem dd_AR_copyOf3_13 : decode bb_AR_copyOf3 13 = .ok (.aload_n 2, 1) := by decide +kernel
theorem dd_AR_copyOf3_14 : decode bb_AR_copyOf3 14 = .ok (.invokevirtual 90, 3) := by decide +kernel
theorem dd_AR_copyOf3_17 : decode bb_AR_copyOf3 17 = .ok (.iload_n 1, 1) := by decide +kernel
theorem dd_AR_copyOf3_18 : decode bb_AR_copyOf3 18 = .ok (.invokestatic 95, 3) := by decide +kernel
theorem dd_AR_copyOf3_21 : decode bb_AR_copyOf3 21 = .ok (.checkcast 110, 3) := by decide +kernel
theorem dd_AR_copyOf3_24 : decode bb_AR_copyOf3 24 = .ok (.astore_n 3, 1) := by decide +kernel
theorem dd_AR_copyOf3_25 : decode bb_AR_copyOf3 25 = .ok (.aload_n 0, 1) := by decide +kernel
theorem dd_AR_copyOf3_26 : decode bb_AR_copyOf3 26 = .ok (.iconst 0, 1) := by decide +kernel
theorem dd_AR_copyOf3_27 : decode bb_AR_copyOf3 27 = .ok (.aload_n 3, 1) := by decide +kernel
theorem dd_AR_copyOf3_28 : decode bb_AR_copyOf3 28 = .ok (.iconst 0, 1) := by decide +kernel
theorem dd_AR_copyOf3_29 : decode bb_AR_copyOf3 29 = .ok (.aload_n 0, 1) := by decide +kernel
theorem dd_AR_copyOf3_30 : decode bb_AR_copyOf3 30 = .ok (.arraylength, 1) := by decide +kernel
theorem dd_AR_copyOf3_31 : decode bb_AR_copyOf3 31 = .ok (.iload_n 1, 1) := by decide +kernel
theorem dd_AR_copyOf3_32 : decode bb_AR_copyOf3 32 = .ok (.invokestatic 304, 3) := by decide +kernel
theorem dd_AR_copyOf3_35 : decode bb_AR_copyOf3 35 = .ok (.invokestatic 150, 3) := by decide +kernel
theorem dd_AR_copyOf3_38 : decode bb_AR_copyOf3 38 = .ok (.aload_n 3, 1) := by decide +kernel
theorem dd_AR_copyOf3_39 : decode bb_AR_copyOf3 39 = .ok (.areturn, 1) := by decide +kernel
theorem dd_OB_checkIndex_0 : decode bb_OB_checkIndex 0 = .ok (.iload_n 0, 1) := by decide +kernel
theorem dd_OB_checkIndex_1 : decode bb_OB_checkIndex 1 = .ok (.iload_n 1, 1) := by decide +kernel
theorem dd_OB_checkIndex_2 : decode bb_OB_checkIndex 2 = .ok (.aconst_null, 1) := by decide +kernel
theorem dd_OB_checkIndex_3 : decode bb_OB_checkIndex 3 = .ok (.invokestatic 105, 3) := by decide +kernel
theorem dd_OB_checkIndex_6 : decode bb_OB_checkIndex 6 = .ok (.ireturn, 1) := by decide +kernel
theorem dd_AS_newLength_0 : decode bb_AS_newLength 0 = .ok (.iload_n 0, 1) := by decide +kernel
theorem dd_AS_newLength_1 : decode bb_AS_newLength 1 = .ok (.iload_n 1, 1) := by decide +kernel
theorem dd_AS_newLength_2 : decode bb_AS_newLength 2 = .ok (.iload_n 2, 1) := by decide +kernel
theorem dd_AS_newLength_3 : decode bb_AS_newLength 3 = .ok (.invokestatic 194, 3) := by decide +kernel
theorem dd_AS_newLength_6 : decode bb_AS_newLength 6 = .ok (.iadd, 1) := by decide +kernel
theorem dd_AS_newLength_7 : decode bb_AS_newLength 7 = .ok (.istore_n 3, 1) := by decide +kernel
theorem dd_AS_newLength_8 : decode bb_AS_newLength 8 = .ok (.iconst 0, 1) := by decide +kernel
theorem dd_AS_newLength_9 : decode bb_AS_newLength 9 = .ok (.iload_n 3, 1) := by decide +kernel
theorem dd_AS_newLength_10 : decode bb_AS_newLength 10 = .ok (.if_icmp .ge 11, 3) := by decide +kernel
theorem dd_AS_newLength_13 : decode bb_AS_newLength 13 = .ok (.iload_n 3, 1) := by decide +kernel
theorem dd_AS_newLength_14 : decode bb_AS_newLength 14 = .ok (.ldc 200, 2) := by decide +kernel
theorem dd_AS_newLength_16 : decode bb_AS_newLength 16 = .ok (.if_icmp .gt 5, 3) := by decide +kernel
theorem dd_AS_newLength_19 : decode bb_AS_newLength 19 = .ok (.iload_n 3, 1) := by decide +kernel
theorem dd_AS_newLength_20 : decode bb_AS_newLength 20 = .ok (.ireturn, 1) := by decide +kernel
theorem dd_AS_newLength_21 : decode bb_AS_newLength 21 = .ok (.iload_n 0, 1) := by decide +kernel
theorem dd_AS_newLength_22 : decode bb_AS_newLength 22 = .ok (.iload_n 1, 1) := by decide +kernel
theorem dd_AS_newLength_23 : decode bb_AS_newLength 23 = .ok (.invokestatic 201, 3) := by decide +kernel
theorem dd_AS_newLength_26 : decode bb_AS_newLength 26 = .ok (.ireturn, 1) := by decide +kernel
theorem dd_PC_checkIndex_0 : decode bb_PC_checkIndex 0 = .ok (.iload_n 0, 1) := by decide +kernel
theorem dd_PC_checkIndex_1 : decode bb_PC_checkIndex 1 = .ok (.ifCond .lt 8, 3) := by decide +kernel
theorem dd_PC_checkIndex_4 : decode bb_PC_checkIndex 4 = .ok (.iload_n 0, 1) := by decide +kernel
theorem dd_PC_checkIndex_5 : decode bb_PC_checkIndex 5 = .ok (.iload_n 1, 1) := by decide +kernel
theorem dd_PC_checkIndex_6 : decode bb_PC_checkIndex 6 = .ok (.if_icmp .lt 10, 3) := by decide +kernel
theorem dd_PC_checkIndex_9 : decode bb_PC_checkIndex 9 = .ok (.aload_n 2, 1) := by decide +kernel
theorem dd_PC_checkIndex_10 : decode bb_PC_checkIndex 10 = .ok (.iload_n 0, 1) := by decide +kernel
theorem dd_PC_checkIndex_11 : decode bb_PC_checkIndex 11 = .ok (.iload_n 1, 1) := by decide +kernel
theorem dd_PC_checkIndex_12 : decode bb_PC_checkIndex 12 = .ok (.invokestatic 95, 3) := by decide +kernel
theorem dd_PC_checkIndex_16 : decode bb_PC_checkIndex 16 = .ok (.iload_n 0, 1) := by decide +kernel
theorem dd_PC_checkIndex_17 : decode bb_PC_checkIndex 17 = .ok (.ireturn, 1) := by decide +kernel
end
section
set_option maxHeartbeats 4000000 in
set_option maxRecDepth 100000 in
theorem cc_A_size {l : Launch} {G : gC} {M : mC} {h0 : Nat} {r : aR} (m0 : M h0 = some (aC r)) : cR l yy_A_size bb_A_size 1 (some .int) 0 G M [.ref h0] (.int (a_sz r)) := by
  refine me_R (by decide) (Nat.le_of_ble_eq_true rfl) ?_
  intro p e s m below meth c ls hx hb hr hlocks hml hown ht hM hK hl
  have hown : s.vm.findClass RR_A = some m.cls := hown
  have hl : lv_has ls 1 [(0, .ref h0)] := hl
  refine lv_aload_n hx hb dd_A_size_0 rfl (lv_at hl 0 rfl) ?_
  refine mg_get hx hb ht ii_A hown hK hM m0 rfl 2 (by decide) wd_1_39 (fun _ h => h) rfl dd_A_size_1 ?_
  exact mr_i hx hb hr hlocks rfl rfl dd_A_size_4

set_option maxHeartbeats 4000000 in
set_option maxRecDepth 100000 in
theorem cc_A_elementData {l : Launch} {G : gC} {M : mC} {h0 : Nat} {r : aR} (m0 : M h0 = some (aC r)) {n : Nat} {f : Nat → Option Nat} (me : M (a_ed r) = some (oA G n f)) {i : Int32} (hi : vp_in i n) : cR l yy_A_elementData bb_A_elementData 2 (some (.object "java/lang/Object")) 0 G M [.ref h0, .int i] (va_rf (f i.toNatClampNeg)) := by
  refine me_R (by decide) (Nat.le_of_ble_eq_true rfl) ?_
  intro p e s m below meth c ls hx hb hr hlocks hml hown ht hM hK hl
  have hown : s.vm.findClass RR_A = some m.cls := hown
  have hl : lv_has ls 2 [(0, .ref h0), (1, .int i)] := hl
  refine lv_aload_n hx hb dd_A_elementData_0 rfl (lv_at hl 0 rfl) ?_
  refine mg_get hx hb ht ii_A hown hK hM m0 rfl 1 (by decide) wd_1_38 (fun _ h => h) rfl dd_A_elementData_1 ?_
  refine lv_iload_n hx hb dd_A_elementData_4 rfl (lv_at hl 1 rfl) ?_
  refine mg_aald hx hb hK hM me hi dd_A_elementData_5 ?_
  exact mr_a hx hb hr hlocks rfl dd_A_elementData_6

set_option maxHeartbeats 4000000 in
set_option maxRecDepth 100000 in
theorem cc_PC_checkIndex {l : Launch} {G : gC} {M : mC} {i n : Int32} (g0 : ¬ i < 0) (g1 : i < n) : cR l yy_PC_checkIndex bb_PC_checkIndex 3 (some .int) 0 G M [.int i, .int n, .null] (.int i) := by
  refine me_R (by decide) (Nat.le_of_ble_eq_true rfl) ?_
  intro p e s m below meth c ls hx hb hr hlocks hml hown ht hM hK hl
  have hown : s.vm.findClass RR_PC = some m.cls := hown
  have hl : lv_has ls 3 [(0, .int i), (1, .int n), (2, .null)] := hl
  refine lv_iload_n hx hb dd_PC_checkIndex_0 rfl (lv_at hl 0 rfl) ?_
  refine lv_if_lt (tgt := 9) hx hb dd_PC_checkIndex_1 (by decide) (fun z => absurd z g0) (fun _ => ?_)
  refine lv_iload_n hx hb dd_PC_checkIndex_4 rfl (lv_at hl 0 rfl) ?_
  refine lv_iload_n hx hb dd_PC_checkIndex_5 rfl (lv_at hl 1 rfl) ?_
  refine lv_icmp_lt (tgt := 16) hx hb dd_PC_checkIndex_6 (by decide) (fun _ => ?_) (fun z => absurd g1 z)
  refine lv_iload_n hx hb dd_PC_checkIndex_16 rfl (lv_at hl 0 rfl) ?_
  exact mr_i hx hb hr hlocks rfl rfl dd_PC_checkIndex_17

set_option maxHeartbeats 4000000 in
set_option maxRecDepth 100000 in
theorem cc_OB_checkIndex {l : Launch} {G : gC} {M : mC} {i n : Int32} (g0 : ¬ i < 0) (g1 : i < n) : cR l yy_OB_checkIndex bb_OB_checkIndex 2 (some .int) 1 G M [.int i, .int n] (.int i) := by
  refine me_R (by decide) (Nat.le_of_ble_eq_true rfl) ?_
  intro p e s m below meth c ls hx hb hr hlocks hml hown ht hM hK hl
  have hown : s.vm.findClass RR_OB = some m.cls := hown
  have hl : lv_has ls 2 [(0, .int i), (1, .int n)] := hl
  refine lv_iload_n hx hb dd_OB_checkIndex_0 rfl (lv_at hl 0 rfl) ?_
  refine lv_iload_n hx hb dd_OB_checkIndex_1 rfl (lv_at hl 1 rfl) ?_
  refine lv_null hx hb dd_OB_checkIndex_2 ?_
  refine mc_S (As := [.int i, .int n, .null]) (rest := []) 3 (cc_PC_checkIndex g0 g1) hx hb hml hown ht hM hK hl.1 lk_OB_105 (by decide +kernel) (by decide) rfl rfl (Nat.le_of_ble_eq_true rfl) dd_OB_checkIndex_3 ⟨Nat.zero_le _, Nat.zero_le _⟩ ?_
  exact mr_i hx hb hr hlocks rfl rfl dd_OB_checkIndex_6

set_option maxHeartbeats 4000000 in
set_option maxRecDepth 100000 in
theorem cc_A_get {l : Launch} {G : gC} {M : mC} {h0 : Nat} {r : aR} (m0 : M h0 = some (aC r)) {n : Nat} {f : Nat → Option Nat} (me : M (a_ed r) = some (oA G n f)) {i : Int32} (hin : vp_in i n) (g0 : ¬ i < 0) (g1 : i < a_sz r) : cR l yy_A_get bb_A_get 2 (some (.object "java/lang/Object")) 2 G M [.ref h0, .int i] (va_rf (f i.toNatClampNeg)) := by
  refine me_R (by decide) (Nat.le_of_ble_eq_true rfl) ?_
  intro p e s m below meth c ls hx hb hr hlocks hml hown ht hM hK hl
  have hown : s.vm.findClass RR_A = some m.cls := hown
  have hl : lv_has ls 2 [(0, .ref h0), (1, .int i)] := hl
  refine lv_iload_n hx hb dd_A_get_0 rfl (lv_at hl 1 rfl) ?_
  refine lv_aload_n hx hb dd_A_get_1 rfl (lv_at hl 0 rfl) ?_
  refine mg_get hx hb ht ii_A hown hK hM m0 rfl 2 (by decide) wd_1_39 (fun _ h => h) rfl dd_A_get_2 ?_
  refine mc_S (As := [.int i, .int (a_sz r)]) (rest := []) 2 (cc_OB_checkIndex g0 g1) hx hb hml hown ht hM hK hl.1 lk_A_118 (by decide +kernel) (by decide) rfl rfl (Nat.le_of_ble_eq_true rfl) dd_A_get_5 ⟨Nat.zero_le _, Nat.zero_le _⟩ ?_
  refine lv_pop hx hb dd_A_get_8 rfl ?_
  refine lv_aload_n hx hb dd_A_get_9 rfl (lv_at hl 0 rfl) ?_
  refine lv_iload_n hx hb dd_A_get_10 rfl (lv_at hl 1 rfl) ?_
  refine mc_V (As := [.int i]) (rest := []) 1 (cc_A_elementData m0 me hin) hx hb hml hown ht hM hK hl.1 lk_A_123 (by decide +kernel) (by decide) m0 rfl rfl rfl (Nat.le_of_ble_eq_true rfl) dd_A_get_11 ⟨Nat.zero_le _, Nat.zero_le _⟩ ?_
  exact mr_a hx hb hr hlocks rfl dd_A_get_14

set_option maxHeartbeats 4000000 in
set_option maxRecDepth 100000 in
theorem cc_AC_init {l : Launch} {G : gC} {M : mC} {sz : Nat} {h0 : Nat} : cW l yy_AC_init bb_AC_init 1 none 1 0 0 G M sz [.ref h0] (fun v u => v = none ∧ u = M) := by
  refine me_W (by decide) (Nat.le_of_ble_eq_true rfl) ?_
  intro p e s m below meth c ls hx hb hr hlocks hml hown hname ht hsz hM hK hZ hl
  have hown : s.vm.findClass RR_AC = some m.cls := hown
  have hl : lv_has ls 1 [(0, .ref h0)] := hl
  have hS : va_S (fr M sz) s.heap s.heap [] := va_S.rf
  have hF : ∀ q, M q ≠ none → fr M sz q := fr_M
  have hA : ∀ q, s.heap.size ≤ q → fr M sz q := fun q h => fr_A q (by rw [← hsz]; exact h)
  refine lv_aload_n hx hb dd_AC_init_0 rfl (lv_at hl 0 rfl) ?_
  refine W.objInit hx hb hown (ht _ wd_1_35) (ht _ wd_1_22) (ht _ wd_1_23) rfl (by rw [hml]; exact hl.1) rfl dd_AC_init_1 (Nat.le_of_ble_eq_true rfl) (Nat.le_of_ble_eq_true rfl) ?_
  refine W.eq (g2 := F0 m 4 ls []) rfl ?_
  exact mw_v hx hb hr hlocks hM hF hS (Nat.zero_le _) (Nat.zero_le _) ⟨rfl, rfl⟩ dd_AC_init_4

set_option maxHeartbeats 4000000 in
set_option maxRecDepth 100000 in
theorem cc_AL_init {l : Launch} {G : gC} {M : mC} {sz : Nat} {h0 : Nat} (m0 : M h0 = some (.inr (3, [.int 0, .null, .int 0]))) : cW l yy_AL_init bb_AL_init 1 none 2 0 0 G M sz [.ref h0] (fun v u => v = none ∧ u = mp_up M h0 (.inr (3, [.int 0, .null, .int 0]))) := by
  refine me_W (by decide) (Nat.le_of_ble_eq_true rfl) ?_
  intro p e s m below meth c ls hx hb hr hlocks hml hown hname ht hsz hM hK hZ hl
  have hown : s.vm.findClass RR_AL = some m.cls := hown
  have hl : lv_has ls 1 [(0, .ref h0)] := hl
  have hS : va_S (fr M sz) s.heap s.heap [] := va_S.rf
  have hF : ∀ q, M q ≠ none → fr M sz q := fr_M
  have hA : ∀ q, s.heap.size ≤ q → fr M sz q := fun q h => fr_A q (by rw [← hsz]; exact h)
  refine lv_aload_n hx hb dd_AL_init_0 rfl (lv_at hl 0 rfl) ?_
  have hFr := hF_fr hF hS hA
  refine mx_I (As := []) (rest := []) 0 cc_AC_init hx hb hml hown ht hM hK hZ hS hFr hl.1 wd_1_34 wd_1_2 wd_1_32 wd_1_33 rfl (by decide +kernel) (by decide) rfl rfl (Nat.le_of_ble_eq_true rfl) dd_AL_init_1 ⟨Nat.zero_le _, Nat.zero_le _⟩ (fun v u H locs hp hM hd hle hk hS => ?_)
  obtain ⟨rfl, hu⟩ := hp
  rw [hu] at hM hd
  clear hu
  have hF := fun z9 h => hFr z9 (hd z9 h)
  obtain ⟨z1, hsz⟩ : ∃ z9, H.size = z9 := ⟨_, rfl⟩
  have hM : hm G M H := hM
  refine lv_aload_n hx hb dd_AL_init_4 rfl (lv_at hl 0 rfl) ?_
  refine lv_iconst (v := 0) hx hb dd_AL_init_5 (by decide) ?_
  refine mg_put (v := .int 0) hx hb ht ii_A tt_A tt_A_ok nn_A hown hK hM hS (hF _ (by rw [m0]; exact Option.some_ne_none _)) m0 rfl 0 (by decide) wd_1_40 (fun _ h => h) (Or.inl rfl) rfl rfl rfl (Nat.le_of_ble_eq_true rfl) dd_AL_init_6 (fun H locs hM hz hoq hS => ?_)
  have hsz := hz.trans hsz
  have hM : hm G (mp_up M h0 (.inr (3, [.int 0, .null, .int 0]))) H := hM
  have hF : ∀ z9, (mp_up M h0 (.inr (3, [.int 0, .null, .int 0]))) z9 ≠ none → fr M sz z9 := hF_put hF (hF _ (by rw [m0]; exact Option.some_ne_none _))
  have m0 : (mp_up M h0 (.inr (3, [.int 0, .null, .int 0]))) h0 = some (.inr (3, [.int 0, .null, .int 0])) := mp_self _ _ _
  exact mw_v hx hb hr hlocks hM hF hS (Nat.zero_le _) (Nat.zero_le _) ⟨rfl, rfl⟩ dd_AL_init_9

set_option maxHeartbeats 4000000 in
set_option maxRecDepth 100000 in
theorem cc_A_init {l : Launch} {G : gC} {M : mC} {sz : Nat} {h0 : Nat} (m0 : M h0 = some (.inr (3, [.int 0, .null, .int 0]))) : cW l yy_A_init bb_A_init 1 none 3 0 0 G M sz [.ref h0] (fun v u => v = none ∧ u = mp_up M h0 (aC (0, G.2.2.2.1, 0))) := by
  refine me_W (by decide) (Nat.le_of_ble_eq_true rfl) ?_
  intro p e s m below meth c ls hx hb hr hlocks hml hown hname ht hsz hM hK hZ hl
  have hown : s.vm.findClass RR_A = some m.cls := hown
  have hl : lv_has ls 1 [(0, .ref h0)] := hl
  have hS : va_S (fr M sz) s.heap s.heap [] := va_S.rf
  have hF : ∀ q, M q ≠ none → fr M sz q := fr_M
  have hA : ∀ q, s.heap.size ≤ q → fr M sz q := fun q h => fr_A q (by rw [← hsz]; exact h)
  refine lv_aload_n hx hb dd_A_init_0 rfl (lv_at hl 0 rfl) ?_
  have hFr := hF_fr hF hS hA
  refine mx_I (As := []) (rest := []) 0 (cc_AL_init m0) hx hb hml hown ht hM hK hZ hS hFr hl.1 wd_1_31 wd_1_3 wd_1_29 wd_1_30 rfl (by decide +kernel) (by decide) rfl rfl (Nat.le_of_ble_eq_true rfl) dd_A_init_1 ⟨Nat.zero_le _, Nat.zero_le _⟩ (fun v u H locs hp hM hd hle hk hS => ?_)
  obtain ⟨rfl, hu⟩ := hp
  rw [hu] at hM hd
  clear hu
  have hF := fun z9 h => hFr z9 (hd z9 h)
  obtain ⟨z1, hsz⟩ : ∃ z9, H.size = z9 := ⟨_, rfl⟩
  have m0 : (mp_up M h0 (.inr (3, [.int 0, .null, .int 0]))) h0 = some (.inr (3, [.int 0, .null, .int 0])) := mp_self _ _ _
  have hM : hm G (mp_up M h0 (.inr (3, [.int 0, .null, .int 0]))) H := hM
  refine lv_aload_n hx hb dd_A_init_4 rfl (lv_at hl 0 rfl) ?_
  refine va_gets hx hb hZ.2.2.1 hS hown (ht _ wd_1_36) (fun _ h => h) dd_A_init_5 ?_
  refine mg_put (v := .ref G.2.2.2.1) hx hb ht ii_A tt_A tt_A_ok nn_A hown hK hM hS (hF _ (by rw [m0]; exact Option.some_ne_none _)) m0 rfl 1 (by decide) wd_1_38 (fun _ h => h) (Or.inl rfl) rfl rfl rfl (Nat.le_of_ble_eq_true rfl) dd_A_init_8 (fun H locs hM hz hoq hS => ?_)
  have hsz := hz.trans hsz
  rw [mp_mp] at hM
  have hM : hm G (mp_up M h0 (.inr (3, [.int 0, .ref G.2.2.2.1, .int 0]))) H := hM
  have hF : ∀ z9, (mp_up M h0 (.inr (3, [.int 0, .ref G.2.2.2.1, .int 0]))) z9 ≠ none → fr M sz z9 := hF_same hF
  have m0 : (mp_up M h0 (.inr (3, [.int 0, .ref G.2.2.2.1, .int 0]))) h0 = some (.inr (3, [.int 0, .ref G.2.2.2.1, .int 0])) := mp_self _ _ _
  exact mw_v hx hb hr hlocks hM hF hS (Nat.zero_le _) (Nat.zero_le _) ⟨rfl, rfl⟩ dd_A_init_11

set_option maxHeartbeats 4000000 in
set_option maxRecDepth 100000 in
theorem cc_AS_newLength {l : Launch} {G : gC} {M : mC} {a b k : Int32} (g1 : ¬ a + (if b < k then k else b) ≤ 0) (g2 : ¬ 2147483639 < a + (if b < k then k else b)) : cR l yy_AS_newLength bb_AS_newLength 4 (some .int) 1 G M [.int a, .int b, .int k] (.int (a + (if b < k then k else b))) := by
  refine me_R (by decide) (Nat.le_of_ble_eq_true rfl) ?_
  intro p e s m below meth c ls hx hb hr hlocks hml hown ht hM hK hl
  have hown : s.vm.findClass RR_AS = some m.cls := hown
  have hl : lv_has ls 4 [(0, .int a), (1, .int b), (2, .int k)] := hl
  refine lv_iload_n hx hb dd_AS_newLength_0 rfl (lv_at hl 0 rfl) ?_
  refine lv_iload_n hx hb dd_AS_newLength_1 rfl (lv_at hl 1 rfl) ?_
  refine lv_iload_n hx hb dd_AS_newLength_2 rfl (lv_at hl 2 rfl) ?_
  refine va_mmax (rest := [.int a]) hx hb (hml.trans hl.1.symm) hown (ht _ wd_1_186) (ht _ wd_1_187) (ht _ wd_1_11) (ht _ wd_1_188) (Nat.le_of_ble_eq_true rfl) (Nat.le_of_ble_eq_true rfl) (Nat.zero_le _) (Nat.zero_le _) dd_AS_newLength_3 ?_
  refine lv_iadd hx hb dd_AS_newLength_6 ?_
  refine lv_istore_n (lv' := [(3, .int (a + (if b < k then k else b))), (0, .int a), (1, .int b), (2, .int k)]) hx hb dd_AS_newLength_7 rfl hl (by decide) rfl (fun ls hl => ?_)
  refine lv_iconst (v := 0) hx hb dd_AS_newLength_8 (by decide) ?_
  refine lv_iload_n hx hb dd_AS_newLength_9 rfl (lv_at hl 0 rfl) ?_
  refine lv_icmp_ge (tgt := 21) hx hb dd_AS_newLength_10 (by decide) (fun z => absurd z g1) (fun _ => ?_)
  refine lv_iload_n hx hb dd_AS_newLength_13 rfl (lv_at hl 0 rfl) ?_
  refine lv_ldc (v := 2147483639) hx hb hown (ht _ wd_1_189) dd_AS_newLength_14 ?_
  refine lv_icmp_gt (tgt := 21) hx hb dd_AS_newLength_16 (by decide) (fun z => absurd z g2) (fun _ => ?_)
  refine lv_iload_n hx hb dd_AS_newLength_19 rfl (lv_at hl 0 rfl) ?_
  exact mr_i hx hb hr hlocks rfl rfl dd_AS_newLength_20

set_option maxHeartbeats 4000000 in
set_option maxRecDepth 100000 in
theorem cc_AR_copyOf3 {l : Launch} {G : gC} {M : mC} {sz : Nat} {a0 n0 N : Nat} {f : Nat → Option Nat} (m0 : M a0 = some (oA G n0 f)) (hN : n0 ≤ N) (hN2 : N ≤ 1000) (hel : ∀ i, i < n0 → ∀ y, f i = some y → ob_ok M y) : cW l yy_AR_copyOf3 bb_AR_copyOf3 4 (some (.array (.object "java/lang/Object"))) 1 1 2000 G M sz [.ref a0, .int (nI N), .ref G.2.2.2.2] (fun v u => v = some (.ref sz) ∧ u = mp_up M sz (oA G N (va_cpy f (fun _ => none) 0 0 n0))) := by
  refine me_W (by decide) (Nat.le_of_ble_eq_true rfl) ?_
  intro p e s m below meth c ls hx hb hr hlocks hml hown hname ht hsz hM hK hZ hl
  have hown : s.vm.findClass RR_AR = some m.cls := hown
  have hl : lv_has ls 4 [(0, .ref a0), (1, .int (nI N)), (2, .ref G.2.2.2.2)] := hl
  have hS : va_S (fr M sz) s.heap s.heap [] := va_S.rf
  have hF : ∀ q, M q ≠ none → fr M sz q := fr_M
  have hA : ∀ q, s.heap.size ≤ q → fr M sz q := fun q h => fr_A q (by rw [← hsz]; exact h)
  have ma := m0
  refine lv_aload_n hx hb dd_AR_copyOf3_0 rfl (lv_at hl 2 rfl) ?_
  refine va_ldcM hx hb hown (ht _ wd_1_208) hK.2.2.1 dd_AR_copyOf3_1 ?_
  refine lv_acmp_ne (rx := some G.2.2.2.2) (ry := some G.2.2.2.2) (tgt := 13) hx hb dd_AR_copyOf3_3 (by decide) (fun z => absurd rfl z) (fun _ => ?_)
  refine lv_iload_n hx hb dd_AR_copyOf3_6 rfl (lv_at hl 1 rfl) ?_
  have hn1 : M sz = none := hm_new hM (by rw [hsz]; exact Nat.le_refl _)
  refine mg_newo (n := nI N) (N := N) hx hb hown ht wd_1_210 hK hM hS (nI_pos (by omega)) (nI_clamp (by omega)) (by omega) (by show 0 + 1 ≤ 1; omega) (by show 0 + N ≤ 2000; omega) dd_AR_copyOf3_7 (fun H hM hz hS => ?_)
  rw [hsz] at hM hz ⊢
  have hsz := hz
  have hM : hm G (mp_up M sz (oA G N (fun _ => none))) H := hM
  have hF : ∀ z9, (mp_up M sz (oA G N (fun _ => none))) z9 ≠ none → fr M sz z9 := hF_put hF (hA _ (by have := hS.1; omega))
  have mn : (mp_up M sz (oA G N (fun _ => none))) sz = some (oA G N (fun _ => none)) := mp_self _ _ _
  refine lv_goto (tgt := 24) hx hb dd_AR_copyOf3_10 (by decide) ?_
  refine lv_astore_n (lv' := [(3, .ref sz), (0, .ref a0), (1, .int (nI N)), (2, .ref G.2.2.2.2)]) hx hb dd_AR_copyOf3_24 rfl hl (by decide) rfl (fun ls hl => ?_)
  refine lv_aload_n hx hb dd_AR_copyOf3_25 rfl (lv_at hl 1 rfl) ?_
  refine lv_iconst (v := 0) hx hb dd_AR_copyOf3_26 (by decide) ?_
  refine lv_aload_n hx hb dd_AR_copyOf3_27 rfl (lv_at hl 0 rfl) ?_
  refine lv_iconst (v := 0) hx hb dd_AR_copyOf3_28 (by decide) ?_
  refine lv_aload_n hx hb dd_AR_copyOf3_29 rfl (lv_at hl 1 rfl) ?_
  have m0 := mp_old (M := M) (a := sz) (e := (oA G N (fun _ => none))) m0 hn1
  refine mg_alen (v := nI n0) hx hb hK hM 2 m0 rfl rfl dd_AR_copyOf3_30 ?_
  refine lv_iload_n hx hb dd_AR_copyOf3_31 rfl (lv_at hl 2 rfl) ?_
  refine va_mmin (rest := [.int 0, .ref sz, .int 0, .ref a0]) hx hb (hml.trans hl.1.symm) hown (ht _ wd_1_211) (ht _ wd_1_212) (ht _ wd_1_11) (ht _ wd_1_213) (Nat.le_of_ble_eq_true rfl) (Nat.le_of_ble_eq_true rfl) (Nat.le_of_ble_eq_true rfl) (by show 0 + N ≤ 2000; omega) dd_AR_copyOf3_32 ?_
  rw [if_neg (nI_nlt (a := N) (b := n0) hN (by omega))]
  refine mg_copy hx hb (hml.trans hl.1.symm) hown ht wd_1_214 wd_1_216 wd_1_215 wd_1_13 hK hM hS (hF _ (by rw [mn]; exact Option.some_ne_none _)) m0 mn (fun z => by rw [z] at ma; rw [ma] at hn1; cases hn1) (by decide) (by decide) (nI_pos (by omega)) (by rw [nI_clamp (by omega)]; exact Nat.le_of_eq (Nat.zero_add _)) (by rw [nI_clamp (by omega)]; show 0 + n0 ≤ N; omega) (fun i hi y hy => ?_) (Nat.le_of_ble_eq_true rfl) (Nat.le_of_ble_eq_true rfl) dd_AR_copyOf3_35 (fun H locs hM hz hS => ?_)
  · rw [nI_clamp (by omega)] at hi
    exact ob_up (hel i hi y (by rw [← hy]; congr 1; exact (Nat.zero_add i).symm)) hn1
  have hsz := hz.trans hsz
  rw [nI_clamp (show n0 < 2 ^ 31 by omega), sb_cl0] at hM
  rw [mp_mp] at hM
  have hM : hm G (mp_up M sz (oA G N (va_cpy f (fun _ => none) 0 0 n0))) H := hM
  have hF : ∀ z9, (mp_up M sz (oA G N (va_cpy f (fun _ => none) 0 0 n0))) z9 ≠ none → fr M sz z9 := hF_same hF
  have mn : (mp_up M sz (oA G N (va_cpy f (fun _ => none) 0 0 n0))) sz = some (oA G N (va_cpy f (fun _ => none) 0 0 n0)) := mp_self _ _ _
  refine lv_aload_n hx hb dd_AR_copyOf3_38 rfl (lv_at hl 0 rfl) ?_
  exact mw_a (x := (some sz)) hx hb hr (by first | exact Or.inl ⟨_, rfl⟩ | exact Or.inr ⟨_, rfl⟩) hlocks hM hF hS (Nat.le_of_ble_eq_true rfl) (by omega) ⟨rfl, rfl⟩ dd_AR_copyOf3_39
end
section
theorem a_half {n : Nat} (h : n < 2 ^ 31) : nI n >>> ((1 : Int32) &&& 31) = nI (n / 2) := by
  have k := pk_shrN (n := n) h ((1 : Int32) &&& 31) 1 (by decide)
  rw [Nat.pow_one] at k
  exact k
theorem a_newL {n : Nat} (h2 : 2 ≤ n) (h : n ≤ 600) : nI n + (if nI 1 < nI (n / 2) then nI (n / 2) else nI 1) = nI (n + n / 2) := by
  by_cases c : 1 < n / 2
  · rw [if_pos (nI_lt c (by omega))]
    exact nI_add n (n / 2)
  · rw [if_neg (nI_nlt (by omega) (by decide))]
    have hd : n / 2 = 1 := by omega
    rw [hd]
    exact nI_add n 1
theorem a_one {n : Nat} : nI (n + 1) - nI n = nI 1 := by
  have k := pk_sub (a := n + 1) (b := n) (by omega)
  rw [Nat.add_sub_cancel_left] at k
  exact k
theorem ob_up2 {M : mC} {v a : Nat} {e : va_E} (h : ob_ok M v) (ha : v ≠ a) : ob_ok (mp_up M a e) v := h.elim (fun ⟨r, h⟩ => Or.inl ⟨r, mp_at ha h⟩) (fun ⟨r, h⟩ => Or.inr ⟨r, mp_at ha h⟩)
theorem hm_oo {M : mC} {v a : Nat} {r : aR} (h : ob_ok M v) (ha : M a = some (aC r)) : v ≠ a := fun z => by
  rcases h with ⟨q, h⟩ | ⟨q, h⟩ <;> rw [z, ha] at h <;> cases h
theorem hm_ne {M : mC} {a b : Nat} {e : va_E} (h : M a = some e) (hb : M b = none) : a ≠ b := fun z => by rw [z, hb] at h; cases h
set_option maxHeartbeats 4000000 in
set_option maxRecDepth 100000 in
theorem cc_AR_copyOf {l : Launch} {G : gC} {M : mC} {sz : Nat} {a0 n0 N : Nat} {f : Nat → Option Nat} (m0 : M a0 = some (oA G n0 f)) (hN : n0 ≤ N) (hN2 : N ≤ 1000) (hel : ∀ i, i < n0 → ∀ y, f i = some y → ob_ok M y) : cW l yy_AR_copyOf bb_AR_copyOf 2 (some (.array (.object "java/lang/Object"))) 2 1 2000 G M sz [.ref a0, .int (nI N)] (fun v u => v = some (.ref sz) ∧ u = mp_up M sz (oA G N (va_cpy f (fun _ => none) 0 0 n0))) := by
  refine me_W (by decide) (Nat.le_of_ble_eq_true rfl) ?_
  intro p e s m below meth c ls hx hb hr hlocks hml hown hname ht hsz hM hK hZ hl
  have hown : s.vm.findClass RR_AR = some m.cls := hown
  have hl : lv_has ls 2 [(0, .ref a0), (1, .int (nI N))] := hl
  have hS : va_S (fr M sz) s.heap s.heap [] := va_S.rf
  have hF : ∀ q, M q ≠ none → fr M sz q := fr_M
  have hA : ∀ q, s.heap.size ≤ q → fr M sz q := fun q h => fr_A q (by rw [← hsz]; exact h)
  refine lv_aload_n hx hb dd_AR_copyOf_0 rfl (lv_at hl 0 rfl) ?_
  refine lv_iload_n hx hb dd_AR_copyOf_1 rfl (lv_at hl 1 rfl) ?_
  refine lv_aload_n hx hb dd_AR_copyOf_2 rfl (lv_at hl 0 rfl) ?_
  refine mg_getC (rest := [.int (nI N), .ref a0]) hx hb (hml.trans hl.1.symm) hown ht wd_1_196 wd_3_174 wd_1_197 wd_1_204 hK hM m0 (Nat.le_of_ble_eq_true rfl) (Nat.le_of_ble_eq_true rfl) dd_AR_copyOf_3 ?_
  have hFr := hF_fr hF hS hA
  refine mx_S (As := [.ref a0, .int (nI N), .ref G.2.2.2.2]) (rest := []) 3 (cc_AR_copyOf3 m0 hN hN2 hel) hx hb hml hown ht hM hK hZ hS hFr hl.1 lk_AR_300 (by decide +kernel) (by decide) rfl rfl (Nat.le_of_ble_eq_true rfl) dd_AR_copyOf_6 ⟨Nat.le_of_ble_eq_true rfl, Nat.le_of_ble_eq_true rfl⟩ (fun v u H locs hp hM hd hle hk hS => ?_)
  rw [hsz] at hp
  obtain ⟨rfl, hu⟩ := hp
  rw [hu] at hM hd
  clear hu
  have hF := fun z9 h => hFr z9 (hd z9 h)
  obtain ⟨z1, hsz⟩ : ∃ z9, H.size = z9 := ⟨_, rfl⟩
  have mn : (mp_up M sz (oA G N (va_cpy f (fun _ => none) 0 0 n0))) sz = some (oA G N (va_cpy f (fun _ => none) 0 0 n0)) := mp_self _ _ _
  have hM : hm G (mp_up M sz (oA G N (va_cpy f (fun _ => none) 0 0 n0))) H := hM
  exact mw_a (x := (some sz)) hx hb hr (by first | exact Or.inl ⟨_, rfl⟩ | exact Or.inr ⟨_, rfl⟩) hlocks hM hF hS (Nat.le_of_ble_eq_true rfl) (Nat.le_of_ble_eq_true rfl) ⟨rfl, rfl⟩ dd_AR_copyOf_9

set_option maxHeartbeats 4000000 in
set_option maxRecDepth 100000 in
theorem cc_A_grow1_f {l : Launch} {G : gC} {M : mC} {sz : Nat} {h0 : Nat} {r : aR} (m0 : M h0 = some (aC r)) {n0 : Nat} {f : Nat → Option Nat} (me : M (a_ed r) = some (oA G n0 f)) (h2 : 2 ≤ n0) (hn : n0 ≤ 600) (hel : ∀ i, i < n0 → ∀ y, f i = some y → ob_ok M y) : cW l yy_A_grow1 bb_A_grow1 4 (some (.array (.object "java/lang/Object"))) 3 1 2000 G M sz [.ref h0, .int (nI (n0 + 1))] (fun v u => v = some (.ref sz) ∧ u = mp_up (mp_up M sz (oA G (n0 + n0 / 2) (va_cpy f (fun _ => none) 0 0 n0))) h0 (aC (a_s_ed r sz))) := by
  refine me_W (by decide) (Nat.le_of_ble_eq_true rfl) ?_
  intro p e s m below meth c ls hx hb hr hlocks hml hown hname ht hsz hM hK hZ hl
  have hown : s.vm.findClass RR_A = some m.cls := hown
  have hl : lv_has ls 4 [(0, .ref h0), (1, .int (nI (n0 + 1)))] := hl
  have hS : va_S (fr M sz) s.heap s.heap [] := va_S.rf
  have hF : ∀ q, M q ≠ none → fr M sz q := fr_M
  have hA : ∀ q, s.heap.size ≤ q → fr M sz q := fun q h => fr_A q (by rw [← hsz]; exact h)
  have hn9 : M sz = none := hm_new hM (by rw [hsz]; exact Nat.le_refl _)
  have m0' := m0
  refine lv_aload_n hx hb dd_A_grow1_0 rfl (lv_at hl 0 rfl) ?_
  refine mg_get hx hb ht ii_A hown hK hM m0 rfl 1 (by decide) wd_1_38 (fun _ h => h) rfl dd_A_grow1_1 ?_
  refine mg_alen (v := nI n0) hx hb hK hM 2 me rfl rfl dd_A_grow1_4 ?_
  refine lv_istore_n (lv' := [(2, .int (nI n0)), (0, .ref h0), (1, .int (nI (n0 + 1)))]) hx hb dd_A_grow1_5 rfl hl (by decide) rfl (fun ls hl => ?_)
  refine lv_iload_n hx hb dd_A_grow1_6 rfl (lv_at hl 0 rfl) ?_
  refine lv_if_gt (tgt := 20) hx hb dd_A_grow1_7 (by decide) (fun _ => ?_) (fun z => absurd (nI_lt (a := 0) (show 0 < n0 by omega) (by omega)) z)
  refine lv_iload_n hx hb dd_A_grow1_20 rfl (lv_at hl 0 rfl) ?_
  refine lv_iload_n hx hb dd_A_grow1_21 rfl (lv_at hl 2 rfl) ?_
  refine lv_iload_n hx hb dd_A_grow1_22 rfl (lv_at hl 0 rfl) ?_
  refine lv_isub hx hb dd_A_grow1_23 ?_
  refine lv_iload_n hx hb dd_A_grow1_24 rfl (lv_at hl 0 rfl) ?_
  refine lv_iconst (v := 1) hx hb dd_A_grow1_25 (by decide) ?_
  refine lv_ishr hx hb dd_A_grow1_26 ?_
  rw [a_half (show n0 < 2 ^ 31 by omega), a_one]
  refine mc_S (As := [.int (nI n0), .int (nI 1), .int (nI (n0 / 2))]) (rest := []) 3 (cc_AS_newLength (a := nI n0) (b := nI 1) (k := nI (n0 / 2)) (by rw [a_newL h2 hn]; exact nI_nle (by omega) (by omega)) (by rw [a_newL h2 hn]; exact nI_nlt (b := n0 + n0 / 2) (a := 2147483639) (by omega) (by decide))) hx hb hml hown ht hM hK hl.1 lk_A_73 (by decide +kernel) (by decide) rfl rfl (Nat.le_of_ble_eq_true rfl) dd_A_grow1_27 ⟨Nat.zero_le _, Nat.zero_le _⟩ ?_
  rw [a_newL h2 hn]
  refine lv_istore_n (lv' := [(3, .int (nI (n0 + n0 / 2))), (2, .int (nI n0)), (0, .ref h0), (1, .int (nI (n0 + 1)))]) hx hb dd_A_grow1_30 rfl hl (by decide) rfl (fun ls hl => ?_)
  refine lv_aload_n hx hb dd_A_grow1_31 rfl (lv_at hl 2 rfl) ?_
  refine lv_aload_n hx hb dd_A_grow1_32 rfl (lv_at hl 2 rfl) ?_
  refine mg_get hx hb ht ii_A hown hK hM m0 rfl 1 (by decide) wd_1_38 (fun _ h => h) rfl dd_A_grow1_33 ?_
  refine lv_iload_n hx hb dd_A_grow1_36 rfl (lv_at hl 0 rfl) ?_
  have hFr := hF_fr hF hS hA
  refine mx_S (As := [.ref (a_ed r), .int (nI (n0 + n0 / 2))]) (rest := [.ref h0]) 2 (cc_AR_copyOf (N := n0 + n0 / 2) me (by omega) (by omega) hel) hx hb hml hown ht hM hK hZ hS hFr hl.1 lk_A_66 (by decide +kernel) (by decide) rfl rfl (Nat.le_of_ble_eq_true rfl) dd_A_grow1_37 ⟨Nat.le_of_ble_eq_true rfl, Nat.le_of_ble_eq_true rfl⟩ (fun v u H locs hp hM hd hle hk hS => ?_)
  rw [hsz] at hp
  obtain ⟨rfl, hu⟩ := hp
  rw [hu] at hM hd
  clear hu
  have hF := fun z9 h => hFr z9 (hd z9 h)
  obtain ⟨z1, hsz⟩ : ∃ z9, H.size = z9 := ⟨_, rfl⟩
  have mn : (mp_up M sz (oA G (n0 + n0 / 2) (va_cpy f (fun _ => none) 0 0 n0))) sz = some (oA G (n0 + n0 / 2) (va_cpy f (fun _ => none) 0 0 n0)) := mp_self _ _ _
  have hM : hm G (mp_up M sz (oA G (n0 + n0 / 2) (va_cpy f (fun _ => none) 0 0 n0))) H := hM
  refine lv_dup_x1 hx hb dd_A_grow1_40 rfl rfl ?_
  have m0 := mp_at (M := M) (a := sz) (e := (oA G (n0 + n0 / 2) (va_cpy f (fun _ => none) 0 0 n0))) (hm_ne m0' hn9) m0
  refine mg_put (v := .ref sz) hx hb ht ii_A tt_A tt_A_ok nn_A hown hK hM hS (hF _ (by rw [m0]; exact Option.some_ne_none _)) m0 rfl 1 (by decide) wd_1_38 (fun _ h => h) (Or.inl rfl) rfl rfl rfl (Nat.le_of_ble_eq_true rfl) dd_A_grow1_41 (fun H locs hM hz hoq hS => ?_)
  have hsz := hz.trans hsz
  have hM : hm G (mp_up (mp_up M sz (oA G (n0 + n0 / 2) (va_cpy f (fun _ => none) 0 0 n0))) h0 (aC (a_s_ed r sz))) H := hM
  have hF : ∀ z9, (mp_up (mp_up M sz (oA G (n0 + n0 / 2) (va_cpy f (fun _ => none) 0 0 n0))) h0 (aC (a_s_ed r sz))) z9 ≠ none → fr M sz z9 := hF_put hF (hF _ (by rw [m0]; exact Option.some_ne_none _))
  have m0 : (mp_up (mp_up M sz (oA G (n0 + n0 / 2) (va_cpy f (fun _ => none) 0 0 n0))) h0 (aC (a_s_ed r sz))) h0 = some (aC (a_s_ed r sz)) := mp_self _ _ _
  exact mw_a (x := (some sz)) hx hb hr (by first | exact Or.inl ⟨_, rfl⟩ | exact Or.inr ⟨_, rfl⟩) hlocks hM hF hS (Nat.le_of_ble_eq_true rfl) (Nat.le_of_ble_eq_true rfl) ⟨rfl, rfl⟩ dd_A_grow1_44

set_option maxHeartbeats 4000000 in
set_option maxRecDepth 100000 in
theorem cc_A_grow1_e {l : Launch} {G : gC} {M : mC} {sz : Nat} {h0 : Nat} {c0 z0 : Int32} (m0 : M h0 = some (aC (c0, G.2.2.2.1, z0))) : cW l yy_A_grow1 bb_A_grow1 4 (some (.array (.object "java/lang/Object"))) 1 1 2000 G M sz [.ref h0, .int (nI 1)] (fun v u => v = some (.ref sz) ∧ u = mp_up (mp_up M sz (oA G 10 (fun _ => none))) h0 (aC (a_s_ed (c0, G.2.2.2.1, z0) sz))) := by
  refine me_W (by decide) (Nat.le_of_ble_eq_true rfl) ?_
  intro p e s m below meth c ls hx hb hr hlocks hml hown hname ht hsz hM hK hZ hl
  have hown : s.vm.findClass RR_A = some m.cls := hown
  have hl : lv_has ls 4 [(0, .ref h0), (1, .int (nI 1))] := hl
  have hS : va_S (fr M sz) s.heap s.heap [] := va_S.rf
  have hF : ∀ q, M q ≠ none → fr M sz q := fr_M
  have hA : ∀ q, s.heap.size ≤ q → fr M sz q := fun q h => fr_A q (by rw [← hsz]; exact h)
  have hn9 : M sz = none := hm_new hM (by rw [hsz]; exact Nat.le_refl _)
  have m0' := m0
  refine lv_aload_n hx hb dd_A_grow1_0 rfl (lv_at hl 0 rfl) ?_
  refine mg_get hx hb ht ii_A hown hK hM m0 rfl 1 (by decide) wd_1_38 (fun _ h => h) rfl dd_A_grow1_1 ?_
  refine va_tlen (v := 0) hx hb hZ.2.2.2 hS (by decide) dd_A_grow1_4 ?_
  refine lv_istore_n (lv' := [(2, .int 0), (0, .ref h0), (1, .int (nI 1))]) hx hb dd_A_grow1_5 rfl hl (by decide) rfl (fun ls hl => ?_)
  refine lv_iload_n hx hb dd_A_grow1_6 rfl (lv_at hl 0 rfl) ?_
  refine lv_if_gt (tgt := 20) hx hb dd_A_grow1_7 (by decide) (fun z => absurd z (by decide)) (fun _ => ?_)
  refine lv_aload_n hx hb dd_A_grow1_10 rfl (lv_at hl 1 rfl) ?_
  refine mg_get hx hb ht ii_A hown hK hM m0 rfl 1 (by decide) wd_1_38 (fun _ h => h) rfl dd_A_grow1_11 ?_
  refine va_gets hx hb hZ.2.2.1 hS hown (ht _ wd_1_36) (fun _ h => h) dd_A_grow1_14 ?_
  refine lv_acmp_eq (rx := some G.2.2.2.1) (ry := some G.2.2.2.1) (tgt := 45) hx hb dd_A_grow1_17 (by decide) (fun _ => ?_) (fun z => absurd rfl z)
  refine lv_aload_n hx hb dd_A_grow1_45 rfl (lv_at hl 1 rfl) ?_
  refine lv_bipush (v := 10) hx hb dd_A_grow1_46 (by decide) ?_
  refine lv_iload_n hx hb dd_A_grow1_48 rfl (lv_at hl 2 rfl) ?_
  refine va_mmax (rest := [.ref h0]) hx hb (hml.trans hl.1.symm) hown (ht _ wd_1_217) (ht _ wd_1_187) (ht _ wd_1_11) (ht _ wd_1_188) (Nat.le_of_ble_eq_true rfl) (Nat.le_of_ble_eq_true rfl) (Nat.zero_le _) (Nat.zero_le _) dd_A_grow1_49 ?_
  rw [show (if (10 : Int32) < nI 1 then nI 1 else 10) = nI 10 from by decide]
  have hn1 : M sz = none := hm_new hM (by rw [hsz]; exact Nat.le_refl _)
  refine mg_newo (n := nI 10) (N := 10) hx hb hown ht wd_1_218 hK hM hS (by decide) (by decide) (by decide) (Nat.le_of_ble_eq_true rfl) (Nat.le_of_ble_eq_true rfl) dd_A_grow1_52 (fun H hM hz hS => ?_)
  rw [hsz] at hM hz ⊢
  have hsz := hz
  have hM : hm G (mp_up M sz (oA G 10 (fun _ => none))) H := hM
  have hF : ∀ z9, (mp_up M sz (oA G 10 (fun _ => none))) z9 ≠ none → fr M sz z9 := hF_put hF (hA _ (by have := hS.1; omega))
  have mn : (mp_up M sz (oA G 10 (fun _ => none))) sz = some (oA G 10 (fun _ => none)) := mp_self _ _ _
  refine lv_dup_x1 hx hb dd_A_grow1_55 rfl rfl ?_
  have m0 := mp_old (M := M) (a := sz) (e := (oA G 10 (fun _ => none))) m0 hn1
  refine mg_put (v := .ref sz) hx hb ht ii_A tt_A tt_A_ok nn_A hown hK hM hS (hF _ (by rw [m0]; exact Option.some_ne_none _)) m0 rfl 1 (by decide) wd_1_38 (fun _ h => h) (Or.inl rfl) rfl rfl rfl (Nat.le_of_ble_eq_true rfl) dd_A_grow1_56 (fun H locs hM hz hoq hS => ?_)
  have hsz := hz.trans hsz
  have hM : hm G (mp_up (mp_up M sz (oA G 10 (fun _ => none))) h0 (aC (a_s_ed (c0, G.2.2.2.1, z0) sz))) H := hM
  have hF : ∀ z9, (mp_up (mp_up M sz (oA G 10 (fun _ => none))) h0 (aC (a_s_ed (c0, G.2.2.2.1, z0) sz))) z9 ≠ none → fr M sz z9 := hF_put hF (hF _ (by rw [m0]; exact Option.some_ne_none _))
  have m0 : (mp_up (mp_up M sz (oA G 10 (fun _ => none))) h0 (aC (a_s_ed (c0, G.2.2.2.1, z0) sz))) h0 = some (aC (a_s_ed (c0, G.2.2.2.1, z0) sz)) := mp_self _ _ _
  exact mw_a (x := (some sz)) hx hb hr (by first | exact Or.inl ⟨_, rfl⟩ | exact Or.inr ⟨_, rfl⟩) hlocks hM hF hS (Nat.le_of_ble_eq_true rfl) (Nat.le_of_ble_eq_true rfl) ⟨rfl, rfl⟩ dd_A_grow1_59

set_option maxHeartbeats 4000000 in
set_option maxRecDepth 100000 in
theorem cc_A_grow_f {l : Launch} {G : gC} {M : mC} {sz : Nat} {h0 : Nat} {r : aR} (m0 : M h0 = some (aC r)) {n0 : Nat} {f : Nat → Option Nat} (me : M (a_ed r) = some (oA G n0 f)) (h2 : 2 ≤ n0) (hn : n0 ≤ 600) (hel : ∀ i, i < n0 → ∀ y, f i = some y → ob_ok M y) (hs : a_sz r = nI n0) : cW l yy_A_grow bb_A_grow 1 (some (.array (.object "java/lang/Object"))) 4 1 2000 G M sz [.ref h0] (fun v u => v = some (.ref sz) ∧ u = mp_up (mp_up M sz (oA G (n0 + n0 / 2) (va_cpy f (fun _ => none) 0 0 n0))) h0 (aC (a_s_ed r sz))) := by
  refine me_W (by decide) (Nat.le_of_ble_eq_true rfl) ?_
  intro p e s m below meth c ls hx hb hr hlocks hml hown hname ht hsz hM hK hZ hl
  have hown : s.vm.findClass RR_A = some m.cls := hown
  have hl : lv_has ls 1 [(0, .ref h0)] := hl
  have hS : va_S (fr M sz) s.heap s.heap [] := va_S.rf
  have hF : ∀ q, M q ≠ none → fr M sz q := fr_M
  have hA : ∀ q, s.heap.size ≤ q → fr M sz q := fun q h => fr_A q (by rw [← hsz]; exact h)
  have hn9 : M sz = none := hm_new hM (by rw [hsz]; exact Nat.le_refl _)
  have m0' := m0
  refine lv_aload_n hx hb dd_A_grow_0 rfl (lv_at hl 0 rfl) ?_
  refine lv_aload_n hx hb dd_A_grow_1 rfl (lv_at hl 0 rfl) ?_
  refine mg_get hx hb ht ii_A hown hK hM m0 rfl 2 (by decide) wd_1_39 (fun _ h => h) rfl dd_A_grow_2 ?_
  refine lv_iconst (v := 1) hx hb dd_A_grow_5 (by decide) ?_
  refine lv_iadd hx hb dd_A_grow_6 ?_
  rw [hs, nI_1]
  have hFr := hF_fr hF hS hA
  refine mx_V (As := [.int (nI (n0 + 1))]) (rest := []) 1 (cc_A_grow1_f m0 me h2 hn hel) hx hb hml hown ht hM hK hZ hS hFr hl.1 lk_A_69 (by decide +kernel) (by decide) m0 rfl rfl rfl (Nat.le_of_ble_eq_true rfl) dd_A_grow_7 ⟨Nat.le_of_ble_eq_true rfl, Nat.le_of_ble_eq_true rfl⟩ (fun v u H locs hp hM hd hle hk hS => ?_)
  rw [hsz] at hp
  obtain ⟨rfl, hu⟩ := hp
  rw [hu] at hM hd
  clear hu
  have hF := fun z9 h => hFr z9 (hd z9 h)
  obtain ⟨z1, hsz⟩ : ∃ z9, H.size = z9 := ⟨_, rfl⟩
  have mn : (mp_up M sz (oA G (n0 + n0 / 2) (va_cpy f (fun _ => none) 0 0 n0))) sz = some (oA G (n0 + n0 / 2) (va_cpy f (fun _ => none) 0 0 n0)) := mp_self _ _ _
  have m0 : (mp_up (mp_up M sz (oA G (n0 + n0 / 2) (va_cpy f (fun _ => none) 0 0 n0))) h0 (aC (a_s_ed r sz))) h0 = some (aC (a_s_ed r sz)) := mp_self _ _ _
  have hM : hm G (mp_up (mp_up M sz (oA G (n0 + n0 / 2) (va_cpy f (fun _ => none) 0 0 n0))) h0 (aC (a_s_ed r sz))) H := hM
  exact mw_a (x := (some sz)) hx hb hr (by first | exact Or.inl ⟨_, rfl⟩ | exact Or.inr ⟨_, rfl⟩) hlocks hM hF hS (Nat.le_of_ble_eq_true rfl) (Nat.le_of_ble_eq_true rfl) ⟨rfl, rfl⟩ dd_A_grow_10

set_option maxHeartbeats 4000000 in
set_option maxRecDepth 100000 in
theorem cc_A_grow_e {l : Launch} {G : gC} {M : mC} {sz : Nat} {h0 : Nat} {c0 z0 : Int32} (m0 : M h0 = some (aC (c0, G.2.2.2.1, z0))) (hs : z0 = nI 0) : cW l yy_A_grow bb_A_grow 1 (some (.array (.object "java/lang/Object"))) 2 1 2000 G M sz [.ref h0] (fun v u => v = some (.ref sz) ∧ u = mp_up (mp_up M sz (oA G 10 (fun _ => none))) h0 (aC (a_s_ed (c0, G.2.2.2.1, z0) sz))) := by
  refine me_W (by decide) (Nat.le_of_ble_eq_true rfl) ?_
  intro p e s m below meth c ls hx hb hr hlocks hml hown hname ht hsz hM hK hZ hl
  have hown : s.vm.findClass RR_A = some m.cls := hown
  have hl : lv_has ls 1 [(0, .ref h0)] := hl
  have hS : va_S (fr M sz) s.heap s.heap [] := va_S.rf
  have hF : ∀ q, M q ≠ none → fr M sz q := fr_M
  have hA : ∀ q, s.heap.size ≤ q → fr M sz q := fun q h => fr_A q (by rw [← hsz]; exact h)
  have hn9 : M sz = none := hm_new hM (by rw [hsz]; exact Nat.le_refl _)
  have m0' := m0
  refine lv_aload_n hx hb dd_A_grow_0 rfl (lv_at hl 0 rfl) ?_
  refine lv_aload_n hx hb dd_A_grow_1 rfl (lv_at hl 0 rfl) ?_
  refine mg_get hx hb ht ii_A hown hK hM m0 rfl 2 (by decide) wd_1_39 (fun _ h => h) rfl dd_A_grow_2 ?_
  refine lv_iconst (v := 1) hx hb dd_A_grow_5 (by decide) ?_
  refine lv_iadd hx hb dd_A_grow_6 ?_
  rw [show a_sz (c0, G.2.2.2.1, z0) + 1 = nI 1 from by rw [show a_sz (c0, G.2.2.2.1, z0) = nI 0 from hs, nI_1]]
  have hFr := hF_fr hF hS hA
  refine mx_V (As := [.int (nI 1)]) (rest := []) 1 (cc_A_grow1_e m0) hx hb hml hown ht hM hK hZ hS hFr hl.1 lk_A_69 (by decide +kernel) (by decide) m0 rfl rfl rfl (Nat.le_of_ble_eq_true rfl) dd_A_grow_7 ⟨Nat.le_of_ble_eq_true rfl, Nat.le_of_ble_eq_true rfl⟩ (fun v u H locs hp hM hd hle hk hS => ?_)
  rw [hsz] at hp
  obtain ⟨rfl, hu⟩ := hp
  rw [hu] at hM hd
  clear hu
  have hF := fun z9 h => hFr z9 (hd z9 h)
  obtain ⟨z1, hsz⟩ : ∃ z9, H.size = z9 := ⟨_, rfl⟩
  have mn : (mp_up M sz (oA G 10 (fun _ => none))) sz = some (oA G 10 (fun _ => none)) := mp_self _ _ _
  have m0 : (mp_up (mp_up M sz (oA G 10 (fun _ => none))) h0 (aC (a_s_ed (c0, G.2.2.2.1, z0) sz))) h0 = some (aC (a_s_ed (c0, G.2.2.2.1, z0) sz)) := mp_self _ _ _
  have hM : hm G (mp_up (mp_up M sz (oA G 10 (fun _ => none))) h0 (aC (a_s_ed (c0, G.2.2.2.1, z0) sz))) H := hM
  exact mw_a (x := (some sz)) hx hb hr (by first | exact Or.inl ⟨_, rfl⟩ | exact Or.inr ⟨_, rfl⟩) hlocks hM hF hS (Nat.le_of_ble_eq_true rfl) (Nat.le_of_ble_eq_true rfl) ⟨rfl, rfl⟩ dd_A_grow_10
end
section
set_option maxHeartbeats 4000000 in
set_option maxRecDepth 100000 in
theorem cc_A_add3_r {l : Launch} {G : gC} {M : mC} {sz : Nat} {h0 : Nat} {r : aR} (m0 : M h0 = some (aC r)) {n0 k : Nat} {f : Nat → Option Nat} (me : M (a_ed r) = some (oA G n0 f)) (hk : k < n0) (hn : n0 ≤ 1000) {hv : Nat} (hob : ob_ok M hv) : cW l yy_A_add3 bb_A_add3 4 none 0 1 2000 G M sz [.ref h0, .ref hv, .ref (a_ed r), .int (nI k)] (fun v u => v = none ∧ u = mp_up (mp_up M (a_ed r) (oA G n0 (va_up f k (some hv)))) h0 (aC (a_s_sz r (nI (k + 1))))) := by
  refine me_W (by decide) (Nat.le_of_ble_eq_true rfl) ?_
  intro p e s m below meth c ls hx hb hr hlocks hml hown hname ht hsz hM hK hZ hl
  have hown : s.vm.findClass RR_A = some m.cls := hown
  have hl : lv_has ls 4 [(0, .ref h0), (1, .ref hv), (2, .ref (a_ed r)), (3, .int (nI k))] := hl
  have hS : va_S (fr M sz) s.heap s.heap [] := va_S.rf
  have hF : ∀ q, M q ≠ none → fr M sz q := fr_M
  have hA : ∀ q, s.heap.size ≤ q → fr M sz q := fun q h => fr_A q (by rw [← hsz]; exact h)
  have hn9 : M sz = none := hm_new hM (by rw [hsz]; exact Nat.le_refl _)
  have m0' := m0
  have me' := me
  refine lv_iload_n hx hb dd_A_add3_0 rfl (lv_at hl 3 rfl) ?_
  refine lv_aload_n hx hb dd_A_add3_1 rfl (lv_at hl 2 rfl) ?_
  refine mg_alen (v := nI n0) hx hb hK hM 2 me rfl rfl dd_A_add3_2 ?_
  refine lv_icmp_ne (tgt := 11) hx hb dd_A_add3_3 (by decide) (fun _ => ?_) (fun z => absurd ((nI_eq (by omega) (by omega)).mp z) (by omega))
  refine lv_aload_n hx hb dd_A_add3_11 rfl (lv_at hl 2 rfl) ?_
  refine lv_iload_n hx hb dd_A_add3_12 rfl (lv_at hl 3 rfl) ?_
  refine lv_aload_n hx hb dd_A_add3_13 rfl (lv_at hl 1 rfl) ?_
  refine mg_aast (v := hv) hx hb hK hM hS (hF _ (by rw [me]; exact Option.some_ne_none _)) me hob (vp_in_nI (show k < n0 by omega) (by omega)) dd_A_add3_14 (fun H locs hM hz hS => ?_)
  have hsz := hz.trans hsz
  rw [nI_clamp (show k < 2 ^ 31 by omega)] at hM
  have hM : hm G (mp_up M (a_ed r) (oA G n0 (va_up f k (some hv)))) H := hM
  have hF : ∀ z9, (mp_up M (a_ed r) (oA G n0 (va_up f k (some hv)))) z9 ≠ none → fr M sz z9 := hF_put hF (hF _ (by rw [me]; exact Option.some_ne_none _))
  have me : (mp_up M (a_ed r) (oA G n0 (va_up f k (some hv)))) (a_ed r) = some (oA G n0 (va_up f k (some hv))) := mp_self _ _ _
  refine lv_aload_n hx hb dd_A_add3_15 rfl (lv_at hl 0 rfl) ?_
  refine lv_iload_n hx hb dd_A_add3_16 rfl (lv_at hl 3 rfl) ?_
  refine lv_iconst (v := 1) hx hb dd_A_add3_17 (by decide) ?_
  refine lv_iadd hx hb dd_A_add3_18 ?_
  rw [nI_1]
  have m0 := mp_at (M := M) (a := (a_ed r)) (e := (oA G n0 (va_up f k (some hv)))) (fun z => by rw [z, me'] at m0'; cases m0') m0
  refine mg_put (v := .int (nI (k + 1))) hx hb ht ii_A tt_A tt_A_ok nn_A hown hK hM hS (hF _ (by rw [m0]; exact Option.some_ne_none _)) m0 rfl 2 (by decide) wd_1_39 (fun _ h => h) (Or.inl rfl) rfl rfl rfl (Nat.le_of_ble_eq_true rfl) dd_A_add3_19 (fun H locs hM hz hoq hS => ?_)
  have hsz := hz.trans hsz
  have hM : hm G (mp_up (mp_up M (a_ed r) (oA G n0 (va_up f k (some hv)))) h0 (aC (a_s_sz r (nI (k + 1))))) H := hM
  have hF : ∀ z9, (mp_up (mp_up M (a_ed r) (oA G n0 (va_up f k (some hv)))) h0 (aC (a_s_sz r (nI (k + 1))))) z9 ≠ none → fr M sz z9 := hF_put hF (hF _ (by rw [m0]; exact Option.some_ne_none _))
  have m0 : (mp_up (mp_up M (a_ed r) (oA G n0 (va_up f k (some hv)))) h0 (aC (a_s_sz r (nI (k + 1))))) h0 = some (aC (a_s_sz r (nI (k + 1)))) := mp_self _ _ _
  exact mw_v hx hb hr hlocks hM hF hS (Nat.le_of_ble_eq_true rfl) (Nat.le_of_ble_eq_true rfl) ⟨rfl, rfl⟩ dd_A_add3_22

set_option maxHeartbeats 4000000 in
set_option maxRecDepth 100000 in
theorem cc_A_add3_f {l : Launch} {G : gC} {M : mC} {sz : Nat} {h0 : Nat} {r : aR} (m0 : M h0 = some (aC r)) {n0 : Nat} {f : Nat → Option Nat} (me : M (a_ed r) = some (oA G n0 f)) (h2 : 2 ≤ n0) (hn : n0 ≤ 600) (hel : ∀ i, i < n0 → ∀ y, f i = some y → ob_ok M y) (hs : a_sz r = nI n0) {hv : Nat} (hob : ob_ok M hv) : cW l yy_A_add3 bb_A_add3 4 none 5 1 2000 G M sz [.ref h0, .ref hv, .ref (a_ed r), .int (nI n0)] (fun v u => v = none ∧ u = mp_up (mp_up (mp_up (mp_up M sz (oA G (n0 + n0 / 2) (va_cpy f (fun _ => none) 0 0 n0))) h0 (aC (a_s_ed r sz))) sz (oA G (n0 + n0 / 2) (va_up (va_cpy f (fun _ => none) 0 0 n0) n0 (some hv)))) h0 (aC (a_s_sz (a_s_ed r sz) (nI (n0 + 1))))) := by
  refine me_W (by decide) (Nat.le_of_ble_eq_true rfl) ?_
  intro p e s m below meth c ls hx hb hr hlocks hml hown hname ht hsz hM hK hZ hl
  have hown : s.vm.findClass RR_A = some m.cls := hown
  have hl : lv_has ls 4 [(0, .ref h0), (1, .ref hv), (2, .ref (a_ed r)), (3, .int (nI n0))] := hl
  have hS : va_S (fr M sz) s.heap s.heap [] := va_S.rf
  have hF : ∀ q, M q ≠ none → fr M sz q := fr_M
  have hA : ∀ q, s.heap.size ≤ q → fr M sz q := fun q h => fr_A q (by rw [← hsz]; exact h)
  have hn9 : M sz = none := hm_new hM (by rw [hsz]; exact Nat.le_refl _)
  have m0' := m0
  have me' := me
  refine lv_iload_n hx hb dd_A_add3_0 rfl (lv_at hl 3 rfl) ?_
  refine lv_aload_n hx hb dd_A_add3_1 rfl (lv_at hl 2 rfl) ?_
  refine mg_alen (v := nI n0) hx hb hK hM 2 me rfl rfl dd_A_add3_2 ?_
  refine lv_icmp_ne (tgt := 11) hx hb dd_A_add3_3 (by decide) (fun z => absurd rfl z) (fun _ => ?_)
  refine lv_aload_n hx hb dd_A_add3_6 rfl (lv_at hl 0 rfl) ?_
  have hFr := hF_fr hF hS hA
  refine mx_V (As := []) (rest := []) 0 (cc_A_grow_f m0 me h2 hn hel hs) hx hb hml hown ht hM hK hZ hS hFr hl.1 lk_A_129 (by decide +kernel) (by decide) m0 rfl rfl rfl (Nat.le_of_ble_eq_true rfl) dd_A_add3_7 ⟨Nat.le_of_ble_eq_true rfl, Nat.le_of_ble_eq_true rfl⟩ (fun v u H locs hp hM hd hle hk hS => ?_)
  rw [hsz] at hp
  obtain ⟨rfl, hu⟩ := hp
  rw [hu] at hM hd
  clear hu
  have hF := fun z9 h => hFr z9 (hd z9 h)
  obtain ⟨z1, hsz⟩ : ∃ z9, H.size = z9 := ⟨_, rfl⟩
  have mn : (mp_up M sz (oA G (n0 + n0 / 2) (va_cpy f (fun _ => none) 0 0 n0))) sz = some (oA G (n0 + n0 / 2) (va_cpy f (fun _ => none) 0 0 n0)) := mp_self _ _ _
  have m0 : (mp_up (mp_up M sz (oA G (n0 + n0 / 2) (va_cpy f (fun _ => none) 0 0 n0))) h0 (aC (a_s_ed r sz))) h0 = some (aC (a_s_ed r sz)) := mp_self _ _ _
  have hM : hm G (mp_up (mp_up M sz (oA G (n0 + n0 / 2) (va_cpy f (fun _ => none) 0 0 n0))) h0 (aC (a_s_ed r sz))) H := hM
  refine lv_astore_n (lv' := [(2, .ref sz), (0, .ref h0), (1, .ref hv), (3, .int (nI n0))]) hx hb dd_A_add3_10 rfl hl (by decide) rfl (fun ls hl => ?_)
  refine lv_aload_n hx hb dd_A_add3_11 rfl (lv_at hl 0 rfl) ?_
  refine lv_iload_n hx hb dd_A_add3_12 rfl (lv_at hl 3 rfl) ?_
  refine lv_aload_n hx hb dd_A_add3_13 rfl (lv_at hl 2 rfl) ?_
  have mn := mp_at (M := (mp_up M sz (oA G (n0 + n0 / 2) (va_cpy f (fun _ => none) 0 0 n0)))) (a := h0) (e := (aC (a_s_ed r sz))) (Ne.symm (hm_ne m0' hn9)) mn
  refine mg_aast (v := hv) hx hb hK hM hS (hF _ (by rw [mn]; exact Option.some_ne_none _)) mn (ob_up2 (ob_up hob hn9) (hm_oo hob m0')) (vp_in_nI (show n0 < (n0 + n0 / 2) by omega) (by omega)) dd_A_add3_14 (fun H locs hM hz hS => ?_)
  have hsz := hz.trans hsz
  rw [nI_clamp (show n0 < 2 ^ 31 by omega)] at hM
  have hM : hm G (mp_up (mp_up (mp_up M sz (oA G (n0 + n0 / 2) (va_cpy f (fun _ => none) 0 0 n0))) h0 (aC (a_s_ed r sz))) sz (oA G (n0 + n0 / 2) (va_up (va_cpy f (fun _ => none) 0 0 n0) n0 (some hv)))) H := hM
  have hF : ∀ z9, (mp_up (mp_up (mp_up M sz (oA G (n0 + n0 / 2) (va_cpy f (fun _ => none) 0 0 n0))) h0 (aC (a_s_ed r sz))) sz (oA G (n0 + n0 / 2) (va_up (va_cpy f (fun _ => none) 0 0 n0) n0 (some hv)))) z9 ≠ none → fr M sz z9 := hF_put hF (hF _ (by rw [mn]; exact Option.some_ne_none _))
  have mn : (mp_up (mp_up (mp_up M sz (oA G (n0 + n0 / 2) (va_cpy f (fun _ => none) 0 0 n0))) h0 (aC (a_s_ed r sz))) sz (oA G (n0 + n0 / 2) (va_up (va_cpy f (fun _ => none) 0 0 n0) n0 (some hv)))) sz = some (oA G (n0 + n0 / 2) (va_up (va_cpy f (fun _ => none) 0 0 n0) n0 (some hv))) := mp_self _ _ _
  refine lv_aload_n hx hb dd_A_add3_15 rfl (lv_at hl 1 rfl) ?_
  refine lv_iload_n hx hb dd_A_add3_16 rfl (lv_at hl 3 rfl) ?_
  refine lv_iconst (v := 1) hx hb dd_A_add3_17 (by decide) ?_
  refine lv_iadd hx hb dd_A_add3_18 ?_
  rw [nI_1]
  have m0 := mp_at (M := (mp_up (mp_up M sz (oA G (n0 + n0 / 2) (va_cpy f (fun _ => none) 0 0 n0))) h0 (aC (a_s_ed r sz)))) (a := sz) (e := (oA G (n0 + n0 / 2) (va_up (va_cpy f (fun _ => none) 0 0 n0) n0 (some hv)))) (hm_ne m0' hn9) m0
  refine mg_put (v := .int (nI (n0 + 1))) hx hb ht ii_A tt_A tt_A_ok nn_A hown hK hM hS (hF _ (by rw [m0]; exact Option.some_ne_none _)) m0 rfl 2 (by decide) wd_1_39 (fun _ h => h) (Or.inl rfl) rfl rfl rfl (Nat.le_of_ble_eq_true rfl) dd_A_add3_19 (fun H locs hM hz hoq hS => ?_)
  have hsz := hz.trans hsz
  have hM : hm G (mp_up (mp_up (mp_up (mp_up M sz (oA G (n0 + n0 / 2) (va_cpy f (fun _ => none) 0 0 n0))) h0 (aC (a_s_ed r sz))) sz (oA G (n0 + n0 / 2) (va_up (va_cpy f (fun _ => none) 0 0 n0) n0 (some hv)))) h0 (aC (a_s_sz (a_s_ed r sz) (nI (n0 + 1))))) H := hM
  have hF : ∀ z9, (mp_up (mp_up (mp_up (mp_up M sz (oA G (n0 + n0 / 2) (va_cpy f (fun _ => none) 0 0 n0))) h0 (aC (a_s_ed r sz))) sz (oA G (n0 + n0 / 2) (va_up (va_cpy f (fun _ => none) 0 0 n0) n0 (some hv)))) h0 (aC (a_s_sz (a_s_ed r sz) (nI (n0 + 1))))) z9 ≠ none → fr M sz z9 := hF_put hF (hF _ (by rw [m0]; exact Option.some_ne_none _))
  have m0 : (mp_up (mp_up (mp_up (mp_up M sz (oA G (n0 + n0 / 2) (va_cpy f (fun _ => none) 0 0 n0))) h0 (aC (a_s_ed r sz))) sz (oA G (n0 + n0 / 2) (va_up (va_cpy f (fun _ => none) 0 0 n0) n0 (some hv)))) h0 (aC (a_s_sz (a_s_ed r sz) (nI (n0 + 1))))) h0 = some (aC (a_s_sz (a_s_ed r sz) (nI (n0 + 1)))) := mp_self _ _ _
  exact mw_v hx hb hr hlocks hM hF hS (Nat.le_of_ble_eq_true rfl) (Nat.le_of_ble_eq_true rfl) ⟨rfl, rfl⟩ dd_A_add3_22

set_option maxHeartbeats 4000000 in
set_option maxRecDepth 100000 in
theorem cc_A_add3_e {l : Launch} {G : gC} {M : mC} {sz : Nat} {h0 : Nat} {c0 z0 : Int32} (m0 : M h0 = some (aC (c0, G.2.2.2.1, z0))) (hs : z0 = nI 0) {hv : Nat} (hob : ob_ok M hv) : cW l yy_A_add3 bb_A_add3 4 none 3 1 2000 G M sz [.ref h0, .ref hv, .ref (a_ed (c0, G.2.2.2.1, z0)), .int (nI 0)] (fun v u => v = none ∧ u = mp_up (mp_up (mp_up (mp_up M sz (oA G 10 (fun _ => none))) h0 (aC (a_s_ed (c0, G.2.2.2.1, z0) sz))) sz (oA G 10 (va_up (fun _ => none) 0 (some hv)))) h0 (aC (a_s_sz (a_s_ed (c0, G.2.2.2.1, z0) sz) (nI (0 + 1))))) := by
  refine me_W (by decide) (Nat.le_of_ble_eq_true rfl) ?_
  intro p e s m below meth c ls hx hb hr hlocks hml hown hname ht hsz hM hK hZ hl
  have hown : s.vm.findClass RR_A = some m.cls := hown
  have hl : lv_has ls 4 [(0, .ref h0), (1, .ref hv), (2, .ref (a_ed (c0, G.2.2.2.1, z0))), (3, .int (nI 0))] := hl
  have hS : va_S (fr M sz) s.heap s.heap [] := va_S.rf
  have hF : ∀ q, M q ≠ none → fr M sz q := fr_M
  have hA : ∀ q, s.heap.size ≤ q → fr M sz q := fun q h => fr_A q (by rw [← hsz]; exact h)
  have hn9 : M sz = none := hm_new hM (by rw [hsz]; exact Nat.le_refl _)
  have m0' := m0
  refine lv_iload_n hx hb dd_A_add3_0 rfl (lv_at hl 3 rfl) ?_
  refine lv_aload_n hx hb dd_A_add3_1 rfl (lv_at hl 2 rfl) ?_
  refine va_tlen (v := 0) hx hb hZ.2.2.2 hS (by decide) dd_A_add3_2 ?_
  refine lv_icmp_ne (tgt := 11) hx hb dd_A_add3_3 (by decide) (fun z => absurd rfl z) (fun _ => ?_)
  refine lv_aload_n hx hb dd_A_add3_6 rfl (lv_at hl 0 rfl) ?_
  have hFr := hF_fr hF hS hA
  refine mx_V (As := []) (rest := []) 0 (cc_A_grow_e m0 hs) hx hb hml hown ht hM hK hZ hS hFr hl.1 lk_A_129 (by decide +kernel) (by decide) m0 rfl rfl rfl (Nat.le_of_ble_eq_true rfl) dd_A_add3_7 ⟨Nat.le_of_ble_eq_true rfl, Nat.le_of_ble_eq_true rfl⟩ (fun v u H locs hp hM hd hle hk hS => ?_)
  rw [hsz] at hp
  obtain ⟨rfl, hu⟩ := hp
  rw [hu] at hM hd
  clear hu
  have hF := fun z9 h => hFr z9 (hd z9 h)
  obtain ⟨z1, hsz⟩ : ∃ z9, H.size = z9 := ⟨_, rfl⟩
  have mn : (mp_up M sz (oA G 10 (fun _ => none))) sz = some (oA G 10 (fun _ => none)) := mp_self _ _ _
  have m0 : (mp_up (mp_up M sz (oA G 10 (fun _ => none))) h0 (aC (a_s_ed (c0, G.2.2.2.1, z0) sz))) h0 = some (aC (a_s_ed (c0, G.2.2.2.1, z0) sz)) := mp_self _ _ _
  have hM : hm G (mp_up (mp_up M sz (oA G 10 (fun _ => none))) h0 (aC (a_s_ed (c0, G.2.2.2.1, z0) sz))) H := hM
  refine lv_astore_n (lv' := [(2, .ref sz), (0, .ref h0), (1, .ref hv), (3, .int (nI 0))]) hx hb dd_A_add3_10 rfl hl (by decide) rfl (fun ls hl => ?_)
  refine lv_aload_n hx hb dd_A_add3_11 rfl (lv_at hl 0 rfl) ?_
  refine lv_iload_n hx hb dd_A_add3_12 rfl (lv_at hl 3 rfl) ?_
  refine lv_aload_n hx hb dd_A_add3_13 rfl (lv_at hl 2 rfl) ?_
  have mn := mp_at (M := (mp_up M sz (oA G 10 (fun _ => none)))) (a := h0) (e := (aC (a_s_ed (c0, G.2.2.2.1, z0) sz))) (Ne.symm (hm_ne m0' hn9)) mn
  refine mg_aast (v := hv) hx hb hK hM hS (hF _ (by rw [mn]; exact Option.some_ne_none _)) mn (ob_up2 (ob_up hob hn9) (hm_oo hob m0')) (vp_in_nI (show 0 < 10 by omega) (by omega)) dd_A_add3_14 (fun H locs hM hz hS => ?_)
  have hsz := hz.trans hsz
  rw [nI_clamp (show 0 < 2 ^ 31 by omega)] at hM
  have hM : hm G (mp_up (mp_up (mp_up M sz (oA G 10 (fun _ => none))) h0 (aC (a_s_ed (c0, G.2.2.2.1, z0) sz))) sz (oA G 10 (va_up (fun _ => none) 0 (some hv)))) H := hM
  have hF : ∀ z9, (mp_up (mp_up (mp_up M sz (oA G 10 (fun _ => none))) h0 (aC (a_s_ed (c0, G.2.2.2.1, z0) sz))) sz (oA G 10 (va_up (fun _ => none) 0 (some hv)))) z9 ≠ none → fr M sz z9 := hF_put hF (hF _ (by rw [mn]; exact Option.some_ne_none _))
  have mn : (mp_up (mp_up (mp_up M sz (oA G 10 (fun _ => none))) h0 (aC (a_s_ed (c0, G.2.2.2.1, z0) sz))) sz (oA G 10 (va_up (fun _ => none) 0 (some hv)))) sz = some (oA G 10 (va_up (fun _ => none) 0 (some hv))) := mp_self _ _ _
  refine lv_aload_n hx hb dd_A_add3_15 rfl (lv_at hl 1 rfl) ?_
  refine lv_iload_n hx hb dd_A_add3_16 rfl (lv_at hl 3 rfl) ?_
  refine lv_iconst (v := 1) hx hb dd_A_add3_17 (by decide) ?_
  refine lv_iadd hx hb dd_A_add3_18 ?_
  rw [nI_1]
  have m0 := mp_at (M := (mp_up (mp_up M sz (oA G 10 (fun _ => none))) h0 (aC (a_s_ed (c0, G.2.2.2.1, z0) sz)))) (a := sz) (e := (oA G 10 (va_up (fun _ => none) 0 (some hv)))) (hm_ne m0' hn9) m0
  refine mg_put (v := .int (nI (0 + 1))) hx hb ht ii_A tt_A tt_A_ok nn_A hown hK hM hS (hF _ (by rw [m0]; exact Option.some_ne_none _)) m0 rfl 2 (by decide) wd_1_39 (fun _ h => h) (Or.inl rfl) rfl rfl rfl (Nat.le_of_ble_eq_true rfl) dd_A_add3_19 (fun H locs hM hz hoq hS => ?_)
  have hsz := hz.trans hsz
  have hM : hm G (mp_up (mp_up (mp_up (mp_up M sz (oA G 10 (fun _ => none))) h0 (aC (a_s_ed (c0, G.2.2.2.1, z0) sz))) sz (oA G 10 (va_up (fun _ => none) 0 (some hv)))) h0 (aC (a_s_sz (a_s_ed (c0, G.2.2.2.1, z0) sz) (nI (0 + 1))))) H := hM
  have hF : ∀ z9, (mp_up (mp_up (mp_up (mp_up M sz (oA G 10 (fun _ => none))) h0 (aC (a_s_ed (c0, G.2.2.2.1, z0) sz))) sz (oA G 10 (va_up (fun _ => none) 0 (some hv)))) h0 (aC (a_s_sz (a_s_ed (c0, G.2.2.2.1, z0) sz) (nI (0 + 1))))) z9 ≠ none → fr M sz z9 := hF_put hF (hF _ (by rw [m0]; exact Option.some_ne_none _))
  have m0 : (mp_up (mp_up (mp_up (mp_up M sz (oA G 10 (fun _ => none))) h0 (aC (a_s_ed (c0, G.2.2.2.1, z0) sz))) sz (oA G 10 (va_up (fun _ => none) 0 (some hv)))) h0 (aC (a_s_sz (a_s_ed (c0, G.2.2.2.1, z0) sz) (nI (0 + 1))))) h0 = some (aC (a_s_sz (a_s_ed (c0, G.2.2.2.1, z0) sz) (nI (0 + 1)))) := mp_self _ _ _
  exact mw_v hx hb hr hlocks hM hF hS (Nat.le_of_ble_eq_true rfl) (Nat.le_of_ble_eq_true rfl) ⟨rfl, rfl⟩ dd_A_add3_22

set_option maxHeartbeats 4000000 in
set_option maxRecDepth 100000 in
theorem cc_A_add_r {l : Launch} {G : gC} {M : mC} {sz : Nat} {h0 : Nat} {r : aR} (m0 : M h0 = some (aC r)) {n0 k : Nat} {f : Nat → Option Nat} (me : M (a_ed r) = some (oA G n0 f)) (hk : k < n0) (hn : n0 ≤ 1000) (hs : a_sz r = nI k) {hv : Nat} (hob : ob_ok M hv) : cW l yy_A_add bb_A_add 2 (some .boolean) 6 1 2000 G M sz [.ref h0, .ref hv] (fun v u => v = some (.int 1) ∧ u = mp_up (mp_up (mp_up M h0 (aC (a_s_mc r (a_mc r + 1)))) (a_ed r) (oA G n0 (va_up f k (some hv)))) h0 (aC (a_s_sz (a_s_mc r (a_mc r + 1)) (nI (k + 1))))) := by
  refine me_W (by decide) (Nat.le_of_ble_eq_true rfl) ?_
  intro p e s m below meth c ls hx hb hr hlocks hml hown hname ht hsz hM hK hZ hl
  have hown : s.vm.findClass RR_A = some m.cls := hown
  have hl : lv_has ls 2 [(0, .ref h0), (1, .ref hv)] := hl
  have hS : va_S (fr M sz) s.heap s.heap [] := va_S.rf
  have hF : ∀ q, M q ≠ none → fr M sz q := fr_M
  have hA : ∀ q, s.heap.size ≤ q → fr M sz q := fun q h => fr_A q (by rw [← hsz]; exact h)
  have hn9 : M sz = none := hm_new hM (by rw [hsz]; exact Nat.le_refl _)
  have m0' := m0
  have me' := me
  refine lv_aload_n hx hb dd_A_add_0 rfl (lv_at hl 0 rfl) ?_
  refine lv_dup hx hb dd_A_add_1 rfl ?_
  refine mg_get hx hb ht ii_A hown hK hM m0 rfl 0 (by decide) wd_1_41 (u_same (ht _ wd_1_42)) rfl dd_A_add_2 ?_
  refine lv_iconst (v := 1) hx hb dd_A_add_5 (by decide) ?_
  refine lv_iadd hx hb dd_A_add_6 ?_
  refine mg_put (v := .int ((a_mc r) + 1)) hx hb ht ii_A tt_A tt_A_ok nn_A hown hK hM hS (hF _ (by rw [m0]; exact Option.some_ne_none _)) m0 rfl 0 (by decide) wd_1_41 (u_same (ht _ wd_1_42)) (Or.inl rfl) rfl rfl rfl (Nat.le_of_ble_eq_true rfl) dd_A_add_7 (fun H locs hM hz hoq hS => ?_)
  have hsz := hz.trans hsz
  have hM : hm G (mp_up M h0 (aC (a_s_mc r ((a_mc r) + 1)))) H := hM
  have hF : ∀ z9, (mp_up M h0 (aC (a_s_mc r ((a_mc r) + 1)))) z9 ≠ none → fr M sz z9 := hF_put hF (hF _ (by rw [m0]; exact Option.some_ne_none _))
  have m0 : (mp_up M h0 (aC (a_s_mc r ((a_mc r) + 1)))) h0 = some (aC (a_s_mc r ((a_mc r) + 1))) := mp_self _ _ _
  refine lv_aload_n hx hb dd_A_add_10 rfl (lv_at hl 0 rfl) ?_
  refine lv_aload_n hx hb dd_A_add_11 rfl (lv_at hl 1 rfl) ?_
  refine lv_aload_n hx hb dd_A_add_12 rfl (lv_at hl 0 rfl) ?_
  refine mg_get hx hb ht ii_A hown hK hM m0 rfl 1 (by decide) wd_1_38 (fun _ h => h) rfl dd_A_add_13 ?_
  refine lv_aload_n hx hb dd_A_add_16 rfl (lv_at hl 0 rfl) ?_
  refine mg_get (v := .int (nI k)) hx hb ht ii_A hown hK hM m0 rfl 2 (by decide) wd_1_39 (fun _ h => h) (congrArg (fun z => some (Value.int z)) hs) dd_A_add_17 ?_
  have hFr := hF_fr hF hS hA
  refine mx_V (As := [.ref hv, .ref (a_ed (a_s_mc r ((a_mc r) + 1))), .int (nI k)]) (rest := []) 3 (cc_A_add3_r (r := (a_s_mc r (a_mc r + 1))) m0 (mp_at (fun z => by rw [z, m0'] at me'; cases me') me) hk hn (ob_up2 hob (hm_oo hob m0'))) hx hb hml hown ht hM hK hZ hS hFr hl.1 lk_A_131 (by decide +kernel) (by decide) m0 rfl rfl rfl (Nat.le_of_ble_eq_true rfl) dd_A_add_20 ⟨Nat.le_of_ble_eq_true rfl, Nat.le_of_ble_eq_true rfl⟩ (fun v u H locs hp hM hd hle hk hS => ?_)
  obtain ⟨rfl, hu⟩ := hp
  rw [hu] at hM hd
  clear hu
  have hF := fun z9 h => hFr z9 (hd z9 h)
  refine lv_iconst (v := 1) hx hb dd_A_add_23 (by decide) ?_
  exact mw_i hx hb hr hlocks rfl hM hF hS (Nat.le_of_ble_eq_true rfl) (Nat.le_of_ble_eq_true rfl) ⟨rfl, rfl⟩ dd_A_add_24

set_option maxHeartbeats 4000000 in
set_option maxRecDepth 100000 in
theorem cc_A_add_f {l : Launch} {G : gC} {M : mC} {sz : Nat} {h0 : Nat} {r : aR} (m0 : M h0 = some (aC r)) {n0 : Nat} {f : Nat → Option Nat} (me : M (a_ed r) = some (oA G n0 f)) (h2 : 2 ≤ n0) (hn : n0 ≤ 600) (hel : ∀ i, i < n0 → ∀ y, f i = some y → ob_ok M y) (hs : a_sz r = nI n0) {hv : Nat} (hob : ob_ok M hv) : cW l yy_A_add bb_A_add 2 (some .boolean) 6 1 2000 G M sz [.ref h0, .ref hv] (fun v u => v = some (.int 1) ∧ u = mp_up (mp_up (mp_up (mp_up (mp_up M h0 (aC (a_s_mc r (a_mc r + 1)))) sz (oA G (n0 + n0 / 2) (va_cpy f (fun _ => none) 0 0 n0))) h0 (aC (a_s_ed (a_s_mc r (a_mc r + 1)) sz))) sz (oA G (n0 + n0 / 2) (va_up (va_cpy f (fun _ => none) 0 0 n0) n0 (some hv)))) h0 (aC (a_s_sz (a_s_ed (a_s_mc r (a_mc r + 1)) sz) (nI (n0 + 1))))) := by
  refine me_W (by decide) (Nat.le_of_ble_eq_true rfl) ?_
  intro p e s m below meth c ls hx hb hr hlocks hml hown hname ht hsz hM hK hZ hl
  have hown : s.vm.findClass RR_A = some m.cls := hown
  have hl : lv_has ls 2 [(0, .ref h0), (1, .ref hv)] := hl
  have hS : va_S (fr M sz) s.heap s.heap [] := va_S.rf
  have hF : ∀ q, M q ≠ none → fr M sz q := fr_M
  have hA : ∀ q, s.heap.size ≤ q → fr M sz q := fun q h => fr_A q (by rw [← hsz]; exact h)
  have hn9 : M sz = none := hm_new hM (by rw [hsz]; exact Nat.le_refl _)
  have m0' := m0
  have me' := me
  refine lv_aload_n hx hb dd_A_add_0 rfl (lv_at hl 0 rfl) ?_
  refine lv_dup hx hb dd_A_add_1 rfl ?_
  refine mg_get hx hb ht ii_A hown hK hM m0 rfl 0 (by decide) wd_1_41 (u_same (ht _ wd_1_42)) rfl dd_A_add_2 ?_
  refine lv_iconst (v := 1) hx hb dd_A_add_5 (by decide) ?_
  refine lv_iadd hx hb dd_A_add_6 ?_
  refine mg_put (v := .int ((a_mc r) + 1)) hx hb ht ii_A tt_A tt_A_ok nn_A hown hK hM hS (hF _ (by rw [m0]; exact Option.some_ne_none _)) m0 rfl 0 (by decide) wd_1_41 (u_same (ht _ wd_1_42)) (Or.inl rfl) rfl rfl rfl (Nat.le_of_ble_eq_true rfl) dd_A_add_7 (fun H locs hM hz hoq hS => ?_)
  have hsz := hz.trans hsz
  have hM : hm G (mp_up M h0 (aC (a_s_mc r ((a_mc r) + 1)))) H := hM
  have hF : ∀ z9, (mp_up M h0 (aC (a_s_mc r ((a_mc r) + 1)))) z9 ≠ none → fr M sz z9 := hF_put hF (hF _ (by rw [m0]; exact Option.some_ne_none _))
  have m0 : (mp_up M h0 (aC (a_s_mc r ((a_mc r) + 1)))) h0 = some (aC (a_s_mc r ((a_mc r) + 1))) := mp_self _ _ _
  refine lv_aload_n hx hb dd_A_add_10 rfl (lv_at hl 0 rfl) ?_
  refine lv_aload_n hx hb dd_A_add_11 rfl (lv_at hl 1 rfl) ?_
  refine lv_aload_n hx hb dd_A_add_12 rfl (lv_at hl 0 rfl) ?_
  refine mg_get hx hb ht ii_A hown hK hM m0 rfl 1 (by decide) wd_1_38 (fun _ h => h) rfl dd_A_add_13 ?_
  refine lv_aload_n hx hb dd_A_add_16 rfl (lv_at hl 0 rfl) ?_
  refine mg_get (v := .int (nI n0)) hx hb ht ii_A hown hK hM m0 rfl 2 (by decide) wd_1_39 (fun _ h => h) (congrArg (fun z => some (Value.int z)) hs) dd_A_add_17 ?_
  have hFr := hF_fr hF hS hA
  refine mx_V (As := [.ref hv, .ref (a_ed (a_s_mc r ((a_mc r) + 1))), .int (nI n0)]) (rest := []) 3 (cc_A_add3_f (r := (a_s_mc r (a_mc r + 1))) m0 (mp_at (fun z => by rw [z, m0'] at me'; cases me') me) h2 hn (fun i hi y hy => ob_up2 (hel i hi y hy) (hm_oo (hel i hi y hy) m0')) hs (ob_up2 hob (hm_oo hob m0'))) hx hb hml hown ht hM hK hZ hS hFr hl.1 lk_A_131 (by decide +kernel) (by decide) m0 rfl rfl rfl (Nat.le_of_ble_eq_true rfl) dd_A_add_20 ⟨Nat.le_of_ble_eq_true rfl, Nat.le_of_ble_eq_true rfl⟩ (fun v u H locs hp hM hd hle hk hS => ?_)
  rw [hsz] at hp
  obtain ⟨rfl, hu⟩ := hp
  rw [hu] at hM hd
  clear hu
  have hF := fun z9 h => hFr z9 (hd z9 h)
  refine lv_iconst (v := 1) hx hb dd_A_add_23 (by decide) ?_
  exact mw_i hx hb hr hlocks rfl hM hF hS (Nat.le_of_ble_eq_true rfl) (Nat.le_of_ble_eq_true rfl) ⟨rfl, rfl⟩ dd_A_add_24

set_option maxHeartbeats 4000000 in
set_option maxRecDepth 100000 in
theorem cc_A_add_e {l : Launch} {G : gC} {M : mC} {sz : Nat} {h0 : Nat} {c0 z0 : Int32} (m0 : M h0 = some (aC (c0, G.2.2.2.1, z0))) (hs : z0 = nI 0) {hv : Nat} (hob : ob_ok M hv) : cW l yy_A_add bb_A_add 2 (some .boolean) 6 1 2000 G M sz [.ref h0, .ref hv] (fun v u => v = some (.int 1) ∧ u = mp_up (mp_up (mp_up (mp_up (mp_up M h0 (aC (a_s_mc (c0, G.2.2.2.1, z0) (a_mc (c0, G.2.2.2.1, z0) + 1)))) sz (oA G 10 (fun _ => none))) h0 (aC (a_s_ed (a_s_mc (c0, G.2.2.2.1, z0) (a_mc (c0, G.2.2.2.1, z0) + 1)) sz))) sz (oA G 10 (va_up (fun _ => none) 0 (some hv)))) h0 (aC (a_s_sz (a_s_ed (a_s_mc (c0, G.2.2.2.1, z0) (a_mc (c0, G.2.2.2.1, z0) + 1)) sz) (nI (0 + 1))))) := by
  refine me_W (by decide) (Nat.le_of_ble_eq_true rfl) ?_
  intro p e s m below meth c ls hx hb hr hlocks hml hown hname ht hsz hM hK hZ hl
  have hown : s.vm.findClass RR_A = some m.cls := hown
  have hl : lv_has ls 2 [(0, .ref h0), (1, .ref hv)] := hl
  have hS : va_S (fr M sz) s.heap s.heap [] := va_S.rf
  have hF : ∀ q, M q ≠ none → fr M sz q := fr_M
  have hA : ∀ q, s.heap.size ≤ q → fr M sz q := fun q h => fr_A q (by rw [← hsz]; exact h)
  have hn9 : M sz = none := hm_new hM (by rw [hsz]; exact Nat.le_refl _)
  have m0' := m0
  refine lv_aload_n hx hb dd_A_add_0 rfl (lv_at hl 0 rfl) ?_
  refine lv_dup hx hb dd_A_add_1 rfl ?_
  refine mg_get hx hb ht ii_A hown hK hM m0 rfl 0 (by decide) wd_1_41 (u_same (ht _ wd_1_42)) rfl dd_A_add_2 ?_
  refine lv_iconst (v := 1) hx hb dd_A_add_5 (by decide) ?_
  refine lv_iadd hx hb dd_A_add_6 ?_
  refine mg_put (v := .int ((a_mc (c0, G.2.2.2.1, z0)) + 1)) hx hb ht ii_A tt_A tt_A_ok nn_A hown hK hM hS (hF _ (by rw [m0]; exact Option.some_ne_none _)) m0 rfl 0 (by decide) wd_1_41 (u_same (ht _ wd_1_42)) (Or.inl rfl) rfl rfl rfl (Nat.le_of_ble_eq_true rfl) dd_A_add_7 (fun H locs hM hz hoq hS => ?_)
  have hsz := hz.trans hsz
  have hM : hm G (mp_up M h0 (aC (a_s_mc (c0, G.2.2.2.1, z0) ((a_mc (c0, G.2.2.2.1, z0)) + 1)))) H := hM
  have hF : ∀ z9, (mp_up M h0 (aC (a_s_mc (c0, G.2.2.2.1, z0) ((a_mc (c0, G.2.2.2.1, z0)) + 1)))) z9 ≠ none → fr M sz z9 := hF_put hF (hF _ (by rw [m0]; exact Option.some_ne_none _))
  have m0 : (mp_up M h0 (aC (a_s_mc (c0, G.2.2.2.1, z0) ((a_mc (c0, G.2.2.2.1, z0)) + 1)))) h0 = some (aC (a_s_mc (c0, G.2.2.2.1, z0) ((a_mc (c0, G.2.2.2.1, z0)) + 1))) := mp_self _ _ _
  refine lv_aload_n hx hb dd_A_add_10 rfl (lv_at hl 0 rfl) ?_
  refine lv_aload_n hx hb dd_A_add_11 rfl (lv_at hl 1 rfl) ?_
  refine lv_aload_n hx hb dd_A_add_12 rfl (lv_at hl 0 rfl) ?_
  refine mg_get hx hb ht ii_A hown hK hM m0 rfl 1 (by decide) wd_1_38 (fun _ h => h) rfl dd_A_add_13 ?_
  refine lv_aload_n hx hb dd_A_add_16 rfl (lv_at hl 0 rfl) ?_
  refine mg_get (v := .int (nI 0)) hx hb ht ii_A hown hK hM m0 rfl 2 (by decide) wd_1_39 (fun _ h => h) (congrArg (fun z => some (Value.int z)) hs) dd_A_add_17 ?_
  have hFr := hF_fr hF hS hA
  refine mx_V (As := [.ref hv, .ref (a_ed (a_s_mc (c0, G.2.2.2.1, z0) ((a_mc (c0, G.2.2.2.1, z0)) + 1))), .int (nI 0)]) (rest := []) 3 (cc_A_add3_e m0 hs (ob_up2 hob (hm_oo hob m0'))) hx hb hml hown ht hM hK hZ hS hFr hl.1 lk_A_131 (by decide +kernel) (by decide) m0 rfl rfl rfl (Nat.le_of_ble_eq_true rfl) dd_A_add_20 ⟨Nat.le_of_ble_eq_true rfl, Nat.le_of_ble_eq_true rfl⟩ (fun v u H locs hp hM hd hle hk hS => ?_)
  rw [hsz] at hp
  obtain ⟨rfl, hu⟩ := hp
  rw [hu] at hM hd
  clear hu
  have hF := fun z9 h => hFr z9 (hd z9 h)
  refine lv_iconst (v := 1) hx hb dd_A_add_23 (by decide) ?_
  exact mw_i hx hb hr hlocks rfl hM hF hS (Nat.le_of_ble_eq_true rfl) (Nat.le_of_ble_eq_true rfl) ⟨rfl, rfl⟩ dd_A_add_24
end
section
/-! LISTS: what an ArrayList of n objects is in a map, and add as one contract -/
def hm_any (G : gC) (M : mC) (sz : Nat) : Prop := ∃ H : Heap, H.size = sz ∧ hm G M H
theorem cW_mono {l : Launch} {y : MethodName} {b : ByteArray} {n : Nat} {ret : Option FieldType} {d mc ms : Nat} {G : gC} {M : mC} {sz : Nat} {av : List Value} {post post' : Option Value → mC → Prop} (h : cW l y b n ret d mc ms G M sz av post) (hp : hm_any G M sz → ∀ v u, post v u → post' v u) : cW l y b n ret d mc ms G M sz av post' := by
  intro p e h1 h2 h3 s m args below h4 h5 h6 h7
  obtain ⟨k, o, g1, g2, g3, g4, g5⟩ := h p e h1 h2 h3 s m args below h4 h5 h6 h7
  obtain ⟨⟨v, u, q1, q2, q3⟩, q4⟩ := g4
  exact ⟨k, o, g1, g2, g3, ⟨⟨v, u, q1, hp ⟨s.heap, h6.2.1, h6.2.2.1⟩ v u q2, q3⟩, q4⟩, g5⟩
/-- a list at a, its array at ed, that holds the objects g 0 .. g (n - 1) -/
def ls_ok (G : gC) (M : mC) (a ed n : Nat) (g : Nat → Nat) : Prop := ∃ c : Int32, M a = some (aC (c, ed, nI n)) ∧ ((n = 0 ∧ ed = G.2.2.2.1) ∨ ∃ (cap : Nat) (f : Nat → Option Nat), M ed = some (oA G cap f) ∧ n ≤ cap ∧ 2 ≤ cap ∧ cap ≤ 1000 ∧ ∀ i, i < n → f i = some (g i))
theorem ls_obj {G : gC} {M : mC} {a ed n : Nat} {g : Nat → Nat} (h : ls_ok G M a ed n g) : ∃ c : Int32, M a = some (aC (c, ed, nI n)) := h.elim fun c h => ⟨c, h.1⟩
theorem oa_ne {G : gC} {M : mC} {a b cap : Nat} {f : Nat → Option Nat} {r : aR} (ha : M a = some (aC r)) (hb : M b = some (oA G cap f)) : a ≠ b := fun z => by rw [z, hb] at ha; cases ha
/-- add: one more -/
theorem cc_A_add {l : Launch} {G : gC} {M : mC} {sz a ed n hv : Nat} {g : Nat → Nat} (hL : ls_ok G M a ed n g) (hn : n ≤ 600) (hob : ob_ok M hv) (hg : ∀ i, i < n → ob_ok M (g i)) : cW l yy_A_add bb_A_add 2 (some .boolean) 6 1 2000 G M sz [.ref a, .ref hv]
    (fun v u => v = some (.int 1) ∧ ∃ ed', ls_ok G u a ed' (n + 1) (va_up g n hv) ∧ ((ed' = ed ∧ ∃ (cap : Nat) (f : Nat → Option Nat), M ed = some (oA G cap f)) ∨ (ed' = sz ∧ M sz = none)) ∧ ∀ q, q ≠ a → q ≠ ed' → u q = M q) := by
  obtain ⟨c, m0, hE | ⟨cap, f, me, hcap, h2, h1000, hf⟩⟩ := hL
  · obtain ⟨rfl, rfl⟩ := hE
    refine cW_mono (cc_A_add_e m0 rfl hob) (fun hh v u hp => ?_)
    have hn9 : M sz = none := hh.elim fun H h => hm_new h.2 (by rw [h.1]; exact Nat.le_refl _)
    have hne : a ≠ sz := hm_ne m0 hn9
    refine ⟨hp.1, sz, ?_, Or.inr ⟨rfl, hn9⟩, fun q q1 q2 => ?_⟩
    · rw [hp.2]
      refine ⟨_, mp_self _ _ _, Or.inr ⟨10, va_up (fun _ => none) 0 (some hv), ?_, by omega, by omega, by omega, fun i hi => ?_⟩⟩
      · exact mp_at (Ne.symm hne) (mp_self _ _ _)
      · have h0 : i = 0 := by omega
        subst h0
        rw [va_up_self, va_up_self]
    · rw [hp.2, mp_ne q1, mp_ne q2, mp_ne q1, mp_ne q2, mp_ne q1]
  · rcases Nat.lt_or_ge n cap with hlt | hge
    · refine cW_mono (cc_A_add_r (k := n) m0 me hlt h1000 rfl hob) (fun hh v u hp => ?_)
      have hne : a ≠ ed := oa_ne m0 me
      refine ⟨hp.1, ed, ?_, Or.inl ⟨rfl, cap, f, me⟩, fun q q1 q2 => ?_⟩
      · rw [hp.2]
        refine ⟨_, mp_self _ _ _, Or.inr ⟨cap, va_up f n (some hv), ?_, by omega, h2, h1000, fun i hi => ?_⟩⟩
        · exact mp_at (Ne.symm hne) (mp_self _ _ _)
        · by_cases hi2 : i = n
          · subst hi2
            rw [va_up_self, va_up_self]
          · rw [va_up_ne _ _ hi2, va_up_ne _ _ hi2]
            exact hf i (by omega)
      · rw [hp.2, mp_ne q1, mp_ne q2, mp_ne q1]
    · have hnc : n = cap := by omega
      subst hnc
      refine cW_mono (cc_A_add_f m0 me h2 hn (fun i hi y hy => ?_) rfl hob) (fun hh v u hp => ?_)
      · rw [hf i hi] at hy
        cases hy
        exact hg i hi
      · have hn9 : M sz = none := hh.elim fun H h => hm_new h.2 (by rw [h.1]; exact Nat.le_refl _)
        have hne : a ≠ sz := hm_ne m0 hn9
        refine ⟨hp.1, sz, ?_, Or.inr ⟨rfl, hn9⟩, fun q q1 q2 => ?_⟩
        · rw [hp.2]
          refine ⟨_, mp_self _ _ _, Or.inr ⟨n + n / 2, va_up (va_cpy f (fun _ => none) 0 0 n) n (some hv), ?_, by omega, by omega, by omega, fun i hi => ?_⟩⟩
          · exact mp_at (Ne.symm hne) (mp_self _ _ _)
          · by_cases hi2 : i = n
            · subst hi2
              rw [va_up_self, va_up_self]
            · rw [va_up_ne _ _ hi2, va_up_ne _ _ hi2, pk_cpy_in (Nat.zero_le _) (by omega), Nat.sub_zero, Nat.zero_add]
              exact hf i (by omega)
        · rw [hp.2, mp_ne q1, mp_ne q2, mp_ne q1, mp_ne q2, mp_ne q1]
end
section
set_option maxHeartbeats 4000000 in
set_option maxRecDepth 100000 in
theorem cc_A_clear_f {l : Launch} {G : gC} {M : mC} {sz : Nat} {h0 ed n cap : Nat} {c0 : Int32} {f : Nat → Option Nat} {g : Nat → Nat} (m0 : M h0 = some (aC (c0, ed, nI n))) (me : M ed = some (oA G cap f)) (hc : n ≤ cap) (h2 : 2 ≤ cap) (h1000 : cap ≤ 1000) : cW l yy_A_clear bb_A_clear 4 none 0 0 0 G M sz [.ref h0] (fun v u => v = none ∧ ls_ok G u h0 ed 0 g ∧ ∀ q, q ≠ h0 → q ≠ ed → u q = M q) := by
  refine me_W (by decide) (Nat.le_of_ble_eq_true rfl) ?_
  intro p e s m below meth c ls hx hb hr hlocks hml hown hname ht hsz hM hK hZ hl
  have hown : s.vm.findClass RR_A = some m.cls := hown
  have hl : lv_has ls 4 [(0, .ref h0)] := hl
  have hS : va_S (fr M sz) s.heap s.heap [] := va_S.rf
  have hF : ∀ q, M q ≠ none → fr M sz q := fr_M
  have hA : ∀ q, s.heap.size ≤ q → fr M sz q := fun q h => fr_A q (by rw [← hsz]; exact h)
  have hne : h0 ≠ ed := oa_ne m0 me
  have loop : ∀ (k i : Nat) (ls : Array Slot) (H : Heap) (locs : List Loc) (N : mC) (f : Nat → Option Nat), i + k = n → lv_has ls 4 [(3, .int (nI i)), (2, .int (nI n)), (1, .ref ed), (0, .ref h0)] → hm G N H → (∀ q, N q ≠ none → fr M sz q) → va_S (fr M sz) s.heap H locs → N h0 = some (aC (c0 + 1, ed, 0)) → N ed = some (oA G cap f) → (∀ q, q ≠ h0 → q ≠ ed → N q = M q) → W p l e (rd 0 0 0) s m ([.ref h0] : List Value).toArray below meth c H locs 0 0 (MQ below (cQ G M sz (fun v u => v = none ∧ ls_ok G u h0 ed 0 g ∧ ∀ q, q ≠ h0 → q ≠ ed → u q = M q)) ([.ref h0] : List Value).toArray s 0 0 (fr M sz)) (F0 m 27 ls []) := by
    intro k
    induction k with
    | zero =>
      intro i ls H locs N f hik hl hM hF hS m0 me hq
      refine lv_iload_n hx hb dd_A_clear_27 rfl (lv_at hl 0 rfl) ?_
      refine lv_iload_n hx hb dd_A_clear_28 rfl (lv_at hl 1 rfl) ?_
      refine lv_icmp_ge (tgt := 42) hx hb dd_A_clear_29 (by decide) (fun _ => ?_) (fun z => absurd (nI_le (a := n) (b := i) (by omega) (by omega)) z)
      exact mw_v hx hb hr hlocks hM hF hS (Nat.zero_le _) (Nat.zero_le _) ⟨rfl, ⟨_, m0, Or.inr ⟨cap, f, me, Nat.zero_le _, h2, h1000, fun i hi => absurd hi (Nat.not_lt_zero _)⟩⟩, hq⟩ dd_A_clear_42
    | succ k ih =>
      intro i ls H locs N f hik hl hM hF hS m0 me hq
      refine lv_iload_n hx hb dd_A_clear_27 rfl (lv_at hl 0 rfl) ?_
      refine lv_iload_n hx hb dd_A_clear_28 rfl (lv_at hl 1 rfl) ?_
      refine lv_icmp_ge (tgt := 42) hx hb dd_A_clear_29 (by decide) (fun z => absurd z (nI_ge (a := i) (b := n) (by omega) (by omega))) (fun _ => ?_)
      refine lv_aload_n hx hb dd_A_clear_32 rfl (lv_at hl 2 rfl) ?_
      refine lv_iload_n hx hb dd_A_clear_33 rfl (lv_at hl 0 rfl) ?_
      refine lv_null hx hb dd_A_clear_34 ?_
      refine mg_aastN hx hb hK hM hS (hF _ (by rw [me]; exact Option.some_ne_none _)) me (vp_in_nI (show i < cap by omega) (by omega)) dd_A_clear_35 (fun H locs hM hz hS => ?_)
      obtain ⟨x1, ex1⟩ : ∃ y : Int32, y = (nI i) + 1 := ⟨_, rfl⟩
      refine lv_iinc (v := x1) (lv' := [(3, .int x1), (2, .int (nI n)), (1, .ref ed), (0, .ref h0)]) hx hb dd_A_clear_36 hl (k := 0) rfl (by rw [ex1]; rfl) (by decide) rfl (fun ls hl => ?_)
      refine lv_goto (tgt := 27) hx hb dd_A_clear_39 (by decide) ?_
      rw [ex1, nI_1] at hl
      exact ih (i + 1) ls H locs _ _ (by omega) hl hM (hF_put hF (hF _ (by rw [me]; exact Option.some_ne_none _))) hS (mp_at (oa_ne m0 me) m0) (mp_self _ _ _) (fun q q1 q2 => (mp_ne q2).trans (hq q q1 q2))
  refine lv_aload_n hx hb dd_A_clear_0 rfl (lv_at hl 0 rfl) ?_
  refine lv_dup hx hb dd_A_clear_1 rfl ?_
  refine mg_get hx hb ht ii_A hown hK hM m0 rfl 0 (by decide) wd_1_41 (u_same (ht _ wd_1_42)) rfl dd_A_clear_2 ?_
  refine lv_iconst (v := 1) hx hb dd_A_clear_5 (by decide) ?_
  refine lv_iadd hx hb dd_A_clear_6 ?_
  refine mg_put (v := .int ((a_mc (c0, ed, nI n)) + 1)) hx hb ht ii_A tt_A tt_A_ok nn_A hown hK hM hS (hF _ (by rw [m0]; exact Option.some_ne_none _)) m0 rfl 0 (by decide) wd_1_41 (u_same (ht _ wd_1_42)) (Or.inl rfl) rfl rfl rfl (Nat.le_of_ble_eq_true rfl) dd_A_clear_7 (fun H locs hM hz hoq hS => ?_)
  have hsz := hz.trans hsz
  have hM : hm G (mp_up M h0 (aC (a_s_mc (c0, ed, nI n) ((a_mc (c0, ed, nI n)) + 1)))) H := hM
  have hF : ∀ z9, (mp_up M h0 (aC (a_s_mc (c0, ed, nI n) ((a_mc (c0, ed, nI n)) + 1)))) z9 ≠ none → fr M sz z9 := hF_put hF (hF _ (by rw [m0]; exact Option.some_ne_none _))
  have m0 : (mp_up M h0 (aC (a_s_mc (c0, ed, nI n) ((a_mc (c0, ed, nI n)) + 1)))) h0 = some (aC (a_s_mc (c0, ed, nI n) ((a_mc (c0, ed, nI n)) + 1))) := mp_self _ _ _
  refine lv_aload_n hx hb dd_A_clear_10 rfl (lv_at hl 0 rfl) ?_
  refine mg_get hx hb ht ii_A hown hK hM m0 rfl 1 (by decide) wd_1_38 (fun _ h => h) rfl dd_A_clear_11 ?_
  refine lv_astore_n (lv' := [(1, .ref (a_ed (a_s_mc (c0, ed, nI n) ((a_mc (c0, ed, nI n)) + 1)))), (0, .ref h0)]) hx hb dd_A_clear_14 rfl hl (by decide) rfl (fun ls hl => ?_)
  refine lv_aload_n hx hb dd_A_clear_15 rfl (lv_at hl 1 rfl) ?_
  refine mg_get hx hb ht ii_A hown hK hM m0 rfl 2 (by decide) wd_1_39 (fun _ h => h) rfl dd_A_clear_16 ?_
  refine lv_istore_n (lv' := [(2, .int (a_sz (a_s_mc (c0, ed, nI n) ((a_mc (c0, ed, nI n)) + 1)))), (1, .ref (a_ed (a_s_mc (c0, ed, nI n) ((a_mc (c0, ed, nI n)) + 1)))), (0, .ref h0)]) hx hb dd_A_clear_19 rfl hl (by decide) rfl (fun ls hl => ?_)
  refine lv_aload_n hx hb dd_A_clear_20 rfl (lv_at hl 2 rfl) ?_
  refine lv_iconst (v := 0) hx hb dd_A_clear_21 (by decide) ?_
  refine lv_dup_x1 hx hb dd_A_clear_22 rfl rfl ?_
  refine mg_put (v := .int 0) hx hb ht ii_A tt_A tt_A_ok nn_A hown hK hM hS (hF _ (by rw [m0]; exact Option.some_ne_none _)) m0 rfl 2 (by decide) wd_1_39 (fun _ h => h) (Or.inl rfl) rfl rfl rfl (Nat.le_of_ble_eq_true rfl) dd_A_clear_23 (fun H locs hM hz hoq hS => ?_)
  have hsz := hz.trans hsz
  rw [mp_mp] at hM
  have hM : hm G (mp_up M h0 (aC (a_s_sz (a_s_mc (c0, ed, nI n) ((a_mc (c0, ed, nI n)) + 1)) 0))) H := hM
  have hF : ∀ z9, (mp_up M h0 (aC (a_s_sz (a_s_mc (c0, ed, nI n) ((a_mc (c0, ed, nI n)) + 1)) 0))) z9 ≠ none → fr M sz z9 := hF_same hF
  have m0 : (mp_up M h0 (aC (a_s_sz (a_s_mc (c0, ed, nI n) ((a_mc (c0, ed, nI n)) + 1)) 0))) h0 = some (aC (a_s_sz (a_s_mc (c0, ed, nI n) ((a_mc (c0, ed, nI n)) + 1)) 0)) := mp_self _ _ _
  refine lv_istore_n (lv' := [(3, .int 0), (2, .int (a_sz (a_s_mc (c0, ed, nI n) ((a_mc (c0, ed, nI n)) + 1)))), (1, .ref (a_ed (a_s_mc (c0, ed, nI n) ((a_mc (c0, ed, nI n)) + 1)))), (0, .ref h0)]) hx hb dd_A_clear_26 rfl hl (by decide) rfl (fun ls hl => ?_)
  exact loop n 0 ls H locs _ f (by omega) hl hM hF hS m0 (mp_at (Ne.symm hne) me) (fun q q1 q2 => mp_ne q1)

set_option maxHeartbeats 4000000 in
set_option maxRecDepth 100000 in
theorem cc_A_clear_e {l : Launch} {G : gC} {M : mC} {sz : Nat} {h0 ed : Nat} {c0 : Int32} {g : Nat → Nat} (m0 : M h0 = some (aC (c0, ed, nI 0))) (he : ed = G.2.2.2.1) : cW l yy_A_clear bb_A_clear 4 none 0 0 0 G M sz [.ref h0] (fun v u => v = none ∧ ls_ok G u h0 ed 0 g ∧ ∀ q, q ≠ h0 → q ≠ ed → u q = M q) := by
  refine me_W (by decide) (Nat.le_of_ble_eq_true rfl) ?_
  intro p e s m below meth c ls hx hb hr hlocks hml hown hname ht hsz hM hK hZ hl
  have hown : s.vm.findClass RR_A = some m.cls := hown
  have hl : lv_has ls 4 [(0, .ref h0)] := hl
  have hS : va_S (fr M sz) s.heap s.heap [] := va_S.rf
  have hF : ∀ q, M q ≠ none → fr M sz q := fr_M
  have hA : ∀ q, s.heap.size ≤ q → fr M sz q := fun q h => fr_A q (by rw [← hsz]; exact h)
  refine lv_aload_n hx hb dd_A_clear_0 rfl (lv_at hl 0 rfl) ?_
  refine lv_dup hx hb dd_A_clear_1 rfl ?_
  refine mg_get hx hb ht ii_A hown hK hM m0 rfl 0 (by decide) wd_1_41 (u_same (ht _ wd_1_42)) rfl dd_A_clear_2 ?_
  refine lv_iconst (v := 1) hx hb dd_A_clear_5 (by decide) ?_
  refine lv_iadd hx hb dd_A_clear_6 ?_
  refine mg_put (v := .int ((a_mc (c0, ed, nI 0)) + 1)) hx hb ht ii_A tt_A tt_A_ok nn_A hown hK hM hS (hF _ (by rw [m0]; exact Option.some_ne_none _)) m0 rfl 0 (by decide) wd_1_41 (u_same (ht _ wd_1_42)) (Or.inl rfl) rfl rfl rfl (Nat.le_of_ble_eq_true rfl) dd_A_clear_7 (fun H locs hM hz hoq hS => ?_)
  have hsz := hz.trans hsz
  have hM : hm G (mp_up M h0 (aC (a_s_mc (c0, ed, nI 0) ((a_mc (c0, ed, nI 0)) + 1)))) H := hM
  have hF : ∀ z9, (mp_up M h0 (aC (a_s_mc (c0, ed, nI 0) ((a_mc (c0, ed, nI 0)) + 1)))) z9 ≠ none → fr M sz z9 := hF_put hF (hF _ (by rw [m0]; exact Option.some_ne_none _))
  have m0 : (mp_up M h0 (aC (a_s_mc (c0, ed, nI 0) ((a_mc (c0, ed, nI 0)) + 1)))) h0 = some (aC (a_s_mc (c0, ed, nI 0) ((a_mc (c0, ed, nI 0)) + 1))) := mp_self _ _ _
  refine lv_aload_n hx hb dd_A_clear_10 rfl (lv_at hl 0 rfl) ?_
  refine mg_get hx hb ht ii_A hown hK hM m0 rfl 1 (by decide) wd_1_38 (fun _ h => h) rfl dd_A_clear_11 ?_
  refine lv_astore_n (lv' := [(1, .ref (a_ed (a_s_mc (c0, ed, nI 0) ((a_mc (c0, ed, nI 0)) + 1)))), (0, .ref h0)]) hx hb dd_A_clear_14 rfl hl (by decide) rfl (fun ls hl => ?_)
  refine lv_aload_n hx hb dd_A_clear_15 rfl (lv_at hl 1 rfl) ?_
  refine mg_get hx hb ht ii_A hown hK hM m0 rfl 2 (by decide) wd_1_39 (fun _ h => h) rfl dd_A_clear_16 ?_
  refine lv_istore_n (lv' := [(2, .int (a_sz (a_s_mc (c0, ed, nI 0) ((a_mc (c0, ed, nI 0)) + 1)))), (1, .ref (a_ed (a_s_mc (c0, ed, nI 0) ((a_mc (c0, ed, nI 0)) + 1)))), (0, .ref h0)]) hx hb dd_A_clear_19 rfl hl (by decide) rfl (fun ls hl => ?_)
  refine lv_aload_n hx hb dd_A_clear_20 rfl (lv_at hl 2 rfl) ?_
  refine lv_iconst (v := 0) hx hb dd_A_clear_21 (by decide) ?_
  refine lv_dup_x1 hx hb dd_A_clear_22 rfl rfl ?_
  refine mg_put (v := .int 0) hx hb ht ii_A tt_A tt_A_ok nn_A hown hK hM hS (hF _ (by rw [m0]; exact Option.some_ne_none _)) m0 rfl 2 (by decide) wd_1_39 (fun _ h => h) (Or.inl rfl) rfl rfl rfl (Nat.le_of_ble_eq_true rfl) dd_A_clear_23 (fun H locs hM hz hoq hS => ?_)
  have hsz := hz.trans hsz
  rw [mp_mp] at hM
  have hM : hm G (mp_up M h0 (aC (a_s_sz (a_s_mc (c0, ed, nI 0) ((a_mc (c0, ed, nI 0)) + 1)) 0))) H := hM
  have hF : ∀ z9, (mp_up M h0 (aC (a_s_sz (a_s_mc (c0, ed, nI 0) ((a_mc (c0, ed, nI 0)) + 1)) 0))) z9 ≠ none → fr M sz z9 := hF_same hF
  have m0 : (mp_up M h0 (aC (a_s_sz (a_s_mc (c0, ed, nI 0) ((a_mc (c0, ed, nI 0)) + 1)) 0))) h0 = some (aC (a_s_sz (a_s_mc (c0, ed, nI 0) ((a_mc (c0, ed, nI 0)) + 1)) 0)) := mp_self _ _ _
  refine lv_istore_n (lv' := [(3, .int 0), (2, .int (a_sz (a_s_mc (c0, ed, nI 0) ((a_mc (c0, ed, nI 0)) + 1)))), (1, .ref (a_ed (a_s_mc (c0, ed, nI 0) ((a_mc (c0, ed, nI 0)) + 1)))), (0, .ref h0)]) hx hb dd_A_clear_26 rfl hl (by decide) rfl (fun ls hl => ?_)
  refine lv_iload_n hx hb dd_A_clear_27 rfl (lv_at hl 0 rfl) ?_
  refine lv_iload_n hx hb dd_A_clear_28 rfl (lv_at hl 1 rfl) ?_
  refine lv_icmp_ge (tgt := 42) hx hb dd_A_clear_29 (by decide) (fun _ => ?_) (fun z => absurd (show nI 0 ≤ 0 by decide) z)
  exact mw_v hx hb hr hlocks hM hF hS (Nat.zero_le _) (Nat.zero_le _) ⟨rfl, ⟨_, mp_self _ _ _, Or.inl ⟨rfl, he⟩⟩, fun q q1 q2 => mp_ne q1⟩ dd_A_clear_42

theorem cc_A_clear {l : Launch} {G : gC} {M : mC} {sz a ed n : Nat} {g g' : Nat → Nat} (hL : ls_ok G M a ed n g) : cW l yy_A_clear bb_A_clear 4 none 0 0 0 G M sz [.ref a] (fun v u => v = none ∧ ls_ok G u a ed 0 g' ∧ ∀ q, q ≠ a → q ≠ ed → u q = M q) := by
  obtain ⟨c, m0, ⟨rfl, he⟩ | ⟨cap, f, me, hcap, h2, h1000, hf⟩⟩ := hL
  · exact cc_A_clear_e m0 he
  · exact cc_A_clear_f m0 me hcap h2 h1000
theorem ls_size {l : Launch} {G : gC} {M : mC} {a ed n : Nat} {g : Nat → Nat} (hL : ls_ok G M a ed n g) : cR l yy_A_size bb_A_size 1 (some .int) 0 G M [.ref a] (.int (nI n)) := by
  obtain ⟨c, m0, -⟩ := hL
  exact cc_A_size m0
theorem ls_get {l : Launch} {G : gC} {M : mC} {a ed n i : Nat} {g : Nat → Nat} (hL : ls_ok G M a ed n g) (hi : i < n) : cR l yy_A_get bb_A_get 2 (some (.object "java/lang/Object")) 2 G M [.ref a, .int (nI i)] (.ref (g i)) := by
  obtain ⟨c, m0, ⟨rfl, -⟩ | ⟨cap, f, me, hcap, h2, h1000, hf⟩⟩ := hL
  · omega
  · have h := cc_A_get (l := l) (i := nI i) m0 me (vp_in_nI (by omega) (by omega)) (nI_pos (by omega)) (nI_lt hi (by omega))
    rw [nI_clamp (by omega), hf i hi] at h
    exact h
end
section
/-- the types' array of a definition with one more -/
abbrev d_s2 (d : dR) : dR := d_s_np d (d_np d + 1)
def n_fitsV (r q : nR) (hd d : dR) (pt : Nat → Int32) : Bool := match n_pa r with
  | none => decide (n_vt r = d_vt hd)
  | some _ => n_admits q d pt (n_pl r) (n_vt r)
/-- the chain of parents: records from a reference on -/
def chn (M : mC) : Option Nat → List nR → Prop
  | none, [] => True
  | some a, r :: L => M a = some (nC r) ∧ chn M (n_pa r) L
  | _, _ => False
/-- where 'open' comes to rest: the first of the chain that lacks parts -/
def d_rest : Option Nat → List nR → Option Nat
  | some a, r :: L => if n_fl r < n_pt r then some a else d_rest (n_pa r) L
  | _, _ => none
/-- the binder of a name: the first parent that binds it in its last part, below which the name stands -/
def n_bnd (x : Int64) (r : nR) : List nR → Option nR
  | [] => none
  | q :: L => if (n_isLast r q && n_binds q x) = true then some q else n_bnd x q L
set_option maxHeartbeats 4000000 in
set_option maxRecDepth 100000 in
theorem cc_N_fits {l : Launch} {G : gC} {M : mC} {h0 : Nat} {r : nR} (m0 : M h0 = some (nC r)) {hd : dR} (md : M (n_ho r) = some (dC hd)) {q : nR} (mp : ∀ y, n_pa r = some y → M y = some (nC q)) {d : dR} {pt : Nat → Int32} (mq : ∀ y, n_ca q = some y → M y = some (dC d)) (mt : n_ca q ≠ none → M (d_apt d) = some (iA G 8 pt)) : cR l yy_N_fits bb_N_fits 1 (some .boolean) 2 G M [.ref h0] (.int (bI (n_fitsV r q hd d pt))) := by
  refine me_R (by decide) (Nat.le_of_ble_eq_true rfl) ?_
  intro p e s m below meth c ls hx hb hr hlocks hml hown ht hM hK hl
  have hown : s.vm.findClass RR_N = some m.cls := hown
  have hl : lv_has ls 1 [(0, .ref h0)] := hl
  refine lv_aload_n hx hb dd_N_fits_0 rfl (lv_at hl 0 rfl) ?_
  refine mg_get hx hb ht ii_N hown hK hM m0 rfl 2 (by decide) wd_2_36 (fun _ h => h) rfl dd_N_fits_1 ?_
  refine lr_ifnonnull (tgt := 29) hx hb dd_N_fits_4 (by decide) (fun y1 ey1 => ?_) (fun ey1 => ?_)
  · have my1 := mp y1 ey1
    refine lv_aload_n hx hb dd_N_fits_29 rfl (lv_at hl 0 rfl) ?_
    refine mg_get (v := .ref y1) hx hb ht ii_N hown hK hM m0 rfl 2 (by decide) wd_2_36 (fun _ h => h) (congrArg (fun z => some (va_rf z)) ey1) dd_N_fits_30 ?_
    refine lv_aload_n hx hb dd_N_fits_33 rfl (lv_at hl 0 rfl) ?_
    refine mg_get hx hb ht ii_N hown hK hM m0 rfl 3 (by decide) wd_2_39 (fun _ h => h) rfl dd_N_fits_34 ?_
    refine lv_aload_n hx hb dd_N_fits_37 rfl (lv_at hl 0 rfl) ?_
    refine mg_get hx hb ht ii_N hown hK hM m0 rfl 9 (by decide) wd_2_52 (fun _ h => h) rfl dd_N_fits_38 ?_
    refine mc_V (As := [.int (n_pl r), .int (n_vt r)]) (rest := []) 2 (cc_N_admits my1 mq mt (k := (n_pl r)) (t := (n_vt r))) hx hb hml hown ht hM hK hl.1 lk_N_101 (by decide +kernel) (by decide) my1 rfl rfl rfl (Nat.le_of_ble_eq_true rfl) dd_N_fits_41 ⟨Nat.zero_le _, Nat.zero_le _⟩ ?_
    exact mr_i hx hb hr hlocks bI_z (by simp [bI, n_fitsV, ey1]) dd_N_fits_44
  · refine lv_aload_n hx hb dd_N_fits_7 rfl (lv_at hl 0 rfl) ?_
    refine mg_get hx hb ht ii_N hown hK hM m0 rfl 9 (by decide) wd_2_52 (fun _ h => h) rfl dd_N_fits_8 ?_
    refine lv_aload_n hx hb dd_N_fits_11 rfl (lv_at hl 0 rfl) ?_
    refine mg_get hx hb ht ii_N hown hK hM m0 rfl 1 (by decide) wd_2_34 (fun _ h => h) rfl dd_N_fits_12 ?_
    refine mg_get hx hb ht ii_D hown hK hM md rfl 3 (by decide) wd_1_135 (fun _ h => h) rfl dd_N_fits_15 ?_
    refine lv_icmp_ne (tgt := 25) hx hb dd_N_fits_18 (by decide) (fun c2 => ?_) (fun c2 => ?_)
    · refine lv_iconst (v := 0) hx hb dd_N_fits_25 (by decide) ?_
      refine lv_goto (tgt := 44) hx hb dd_N_fits_26 (by decide) ?_
      exact mr_i hx hb hr hlocks rfl (by simp [bI, n_fitsV, ey1, c2]) dd_N_fits_44
    · refine lv_iconst (v := 1) hx hb dd_N_fits_21 (by decide) ?_
      refine lv_goto (tgt := 44) hx hb dd_N_fits_22 (by decide) ?_
      exact mr_i hx hb hr hlocks rfl (by simp [bI, n_fitsV, ey1, eq_true c2]) dd_N_fits_44

set_option maxHeartbeats 4000000 in
set_option maxRecDepth 100000 in
theorem cc_D_init {l : Launch} {G : gC} {M : mC} {sz : Nat} {h0 : Nat} (m0 : M h0 = some (.inr (1, [.int 0, .int 0, .long 0, .int 0, .null, .null, .int 0, .int 0, .null]))) {k0 k3 : Int32} {k1 : Bool} {k2 : Int64} : cW l yy_D_init bb_D_init 6 none 1 2 16 G M sz [.ref h0, .int k0, .int (bI k1), .long k2, .int k3] (fun v u => v = none ∧ u = mp_up (mp_up (mp_up (mp_up M sz (lA G 8 (fun _ => 0))) h0 (.inr (1, [.int 0, .int 0, .long 0, .int 0, .ref sz, .null, .int 0, .int 0, .null]))) (sz + 1) (iA G 8 (fun _ => 0))) h0 (dC (k0, k1, k2, k3, sz, sz + 1, 0, false, none))) := by
  refine me_W (by decide) (Nat.le_of_ble_eq_true rfl) ?_
  intro p e s m below meth c ls hx hb hr hlocks hml hown hname ht hsz hM hK hZ hl
  have hown : s.vm.findClass RR_D = some m.cls := hown
  have hl : lv_has ls 6 [(0, .ref h0), (1, .int k0), (2, .int (bI k1)), (3, .long k2), (5, .int k3)] := hl
  have hS : va_S (fr M sz) s.heap s.heap [] := va_S.rf
  have hF : ∀ q, M q ≠ none → fr M sz q := fr_M
  have hA : ∀ q, s.heap.size ≤ q → fr M sz q := fun q h => fr_A q (by rw [← hsz]; exact h)
  refine lv_aload_n hx hb dd_D_init_0 rfl (lv_at hl 0 rfl) ?_
  refine W.objInit hx hb hown (ht _ wd_1_126) (ht _ wd_1_22) (ht _ wd_1_23) rfl (by rw [hml]; exact hl.1) rfl dd_D_init_1 (Nat.le_of_ble_eq_true rfl) (Nat.le_of_ble_eq_true rfl) ?_
  refine W.eq (g2 := F0 m 4 ls []) rfl ?_
  refine lv_aload_n hx hb dd_D_init_4 rfl (lv_at hl 0 rfl) ?_
  refine lv_bipush (v := 8) hx hb dd_D_init_5 (by decide) ?_
  have hn1 : M sz = none := hm_new hM (by rw [hsz]; exact Nat.le_refl _)
  refine mg_newl (n := 8) (N := 8) hx hb ht wd_1_165 hK hM hS (by decide) (by decide) (by decide) (Nat.le_of_ble_eq_true rfl) (Nat.le_of_ble_eq_true rfl) dd_D_init_7 (fun H hM hz hS => ?_)
  rw [hsz] at hM hz ⊢
  have hsz := hz
  have hM : hm G (mp_up M sz (lA G 8 (fun _ => 0))) H := hM
  have hF : ∀ z9, (mp_up M sz (lA G 8 (fun _ => 0))) z9 ≠ none → fr M sz z9 := hF_put hF (hA _ (by have := hS.1; omega))
  have mn : (mp_up M sz (lA G 8 (fun _ => 0))) sz = some (lA G 8 (fun _ => 0)) := mp_self _ _ _
  have m0 := mp_old (M := M) (a := sz) (e := (lA G 8 (fun _ => 0))) m0 hn1
  refine mg_put (v := .ref sz) hx hb ht ii_D tt_D tt_D_ok nn_D hown hK hM hS (hF _ (by rw [m0]; exact Option.some_ne_none _)) m0 rfl 4 (by decide) wd_1_137 (fun _ h => h) (Or.inr ⟨rfl, hname, rfl⟩) rfl rfl rfl (Nat.le_of_ble_eq_true rfl) dd_D_init_9 (fun H locs hM hz hoq hS => ?_)
  have hsz := hz.trans hsz
  have hM : hm G (mp_up (mp_up M sz (lA G 8 (fun _ => 0))) h0 (.inr (1, [.int 0, .int 0, .long 0, .int 0, .ref sz, .null, .int 0, .int 0, .null]))) H := hM
  have hF : ∀ z9, (mp_up (mp_up M sz (lA G 8 (fun _ => 0))) h0 (.inr (1, [.int 0, .int 0, .long 0, .int 0, .ref sz, .null, .int 0, .int 0, .null]))) z9 ≠ none → fr M sz z9 := hF_put hF (hF _ (by rw [m0]; exact Option.some_ne_none _))
  have m0 : (mp_up (mp_up M sz (lA G 8 (fun _ => 0))) h0 (.inr (1, [.int 0, .int 0, .long 0, .int 0, .ref sz, .null, .int 0, .int 0, .null]))) h0 = some (.inr (1, [.int 0, .int 0, .long 0, .int 0, .ref sz, .null, .int 0, .int 0, .null])) := mp_self _ _ _
  refine lv_aload_n hx hb dd_D_init_12 rfl (lv_at hl 0 rfl) ?_
  refine lv_bipush (v := 8) hx hb dd_D_init_13 (by decide) ?_
  have hn2 : (mp_up (mp_up M sz (lA G 8 (fun _ => 0))) h0 (.inr (1, [.int 0, .int 0, .long 0, .int 0, .ref sz, .null, .int 0, .int 0, .null]))) (sz + 1) = none := hm_new hM (by rw [hsz]; exact Nat.le_refl _)
  refine mg_newi (n := 8) (N := 8) hx hb ht wd_1_166 hK hM hS (by decide) (by decide) (by decide) (Nat.le_of_ble_eq_true rfl) (Nat.le_of_ble_eq_true rfl) dd_D_init_15 (fun H hM hz hS => ?_)
  rw [hsz] at hM hz ⊢
  have hsz := hz
  have hM : hm G (mp_up (mp_up (mp_up M sz (lA G 8 (fun _ => 0))) h0 (.inr (1, [.int 0, .int 0, .long 0, .int 0, .ref sz, .null, .int 0, .int 0, .null]))) (sz + 1) (iA G 8 (fun _ => 0))) H := hM
  have hF : ∀ z9, (mp_up (mp_up (mp_up M sz (lA G 8 (fun _ => 0))) h0 (.inr (1, [.int 0, .int 0, .long 0, .int 0, .ref sz, .null, .int 0, .int 0, .null]))) (sz + 1) (iA G 8 (fun _ => 0))) z9 ≠ none → fr M sz z9 := hF_put hF (hA _ (by have := hS.1; omega))
  have mt : (mp_up (mp_up (mp_up M sz (lA G 8 (fun _ => 0))) h0 (.inr (1, [.int 0, .int 0, .long 0, .int 0, .ref sz, .null, .int 0, .int 0, .null]))) (sz + 1) (iA G 8 (fun _ => 0))) (sz + 1) = some (iA G 8 (fun _ => 0)) := mp_self _ _ _
  have m0 := mp_old (M := (mp_up (mp_up M sz (lA G 8 (fun _ => 0))) h0 (.inr (1, [.int 0, .int 0, .long 0, .int 0, .ref sz, .null, .int 0, .int 0, .null])))) (a := (sz + 1)) (e := (iA G 8 (fun _ => 0))) m0 hn2
  refine mg_put (v := .ref (sz + 1)) hx hb ht ii_D tt_D tt_D_ok nn_D hown hK hM hS (hF _ (by rw [m0]; exact Option.some_ne_none _)) m0 rfl 5 (by decide) wd_1_138 (fun _ h => h) (Or.inr ⟨rfl, hname, rfl⟩) rfl rfl rfl (Nat.le_of_ble_eq_true rfl) dd_D_init_17 (fun H locs hM hz hoq hS => ?_)
  have hsz := hz.trans hsz
  have hM : hm G (mp_up (mp_up (mp_up (mp_up M sz (lA G 8 (fun _ => 0))) h0 (.inr (1, [.int 0, .int 0, .long 0, .int 0, .ref sz, .null, .int 0, .int 0, .null]))) (sz + 1) (iA G 8 (fun _ => 0))) h0 (.inr (1, [.int 0, .int 0, .long 0, .int 0, .ref sz, .ref (sz + 1), .int 0, .int 0, .null]))) H := hM
  have hF : ∀ z9, (mp_up (mp_up (mp_up (mp_up M sz (lA G 8 (fun _ => 0))) h0 (.inr (1, [.int 0, .int 0, .long 0, .int 0, .ref sz, .null, .int 0, .int 0, .null]))) (sz + 1) (iA G 8 (fun _ => 0))) h0 (.inr (1, [.int 0, .int 0, .long 0, .int 0, .ref sz, .ref (sz + 1), .int 0, .int 0, .null]))) z9 ≠ none → fr M sz z9 := hF_put hF (hF _ (by rw [m0]; exact Option.some_ne_none _))
  have m0 : (mp_up (mp_up (mp_up (mp_up M sz (lA G 8 (fun _ => 0))) h0 (.inr (1, [.int 0, .int 0, .long 0, .int 0, .ref sz, .null, .int 0, .int 0, .null]))) (sz + 1) (iA G 8 (fun _ => 0))) h0 (.inr (1, [.int 0, .int 0, .long 0, .int 0, .ref sz, .ref (sz + 1), .int 0, .int 0, .null]))) h0 = some (.inr (1, [.int 0, .int 0, .long 0, .int 0, .ref sz, .ref (sz + 1), .int 0, .int 0, .null])) := mp_self _ _ _
  refine lv_aload_n hx hb dd_D_init_20 rfl (lv_at hl 0 rfl) ?_
  refine lv_iconst (v := 0) hx hb dd_D_init_21 (by decide) ?_
  refine mg_put (v := .int 0) hx hb ht ii_D tt_D tt_D_ok nn_D hown hK hM hS (hF _ (by rw [m0]; exact Option.some_ne_none _)) m0 rfl 6 (by decide) wd_1_139 (fun _ h => h) (Or.inl rfl) rfl rfl rfl (Nat.le_of_ble_eq_true rfl) dd_D_init_22 (fun H locs hM hz hoq hS => ?_)
  have hsz := hz.trans hsz
  rw [mp_mp] at hM
  have hM : hm G (mp_up (mp_up (mp_up (mp_up M sz (lA G 8 (fun _ => 0))) h0 (.inr (1, [.int 0, .int 0, .long 0, .int 0, .ref sz, .null, .int 0, .int 0, .null]))) (sz + 1) (iA G 8 (fun _ => 0))) h0 (.inr (1, [.int 0, .int 0, .long 0, .int 0, .ref sz, .ref (sz + 1), .int 0, .int 0, .null]))) H := hM
  have hF : ∀ z9, (mp_up (mp_up (mp_up (mp_up M sz (lA G 8 (fun _ => 0))) h0 (.inr (1, [.int 0, .int 0, .long 0, .int 0, .ref sz, .null, .int 0, .int 0, .null]))) (sz + 1) (iA G 8 (fun _ => 0))) h0 (.inr (1, [.int 0, .int 0, .long 0, .int 0, .ref sz, .ref (sz + 1), .int 0, .int 0, .null]))) z9 ≠ none → fr M sz z9 := hF_same hF
  have m0 : (mp_up (mp_up (mp_up (mp_up M sz (lA G 8 (fun _ => 0))) h0 (.inr (1, [.int 0, .int 0, .long 0, .int 0, .ref sz, .null, .int 0, .int 0, .null]))) (sz + 1) (iA G 8 (fun _ => 0))) h0 (.inr (1, [.int 0, .int 0, .long 0, .int 0, .ref sz, .ref (sz + 1), .int 0, .int 0, .null]))) h0 = some (.inr (1, [.int 0, .int 0, .long 0, .int 0, .ref sz, .ref (sz + 1), .int 0, .int 0, .null])) := mp_self _ _ _
  refine lv_aload_n hx hb dd_D_init_25 rfl (lv_at hl 0 rfl) ?_
  refine lv_iconst (v := 0) hx hb dd_D_init_26 (by decide) ?_
  refine mg_put (v := .int 0) hx hb ht ii_D tt_D tt_D_ok nn_D hown hK hM hS (hF _ (by rw [m0]; exact Option.some_ne_none _)) m0 rfl 7 (by decide) wd_1_142 (fun _ h => h) (Or.inl rfl) rfl rfl rfl (Nat.le_of_ble_eq_true rfl) dd_D_init_27 (fun H locs hM hz hoq hS => ?_)
  have hsz := hz.trans hsz
  rw [mp_mp] at hM
  have hM : hm G (mp_up (mp_up (mp_up (mp_up M sz (lA G 8 (fun _ => 0))) h0 (.inr (1, [.int 0, .int 0, .long 0, .int 0, .ref sz, .null, .int 0, .int 0, .null]))) (sz + 1) (iA G 8 (fun _ => 0))) h0 (.inr (1, [.int 0, .int 0, .long 0, .int 0, .ref sz, .ref (sz + 1), .int 0, .int 0, .null]))) H := hM
  have hF : ∀ z9, (mp_up (mp_up (mp_up (mp_up M sz (lA G 8 (fun _ => 0))) h0 (.inr (1, [.int 0, .int 0, .long 0, .int 0, .ref sz, .null, .int 0, .int 0, .null]))) (sz + 1) (iA G 8 (fun _ => 0))) h0 (.inr (1, [.int 0, .int 0, .long 0, .int 0, .ref sz, .ref (sz + 1), .int 0, .int 0, .null]))) z9 ≠ none → fr M sz z9 := hF_same hF
  have m0 : (mp_up (mp_up (mp_up (mp_up M sz (lA G 8 (fun _ => 0))) h0 (.inr (1, [.int 0, .int 0, .long 0, .int 0, .ref sz, .null, .int 0, .int 0, .null]))) (sz + 1) (iA G 8 (fun _ => 0))) h0 (.inr (1, [.int 0, .int 0, .long 0, .int 0, .ref sz, .ref (sz + 1), .int 0, .int 0, .null]))) h0 = some (.inr (1, [.int 0, .int 0, .long 0, .int 0, .ref sz, .ref (sz + 1), .int 0, .int 0, .null])) := mp_self _ _ _
  refine lv_aload_n hx hb dd_D_init_30 rfl (lv_at hl 0 rfl) ?_
  refine lv_null hx hb dd_D_init_31 ?_
  refine mg_put (v := .null) hx hb ht ii_D tt_D tt_D_ok nn_D hown hK hM hS (hF _ (by rw [m0]; exact Option.some_ne_none _)) m0 rfl 8 (by decide) wd_1_144 (fun _ h => h) (Or.inl rfl) rfl rfl rfl (Nat.le_of_ble_eq_true rfl) dd_D_init_32 (fun H locs hM hz hoq hS => ?_)
  have hsz := hz.trans hsz
  rw [mp_mp] at hM
  have hM : hm G (mp_up (mp_up (mp_up (mp_up M sz (lA G 8 (fun _ => 0))) h0 (.inr (1, [.int 0, .int 0, .long 0, .int 0, .ref sz, .null, .int 0, .int 0, .null]))) (sz + 1) (iA G 8 (fun _ => 0))) h0 (.inr (1, [.int 0, .int 0, .long 0, .int 0, .ref sz, .ref (sz + 1), .int 0, .int 0, .null]))) H := hM
  have hF : ∀ z9, (mp_up (mp_up (mp_up (mp_up M sz (lA G 8 (fun _ => 0))) h0 (.inr (1, [.int 0, .int 0, .long 0, .int 0, .ref sz, .null, .int 0, .int 0, .null]))) (sz + 1) (iA G 8 (fun _ => 0))) h0 (.inr (1, [.int 0, .int 0, .long 0, .int 0, .ref sz, .ref (sz + 1), .int 0, .int 0, .null]))) z9 ≠ none → fr M sz z9 := hF_same hF
  have m0 : (mp_up (mp_up (mp_up (mp_up M sz (lA G 8 (fun _ => 0))) h0 (.inr (1, [.int 0, .int 0, .long 0, .int 0, .ref sz, .null, .int 0, .int 0, .null]))) (sz + 1) (iA G 8 (fun _ => 0))) h0 (.inr (1, [.int 0, .int 0, .long 0, .int 0, .ref sz, .ref (sz + 1), .int 0, .int 0, .null]))) h0 = some (.inr (1, [.int 0, .int 0, .long 0, .int 0, .ref sz, .ref (sz + 1), .int 0, .int 0, .null])) := mp_self _ _ _
  refine lv_aload_n hx hb dd_D_init_35 rfl (lv_at hl 0 rfl) ?_
  refine lv_iload_n hx hb dd_D_init_36 rfl (lv_at hl 1 rfl) ?_
  refine mg_put (v := .int k0) hx hb ht ii_D tt_D tt_D_ok nn_D hown hK hM hS (hF _ (by rw [m0]; exact Option.some_ne_none _)) m0 rfl 0 (by decide) wd_1_127 (fun _ h => h) (Or.inr ⟨rfl, hname, rfl⟩) rfl rfl rfl (Nat.le_of_ble_eq_true rfl) dd_D_init_37 (fun H locs hM hz hoq hS => ?_)
  have hsz := hz.trans hsz
  rw [mp_mp] at hM
  have hM : hm G (mp_up (mp_up (mp_up (mp_up M sz (lA G 8 (fun _ => 0))) h0 (.inr (1, [.int 0, .int 0, .long 0, .int 0, .ref sz, .null, .int 0, .int 0, .null]))) (sz + 1) (iA G 8 (fun _ => 0))) h0 (.inr (1, [.int k0, .int 0, .long 0, .int 0, .ref sz, .ref (sz + 1), .int 0, .int 0, .null]))) H := hM
  have hF : ∀ z9, (mp_up (mp_up (mp_up (mp_up M sz (lA G 8 (fun _ => 0))) h0 (.inr (1, [.int 0, .int 0, .long 0, .int 0, .ref sz, .null, .int 0, .int 0, .null]))) (sz + 1) (iA G 8 (fun _ => 0))) h0 (.inr (1, [.int k0, .int 0, .long 0, .int 0, .ref sz, .ref (sz + 1), .int 0, .int 0, .null]))) z9 ≠ none → fr M sz z9 := hF_same hF
  have m0 : (mp_up (mp_up (mp_up (mp_up M sz (lA G 8 (fun _ => 0))) h0 (.inr (1, [.int 0, .int 0, .long 0, .int 0, .ref sz, .null, .int 0, .int 0, .null]))) (sz + 1) (iA G 8 (fun _ => 0))) h0 (.inr (1, [.int k0, .int 0, .long 0, .int 0, .ref sz, .ref (sz + 1), .int 0, .int 0, .null]))) h0 = some (.inr (1, [.int k0, .int 0, .long 0, .int 0, .ref sz, .ref (sz + 1), .int 0, .int 0, .null])) := mp_self _ _ _
  refine lv_aload_n hx hb dd_D_init_40 rfl (lv_at hl 0 rfl) ?_
  refine lv_iload_n hx hb dd_D_init_41 rfl (lv_at hl 2 rfl) ?_
  refine mg_put (v := .int (bI k1)) hx hb ht ii_D tt_D tt_D_ok nn_D hown hK hM hS (hF _ (by rw [m0]; exact Option.some_ne_none _)) m0 rfl 1 (by decide) wd_1_129 (fun _ h => h) (Or.inr ⟨rfl, hname, rfl⟩) rfl bI_z bI_f (Nat.le_of_ble_eq_true rfl) dd_D_init_42 (fun H locs hM hz hoq hS => ?_)
  have hsz := hz.trans hsz
  rw [mp_mp] at hM
  have hM : hm G (mp_up (mp_up (mp_up (mp_up M sz (lA G 8 (fun _ => 0))) h0 (.inr (1, [.int 0, .int 0, .long 0, .int 0, .ref sz, .null, .int 0, .int 0, .null]))) (sz + 1) (iA G 8 (fun _ => 0))) h0 (.inr (1, [.int k0, .int (bI k1), .long 0, .int 0, .ref sz, .ref (sz + 1), .int 0, .int 0, .null]))) H := hM
  have hF : ∀ z9, (mp_up (mp_up (mp_up (mp_up M sz (lA G 8 (fun _ => 0))) h0 (.inr (1, [.int 0, .int 0, .long 0, .int 0, .ref sz, .null, .int 0, .int 0, .null]))) (sz + 1) (iA G 8 (fun _ => 0))) h0 (.inr (1, [.int k0, .int (bI k1), .long 0, .int 0, .ref sz, .ref (sz + 1), .int 0, .int 0, .null]))) z9 ≠ none → fr M sz z9 := hF_same hF
  have m0 : (mp_up (mp_up (mp_up (mp_up M sz (lA G 8 (fun _ => 0))) h0 (.inr (1, [.int 0, .int 0, .long 0, .int 0, .ref sz, .null, .int 0, .int 0, .null]))) (sz + 1) (iA G 8 (fun _ => 0))) h0 (.inr (1, [.int k0, .int (bI k1), .long 0, .int 0, .ref sz, .ref (sz + 1), .int 0, .int 0, .null]))) h0 = some (.inr (1, [.int k0, .int (bI k1), .long 0, .int 0, .ref sz, .ref (sz + 1), .int 0, .int 0, .null])) := mp_self _ _ _
  refine lv_aload_n hx hb dd_D_init_45 rfl (lv_at hl 0 rfl) ?_
  refine lv_lload_n hx hb dd_D_init_46 rfl (lv_at hl 3 rfl) ?_
  refine mg_put (v := .long k2) hx hb ht ii_D tt_D tt_D_ok nn_D hown hK hM hS (hF _ (by rw [m0]; exact Option.some_ne_none _)) m0 rfl 2 (by decide) wd_1_132 (fun _ h => h) (Or.inr ⟨rfl, hname, rfl⟩) rfl rfl rfl (Nat.le_of_ble_eq_true rfl) dd_D_init_47 (fun H locs hM hz hoq hS => ?_)
  have hsz := hz.trans hsz
  rw [mp_mp] at hM
  have hM : hm G (mp_up (mp_up (mp_up (mp_up M sz (lA G 8 (fun _ => 0))) h0 (.inr (1, [.int 0, .int 0, .long 0, .int 0, .ref sz, .null, .int 0, .int 0, .null]))) (sz + 1) (iA G 8 (fun _ => 0))) h0 (.inr (1, [.int k0, .int (bI k1), .long k2, .int 0, .ref sz, .ref (sz + 1), .int 0, .int 0, .null]))) H := hM
  have hF : ∀ z9, (mp_up (mp_up (mp_up (mp_up M sz (lA G 8 (fun _ => 0))) h0 (.inr (1, [.int 0, .int 0, .long 0, .int 0, .ref sz, .null, .int 0, .int 0, .null]))) (sz + 1) (iA G 8 (fun _ => 0))) h0 (.inr (1, [.int k0, .int (bI k1), .long k2, .int 0, .ref sz, .ref (sz + 1), .int 0, .int 0, .null]))) z9 ≠ none → fr M sz z9 := hF_same hF
  have m0 : (mp_up (mp_up (mp_up (mp_up M sz (lA G 8 (fun _ => 0))) h0 (.inr (1, [.int 0, .int 0, .long 0, .int 0, .ref sz, .null, .int 0, .int 0, .null]))) (sz + 1) (iA G 8 (fun _ => 0))) h0 (.inr (1, [.int k0, .int (bI k1), .long k2, .int 0, .ref sz, .ref (sz + 1), .int 0, .int 0, .null]))) h0 = some (.inr (1, [.int k0, .int (bI k1), .long k2, .int 0, .ref sz, .ref (sz + 1), .int 0, .int 0, .null])) := mp_self _ _ _
  refine lv_aload_n hx hb dd_D_init_50 rfl (lv_at hl 0 rfl) ?_
  refine lv_iload hx hb dd_D_init_51 (lv_at hl 4 rfl) ?_
  refine mg_put (v := .int k3) hx hb ht ii_D tt_D tt_D_ok nn_D hown hK hM hS (hF _ (by rw [m0]; exact Option.some_ne_none _)) m0 rfl 3 (by decide) wd_1_134 (fun _ h => h) (Or.inr ⟨rfl, hname, rfl⟩) rfl rfl rfl (Nat.le_of_ble_eq_true rfl) dd_D_init_53 (fun H locs hM hz hoq hS => ?_)
  have hsz := hz.trans hsz
  rw [mp_mp] at hM
  have hM : hm G (mp_up (mp_up (mp_up (mp_up M sz (lA G 8 (fun _ => 0))) h0 (.inr (1, [.int 0, .int 0, .long 0, .int 0, .ref sz, .null, .int 0, .int 0, .null]))) (sz + 1) (iA G 8 (fun _ => 0))) h0 (.inr (1, [.int k0, .int (bI k1), .long k2, .int k3, .ref sz, .ref (sz + 1), .int 0, .int 0, .null]))) H := hM
  have hF : ∀ z9, (mp_up (mp_up (mp_up (mp_up M sz (lA G 8 (fun _ => 0))) h0 (.inr (1, [.int 0, .int 0, .long 0, .int 0, .ref sz, .null, .int 0, .int 0, .null]))) (sz + 1) (iA G 8 (fun _ => 0))) h0 (.inr (1, [.int k0, .int (bI k1), .long k2, .int k3, .ref sz, .ref (sz + 1), .int 0, .int 0, .null]))) z9 ≠ none → fr M sz z9 := hF_same hF
  have m0 : (mp_up (mp_up (mp_up (mp_up M sz (lA G 8 (fun _ => 0))) h0 (.inr (1, [.int 0, .int 0, .long 0, .int 0, .ref sz, .null, .int 0, .int 0, .null]))) (sz + 1) (iA G 8 (fun _ => 0))) h0 (.inr (1, [.int k0, .int (bI k1), .long k2, .int k3, .ref sz, .ref (sz + 1), .int 0, .int 0, .null]))) h0 = some (.inr (1, [.int k0, .int (bI k1), .long k2, .int k3, .ref sz, .ref (sz + 1), .int 0, .int 0, .null])) := mp_self _ _ _
  exact mw_v hx hb hr hlocks hM hF hS (Nat.le_of_ble_eq_true rfl) (Nat.le_of_ble_eq_true rfl) ⟨rfl, rfl⟩ dd_D_init_56

set_option maxHeartbeats 4000000 in
set_option maxRecDepth 100000 in
theorem cc_D_addParameter {l : Launch} {G : gC} {M : mC} {sz : Nat} {h0 : Nat} {r : dR} (m0 : M h0 = some (dC r)) {pn : Nat → Int64} (mn : M (d_apn r) = some (lA G 8 pn)) {pt : Nat → Int32} (mt : M (d_apt r) = some (iA G 8 pt)) {k : Nat} (hnp : d_np r = nI k) (hk : k < 8) {x : Int64} {t : Int32} : cW l yy_D_addParameter bb_D_addParameter 4 none 0 0 0 G M sz [.ref h0, .long x, .int t] (fun v u => v = none ∧ u = mp_up (mp_up (mp_up M (d_apn r) (lA G 8 (vp_updL pn k x))) (d_apt r) (iA G 8 (upd pt k t))) h0 (dC (d_s_np r (nI (k + 1))))) := by
  refine me_W (by decide) (Nat.le_of_ble_eq_true rfl) ?_
  intro p e s m below meth c ls hx hb hr hlocks hml hown hname ht hsz hM hK hZ hl
  have hown : s.vm.findClass RR_D = some m.cls := hown
  have hl : lv_has ls 4 [(0, .ref h0), (1, .long x), (3, .int t)] := hl
  have hS : va_S (fr M sz) s.heap s.heap [] := va_S.rf
  have hF : ∀ q, M q ≠ none → fr M sz q := fr_M
  have hA : ∀ q, s.heap.size ≤ q → fr M sz q := fun q h => fr_A q (by rw [← hsz]; exact h)
  have m0' := m0
  have mn' := mn
  have mt' := mt
  refine lv_aload_n hx hb dd_D_addParameter_0 rfl (lv_at hl 0 rfl) ?_
  refine mg_get (v := .int (nI k)) hx hb ht ii_D hown hK hM m0 rfl 6 (by decide) wd_1_139 (fun _ h => h) (congrArg (fun z => some (Value.int z)) hnp) dd_D_addParameter_1 ?_
  refine lv_bipush (v := 8) hx hb dd_D_addParameter_4 (by decide) ?_
  refine lv_icmp_ge (tgt := 39) hx hb dd_D_addParameter_6 (by decide) (fun z => absurd z (i8_ge hk)) (fun _ => ?_)
  refine lv_aload_n hx hb dd_D_addParameter_9 rfl (lv_at hl 0 rfl) ?_
  refine mg_get hx hb ht ii_D hown hK hM m0 rfl 4 (by decide) wd_1_137 (fun _ h => h) rfl dd_D_addParameter_10 ?_
  refine lv_aload_n hx hb dd_D_addParameter_13 rfl (lv_at hl 0 rfl) ?_
  refine mg_get (v := .int (nI k)) hx hb ht ii_D hown hK hM m0 rfl 6 (by decide) wd_1_139 (fun _ h => h) (congrArg (fun z => some (Value.int z)) hnp) dd_D_addParameter_14 ?_
  refine lv_lload_n hx hb dd_D_addParameter_17 rfl (lv_at hl 1 rfl) ?_
  refine mg_last hx hb hK hM hS (hF _ (by rw [mn]; exact Option.some_ne_none _)) mn (vp_in_nI hk (by decide)) dd_D_addParameter_18 (fun H locs hM hz hS => ?_)
  have hsz := hz.trans hsz
  rw [nI_clamp (show k < 2 ^ 31 by omega)] at hM
  have hM : hm G (mp_up M (d_apn r) (lA G 8 (vp_updL pn k x))) H := hM
  have hF : ∀ z9, (mp_up M (d_apn r) (lA G 8 (vp_updL pn k x))) z9 ≠ none → fr M sz z9 := hF_put hF (hF _ (by rw [mn]; exact Option.some_ne_none _))
  have mn : (mp_up M (d_apn r) (lA G 8 (vp_updL pn k x))) (d_apn r) = some (lA G 8 (vp_updL pn k x)) := mp_self _ _ _
  refine lv_aload_n hx hb dd_D_addParameter_19 rfl (lv_at hl 0 rfl) ?_
  have m0 := mp_at (M := M) (a := (d_apn r)) (e := (lA G 8 (vp_updL pn k x))) (fun z => by rw [z, mn'] at m0'; cases m0') m0
  refine mg_get hx hb ht ii_D hown hK hM m0 rfl 5 (by decide) wd_1_138 (fun _ h => h) rfl dd_D_addParameter_20 ?_
  refine lv_aload_n hx hb dd_D_addParameter_23 rfl (lv_at hl 0 rfl) ?_
  refine mg_get (v := .int (nI k)) hx hb ht ii_D hown hK hM m0 rfl 6 (by decide) wd_1_139 (fun _ h => h) (congrArg (fun z => some (Value.int z)) hnp) dd_D_addParameter_24 ?_
  refine lv_iload_n hx hb dd_D_addParameter_27 rfl (lv_at hl 2 rfl) ?_
  have mt := mp_at (M := M) (a := (d_apn r)) (e := (lA G 8 (vp_updL pn k x))) (fun z => by rw [z, mn'] at mt'; simp at mt') mt
  refine mg_iast hx hb hK hM hS (hF _ (by rw [mt]; exact Option.some_ne_none _)) mt (vp_in_nI hk (by decide)) dd_D_addParameter_28 (fun H locs hM hz hS => ?_)
  have hsz := hz.trans hsz
  rw [nI_clamp (show k < 2 ^ 31 by omega)] at hM
  have hM : hm G (mp_up (mp_up M (d_apn r) (lA G 8 (vp_updL pn k x))) (d_apt r) (iA G 8 (upd pt k t))) H := hM
  have hF : ∀ z9, (mp_up (mp_up M (d_apn r) (lA G 8 (vp_updL pn k x))) (d_apt r) (iA G 8 (upd pt k t))) z9 ≠ none → fr M sz z9 := hF_put hF (hF _ (by rw [mt]; exact Option.some_ne_none _))
  have mt : (mp_up (mp_up M (d_apn r) (lA G 8 (vp_updL pn k x))) (d_apt r) (iA G 8 (upd pt k t))) (d_apt r) = some (iA G 8 (upd pt k t)) := mp_self _ _ _
  refine lv_aload_n hx hb dd_D_addParameter_29 rfl (lv_at hl 0 rfl) ?_
  refine lv_dup hx hb dd_D_addParameter_30 rfl ?_
  have m0 := mp_at (M := (mp_up M (d_apn r) (lA G 8 (vp_updL pn k x)))) (a := (d_apt r)) (e := (iA G 8 (upd pt k t))) (fun z => by rw [z, mt'] at m0'; cases m0') m0
  refine mg_get (v := .int (nI k)) hx hb ht ii_D hown hK hM m0 rfl 6 (by decide) wd_1_139 (fun _ h => h) (congrArg (fun z => some (Value.int z)) hnp) dd_D_addParameter_31 ?_
  refine lv_iconst (v := 1) hx hb dd_D_addParameter_34 (by decide) ?_
  refine lv_iadd hx hb dd_D_addParameter_35 ?_
  rw [nI_1]
  refine mg_put (v := .int (nI (k + 1))) hx hb ht ii_D tt_D tt_D_ok nn_D hown hK hM hS (hF _ (by rw [m0]; exact Option.some_ne_none _)) m0 rfl 6 (by decide) wd_1_139 (fun _ h => h) (Or.inl rfl) rfl rfl rfl (Nat.le_of_ble_eq_true rfl) dd_D_addParameter_36 (fun H locs hM hz hoq hS => ?_)
  have hsz := hz.trans hsz
  have hM : hm G (mp_up (mp_up (mp_up M (d_apn r) (lA G 8 (vp_updL pn k x))) (d_apt r) (iA G 8 (upd pt k t))) h0 (dC (d_s_np r (nI (k + 1))))) H := hM
  have hF : ∀ z9, (mp_up (mp_up (mp_up M (d_apn r) (lA G 8 (vp_updL pn k x))) (d_apt r) (iA G 8 (upd pt k t))) h0 (dC (d_s_np r (nI (k + 1))))) z9 ≠ none → fr M sz z9 := hF_put hF (hF _ (by rw [m0]; exact Option.some_ne_none _))
  have m0 : (mp_up (mp_up (mp_up M (d_apn r) (lA G 8 (vp_updL pn k x))) (d_apt r) (iA G 8 (upd pt k t))) h0 (dC (d_s_np r (nI (k + 1))))) h0 = some (dC (d_s_np r (nI (k + 1)))) := mp_self _ _ _
  exact mw_v hx hb hr hlocks hM hF hS (Nat.zero_le _) (Nat.zero_le _) ⟨rfl, rfl⟩ dd_D_addParameter_39
end
section
theorem mp_comm {M : mC} {a b : Nat} {e f : va_E} (h : a ≠ b) : mp_up (mp_up M a e) b f = mp_up (mp_up M b f) a e := by
  funext q
  by_cases h1 : q = a
  · subst h1
    rw [mp_ne h, mp_self, mp_self]
  · by_cases h2 : q = b
    · subst h2
      rw [mp_self, mp_ne h1, mp_self]
    · rw [mp_ne h2, mp_ne h1, mp_ne h1, mp_ne h2]
theorem chn_up {M : mC} {a : Nat} {e : va_E} (ha : ∀ r : nR, M a ≠ some (nC r)) : ∀ (L : List nR) (o : Option Nat), chn M o L → chn (mp_up M a e) o L
  | [], none, _ => trivial
  | [], some _, h => h.elim
  | _ :: _, none, h => h.elim
  | r :: L, some b, h => ⟨mp_at (fun z => ha r (z ▸ h.1)) h.1, chn_up ha L _ h.2⟩
theorem d_rest_nil (o : Option Nat) : d_rest o [] = none := by cases o <;> rfl
def n_bv (o : Option nR) (i : Int32) : Int32 := match o with
  | some q => n_num q
  | none => if i = -1 then -1 else -2 - i
def n_bt (o : Option nR) (x : Int64) (d : dR) (pt : Nat → Int32) (i : Int32) : Int32 := match o with
  | some q => if n_se q = x then 3 else n_tx q
  | none => d_ptype d pt i
def n_bok (o : Option nR) (i : Int32) : Bool := match o with
  | some _ => true
  | none => !decide (i = -1)
set_option maxHeartbeats 4000000 in
set_option maxRecDepth 100000 in
theorem cc_D_take {l : Launch} {G : gC} {M : mC} {sz : Nat} {h0 an : Nat} {r : dR} (m0 : M h0 = some (dC r)) {q : nR} (mp : ∀ y, d_op r = some y → M y = some (nC q)) {N : mC} (hNn : d_op r = none → N = M) (hNs : ∀ y, d_op r = some y → N = mp_up M y (nC (n_s_fl q (n_fl q + 1)))) {L : List nR} (hch : chn N (some an) L) : cW l yy_D_take bb_D_take 2 none 0 0 0 G M sz [.ref h0, .ref an] (fun v u => v = none ∧ u = mp_up N h0 (dC (d_s_op (d_s_beg r true) (d_rest (some an) L)))) := by
  refine me_W (by decide) (Nat.le_of_ble_eq_true rfl) ?_
  intro p e s m below meth c ls hx hb hr hlocks hml hown hname ht hsz hM hK hZ hl
  have hown : s.vm.findClass RR_D = some m.cls := hown
  have hl : lv_has ls 2 [(0, .ref h0), (1, .ref an)] := hl
  have hS : va_S (fr M sz) s.heap s.heap [] := va_S.rf
  have hF : ∀ q, M q ≠ none → fr M sz q := fr_M
  have hA : ∀ q, s.heap.size ≤ q → fr M sz q := fun q h => fr_A q (by rw [← hsz]; exact h)
  have m0' := m0
  have hN0 : ∀ z : nR, N h0 ≠ some (nC z) := by
    intro z hz
    cases ho : d_op r with
    | none => rw [hNn ho, m0] at hz; cases hz
    | some y =>
      have my := mp y ho
      have hny : h0 ≠ y := fun e => by rw [e, my] at m0; cases m0
      rw [hNs y ho, mp_ne hny, m0] at hz
      cases hz
  have loop : ∀ (L1 : List nR) (o : Option Nat) (ls : Array Slot) (H : Heap) (locs : List Loc), chn N o L1 → lv_has ls 2 [(0, .ref h0), (1, .ref an)] → hm G (mp_up N h0 (dC (d_s_op (d_s_beg r true) o))) H → (∀ q, mp_up N h0 (dC (d_s_op (d_s_beg r true) o)) q ≠ none → fr M sz q) → va_S (fr M sz) s.heap H locs → d_rest o L1 = d_rest (some an) L → W p l e (rd 0 0 0) s m ([.ref h0, .ref an] : List Value).toArray below meth c H locs 0 0 (MQ below (cQ G M sz (fun v u => v = none ∧ u = mp_up N h0 (dC (d_s_op (d_s_beg r true) (d_rest (some an) L))))) ([.ref h0, .ref an] : List Value).toArray s 0 0 (fr M sz)) (F0 m 30 ls []) := by
    intro L1
    induction L1 with
    | nil =>
      intro o ls H locs hch hl hM hF hS hres
      cases o with
      | some a => exact hch.elim
      | none =>
        have m0 : (mp_up N h0 (dC (d_s_op (d_s_beg r true) none))) h0 = some (dC (d_s_op (d_s_beg r true) none)) := mp_self _ _ _
        refine lv_aload_n hx hb dd_D_take_30 rfl (lv_at hl 0 rfl) ?_
        refine mg_get (v := .null) hx hb ht ii_D hown hK hM m0 rfl 8 (by decide) wd_1_144 (fun _ h => h) (congrArg (fun z => some (va_rf z)) (rfl : d_op (d_s_op (d_s_beg r true) none) = none)) dd_D_take_31 ?_
        refine lv_ifnullN (tgt := 68) hx hb dd_D_take_34 (by decide) ?_
        exact mw_v hx hb hr hlocks hM hF hS (Nat.zero_le _) (Nat.zero_le _) ⟨rfl, by rw [← hres]; rfl⟩ dd_D_take_68
    | cons q L2 ih =>
      intro o ls H locs hch hl hM hF hS hres
      cases o with
      | none => exact hch.elim
      | some a =>
        have m0 : (mp_up N h0 (dC (d_s_op (d_s_beg r true) (some a)))) h0 = some (dC (d_s_op (d_s_beg r true) (some a))) := mp_self _ _ _
        have hnn : a ≠ h0 := fun z => hN0 q (z ▸ hch.1)
        have ma := mp_at (a := h0) (e := dC (d_s_op (d_s_beg r true) (some a))) hnn hch.1
        refine lv_aload_n hx hb dd_D_take_30 rfl (lv_at hl 0 rfl) ?_
        refine mg_get (v := .ref a) hx hb ht ii_D hown hK hM m0 rfl 8 (by decide) wd_1_144 (fun _ h => h) (congrArg (fun z => some (va_rf z)) (rfl : d_op (d_s_op (d_s_beg r true) (some a)) = some a)) dd_D_take_31 ?_
        refine lv_ifnull hx hb dd_D_take_34 ?_
        refine lv_aload_n hx hb dd_D_take_37 rfl (lv_at hl 0 rfl) ?_
        refine mg_get (v := .ref a) hx hb ht ii_D hown hK hM m0 rfl 8 (by decide) wd_1_144 (fun _ h => h) (congrArg (fun z => some (va_rf z)) (rfl : d_op (d_s_op (d_s_beg r true) (some a)) = some a)) dd_D_take_38 ?_
        refine mg_get hx hb ht ii_N hown hK hM ma rfl 8 (by decide) wd_2_51 (fun _ h => h) rfl dd_D_take_41 ?_
        refine lv_aload_n hx hb dd_D_take_44 rfl (lv_at hl 0 rfl) ?_
        refine mg_get (v := .ref a) hx hb ht ii_D hown hK hM m0 rfl 8 (by decide) wd_1_144 (fun _ h => h) (congrArg (fun z => some (va_rf z)) (rfl : d_op (d_s_op (d_s_beg r true) (some a)) = some a)) dd_D_take_45 ?_
        refine mg_get hx hb ht ii_N hown hK hM ma rfl 7 (by decide) wd_2_48 (fun _ h => h) rfl dd_D_take_48 ?_
        refine lv_icmp_lt (tgt := 68) hx hb dd_D_take_51 (by decide) (fun c1 => ?_) (fun c1 => ?_)
        · exact mw_v hx hb hr hlocks hM hF hS (Nat.zero_le _) (Nat.zero_le _) ⟨rfl, by rw [← hres]; simp [d_rest, c1]⟩ dd_D_take_68
        · refine lv_aload_n hx hb dd_D_take_54 rfl (lv_at hl 0 rfl) ?_
          refine lv_aload_n hx hb dd_D_take_55 rfl (lv_at hl 0 rfl) ?_
          refine mg_get (v := .ref a) hx hb ht ii_D hown hK hM m0 rfl 8 (by decide) wd_1_144 (fun _ h => h) (congrArg (fun z => some (va_rf z)) (rfl : d_op (d_s_op (d_s_beg r true) (some a)) = some a)) dd_D_take_56 ?_
          refine mg_get hx hb ht ii_N hown hK hM ma rfl 2 (by decide) wd_2_37 (fun _ h => h) rfl dd_D_take_59 ?_
          refine mg_put (v := va_rf (n_pa q)) hx hb ht ii_D tt_D tt_D_ok nn_D hown hK hM hS (hF _ (by rw [m0]; exact Option.some_ne_none _)) m0 rfl 8 (by decide) wd_1_144 (fun _ h => h) (Or.inl rfl) rfl rf_nar rf_fit (Nat.le_of_ble_eq_true rfl) dd_D_take_62 (fun H locs hM hz hoq hS => ?_)
          rw [mp_mp] at hM
          have hM : hm G (mp_up N h0 (dC (d_s_op (d_s_op (d_s_beg r true) (some a)) (n_pa q)))) H := hM
          have hF : ∀ z9, (mp_up N h0 (dC (d_s_op (d_s_op (d_s_beg r true) (some a)) (n_pa q)))) z9 ≠ none → fr M sz z9 := hF_same hF
          have m0 : (mp_up N h0 (dC (d_s_op (d_s_op (d_s_beg r true) (some a)) (n_pa q)))) h0 = some (dC (d_s_op (d_s_op (d_s_beg r true) (some a)) (n_pa q))) := mp_self _ _ _
          refine lv_goto (tgt := 30) hx hb dd_D_take_65 (by decide) ?_
          exact ih (n_pa q) ls H locs hch.2 hl hM hF hS (by rw [← hres]; simp [d_rest, c1])
  refine lv_aload_n hx hb dd_D_take_0 rfl (lv_at hl 0 rfl) ?_
  refine lv_iconst (v := 1) hx hb dd_D_take_1 (by decide) ?_
  refine mg_put (v := .int 1) hx hb ht ii_D tt_D tt_D_ok nn_D hown hK hM hS (hF _ (by rw [m0]; exact Option.some_ne_none _)) m0 rfl 7 (by decide) wd_1_142 (fun _ h => h) (Or.inl rfl) rfl rfl rfl (Nat.le_of_ble_eq_true rfl) dd_D_take_2 (fun H locs hM hz hoq hS => ?_)
  have hsz := hz.trans hsz
  have hM : hm G (mp_up M h0 (dC (d_s_beg r true))) H := hM
  have hF : ∀ z9, (mp_up M h0 (dC (d_s_beg r true))) z9 ≠ none → fr M sz z9 := hF_put hF (hF _ (by rw [m0]; exact Option.some_ne_none _))
  have m0 : (mp_up M h0 (dC (d_s_beg r true))) h0 = some (dC (d_s_beg r true)) := mp_self _ _ _
  refine lv_aload_n hx hb dd_D_take_5 rfl (lv_at hl 0 rfl) ?_
  refine mg_get hx hb ht ii_D hown hK hM m0 rfl 8 (by decide) wd_1_144 (fun _ h => h) rfl dd_D_take_6 ?_
  refine lr_ifnull (tgt := 25) hx hb dd_D_take_9 (by decide) (fun ey1 => ?_) (fun y1 ey1 => ?_)
  · refine lv_aload_n hx hb dd_D_take_25 rfl (lv_at hl 0 rfl) ?_
    refine lv_aload_n hx hb dd_D_take_26 rfl (lv_at hl 1 rfl) ?_
    refine mg_put (v := .ref an) hx hb ht ii_D tt_D tt_D_ok nn_D hown hK hM hS (hF _ (by rw [m0]; exact Option.some_ne_none _)) m0 rfl 8 (by decide) wd_1_144 (fun _ h => h) (Or.inl rfl) rfl rfl rfl (Nat.le_of_ble_eq_true rfl) dd_D_take_27 (fun H locs hM hz hoq hS => ?_)
    have hsz := hz.trans hsz
    rw [mp_mp] at hM
    have hM : hm G (mp_up M h0 (dC (d_s_op (d_s_beg r true) (some an)))) H := hM
    have hF : ∀ z9, (mp_up M h0 (dC (d_s_op (d_s_beg r true) (some an)))) z9 ≠ none → fr M sz z9 := hF_same hF
    have m0 : (mp_up M h0 (dC (d_s_op (d_s_beg r true) (some an)))) h0 = some (dC (d_s_op (d_s_beg r true) (some an))) := mp_self _ _ _
    exact loop L (some an) ls H locs hch hl (by rw [hNn ey1]; exact hM) (by rw [hNn ey1]; exact hF) hS rfl
  · have my1 := mp y1 ey1
    have hny : y1 ≠ h0 := fun z => by rw [z, m0'] at my1; cases my1
    refine lv_aload_n hx hb dd_D_take_12 rfl (lv_at hl 0 rfl) ?_
    refine mg_get (v := .ref y1) hx hb ht ii_D hown hK hM m0 rfl 8 (by decide) wd_1_144 (fun _ h => h) (congrArg (fun z => some (va_rf z)) ey1) dd_D_take_13 ?_
    refine lv_dup hx hb dd_D_take_16 rfl ?_
    have my1 := mp_at (M := M) (a := h0) (e := (dC (d_s_beg r true))) hny my1
    refine mg_get hx hb ht ii_N hown hK hM my1 rfl 8 (by decide) wd_2_51 (fun _ h => h) rfl dd_D_take_17 ?_
    refine lv_iconst (v := 1) hx hb dd_D_take_20 (by decide) ?_
    refine lv_iadd hx hb dd_D_take_21 ?_
    refine mg_put (v := .int ((n_fl q) + 1)) hx hb ht ii_N tt_N tt_N_ok nn_N hown hK hM hS (hF _ (by rw [my1]; exact Option.some_ne_none _)) my1 rfl 8 (by decide) wd_2_51 (fun _ h => h) (Or.inl rfl) rfl rfl rfl (Nat.le_of_ble_eq_true rfl) dd_D_take_22 (fun H locs hM hz hoq hS => ?_)
    have hsz := hz.trans hsz
    have hM : hm G (mp_up (mp_up M h0 (dC (d_s_beg r true))) y1 (nC (n_s_fl q ((n_fl q) + 1)))) H := hM
    have hF : ∀ z9, (mp_up (mp_up M h0 (dC (d_s_beg r true))) y1 (nC (n_s_fl q ((n_fl q) + 1)))) z9 ≠ none → fr M sz z9 := hF_put hF (hF _ (by rw [my1]; exact Option.some_ne_none _))
    have my1 : (mp_up (mp_up M h0 (dC (d_s_beg r true))) y1 (nC (n_s_fl q ((n_fl q) + 1)))) y1 = some (nC (n_s_fl q ((n_fl q) + 1))) := mp_self _ _ _
    refine lv_aload_n hx hb dd_D_take_25 rfl (lv_at hl 0 rfl) ?_
    refine lv_aload_n hx hb dd_D_take_26 rfl (lv_at hl 1 rfl) ?_
    have m0 := mp_at (M := (mp_up M h0 (dC (d_s_beg r true)))) (a := y1) (e := (nC (n_s_fl q ((n_fl q) + 1)))) (Ne.symm hny) m0
    refine mg_put (v := .ref an) hx hb ht ii_D tt_D tt_D_ok nn_D hown hK hM hS (hF _ (by rw [m0]; exact Option.some_ne_none _)) m0 rfl 8 (by decide) wd_1_144 (fun _ h => h) (Or.inl rfl) rfl rfl rfl (Nat.le_of_ble_eq_true rfl) dd_D_take_27 (fun H locs hM hz hoq hS => ?_)
    have hsz := hz.trans hsz
    have hM : hm G (mp_up (mp_up (mp_up M h0 (dC (d_s_beg r true))) y1 (nC (n_s_fl q ((n_fl q) + 1)))) h0 (dC (d_s_op (d_s_beg r true) (some an)))) H := hM
    have hF : ∀ z9, (mp_up (mp_up (mp_up M h0 (dC (d_s_beg r true))) y1 (nC (n_s_fl q ((n_fl q) + 1)))) h0 (dC (d_s_op (d_s_beg r true) (some an)))) z9 ≠ none → fr M sz z9 := hF_put hF (hF _ (by rw [m0]; exact Option.some_ne_none _))
    have m0 : (mp_up (mp_up (mp_up M h0 (dC (d_s_beg r true))) y1 (nC (n_s_fl q ((n_fl q) + 1)))) h0 (dC (d_s_op (d_s_beg r true) (some an)))) h0 = some (dC (d_s_op (d_s_beg r true) (some an))) := mp_self _ _ _
    rw [mp_comm (Ne.symm hny), mp_mp] at hM
    exact loop L (some an) ls H locs hch hl (by rw [hNs _ ey1]; exact hM) (by rw [hNs _ ey1]; rw [mp_comm (Ne.symm hny), mp_mp] at hF; exact hF) hS rfl
end
section
/-- no address of the chain is h -/
def chd (h : Nat) : Option Nat → List nR → Prop
  | none, [] => True
  | some a, q :: L => a ≠ h ∧ chd h (n_pa q) L
  | _, _ => False
theorem chn_nil {M : mC} {o : Option Nat} (h : chn M o []) : o = none := by
  cases o with
  | none => rfl
  | some a => exact h.elim
theorem chn_cons {M : mC} {o : Option Nat} {q : nR} {L : List nR} (h : chn M o (q :: L)) : ∃ y, o = some y ∧ M y = some (nC q) ∧ chn M (n_pa q) L := by
  cases o with
  | none => exact h.elim
  | some a => exact ⟨a, rfl, h.1, h.2⟩
theorem chd_cons {h0 : Nat} {o : Option Nat} {q : nR} {L : List nR} (h : chd h0 o (q :: L)) {y : Nat} (ey : o = some y) : y ≠ h0 ∧ chd h0 (n_pa q) L := by
  subst ey
  exact h
theorem hm_nd {M : mC} {a b : Nat} {d : dR} {r : nR} (ha : M a = some (dC d)) (hb : M b = some (nC r)) : a ≠ b := fun z => by rw [z, hb] at ha; cases ha
theorem hm_ni {G : gC} {M : mC} {a b n : Nat} {f : Nat → Int32} {r : nR} (ha : M a = some (iA G n f)) (hb : M b = some (nC r)) : a ≠ b := fun z => by rw [z, hb] at ha; cases ha
set_option maxHeartbeats 4000000 in
set_option maxRecDepth 100000 in
theorem cc_N_bind {l : Launch} {G : gC} {M : mC} {sz : Nat} {h0 : Nat} {r : nR} (m0 : M h0 = some (nC r)) {hd : dR} (md : M (n_ho r) = some (dC hd)) {pn : Nat → Int64} (mn : M (d_apn hd) = some (lA G 8 pn)) {pt : Nat → Int32} (mt : M (d_apt hd) = some (iA G 8 pt)) {L : List nR} (hch : chn M (n_pa r) L) (hcd : chd h0 (n_pa r) L) : cW l yy_N_bind bb_N_bind 3 (some .boolean) 2 0 0 G M sz [.ref h0] (fun v u => v = some (.int (bI (n_bok (n_bnd (n_fi r) r L) (d_index hd pn (n_fi r))))) ∧ u = mp_up M h0 (nC (n_s_vt (n_s_bb r (n_bv (n_bnd (n_fi r) r L) (d_index hd pn (n_fi r)))) (n_bt (n_bnd (n_fi r) r L) (n_fi r) hd pt (d_index hd pn (n_fi r)))))) := by
  refine me_W (by decide) (Nat.le_of_ble_eq_true rfl) ?_
  intro p e s m below meth c ls hx hb hr hlocks hml hown hname ht hsz hM hK hZ hl
  have hown : s.vm.findClass RR_N = some m.cls := hown
  have hl : lv_has ls 3 [(0, .ref h0)] := hl
  have hS : va_S (fr M sz) s.heap s.heap [] := va_S.rf
  have hF : ∀ q, M q ≠ none → fr M sz q := fr_M
  have hA : ∀ q, s.heap.size ≤ q → fr M sz q := fun q h => fr_A q (by rw [← hsz]; exact h)
  have m0' := m0
  have md' := md
  have mt' := mt
  have loop : ∀ (L1 : List nR) (ai : Nat) (ri : nR) (ls : Array Slot), M ai = some (nC ri) → chn M (n_pa ri) L1 → chd h0 (n_pa ri) L1 → lv_has ls 3 [(1, .ref ai), (0, .ref h0)] → n_bnd (n_fi r) ri L1 = (n_bnd (n_fi r) r L) → W p l e (rd 2 0 0) s m ([.ref h0] : List Value).toArray below meth c s.heap [] 0 0 (MQ below (cQ G M sz (fun v u => v = some (.int (bI (n_bok (n_bnd (n_fi r) r L) (d_index hd pn (n_fi r))))) ∧ u = mp_up M h0 (nC (n_s_vt (n_s_bb r (n_bv (n_bnd (n_fi r) r L) (d_index hd pn (n_fi r)))) (n_bt (n_bnd (n_fi r) r L) (n_fi r) hd pt (d_index hd pn (n_fi r))))))) ([.ref h0] : List Value).toArray s 0 0 (fr M sz)) (F0 m 2 ls []) := by
    intro L1
    induction L1 with
    | nil =>
      intro ai ri ls mi hch hcd hl hB
      have ey := chn_nil hch
      replace hB : (n_bnd (n_fi r) r L) = none := by rw [← hB]; rfl
      refine lv_aload_n hx hb dd_N_bind_2 rfl (lv_at hl 0 rfl) ?_
      refine mg_get (v := .null) hx hb ht ii_N hown hK hM mi rfl 2 (by decide) wd_2_36 (fun _ h => h) (congrArg (fun z => some (va_rf z)) ey) dd_N_bind_3 ?_
      refine lv_ifnullN (tgt := 71) hx hb dd_N_bind_6 (by decide) ?_
      refine lv_aload_n hx hb dd_N_bind_71 rfl (lv_at hl 1 rfl) ?_
      refine mg_get hx hb ht ii_N hown hK hM m0 rfl 1 (by decide) wd_2_34 (fun _ h => h) rfl dd_N_bind_72 ?_
      refine lv_aload_n hx hb dd_N_bind_75 rfl (lv_at hl 1 rfl) ?_
      refine mg_get hx hb ht ii_N hown hK hM m0 rfl 5 (by decide) wd_2_44 (fun _ h => h) rfl dd_N_bind_76 ?_
      refine mc_V (As := [.long (n_fi r)]) (rest := []) 1 (cc_D_indexOfParameter md mn (x := n_fi r)) hx hb hml hown ht hM hK hl.1 lk_N_88 (by decide +kernel) (by decide) md rfl rfl rfl (Nat.le_of_ble_eq_true rfl) dd_N_bind_79 ⟨Nat.zero_le _, Nat.zero_le _⟩ ?_
      refine lv_topi (fun ix eix => ?_)
      refine lv_istore_n (lv' := [(2, .int ix), (1, .ref ai), (0, .ref h0)]) hx hb dd_N_bind_82 rfl hl (by decide) rfl (fun ls hl => ?_)
      refine lv_aload_n hx hb dd_N_bind_83 rfl (lv_at hl 2 rfl) ?_
      refine lv_iload_n hx hb dd_N_bind_84 rfl (lv_at hl 0 rfl) ?_
      refine lv_iconst (v := -1) hx hb dd_N_bind_85 (by decide) ?_
      refine lv_icmp_ne (tgt := 93) hx hb dd_N_bind_86 (by decide) (fun c1 => ?_) (fun c1 => ?_)
      · refine lv_bipush (v := (-2)) hx hb dd_N_bind_93 (by decide) ?_
        refine lv_iload_n hx hb dd_N_bind_95 rfl (lv_at hl 0 rfl) ?_
        refine lv_isub hx hb dd_N_bind_96 ?_
        refine lv_topi (fun bx ebx => ?_)
        refine mg_put (v := .int bx) hx hb ht ii_N tt_N tt_N_ok nn_N hown hK hM hS (hF _ (by rw [m0]; exact Option.some_ne_none _)) m0 rfl 11 (by decide) wd_2_55 (fun _ h => h) (Or.inl rfl) rfl rfl rfl (Nat.le_of_ble_eq_true rfl) dd_N_bind_97 (fun H locs hM hz hoq hS => ?_)
        have hM : hm G (mp_up M h0 (nC (n_s_bb r bx))) H := hM
        have hF : ∀ z9, (mp_up M h0 (nC (n_s_bb r bx))) z9 ≠ none → fr M sz z9 := hF_put hF (hF _ (by rw [m0]; exact Option.some_ne_none _))
        have m0 : (mp_up M h0 (nC (n_s_bb r bx))) h0 = some (nC (n_s_bb r bx)) := mp_self _ _ _
        refine lv_aload_n hx hb dd_N_bind_100 rfl (lv_at hl 2 rfl) ?_
        refine lv_aload_n hx hb dd_N_bind_101 rfl (lv_at hl 2 rfl) ?_
        have md := mp_at (M := M) (a := h0) (e := (nC (n_s_bb r bx))) (hm_nd md' m0') md
        have mt1 := mp_at (a := h0) (e := nC (n_s_bb r bx)) (hm_ni mt' m0') mt'
        refine mg_get (v := .ref (n_ho r)) hx hb ht ii_N hown hK hM m0 rfl 1 (by decide) wd_2_34 (fun _ h => h) rfl dd_N_bind_102 ?_
        refine lv_iload_n hx hb dd_N_bind_105 rfl (lv_at hl 0 rfl) ?_
        refine mc_V (As := [.int ix]) (rest := [.ref h0]) 1 (cc_D_parameterType (i := ix) md mt1) hx hb hml hown ht hM hK hl.1 lk_N_92 (by decide +kernel) (by decide) md rfl rfl rfl (Nat.le_of_ble_eq_true rfl) dd_N_bind_106 ⟨Nat.zero_le _, Nat.zero_le _⟩ ?_
        refine mg_put (v := .int (d_ptype hd pt ix)) hx hb ht ii_N tt_N tt_N_ok nn_N hown hK hM hS (hF _ (by rw [m0]; exact Option.some_ne_none _)) m0 rfl 9 (by decide) wd_2_52 (fun _ h => h) (Or.inl rfl) rfl rfl rfl (Nat.le_of_ble_eq_true rfl) dd_N_bind_109 (fun H locs hM hz hoq hS => ?_)
        rw [mp_mp] at hM
        have hM : hm G (mp_up M h0 (nC (n_s_vt (n_s_bb r bx) (d_ptype hd pt ix)))) H := hM
        have hF : ∀ z9, (mp_up M h0 (nC (n_s_vt (n_s_bb r bx) (d_ptype hd pt ix)))) z9 ≠ none → fr M sz z9 := hF_same hF
        have m0 : (mp_up M h0 (nC (n_s_vt (n_s_bb r bx) (d_ptype hd pt ix)))) h0 = some (nC (n_s_vt (n_s_bb r bx) (d_ptype hd pt ix))) := mp_self _ _ _
        refine lv_iload_n hx hb dd_N_bind_112 rfl (lv_at hl 0 rfl) ?_
        refine lv_iconst (v := -1) hx hb dd_N_bind_113 (by decide) ?_
        refine lv_icmp_eq (tgt := 121) hx hb dd_N_bind_114 (by decide) (fun z => absurd z c1) (fun _ => ?_)
        refine lv_iconst (v := 1) hx hb dd_N_bind_117 (by decide) ?_
        refine lv_goto (tgt := 122) hx hb dd_N_bind_118 (by decide) ?_
        exact mw_i hx hb hr hlocks rfl hM hF hS (Nat.zero_le _) (Nat.zero_le _) ⟨by rw [hB, ← eix]; simp [n_bok, bI, c1, ebx], by rw [hB, ← eix]; simp [n_bv, n_bt, c1, ebx]⟩ dd_N_bind_122
      · refine lv_iconst (v := -1) hx hb dd_N_bind_89 (by decide) ?_
        refine lv_goto (tgt := 97) hx hb dd_N_bind_90 (by decide) ?_
        refine mg_put (v := .int (-1)) hx hb ht ii_N tt_N tt_N_ok nn_N hown hK hM hS (hF _ (by rw [m0]; exact Option.some_ne_none _)) m0 rfl 11 (by decide) wd_2_55 (fun _ h => h) (Or.inl rfl) rfl rfl rfl (Nat.le_of_ble_eq_true rfl) dd_N_bind_97 (fun H locs hM hz hoq hS => ?_)
        have hM : hm G (mp_up M h0 (nC (n_s_bb r (-1)))) H := hM
        have hF : ∀ z9, (mp_up M h0 (nC (n_s_bb r (-1)))) z9 ≠ none → fr M sz z9 := hF_put hF (hF _ (by rw [m0]; exact Option.some_ne_none _))
        have m0 : (mp_up M h0 (nC (n_s_bb r (-1)))) h0 = some (nC (n_s_bb r (-1))) := mp_self _ _ _
        refine lv_aload_n hx hb dd_N_bind_100 rfl (lv_at hl 2 rfl) ?_
        refine lv_aload_n hx hb dd_N_bind_101 rfl (lv_at hl 2 rfl) ?_
        have md := mp_at (M := M) (a := h0) (e := (nC (n_s_bb r (-1)))) (hm_nd md' m0') md
        have mt1 := mp_at (a := h0) (e := nC (n_s_bb r (-1))) (hm_ni mt' m0') mt'
        refine mg_get (v := .ref (n_ho r)) hx hb ht ii_N hown hK hM m0 rfl 1 (by decide) wd_2_34 (fun _ h => h) rfl dd_N_bind_102 ?_
        refine lv_iload_n hx hb dd_N_bind_105 rfl (lv_at hl 0 rfl) ?_
        refine mc_V (As := [.int ix]) (rest := [.ref h0]) 1 (cc_D_parameterType (i := ix) md mt1) hx hb hml hown ht hM hK hl.1 lk_N_92 (by decide +kernel) (by decide) md rfl rfl rfl (Nat.le_of_ble_eq_true rfl) dd_N_bind_106 ⟨Nat.zero_le _, Nat.zero_le _⟩ ?_
        refine mg_put (v := .int (d_ptype hd pt ix)) hx hb ht ii_N tt_N tt_N_ok nn_N hown hK hM hS (hF _ (by rw [m0]; exact Option.some_ne_none _)) m0 rfl 9 (by decide) wd_2_52 (fun _ h => h) (Or.inl rfl) rfl rfl rfl (Nat.le_of_ble_eq_true rfl) dd_N_bind_109 (fun H locs hM hz hoq hS => ?_)
        rw [mp_mp] at hM
        have hM : hm G (mp_up M h0 (nC (n_s_vt (n_s_bb r (-1)) (d_ptype hd pt ix)))) H := hM
        have hF : ∀ z9, (mp_up M h0 (nC (n_s_vt (n_s_bb r (-1)) (d_ptype hd pt ix)))) z9 ≠ none → fr M sz z9 := hF_same hF
        have m0 : (mp_up M h0 (nC (n_s_vt (n_s_bb r (-1)) (d_ptype hd pt ix)))) h0 = some (nC (n_s_vt (n_s_bb r (-1)) (d_ptype hd pt ix))) := mp_self _ _ _
        refine lv_iload_n hx hb dd_N_bind_112 rfl (lv_at hl 0 rfl) ?_
        refine lv_iconst (v := -1) hx hb dd_N_bind_113 (by decide) ?_
        refine lv_icmp_eq (tgt := 121) hx hb dd_N_bind_114 (by decide) (fun _ => ?_) (fun z => absurd c1 z)
        refine lv_iconst (v := 0) hx hb dd_N_bind_121 (by decide) ?_
        exact mw_i hx hb hr hlocks rfl hM hF hS (Nat.zero_le _) (Nat.zero_le _) ⟨by rw [hB, ← eix]; simp [n_bok, bI, eq_true c1], by rw [hB, ← eix]; simp [n_bv, n_bt, eq_true c1]⟩ dd_N_bind_122
    | cons q L2 ih =>
      intro ai ri ls mi hch hcd hl hB
      obtain ⟨y, ey, my, hch2⟩ := chn_cons hch
      obtain ⟨hny, hcd2⟩ := chd_cons hcd ey
      refine lv_aload_n hx hb dd_N_bind_2 rfl (lv_at hl 0 rfl) ?_
      refine mg_get (v := .ref y) hx hb ht ii_N hown hK hM mi rfl 2 (by decide) wd_2_36 (fun _ h => h) (congrArg (fun z => some (va_rf z)) ey) dd_N_bind_3 ?_
      refine lv_ifnull hx hb dd_N_bind_6 ?_
      refine lv_aload_n hx hb dd_N_bind_9 rfl (lv_at hl 0 rfl) ?_
      refine mg_get (v := .ref y) hx hb ht ii_N hown hK hM mi rfl 2 (by decide) wd_2_36 (fun _ h => h) (congrArg (fun z => some (va_rf z)) ey) dd_N_bind_10 ?_
      refine lv_astore_n (lv' := [(2, .ref y), (1, .ref ai), (0, .ref h0)]) hx hb dd_N_bind_13 rfl hl (by decide) rfl (fun ls hl => ?_)
      refine lv_aload_n hx hb dd_N_bind_14 rfl (lv_at hl 1 rfl) ?_
      refine mc_V (As := []) (rest := []) 0 (cc_N_isLastPart mi (q := q) (fun z hz => by rw [ey] at hz; cases hz; exact my)) hx hb hml hown ht hM hK hl.1 lk_N_65 (by decide +kernel) (by decide) mi rfl rfl rfl (Nat.le_of_ble_eq_true rfl) dd_N_bind_15 ⟨Nat.zero_le _, Nat.zero_le _⟩ ?_
      refine lb_if_eq (tgt := 66) hx hb dd_N_bind_18 (by decide) (fun c1 => ?_) (fun c1 => ?_)
      · refine lv_aload_n hx hb dd_N_bind_66 rfl (lv_at hl 0 rfl) ?_
        refine lv_astore_n (lv' := [(1, .ref y), (2, .ref y), (0, .ref h0)]) hx hb dd_N_bind_67 rfl hl (by decide) rfl (fun ls hl => ?_)
        refine lv_goto (tgt := 2) hx hb dd_N_bind_68 (by decide) ?_
        exact ih y q ls my hch2 hcd2 (lv_sub hl [0, 2] rfl) (by rw [← hB]; simp [n_bnd, c1])
      · refine lv_aload_n hx hb dd_N_bind_21 rfl (lv_at hl 0 rfl) ?_
        refine lv_aload_n hx hb dd_N_bind_22 rfl (lv_at hl 2 rfl) ?_
        refine mg_get hx hb ht ii_N hown hK hM m0 rfl 5 (by decide) wd_2_44 (fun _ h => h) rfl dd_N_bind_23 ?_
        refine mc_V (As := [.long (n_fi r)]) (rest := []) 1 (cc_N_bindsInLastPart my (x := (n_fi r))) hx hb hml hown ht hM hK hl.1 lk_N_82 (by decide +kernel) (by decide) my rfl rfl rfl (Nat.le_of_ble_eq_true rfl) dd_N_bind_26 ⟨Nat.zero_le _, Nat.zero_le _⟩ ?_
        refine lb_if_eq (tgt := 66) hx hb dd_N_bind_29 (by decide) (fun c2 => ?_) (fun c2 => ?_)
        · refine lv_aload_n hx hb dd_N_bind_66 rfl (lv_at hl 0 rfl) ?_
          refine lv_astore_n (lv' := [(1, .ref y), (2, .ref y), (0, .ref h0)]) hx hb dd_N_bind_67 rfl hl (by decide) rfl (fun ls hl => ?_)
          refine lv_goto (tgt := 2) hx hb dd_N_bind_68 (by decide) ?_
          exact ih y q ls my hch2 hcd2 (lv_sub hl [0, 2] rfl) (by rw [← hB]; simp [n_bnd, c1, c2])
        · have hB2 : n_bnd (n_fi r) r L = some q := by rw [← hB]; simp [n_bnd, c1, c2]
          refine lv_aload_n hx hb dd_N_bind_32 rfl (lv_at hl 2 rfl) ?_
          refine lv_aload_n hx hb dd_N_bind_33 rfl (lv_at hl 0 rfl) ?_
          refine mg_get hx hb ht ii_N hown hK hM my rfl 0 (by decide) wd_2_32 (fun _ h => h) rfl dd_N_bind_34 ?_
          refine mg_put (v := .int (n_num q)) hx hb ht ii_N tt_N tt_N_ok nn_N hown hK hM hS (hF _ (by rw [m0]; exact Option.some_ne_none _)) m0 rfl 11 (by decide) wd_2_55 (fun _ h => h) (Or.inl rfl) rfl rfl rfl (Nat.le_of_ble_eq_true rfl) dd_N_bind_37 (fun H locs hM hz hoq hS => ?_)
          have hM : hm G (mp_up M h0 (nC (n_s_bb r (n_num q)))) H := hM
          have hF : ∀ z9, (mp_up M h0 (nC (n_s_bb r (n_num q)))) z9 ≠ none → fr M sz z9 := hF_put hF (hF _ (by rw [m0]; exact Option.some_ne_none _))
          have m0 : (mp_up M h0 (nC (n_s_bb r (n_num q)))) h0 = some (nC (n_s_bb r (n_num q))) := mp_self _ _ _
          refine lv_aload_n hx hb dd_N_bind_40 rfl (lv_at hl 2 rfl) ?_
          refine lv_aload_n hx hb dd_N_bind_41 rfl (lv_at hl 0 rfl) ?_
          have my := mp_at (M := M) (a := h0) (e := (nC (n_s_bb r (n_num q)))) hny my
          refine mg_get hx hb ht ii_N hown hK hM my rfl 6 (by decide) wd_2_46 (fun _ h => h) rfl dd_N_bind_42 ?_
          refine lv_aload_n hx hb dd_N_bind_45 rfl (lv_at hl 2 rfl) ?_
          refine mg_get hx hb ht ii_N hown hK hM m0 rfl 5 (by decide) wd_2_44 (fun _ h => h) rfl dd_N_bind_46 ?_
          refine W.lcmp hx hb dd_N_bind_49 ?_
          refine lc_if_ne (tgt := 57) hx hb dd_N_bind_50 (by decide) (fun c3 => ?_) (fun c3 => ?_)
          · refine lv_aload_n hx hb dd_N_bind_57 rfl (lv_at hl 0 rfl) ?_
            refine mg_get hx hb ht ii_N hown hK hM my rfl 10 (by decide) wd_2_54 (fun _ h => h) rfl dd_N_bind_58 ?_
            refine mg_put (v := .int (n_tx q)) hx hb ht ii_N tt_N tt_N_ok nn_N hown hK hM hS (hF _ (by rw [m0]; exact Option.some_ne_none _)) m0 rfl 9 (by decide) wd_2_52 (fun _ h => h) (Or.inl rfl) rfl rfl rfl (Nat.le_of_ble_eq_true rfl) dd_N_bind_61 (fun H locs hM hz hoq hS => ?_)
            rw [mp_mp] at hM
            have hM : hm G (mp_up M h0 (nC (n_s_vt (n_s_bb r (n_num q)) (n_tx q)))) H := hM
            have hF : ∀ z9, (mp_up M h0 (nC (n_s_vt (n_s_bb r (n_num q)) (n_tx q)))) z9 ≠ none → fr M sz z9 := hF_same hF
            have m0 : (mp_up M h0 (nC (n_s_vt (n_s_bb r (n_num q)) (n_tx q)))) h0 = some (nC (n_s_vt (n_s_bb r (n_num q)) (n_tx q))) := mp_self _ _ _
            refine lv_iconst (v := 1) hx hb dd_N_bind_64 (by decide) ?_
            exact mw_i hx hb hr hlocks rfl hM hF hS (Nat.zero_le _) (Nat.zero_le _) ⟨by rw [hB2]; rfl, by rw [hB2]; simp [n_bv, n_bt, c3]⟩ dd_N_bind_65
          · refine lv_iconst (v := 3) hx hb dd_N_bind_53 (by decide) ?_
            refine lv_goto (tgt := 61) hx hb dd_N_bind_54 (by decide) ?_
            refine mg_put (v := .int 3) hx hb ht ii_N tt_N tt_N_ok nn_N hown hK hM hS (hF _ (by rw [m0]; exact Option.some_ne_none _)) m0 rfl 9 (by decide) wd_2_52 (fun _ h => h) (Or.inl rfl) rfl rfl rfl (Nat.le_of_ble_eq_true rfl) dd_N_bind_61 (fun H locs hM hz hoq hS => ?_)
            rw [mp_mp] at hM
            have hM : hm G (mp_up M h0 (nC (n_s_vt (n_s_bb r (n_num q)) 3))) H := hM
            have hF : ∀ z9, (mp_up M h0 (nC (n_s_vt (n_s_bb r (n_num q)) 3))) z9 ≠ none → fr M sz z9 := hF_same hF
            have m0 : (mp_up M h0 (nC (n_s_vt (n_s_bb r (n_num q)) 3))) h0 = some (nC (n_s_vt (n_s_bb r (n_num q)) 3)) := mp_self _ _ _
            refine lv_iconst (v := 1) hx hb dd_N_bind_64 (by decide) ?_
            exact mw_i hx hb hr hlocks rfl hM hF hS (Nat.zero_le _) (Nat.zero_le _) ⟨by rw [hB2]; rfl, by rw [hB2]; simp [n_bv, n_bt, eq_true c3]⟩ dd_N_bind_65
  refine lv_aload_n hx hb dd_N_bind_0 rfl (lv_at hl 0 rfl) ?_
  refine lv_astore_n (lv' := [(1, .ref h0), (0, .ref h0)]) hx hb dd_N_bind_1 rfl hl (by decide) rfl (fun ls hl => ?_)
  exact loop L h0 r ls m0 hch hcd hl rfl
end
section
/-! THE CLASS IN A MAP: the root at x, its lists at ld and ln (their arrays at ed, en), definitions D at aD (their arrays hold pn, pt), nodes N at aN -/
abbrev xC (ld ln : Nat) (kn : Bool) (ft fn mv : Int32) : va_E := .inr (0, [.ref ld, .ref ln, .int (bI kn), .int ft, .int fn, .int mv])
def rp_D (G : gC) (M : mC) (nd : Nat) (aD : Nat → Nat) (D : Nat → dR) (pn : Nat → Nat → Int64) (pt : Nat → Nat → Int32) : Prop := ∀ i, i < nd → M (aD i) = some (dC (D i)) ∧ M (d_apn (D i)) = some (lA G 8 (pn i)) ∧ M (d_apt (D i)) = some (iA G 8 (pt i)) ∧ d_num (D i) = nI i
def rp_N (M : mC) (nn : Nat) (aN : Nat → Nat) (N : Nat → nR) : Prop := ∀ j, j < nn → M (aN j) = some (nC (N j)) ∧ n_num (N j) = nI j
/-- the parameters' arrays of two definitions are apart; so are the lists, and their arrays -/
def rp_A (G : gC) (ld ln ed en nd : Nat) (D : Nat → dR) : Prop := ld ≠ ln ∧ (ed = en → ed = G.2.2.2.1) ∧ ∀ i j, i < nd → j < nd → (d_apn (D i) = d_apn (D j) ∨ d_apt (D i) = d_apt (D j)) → i = j
def rp (G : gC) (M : mC) (x ld ln ed en nd nn : Nat) (aD aN : Nat → Nat) (D : Nat → dR) (N : Nat → nR) (pn : Nat → Nat → Int64) (pt : Nat → Nat → Int32) (kn : Bool) (ft fn mv : Int32) : Prop :=
  M x = some (xC ld ln kn ft fn mv) ∧ ls_ok G M ld ed nd aD ∧ ls_ok G M ln en nn aN ∧ rp_D G M nd aD D pn pt ∧ rp_N M nn aN N ∧ rp_A G ld ln ed en nd D ∧ nd ≤ 64 ∧ nn ≤ 600
/-- the last definition's address -/
def c_last (nd : Nat) (aD : Nat → Nat) : Option Nat := match nd with
  | 0 => none
  | k + 1 => some (aD k)
def c_whole (nd : Nat) (D : Nat → dR) : Bool := match nd with
  | 0 => true
  | k + 1 => d_whole (D k)
/-- the first definition with the name, from the i-th on, k to go -/
def c_named (D : Nat → dR) (x : Int64) : Nat → Nat → Option Nat
  | 0, _ => none
  | k + 1, i => if d_nm (D i) = x then some i else c_named D x k (i + 1)
def c_idx (k : Int32) (nn : Nat) : Option Nat := if k < 0 then none else if k < nI nn then some k.toNatClampNeg else none
theorem c_idx_lt {k : Int32} {nn j : Nat} (h : c_idx k nn = some j) (hn : nn ≤ 600) : j < nn := by
  unfold c_idx at h
  split at h
  · cases h
  · split at h
    · rename_i h0 h1
      cases h
      obtain ⟨i, hi, rfl⟩ := nI_of h0
      rw [nI_clamp hi]
      exact (nI_ltI hi (by omega)).mp h1
    · cases h
theorem c_at_some {k : Int32} {nn y : Nat} {aN : Nat → Nat} (h : (c_idx k nn).map aN = some y) (hn : nn ≤ 600) : ∃ j, j < nn ∧ c_idx k nn = some j ∧ y = aN j := by
  cases hj : c_idx k nn with
  | none => rw [hj] at h; cases h
  | some j =>
    rw [hj] at h
    cases h
    exact ⟨j, c_idx_lt hj hn, rfl, rfl⟩
def c_kn (kn : Bool) (k : Int32) (nn : Nat) : Option Nat := if kn = true then c_idx k nn else none
theorem c_kn_some {kn : Bool} {k : Int32} {nn y : Nat} {aN : Nat → Nat} (h : (c_kn kn k nn).map aN = some y) (hn : nn ≤ 600) : ∃ j, j < nn ∧ c_kn kn k nn = some j ∧ y = aN j := by
  cases hj : c_kn kn k nn with
  | none => rw [hj] at h; cases h
  | some j =>
    rw [hj] at h
    cases h
    unfold c_kn at hj
    split at hj
    · exact ⟨j, c_idx_lt hj hn, rfl, rfl⟩
    · cases hj
def c_val (o : Option Nat) (f : Nat → Int32) : Int32 := match o with
  | none => -1
  | some j => f j
theorem map_none {o : Option Nat} {f : Nat → Nat} (h : o.map f = none) : o = none := by
  cases o with
  | none => rfl
  | some j => cases h
/-- the links by number: home, parent and callee of a node, the open node of a definition -/
def rl (nd nn : Nat) (aD aN : Nat → Nat) (D : Nat → dR) (N : Nat → nR) (ho : Nat → Nat) (pa ca op : Nat → Option Nat) : Prop :=
  (∀ j, j < nn → n_ho (N j) = aD (ho j) ∧ ho j < nd ∧ n_pa (N j) = (pa j).map aN ∧ (∀ p, pa j = some p → p < j ∧ ho p = ho j) ∧ n_ca (N j) = (ca j).map aD ∧ ∀ t, ca j = some t → t < nd) ∧ ∀ i, i < nd → d_op (D i) = (op i).map aN ∧ ∀ o, op i = some o → o < nn ∧ ho o = i
def c_num (o : Option Nat) : Int32 := match o with
  | none => -1
  | some j => nI j
def c_of (w : Int32) (N : nR) (pa : Option Nat) (ho : Nat) : Int32 := if w = 0 then n_kd N else if w = 1 then n_pt N else if w = 2 then c_num pa else if w = 3 then nI ho else -1
def c_look (w : Int32) (nd nn : Nat) (ft fn : Int32) (wh kn : Bool) (mv : Int32) : Int32 := if w = 0 then nI nd else if w = 1 then nI nn else if w = 2 then ft else if w = 3 then fn else if w = 4 then bI wh else if w = 5 then (if kn = true then mv else -1) else -1
def c_main1 (d : dR) (pt : Nat → Int32) : Bool := !d_chg d && decide (d_nm d = 427310) && decide (d_vt d = 3) && decide (d_np d = 1) && decide (d_ptype d pt 0 = 3)
def c_main (nd : Nat) (D : Nat → dR) (pt : Nat → Nat → Int32) : Bool := match nd with
  | 0 => false
  | k + 1 => c_main1 (D k) (pt k)
theorem ix_of {k : Int32} {nn : Nat} (h0 : ¬ k < 0) (h1 : k < nI nn) (hn : nn ≤ 600) : ∃ j, j < nn ∧ k = nI j := by
  obtain ⟨i, hi, rfl⟩ := nI_of h0
  exact ⟨i, (nI_ltI hi (by omega)).mp h1, rfl⟩
theorem rl_ca {nd nn : Nat} {aD aN : Nat → Nat} {D : Nat → dR} {N : Nat → nR} {ho : Nat → Nat} {pa ca op : Nat → Option Nat} (h : rl nd nn aD aN D N ho pa ca op) {j y : Nat} (hj : j < nn) (hy : n_ca (N j) = some y) : ∃ t, t < nd ∧ ca j = some t ∧ y = aD t := by
  obtain ⟨-, -, -, -, h5, h6⟩ := h.1 j hj
  rw [h5] at hy
  cases hc : ca j with
  | none => rw [hc] at hy; cases hy
  | some t =>
    rw [hc] at hy
    cases hy
    exact ⟨t, h6 t hc, rfl, rfl⟩
theorem rl_ca0 {nd nn : Nat} {aD aN : Nat → Nat} {D : Nat → dR} {N : Nat → nR} {ho : Nat → Nat} {pa ca op : Nat → Option Nat} (h : rl nd nn aD aN D N ho pa ca op) {j : Nat} (hj : j < nn) (hy : n_ca (N j) = none) : ca j = none := by
  obtain ⟨-, -, -, -, h5, h6⟩ := h.1 j hj
  rw [h5] at hy
  exact map_none hy
theorem rl_pa {nd nn : Nat} {aD aN : Nat → Nat} {D : Nat → dR} {N : Nat → nR} {ho : Nat → Nat} {pa ca op : Nat → Option Nat} (h : rl nd nn aD aN D N ho pa ca op) {j y : Nat} (hj : j < nn) (hy : n_pa (N j) = some y) : ∃ t, t < j ∧ pa j = some t ∧ y = aN t := by
  obtain ⟨-, -, h5, h6, -⟩ := h.1 j hj
  rw [h5] at hy
  cases hc : pa j with
  | none => rw [hc] at hy; cases hy
  | some t =>
    rw [hc] at hy
    cases hy
    exact ⟨t, (h6 t hc).1, rfl, rfl⟩
theorem rl_pa0 {nd nn : Nat} {aD aN : Nat → Nat} {D : Nat → dR} {N : Nat → nR} {ho : Nat → Nat} {pa ca op : Nat → Option Nat} (h : rl nd nn aD aN D N ho pa ca op) {j : Nat} (hj : j < nn) (hy : n_pa (N j) = none) : pa j = none := by
  obtain ⟨-, -, h5, h6, -⟩ := h.1 j hj
  rw [h5] at hy
  exact map_none hy
theorem rl_op {nd nn : Nat} {aD aN : Nat → Nat} {D : Nat → dR} {N : Nat → nR} {ho : Nat → Nat} {pa ca op : Nat → Option Nat} (h : rl nd nn aD aN D N ho pa ca op) {i y : Nat} (hi : i < nd) (hy : d_op (D i) = some y) : ∃ t, t < nn ∧ op i = some t ∧ y = aN t := by
  obtain ⟨h5, h6⟩ := h.2 i hi
  rw [h5] at hy
  cases hc : op i with
  | none => rw [hc] at hy; cases hy
  | some t =>
    rw [hc] at hy
    cases hy
    exact ⟨t, (h6 t hc).1, rfl, rfl⟩
end
section
theorem dd_L_init_0 : decode bb_L_init 0 = .ok (.aload_n 0, 1) := by decide +kernel
theorem dd_L_init_1 : decode bb_L_init 1 = .ok (.invokespecial 1, 3) := by decide +kernel
theorem dd_L_init_4 : decode bb_L_init 4 = .ok (.aload_n 0, 1) := by decide +kernel
theorem dd_L_init_5 : decode bb_L_init 5 = .ok (.new 7, 3) := by decide +kernel
theorem dd_L_init_8 : decode bb_L_init 8 = .ok (.dup, 1) := by decide +kernel
theorem dd_L_init_9 : decode bb_L_init 9 = .ok (.invokespecial 9, 3) := by decide +kernel
theorem dd_L_init_12 : decode bb_L_init 12 = .ok (.putfield 10, 3) := by decide +kernel
theorem dd_L_init_15 : decode bb_L_init 15 = .ok (.aload_n 0, 1) := by decide +kernel
theorem dd_L_init_16 : decode bb_L_init 16 = .ok (.new 7, 3) := by decide +kernel
theorem dd_L_init_19 : decode bb_L_init 19 = .ok (.dup, 1) := by decide +kernel
theorem dd_L_init_20 : decode bb_L_init 20 = .ok (.invokespecial 9, 3) := by decide +kernel
theorem dd_L_init_23 : decode bb_L_init 23 = .ok (.putfield 16, 3) := by decide +kernel
theorem dd_L_init_26 : decode bb_L_init 26 = .ok (.aload_n 0, 1) := by decide +kernel
theorem dd_L_init_27 : decode bb_L_init 27 = .ok (.iconst 0, 1) := by decide +kernel
theorem dd_L_init_28 : decode bb_L_init 28 = .ok (.putfield 19, 3) := by decide +kernel
theorem dd_L_init_31 : decode bb_L_init 31 = .ok (.aload_n 0, 1) := by decide +kernel
theorem dd_L_init_32 : decode bb_L_init 32 = .ok (.iconst 0, 1) := by decide +kernel
theorem dd_L_init_33 : decode bb_L_init 33 = .ok (.putfield 23, 3) := by decide +kernel
theorem dd_L_init_36 : decode bb_L_init 36 = .ok (.aload_n 0, 1) := by decide +kernel
theorem dd_L_init_37 : decode bb_L_init 37 = .ok (.iconst (-1), 1) := by decide +kernel
theorem dd_L_init_38 : decode bb_L_init 38 = .ok (.putfield 27, 3) := by decide +kernel
theorem dd_L_init_41 : decode bb_L_init 41 = .ok (.aload_n 0, 1) := by decide +kernel
theorem dd_L_init_42 : decode bb_L_init 42 = .ok (.iconst 0, 1) := by decide +kernel
theorem dd_L_init_43 : decode bb_L_init 43 = .ok (.putfield 30, 3) := by decide +kernel
theorem dd_L_init_46 : decode bb_L_init 46 = .ok (.return_, 1) := by decide +kernel
theorem dd_L_clear_0 : decode bb_L_clear 0 = .ok (.aload_n 0, 1) := by decide +kernel
theorem dd_L_clear_1 : decode bb_L_clear 1 = .ok (.getfield 10, 3) := by decide +kernel
theorem dd_L_clear_4 : decode bb_L_clear 4 = .ok (.invokevirtual 33, 3) := by decide +kernel
theorem dd_L_clear_7 : decode bb_L_clear 7 = .ok (.aload_n 0, 1) := by decide +kernel
theorem dd_L_clear_8 : decode bb_L_clear 8 = .ok (.getfield 16, 3) := by decide +kernel
theorem dd_L_clear_11 : decode bb_L_clear 11 = .ok (.invokevirtual 33, 3) := by decide +kernel
theorem dd_L_clear_14 : decode bb_L_clear 14 = .ok (.aload_n 0, 1) := by decide +kernel
theorem dd_L_clear_15 : decode bb_L_clear 15 = .ok (.iconst 0, 1) := by decide +kernel
theorem dd_L_clear_16 : decode bb_L_clear 16 = .ok (.putfield 19, 3) := by decide +kernel
theorem dd_L_clear_19 : decode bb_L_clear 19 = .ok (.aload_n 0, 1) := by decide +kernel
theorem dd_L_clear_20 : decode bb_L_clear 20 = .ok (.iconst 0, 1) := by decide +kernel
theorem dd_L_clear_21 : decode bb_L_clear 21 = .ok (.putfield 23, 3) := by decide +kernel
theorem dd_L_clear_24 : decode bb_L_clear 24 = .ok (.aload_n 0, 1) := by decide +kernel
theorem dd_L_clear_25 : decode bb_L_clear 25 = .ok (.iconst (-1), 1) := by decide +kernel
theorem dd_L_clear_26 : decode bb_L_clear 26 = .ok (.putfield 27, 3) := by decide +kernel
theorem dd_L_clear_29 : decode bb_L_clear 29 = .ok (.aload_n 0, 1) := by decide +kernel
theorem dd_L_clear_30 : decode bb_L_clear 30 = .ok (.iconst 0, 1) := by decide +kernel
theorem dd_L_clear_31 : decode bb_L_clear 31 = .ok (.putfield 30, 3) := by decide +kernel
theorem dd_L_clear_34 : decode bb_L_clear 34 = .ok (.return_, 1) := by decide +kernel
theorem dd_L_define_0 : decode bb_L_define 0 = .ok (.iload_n 1, 1) := by decide +kernel
theorem dd_L_define_1 : decode bb_L_define 1 = .ok (.ifCond .eq 11, 3) := by decide +kernel
theorem dd_L_define_4 : decode bb_L_define 4 = .ok (.iload 4, 2) := by decide +kernel
theorem dd_L_define_6 : decode bb_L_define 6 = .ok (.invokestatic 36, 3) := by decide +kernel
theorem dd_L_define_9 : decode bb_L_define 9 = .ok (.goto 8, 3) := by decide +kernel
theorem dd_L_define_12 : decode bb_L_define 12 = .ok (.iload 4, 2) := by decide +kernel
theorem dd_L_define_14 : decode bb_L_define 14 = .ok (.invokestatic 42, 3) := by decide +kernel
theorem dd_L_define_17 : decode bb_L_define 17 = .ok (.istore 5, 2) := by decide +kernel
theorem dd_L_define_19 : decode bb_L_define 19 = .ok (.aload_n 0, 1) := by decide +kernel
theorem dd_L_define_20 : decode bb_L_define 20 = .ok (.invokevirtual 45, 3) := by decide +kernel
theorem dd_L_define_23 : decode bb_L_define 23 = .ok (.ifCond .eq 15, 3) := by decide +kernel
theorem dd_L_define_26 : decode bb_L_define 26 = .ok (.aload_n 0, 1) := by decide +kernel
theorem dd_L_define_27 : decode bb_L_define 27 = .ok (.getfield 10, 3) := by decide +kernel
theorem dd_L_define_30 : decode bb_L_define 30 = .ok (.invokevirtual 49, 3) := by decide +kernel
theorem dd_L_define_33 : decode bb_L_define 33 = .ok (.bipush 64, 2) := by decide +kernel
theorem dd_L_define_35 : decode bb_L_define 35 = .ok (.if_icmp .lt 5, 3) := by decide +kernel
theorem dd_L_define_38 : decode bb_L_define 38 = .ok (.iconst (-1), 1) := by decide +kernel
theorem dd_L_define_39 : decode bb_L_define 39 = .ok (.ireturn, 1) := by decide +kernel
theorem dd_L_define_40 : decode bb_L_define 40 = .ok (.lload_n 2, 1) := by decide +kernel
theorem dd_L_define_41 : decode bb_L_define 41 = .ok (.lconst 0, 1) := by decide +kernel
theorem dd_L_define_42 : decode bb_L_define 42 = .ok (.lcmp, 1) := by decide +kernel
theorem dd_L_define_43 : decode bb_L_define 43 = .ok (.ifCond .le 16, 3) := by decide +kernel
theorem dd_L_define_46 : decode bb_L_define 46 = .ok (.iload 5, 2) := by decide +kernel
theorem dd_L_define_48 : decode bb_L_define 48 = .ok (.ifCond .eq 11, 3) := by decide +kernel
theorem dd_L_define_51 : decode bb_L_define 51 = .ok (.aload_n 0, 1) := by decide +kernel
theorem dd_L_define_52 : decode bb_L_define 52 = .ok (.lload_n 2, 1) := by decide +kernel
theorem dd_L_define_53 : decode bb_L_define 53 = .ok (.invokevirtual 53, 3) := by decide +kernel
theorem dd_L_define_56 : decode bb_L_define 56 = .ok (.ifnull 5, 3) := by decide +kernel
theorem dd_L_define_59 : decode bb_L_define 59 = .ok (.iconst (-1), 1) := by decide +kernel
theorem dd_L_define_60 : decode bb_L_define 60 = .ok (.ireturn, 1) := by decide +kernel
theorem dd_L_define_61 : decode bb_L_define 61 = .ok (.new 57, 3) := by decide +kernel
theorem dd_L_define_64 : decode bb_L_define 64 = .ok (.dup, 1) := by decide +kernel
theorem dd_L_define_65 : decode bb_L_define 65 = .ok (.aload_n 0, 1) := by decide +kernel
theorem dd_L_define_66 : decode bb_L_define 66 = .ok (.getfield 10, 3) := by decide +kernel
theorem dd_L_define_69 : decode bb_L_define 69 = .ok (.invokevirtual 49, 3) := by decide +kernel
theorem dd_L_define_72 : decode bb_L_define 72 = .ok (.iload_n 1, 1) := by decide +kernel
theorem dd_L_define_73 : decode bb_L_define 73 = .ok (.lload_n 2, 1) := by decide +kernel
theorem dd_L_define_74 : decode bb_L_define 74 = .ok (.iload 4, 2) := by decide +kernel
theorem dd_L_define_76 : decode bb_L_define 76 = .ok (.invokespecial 59, 3) := by decide +kernel
theorem dd_L_define_79 : decode bb_L_define 79 = .ok (.astore 6, 2) := by decide +kernel
theorem dd_L_define_81 : decode bb_L_define 81 = .ok (.aload_n 0, 1) := by decide +kernel
theorem dd_L_define_82 : decode bb_L_define 82 = .ok (.getfield 10, 3) := by decide +kernel
theorem dd_L_define_85 : decode bb_L_define 85 = .ok (.aload 6, 2) := by decide +kernel
theorem dd_L_define_87 : decode bb_L_define 87 = .ok (.invokevirtual 62, 3) := by decide +kernel
theorem dd_L_define_90 : decode bb_L_define 90 = .ok (.pop, 1) := by decide +kernel
theorem dd_L_define_91 : decode bb_L_define 91 = .ok (.aload_n 0, 1) := by decide +kernel
theorem dd_L_define_92 : decode bb_L_define 92 = .ok (.iconst 0, 1) := by decide +kernel
theorem dd_L_define_93 : decode bb_L_define 93 = .ok (.putfield 19, 3) := by decide +kernel
theorem dd_L_define_96 : decode bb_L_define 96 = .ok (.aload 6, 2) := by decide +kernel
theorem dd_L_define_98 : decode bb_L_define 98 = .ok (.getfield 66, 3) := by decide +kernel
theorem dd_L_define_101 : decode bb_L_define 101 = .ok (.ireturn, 1) := by decide +kernel
theorem dd_L_parameter_0 : decode bb_L_parameter 0 = .ok (.aload_n 0, 1) := by decide +kernel
theorem dd_L_parameter_1 : decode bb_L_parameter 1 = .ok (.invokevirtual 69, 3) := by decide +kernel
theorem dd_L_parameter_4 : decode bb_L_parameter 4 = .ok (.astore 4, 2) := by decide +kernel
theorem dd_L_parameter_6 : decode bb_L_parameter 6 = .ok (.aload 4, 2) := by decide +kernel
theorem dd_L_parameter_8 : decode bb_L_parameter 8 = .ok (.ifnull 21, 3) := by decide +kernel
theorem dd_L_parameter_11 : decode bb_L_parameter 11 = .ok (.aload 4, 2) := by decide +kernel
theorem dd_L_parameter_13 : decode bb_L_parameter 13 = .ok (.getfield 73, 3) := by decide +kernel
theorem dd_L_parameter_16 : decode bb_L_parameter 16 = .ok (.ifCond .ne 13, 3) := by decide +kernel
theorem dd_L_parameter_19 : decode bb_L_parameter 19 = .ok (.aload 4, 2) := by decide +kernel
theorem dd_L_parameter_21 : decode bb_L_parameter 21 = .ok (.getfield 76, 3) := by decide +kernel
theorem dd_L_parameter_24 : decode bb_L_parameter 24 = .ok (.bipush 8, 2) := by decide +kernel
theorem dd_L_parameter_26 : decode bb_L_parameter 26 = .ok (.if_icmp .lt 5, 3) := by decide +kernel
theorem dd_L_parameter_29 : decode bb_L_parameter 29 = .ok (.iconst (-1), 1) := by decide +kernel
theorem dd_L_parameter_30 : decode bb_L_parameter 30 = .ok (.ireturn, 1) := by decide +kernel
theorem dd_L_parameter_31 : decode bb_L_parameter 31 = .ok (.lload_n 1, 1) := by decide +kernel
theorem dd_L_parameter_32 : decode bb_L_parameter 32 = .ok (.lconst 0, 1) := by decide +kernel
theorem dd_L_parameter_33 : decode bb_L_parameter 33 = .ok (.lcmp, 1) := by decide +kernel
theorem dd_L_parameter_34 : decode bb_L_parameter 34 = .ok (.ifCond .le 20, 3) := by decide +kernel
theorem dd_L_parameter_37 : decode bb_L_parameter 37 = .ok (.iload_n 3, 1) := by decide +kernel
theorem dd_L_parameter_38 : decode bb_L_parameter 38 = .ok (.invokestatic 42, 3) := by decide +kernel
theorem dd_L_parameter_41 : decode bb_L_parameter 41 = .ok (.ifCond .eq 13, 3) := by decide +kernel
theorem dd_L_parameter_44 : decode bb_L_parameter 44 = .ok (.aload 4, 2) := by decide +kernel
theorem dd_L_parameter_46 : decode bb_L_parameter 46 = .ok (.lload_n 1, 1) := by decide +kernel
theorem dd_L_parameter_47 : decode bb_L_parameter 47 = .ok (.invokevirtual 79, 3) := by decide +kernel
theorem dd_L_parameter_50 : decode bb_L_parameter 50 = .ok (.iconst (-1), 1) := by decide +kernel
theorem dd_L_parameter_51 : decode bb_L_parameter 51 = .ok (.if_icmp .eq 5, 3) := by decide +kernel
theorem dd_L_parameter_54 : decode bb_L_parameter 54 = .ok (.iconst (-1), 1) := by decide +kernel
theorem dd_L_parameter_55 : decode bb_L_parameter 55 = .ok (.ireturn, 1) := by decide +kernel
theorem dd_L_parameter_56 : decode bb_L_parameter 56 = .ok (.aload 4, 2) := by decide +kernel
theorem dd_L_parameter_58 : decode bb_L_parameter 58 = .ok (.lload_n 1, 1) := by decide +kernel
theorem dd_L_parameter_59 : decode bb_L_parameter 59 = .ok (.iload_n 3, 1) := by decide +kernel
theorem dd_L_parameter_60 : decode bb_L_parameter 60 = .ok (.invokevirtual 83, 3) := by decide +kernel
theorem dd_L_parameter_63 : decode bb_L_parameter 63 = .ok (.aload_n 0, 1) := by decide +kernel
theorem dd_L_parameter_64 : decode bb_L_parameter 64 = .ok (.iconst 0, 1) := by decide +kernel
theorem dd_L_parameter_65 : decode bb_L_parameter 65 = .ok (.putfield 19, 3) := by decide +kernel
theorem dd_L_parameter_68 : decode bb_L_parameter 68 = .ok (.aload 4, 2) := by decide +kernel
theorem dd_L_parameter_70 : decode bb_L_parameter 70 = .ok (.getfield 76, 3) := by decide +kernel
theorem dd_L_parameter_73 : decode bb_L_parameter 73 = .ok (.ireturn, 1) := by decide +kernel
theorem dd_L_node_0 : decode bb_L_node 0 = .ok (.aload_n 0, 1) := by decide +kernel
theorem dd_L_node_1 : decode bb_L_node 1 = .ok (.invokevirtual 69, 3) := by decide +kernel
theorem dd_L_node_4 : decode bb_L_node 4 = .ok (.astore 7, 2) := by decide +kernel
theorem dd_L_node_6 : decode bb_L_node 6 = .ok (.aload 7, 2) := by decide +kernel
theorem dd_L_node_8 : decode bb_L_node 8 = .ok (.ifnull 24, 3) := by decide +kernel
theorem dd_L_node_11 : decode bb_L_node 11 = .ok (.aload 7, 2) := by decide +kernel
theorem dd_L_node_13 : decode bb_L_node 13 = .ok (.invokevirtual 87, 3) := by decide +kernel
theorem dd_L_node_16 : decode bb_L_node 16 = .ok (.ifCond .ne 16, 3) := by decide +kernel
theorem dd_L_node_19 : decode bb_L_node 19 = .ok (.aload_n 0, 1) := by decide +kernel
theorem dd_L_node_20 : decode bb_L_node 20 = .ok (.getfield 16, 3) := by decide +kernel
theorem dd_L_node_23 : decode bb_L_node 23 = .ok (.invokevirtual 49, 3) := by decide +kernel
theorem dd_L_node_26 : decode bb_L_node 26 = .ok (.sipush 4096, 3) := by decide +kernel
theorem dd_L_node_29 : decode bb_L_node 29 = .ok (.if_icmp .lt 5, 3) := by decide +kernel
theorem dd_L_node_32 : decode bb_L_node 32 = .ok (.iconst (-1), 1) := by decide +kernel
theorem dd_L_node_33 : decode bb_L_node 33 = .ok (.ireturn, 1) := by decide +kernel
theorem dd_L_node_34 : decode bb_L_node 34 = .ok (.iload_n 1, 1) := by decide +kernel
theorem dd_L_node_35 : decode bb_L_node 35 = .ok (.invokestatic 90, 3) := by decide +kernel
theorem dd_L_node_38 : decode bb_L_node 38 = .ok (.ifCond .eq 15, 3) := by decide +kernel
theorem dd_L_node_41 : decode bb_L_node 41 = .ok (.iload_n 1, 1) := by decide +kernel
theorem dd_L_node_42 : decode bb_L_node 42 = .ok (.invokestatic 95, 3) := by decide +kernel
theorem dd_L_node_45 : decode bb_L_node 45 = .ok (.aload 7, 2) := by decide +kernel
theorem dd_L_node_47 : decode bb_L_node 47 = .ok (.invokevirtual 98, 3) := by decide +kernel
theorem dd_L_node_50 : decode bb_L_node 50 = .ok (.if_icmp .eq 5, 3) := by decide +kernel
theorem dd_L_node_53 : decode bb_L_node 53 = .ok (.iconst (-1), 1) := by decide +kernel
theorem dd_L_node_54 : decode bb_L_node 54 = .ok (.ireturn, 1) := by decide +kernel
theorem dd_L_node_55 : decode bb_L_node 55 = .ok (.iload_n 1, 1) := by decide +kernel
theorem dd_L_node_56 : decode bb_L_node 56 = .ok (.iload 6, 2) := by decide +kernel
theorem dd_L_node_58 : decode bb_L_node 58 = .ok (.invokestatic 101, 3) := by decide +kernel
theorem dd_L_node_61 : decode bb_L_node 61 = .ok (.ifCond .eq 13, 3) := by decide +kernel
theorem dd_L_node_64 : decode bb_L_node 64 = .ok (.iload_n 1, 1) := by decide +kernel
theorem dd_L_node_65 : decode bb_L_node 65 = .ok (.lload_n 2, 1) := by decide +kernel
theorem dd_L_node_66 : decode bb_L_node 66 = .ok (.lload 4, 2) := by decide +kernel
theorem dd_L_node_68 : decode bb_L_node 68 = .ok (.invokestatic 105, 3) := by decide +kernel
theorem dd_L_node_71 : decode bb_L_node 71 = .ok (.ifCond .ne 5, 3) := by decide +kernel
theorem dd_L_node_74 : decode bb_L_node 74 = .ok (.iconst (-1), 1) := by decide +kernel
theorem dd_L_node_75 : decode bb_L_node 75 = .ok (.ireturn, 1) := by decide +kernel
theorem dd_L_node_76 : decode bb_L_node 76 = .ok (.new 109, 3) := by decide +kernel
theorem dd_L_node_79 : decode bb_L_node 79 = .ok (.dup, 1) := by decide +kernel
theorem dd_L_node_80 : decode bb_L_node 80 = .ok (.aload_n 0, 1) := by decide +kernel
theorem dd_L_node_81 : decode bb_L_node 81 = .ok (.getfield 16, 3) := by decide +kernel
theorem dd_L_node_84 : decode bb_L_node 84 = .ok (.invokevirtual 49, 3) := by decide +kernel
theorem dd_L_node_87 : decode bb_L_node 87 = .ok (.aload 7, 2) := by decide +kernel
theorem dd_L_node_89 : decode bb_L_node 89 = .ok (.iload_n 1, 1) := by decide +kernel
theorem dd_L_node_90 : decode bb_L_node 90 = .ok (.lload_n 2, 1) := by decide +kernel
theorem dd_L_node_91 : decode bb_L_node 91 = .ok (.lload 4, 2) := by decide +kernel
theorem dd_L_node_93 : decode bb_L_node 93 = .ok (.iload 6, 2) := by decide +kernel
theorem dd_L_node_95 : decode bb_L_node 95 = .ok (.invokespecial 111, 3) := by decide +kernel
theorem dd_L_node_98 : decode bb_L_node 98 = .ok (.astore 8, 2) := by decide +kernel
theorem dd_L_node_100 : decode bb_L_node 100 = .ok (.aload_n 0, 1) := by decide +kernel
theorem dd_L_node_101 : decode bb_L_node 101 = .ok (.getfield 16, 3) := by decide +kernel
theorem dd_L_node_104 : decode bb_L_node 104 = .ok (.aload 8, 2) := by decide +kernel
theorem dd_L_node_106 : decode bb_L_node 106 = .ok (.invokevirtual 62, 3) := by decide +kernel
theorem dd_L_node_109 : decode bb_L_node 109 = .ok (.pop, 1) := by decide +kernel
theorem dd_L_node_110 : decode bb_L_node 110 = .ok (.aload 7, 2) := by decide +kernel
theorem dd_L_node_112 : decode bb_L_node 112 = .ok (.aload 8, 2) := by decide +kernel
theorem dd_L_node_114 : decode bb_L_node 114 = .ok (.invokevirtual 114, 3) := by decide +kernel
theorem dd_L_node_117 : decode bb_L_node 117 = .ok (.aload_n 0, 1) := by decide +kernel
theorem dd_L_node_118 : decode bb_L_node 118 = .ok (.iconst 0, 1) := by decide +kernel
theorem dd_L_node_119 : decode bb_L_node 119 = .ok (.putfield 19, 3) := by decide +kernel
theorem dd_L_node_122 : decode bb_L_node 122 = .ok (.aload 8, 2) := by decide +kernel
theorem dd_L_node_124 : decode bb_L_node 124 = .ok (.getfield 118, 3) := by decide +kernel
theorem dd_L_node_127 : decode bb_L_node 127 = .ok (.ireturn, 1) := by decide +kernel
theorem dd_L_check_0 : decode bb_L_check 0 = .ok (.aload_n 0, 1) := by decide +kernel
theorem dd_L_check_1 : decode bb_L_check 1 = .ok (.invokevirtual 45, 3) := by decide +kernel
theorem dd_L_check_4 : decode bb_L_check 4 = .ok (.ifCond .ne 5, 3) := by decide +kernel
theorem dd_L_check_7 : decode bb_L_check 7 = .ok (.iconst (-1), 1) := by decide +kernel
theorem dd_L_check_8 : decode bb_L_check 8 = .ok (.ireturn, 1) := by decide +kernel
theorem dd_L_check_9 : decode bb_L_check 9 = .ok (.aload_n 0, 1) := by decide +kernel
theorem dd_L_check_10 : decode bb_L_check 10 = .ok (.iconst 0, 1) := by decide +kernel
theorem dd_L_check_11 : decode bb_L_check 11 = .ok (.putfield 23, 3) := by decide +kernel
theorem dd_L_check_14 : decode bb_L_check 14 = .ok (.aload_n 0, 1) := by decide +kernel
theorem dd_L_check_15 : decode bb_L_check 15 = .ok (.iconst (-1), 1) := by decide +kernel
theorem dd_L_check_16 : decode bb_L_check 16 = .ok (.putfield 27, 3) := by decide +kernel
theorem dd_L_check_19 : decode bb_L_check 19 = .ok (.aload_n 0, 1) := by decide +kernel
theorem dd_L_check_20 : decode bb_L_check 20 = .ok (.iconst 0, 1) := by decide +kernel
theorem dd_L_check_21 : decode bb_L_check 21 = .ok (.putfield 30, 3) := by decide +kernel
theorem dd_L_check_24 : decode bb_L_check 24 = .ok (.aload_n 0, 1) := by decide +kernel
theorem dd_L_check_25 : decode bb_L_check 25 = .ok (.invokevirtual 119, 3) := by decide +kernel
theorem dd_L_check_28 : decode bb_L_check 28 = .ok (.aload_n 0, 1) := by decide +kernel
theorem dd_L_check_29 : decode bb_L_check 29 = .ok (.aload_n 0, 1) := by decide +kernel
theorem dd_L_check_30 : decode bb_L_check 30 = .ok (.getfield 23, 3) := by decide +kernel
theorem dd_L_check_33 : decode bb_L_check 33 = .ok (.ifCond .ne 7, 3) := by decide +kernel
theorem dd_L_check_36 : decode bb_L_check 36 = .ok (.iconst 1, 1) := by decide +kernel
theorem dd_L_check_37 : decode bb_L_check 37 = .ok (.goto 4, 3) := by decide +kernel
theorem dd_L_check_40 : decode bb_L_check 40 = .ok (.iconst 0, 1) := by decide +kernel
theorem dd_L_check_41 : decode bb_L_check 41 = .ok (.putfield 19, 3) := by decide +kernel
theorem dd_L_check_44 : decode bb_L_check 44 = .ok (.aload_n 0, 1) := by decide +kernel
theorem dd_L_check_45 : decode bb_L_check 45 = .ok (.getfield 23, 3) := by decide +kernel
theorem dd_L_check_48 : decode bb_L_check 48 = .ok (.ireturn, 1) := by decide +kernel
theorem dd_L_type_0 : decode bb_L_type 0 = .ok (.aload_n 0, 1) := by decide +kernel
theorem dd_L_type_1 : decode bb_L_type 1 = .ok (.iload_n 1, 1) := by decide +kernel
theorem dd_L_type_2 : decode bb_L_type 2 = .ok (.invokevirtual 122, 3) := by decide +kernel
theorem dd_L_type_5 : decode bb_L_type 5 = .ok (.astore_n 2, 1) := by decide +kernel
theorem dd_L_type_6 : decode bb_L_type 6 = .ok (.aload_n 2, 1) := by decide +kernel
theorem dd_L_type_7 : decode bb_L_type 7 = .ok (.ifnonnull 7, 3) := by decide +kernel
theorem dd_L_type_10 : decode bb_L_type 10 = .ok (.iconst (-1), 1) := by decide +kernel
theorem dd_L_type_11 : decode bb_L_type 11 = .ok (.goto 7, 3) := by decide +kernel
theorem dd_L_type_14 : decode bb_L_type 14 = .ok (.aload_n 2, 1) := by decide +kernel
theorem dd_L_type_15 : decode bb_L_type 15 = .ok (.getfield 126, 3) := by decide +kernel
theorem dd_L_type_18 : decode bb_L_type 18 = .ok (.ireturn, 1) := by decide +kernel
theorem dd_L_binder_0 : decode bb_L_binder 0 = .ok (.aload_n 0, 1) := by decide +kernel
theorem dd_L_binder_1 : decode bb_L_binder 1 = .ok (.iload_n 1, 1) := by decide +kernel
theorem dd_L_binder_2 : decode bb_L_binder 2 = .ok (.invokevirtual 122, 3) := by decide +kernel
theorem dd_L_binder_5 : decode bb_L_binder 5 = .ok (.astore_n 2, 1) := by decide +kernel
theorem dd_L_binder_6 : decode bb_L_binder 6 = .ok (.aload_n 2, 1) := by decide +kernel
theorem dd_L_binder_7 : decode bb_L_binder 7 = .ok (.ifnonnull 7, 3) := by decide +kernel
theorem dd_L_binder_10 : decode bb_L_binder 10 = .ok (.iconst (-1), 1) := by decide +kernel
theorem dd_L_binder_11 : decode bb_L_binder 11 = .ok (.goto 7, 3) := by decide +kernel
theorem dd_L_binder_14 : decode bb_L_binder 14 = .ok (.aload_n 2, 1) := by decide +kernel
theorem dd_L_binder_15 : decode bb_L_binder 15 = .ok (.getfield 129, 3) := by decide +kernel
theorem dd_L_binder_18 : decode bb_L_binder 18 = .ok (.ireturn, 1) := by decide +kernel
theorem dd_L_target_0 : decode bb_L_target 0 = .ok (.aload_n 0, 1) := by decide +kernel
theorem dd_L_target_1 : decode bb_L_target 1 = .ok (.iload_n 1, 1) := by decide +kernel
theorem dd_L_target_2 : decode bb_L_target 2 = .ok (.invokevirtual 122, 3) := by decide +kernel
theorem dd_L_target_5 : decode bb_L_target 5 = .ok (.astore_n 2, 1) := by decide +kernel
theorem dd_L_target_6 : decode bb_L_target 6 = .ok (.aload_n 2, 1) := by decide +kernel
theorem dd_L_target_7 : decode bb_L_target 7 = .ok (.ifnull 10, 3) := by decide +kernel
theorem dd_L_target_10 : decode bb_L_target 10 = .ok (.aload_n 2, 1) := by decide +kernel
theorem dd_L_target_11 : decode bb_L_target 11 = .ok (.getfield 132, 3) := by decide +kernel
theorem dd_L_target_14 : decode bb_L_target 14 = .ok (.ifnonnull 7, 3) := by decide +kernel
theorem dd_L_target_17 : decode bb_L_target 17 = .ok (.iconst (-1), 1) := by decide +kernel
theorem dd_L_target_18 : decode bb_L_target 18 = .ok (.goto 10, 3) := by decide +kernel
theorem dd_L_target_21 : decode bb_L_target 21 = .ok (.aload_n 2, 1) := by decide +kernel
theorem dd_L_target_22 : decode bb_L_target 22 = .ok (.getfield 132, 3) := by decide +kernel
theorem dd_L_target_25 : decode bb_L_target 25 = .ok (.getfield 66, 3) := by decide +kernel
theorem dd_L_target_28 : decode bb_L_target 28 = .ok (.ireturn, 1) := by decide +kernel
theorem dd_L_of_0 : decode bb_L_of 0 = .ok (.aload_n 0, 1) := by decide +kernel
theorem dd_L_of_1 : decode bb_L_of 1 = .ok (.iload_n 1, 1) := by decide +kernel
theorem dd_L_of_2 : decode bb_L_of 2 = .ok (.invokevirtual 136, 3) := by decide +kernel
theorem dd_L_of_5 : decode bb_L_of 5 = .ok (.astore_n 3, 1) := by decide +kernel
theorem dd_L_of_6 : decode bb_L_of 6 = .ok (.aload_n 3, 1) := by decide +kernel
theorem dd_L_of_7 : decode bb_L_of 7 = .ok (.ifnonnull 5, 3) := by decide +kernel
theorem dd_L_of_10 : decode bb_L_of 10 = .ok (.iconst (-1), 1) := by decide +kernel
theorem dd_L_of_11 : decode bb_L_of 11 = .ok (.ireturn, 1) := by decide +kernel
theorem dd_L_of_12 : decode bb_L_of 12 = .ok (.iload_n 2, 1) := by decide +kernel
theorem dd_L_of_13 : decode bb_L_of 13 = .ok (.tableswitch 68 0 3 #[31, 36, 41, 60], 31) := by decide +kernel
theorem dd_L_of_44 : decode bb_L_of 44 = .ok (.aload_n 3, 1) := by decide +kernel
theorem dd_L_of_45 : decode bb_L_of 45 = .ok (.getfield 139, 3) := by decide +kernel
theorem dd_L_of_48 : decode bb_L_of 48 = .ok (.ireturn, 1) := by decide +kernel
theorem dd_L_of_49 : decode bb_L_of 49 = .ok (.aload_n 3, 1) := by decide +kernel
theorem dd_L_of_50 : decode bb_L_of 50 = .ok (.getfield 142, 3) := by decide +kernel
theorem dd_L_of_53 : decode bb_L_of 53 = .ok (.ireturn, 1) := by decide +kernel
theorem dd_L_of_54 : decode bb_L_of 54 = .ok (.aload_n 3, 1) := by decide +kernel
theorem dd_L_of_55 : decode bb_L_of 55 = .ok (.getfield 145, 3) := by decide +kernel
theorem dd_L_of_58 : decode bb_L_of 58 = .ok (.ifnonnull 7, 3) := by decide +kernel
theorem dd_L_of_61 : decode bb_L_of 61 = .ok (.iconst (-1), 1) := by decide +kernel
theorem dd_L_of_62 : decode bb_L_of 62 = .ok (.goto 10, 3) := by decide +kernel
theorem dd_L_of_65 : decode bb_L_of 65 = .ok (.aload_n 3, 1) := by decide +kernel
theorem dd_L_of_66 : decode bb_L_of 66 = .ok (.getfield 145, 3) := by decide +kernel
theorem dd_L_of_69 : decode bb_L_of 69 = .ok (.getfield 118, 3) := by decide +kernel
theorem dd_L_of_72 : decode bb_L_of 72 = .ok (.ireturn, 1) := by decide +kernel
theorem dd_L_of_73 : decode bb_L_of 73 = .ok (.aload_n 3, 1) := by decide +kernel
theorem dd_L_of_74 : decode bb_L_of 74 = .ok (.getfield 149, 3) := by decide +kernel
theorem dd_L_of_77 : decode bb_L_of 77 = .ok (.getfield 66, 3) := by decide +kernel
theorem dd_L_of_80 : decode bb_L_of 80 = .ok (.ireturn, 1) := by decide +kernel
theorem dd_L_of_81 : decode bb_L_of 81 = .ok (.iconst (-1), 1) := by decide +kernel
theorem dd_L_of_82 : decode bb_L_of 82 = .ok (.ireturn, 1) := by decide +kernel
theorem dd_L_look_0 : decode bb_L_look 0 = .ok (.iload_n 1, 1) := by decide +kernel
theorem dd_L_look_1 : decode bb_L_look 1 = .ok (.tableswitch 94 0 5 #[39, 47, 55, 60, 65, 78], 39) := by decide +kernel
theorem dd_L_look_40 : decode bb_L_look 40 = .ok (.aload_n 0, 1) := by decide +kernel
theorem dd_L_look_41 : decode bb_L_look 41 = .ok (.getfield 10, 3) := by decide +kernel
theorem dd_L_look_44 : decode bb_L_look 44 = .ok (.invokevirtual 49, 3) := by decide +kernel
theorem dd_L_look_47 : decode bb_L_look 47 = .ok (.ireturn, 1) := by decide +kernel
theorem dd_L_look_48 : decode bb_L_look 48 = .ok (.aload_n 0, 1) := by decide +kernel
theorem dd_L_look_49 : decode bb_L_look 49 = .ok (.getfield 16, 3) := by decide +kernel
theorem dd_L_look_52 : decode bb_L_look 52 = .ok (.invokevirtual 49, 3) := by decide +kernel
theorem dd_L_look_55 : decode bb_L_look 55 = .ok (.ireturn, 1) := by decide +kernel
theorem dd_L_look_56 : decode bb_L_look 56 = .ok (.aload_n 0, 1) := by decide +kernel
theorem dd_L_look_57 : decode bb_L_look 57 = .ok (.getfield 23, 3) := by decide +kernel
theorem dd_L_look_60 : decode bb_L_look 60 = .ok (.ireturn, 1) := by decide +kernel
theorem dd_L_look_61 : decode bb_L_look 61 = .ok (.aload_n 0, 1) := by decide +kernel
theorem dd_L_look_62 : decode bb_L_look 62 = .ok (.getfield 27, 3) := by decide +kernel
theorem dd_L_look_65 : decode bb_L_look 65 = .ok (.ireturn, 1) := by decide +kernel
theorem dd_L_look_66 : decode bb_L_look 66 = .ok (.aload_n 0, 1) := by decide +kernel
theorem dd_L_look_67 : decode bb_L_look 67 = .ok (.invokevirtual 45, 3) := by decide +kernel
theorem dd_L_look_70 : decode bb_L_look 70 = .ok (.ifCond .eq 7, 3) := by decide +kernel
theorem dd_L_look_73 : decode bb_L_look 73 = .ok (.iconst 1, 1) := by decide +kernel
theorem dd_L_look_74 : decode bb_L_look 74 = .ok (.goto 4, 3) := by decide +kernel
theorem dd_L_look_77 : decode bb_L_look 77 = .ok (.iconst 0, 1) := by decide +kernel
theorem dd_L_look_78 : decode bb_L_look 78 = .ok (.ireturn, 1) := by decide +kernel
theorem dd_L_look_79 : decode bb_L_look 79 = .ok (.aload_n 0, 1) := by decide +kernel
theorem dd_L_look_80 : decode bb_L_look 80 = .ok (.getfield 19, 3) := by decide +kernel
theorem dd_L_look_83 : decode bb_L_look 83 = .ok (.ifCond .eq 10, 3) := by decide +kernel
theorem dd_L_look_86 : decode bb_L_look 86 = .ok (.aload_n 0, 1) := by decide +kernel
theorem dd_L_look_87 : decode bb_L_look 87 = .ok (.getfield 30, 3) := by decide +kernel
theorem dd_L_look_90 : decode bb_L_look 90 = .ok (.goto 4, 3) := by decide +kernel
theorem dd_L_look_93 : decode bb_L_look 93 = .ok (.iconst (-1), 1) := by decide +kernel
theorem dd_L_look_94 : decode bb_L_look 94 = .ok (.ireturn, 1) := by decide +kernel
theorem dd_L_look_95 : decode bb_L_look 95 = .ok (.iconst (-1), 1) := by decide +kernel
theorem dd_L_look_96 : decode bb_L_look 96 = .ok (.ireturn, 1) := by decide +kernel
theorem dd_L_lastDefinition_0 : decode bb_L_lastDefinition 0 = .ok (.aload_n 0, 1) := by decide +kernel
theorem dd_L_lastDefinition_1 : decode bb_L_lastDefinition 1 = .ok (.getfield 10, 3) := by decide +kernel
theorem dd_L_lastDefinition_4 : decode bb_L_lastDefinition 4 = .ok (.invokevirtual 49, 3) := by decide +kernel
theorem dd_L_lastDefinition_7 : decode bb_L_lastDefinition 7 = .ok (.istore_n 1, 1) := by decide +kernel
theorem dd_L_lastDefinition_8 : decode bb_L_lastDefinition 8 = .ok (.iload_n 1, 1) := by decide +kernel
theorem dd_L_lastDefinition_9 : decode bb_L_lastDefinition 9 = .ok (.ifCond .ne 7, 3) := by decide +kernel
theorem dd_L_lastDefinition_12 : decode bb_L_lastDefinition 12 = .ok (.aconst_null, 1) := by decide +kernel
theorem dd_L_lastDefinition_13 : decode bb_L_lastDefinition 13 = .ok (.goto 16, 3) := by decide +kernel
theorem dd_L_lastDefinition_16 : decode bb_L_lastDefinition 16 = .ok (.aload_n 0, 1) := by decide +kernel
theorem dd_L_lastDefinition_17 : decode bb_L_lastDefinition 17 = .ok (.getfield 10, 3) := by decide +kernel
theorem dd_L_lastDefinition_20 : decode bb_L_lastDefinition 20 = .ok (.iload_n 1, 1) := by decide +kernel
theorem dd_L_lastDefinition_21 : decode bb_L_lastDefinition 21 = .ok (.iconst 1, 1) := by decide +kernel
theorem dd_L_lastDefinition_22 : decode bb_L_lastDefinition 22 = .ok (.isub, 1) := by decide +kernel
theorem dd_L_lastDefinition_23 : decode bb_L_lastDefinition 23 = .ok (.invokevirtual 152, 3) := by decide +kernel
theorem dd_L_lastDefinition_26 : decode bb_L_lastDefinition 26 = .ok (.checkcast 57, 3) := by decide +kernel
theorem dd_L_lastDefinition_29 : decode bb_L_lastDefinition 29 = .ok (.areturn, 1) := by decide +kernel
theorem dd_L_lastIsWhole_0 : decode bb_L_lastIsWhole 0 = .ok (.aload_n 0, 1) := by decide +kernel
theorem dd_L_lastIsWhole_1 : decode bb_L_lastIsWhole 1 = .ok (.invokevirtual 69, 3) := by decide +kernel
theorem dd_L_lastIsWhole_4 : decode bb_L_lastIsWhole 4 = .ok (.astore_n 1, 1) := by decide +kernel
theorem dd_L_lastIsWhole_5 : decode bb_L_lastIsWhole 5 = .ok (.aload_n 1, 1) := by decide +kernel
theorem dd_L_lastIsWhole_6 : decode bb_L_lastIsWhole 6 = .ok (.ifnull 10, 3) := by decide +kernel
theorem dd_L_lastIsWhole_9 : decode bb_L_lastIsWhole 9 = .ok (.aload_n 1, 1) := by decide +kernel
theorem dd_L_lastIsWhole_10 : decode bb_L_lastIsWhole 10 = .ok (.invokevirtual 87, 3) := by decide +kernel
theorem dd_L_lastIsWhole_13 : decode bb_L_lastIsWhole 13 = .ok (.ifCond .eq 7, 3) := by decide +kernel
theorem dd_L_lastIsWhole_16 : decode bb_L_lastIsWhole 16 = .ok (.iconst 1, 1) := by decide +kernel
theorem dd_L_lastIsWhole_17 : decode bb_L_lastIsWhole 17 = .ok (.goto 4, 3) := by decide +kernel
theorem dd_L_lastIsWhole_20 : decode bb_L_lastIsWhole 20 = .ok (.iconst 0, 1) := by decide +kernel
theorem dd_L_lastIsWhole_21 : decode bb_L_lastIsWhole 21 = .ok (.ireturn, 1) := by decide +kernel
theorem dd_L_definitionNamed_0 : decode bb_L_definitionNamed 0 = .ok (.iconst 0, 1) := by decide +kernel
theorem dd_L_definitionNamed_1 : decode bb_L_definitionNamed 1 = .ok (.istore_n 3, 1) := by decide +kernel
theorem dd_L_definitionNamed_2 : decode bb_L_definitionNamed 2 = .ok (.iload_n 3, 1) := by decide +kernel
theorem dd_L_definitionNamed_3 : decode bb_L_definitionNamed 3 = .ok (.aload_n 0, 1) := by decide +kernel
theorem dd_L_definitionNamed_4 : decode bb_L_definitionNamed 4 = .ok (.getfield 10, 3) := by decide +kernel
theorem dd_L_definitionNamed_7 : decode bb_L_definitionNamed 7 = .ok (.invokevirtual 49, 3) := by decide +kernel
theorem dd_L_definitionNamed_10 : decode bb_L_definitionNamed 10 = .ok (.if_icmp .ge 35, 3) := by decide +kernel
theorem dd_L_definitionNamed_13 : decode bb_L_definitionNamed 13 = .ok (.aload_n 0, 1) := by decide +kernel
theorem dd_L_definitionNamed_14 : decode bb_L_definitionNamed 14 = .ok (.getfield 10, 3) := by decide +kernel
theorem dd_L_definitionNamed_17 : decode bb_L_definitionNamed 17 = .ok (.iload_n 3, 1) := by decide +kernel
theorem dd_L_definitionNamed_18 : decode bb_L_definitionNamed 18 = .ok (.invokevirtual 152, 3) := by decide +kernel
theorem dd_L_definitionNamed_21 : decode bb_L_definitionNamed 21 = .ok (.checkcast 57, 3) := by decide +kernel
theorem dd_L_definitionNamed_24 : decode bb_L_definitionNamed 24 = .ok (.astore 4, 2) := by decide +kernel
theorem dd_L_definitionNamed_26 : decode bb_L_definitionNamed 26 = .ok (.aload 4, 2) := by decide +kernel
theorem dd_L_definitionNamed_28 : decode bb_L_definitionNamed 28 = .ok (.getfield 156, 3) := by decide +kernel
theorem dd_L_definitionNamed_31 : decode bb_L_definitionNamed 31 = .ok (.lload_n 1, 1) := by decide +kernel
theorem dd_L_definitionNamed_32 : decode bb_L_definitionNamed 32 = .ok (.lcmp, 1) := by decide +kernel
theorem dd_L_definitionNamed_33 : decode bb_L_definitionNamed 33 = .ok (.ifCond .ne 6, 3) := by decide +kernel
theorem dd_L_definitionNamed_36 : decode bb_L_definitionNamed 36 = .ok (.aload 4, 2) := by decide +kernel
theorem dd_L_definitionNamed_38 : decode bb_L_definitionNamed 38 = .ok (.areturn, 1) := by decide +kernel
theorem dd_L_definitionNamed_39 : decode bb_L_definitionNamed 39 = .ok (.iinc 3 1, 3) := by decide +kernel
theorem dd_L_definitionNamed_42 : decode bb_L_definitionNamed 42 = .ok (.goto (-40), 3) := by decide +kernel
theorem dd_L_definitionNamed_45 : decode bb_L_definitionNamed 45 = .ok (.aconst_null, 1) := by decide +kernel
theorem dd_L_definitionNamed_46 : decode bb_L_definitionNamed 46 = .ok (.areturn, 1) := by decide +kernel
theorem dd_L_nodeAt_0 : decode bb_L_nodeAt 0 = .ok (.iload_n 1, 1) := by decide +kernel
theorem dd_L_nodeAt_1 : decode bb_L_nodeAt 1 = .ok (.ifCond .lt 14, 3) := by decide +kernel
theorem dd_L_nodeAt_4 : decode bb_L_nodeAt 4 = .ok (.iload_n 1, 1) := by decide +kernel
theorem dd_L_nodeAt_5 : decode bb_L_nodeAt 5 = .ok (.aload_n 0, 1) := by decide +kernel
theorem dd_L_nodeAt_6 : decode bb_L_nodeAt 6 = .ok (.getfield 16, 3) := by decide +kernel
theorem dd_L_nodeAt_9 : decode bb_L_nodeAt 9 = .ok (.invokevirtual 49, 3) := by decide +kernel
theorem dd_L_nodeAt_12 : decode bb_L_nodeAt 12 = .ok (.if_icmp .lt 7, 3) := by decide +kernel
theorem dd_L_nodeAt_15 : decode bb_L_nodeAt 15 = .ok (.aconst_null, 1) := by decide +kernel
theorem dd_L_nodeAt_16 : decode bb_L_nodeAt 16 = .ok (.goto 14, 3) := by decide +kernel
theorem dd_L_nodeAt_19 : decode bb_L_nodeAt 19 = .ok (.aload_n 0, 1) := by decide +kernel
theorem dd_L_nodeAt_20 : decode bb_L_nodeAt 20 = .ok (.getfield 16, 3) := by decide +kernel
theorem dd_L_nodeAt_23 : decode bb_L_nodeAt 23 = .ok (.iload_n 1, 1) := by decide +kernel
theorem dd_L_nodeAt_24 : decode bb_L_nodeAt 24 = .ok (.invokevirtual 152, 3) := by decide +kernel
theorem dd_L_nodeAt_27 : decode bb_L_nodeAt 27 = .ok (.checkcast 109, 3) := by decide +kernel
theorem dd_L_nodeAt_30 : decode bb_L_nodeAt 30 = .ok (.areturn, 1) := by decide +kernel
theorem dd_L_knownNode_0 : decode bb_L_knownNode 0 = .ok (.aload_n 0, 1) := by decide +kernel
theorem dd_L_knownNode_1 : decode bb_L_knownNode 1 = .ok (.getfield 19, 3) := by decide +kernel
theorem dd_L_knownNode_4 : decode bb_L_knownNode 4 = .ok (.ifCond .eq 11, 3) := by decide +kernel
theorem dd_L_knownNode_7 : decode bb_L_knownNode 7 = .ok (.aload_n 0, 1) := by decide +kernel
theorem dd_L_knownNode_8 : decode bb_L_knownNode 8 = .ok (.iload_n 1, 1) := by decide +kernel
theorem dd_L_knownNode_9 : decode bb_L_knownNode 9 = .ok (.invokevirtual 136, 3) := by decide +kernel
theorem dd_L_knownNode_12 : decode bb_L_knownNode 12 = .ok (.goto 4, 3) := by decide +kernel
theorem dd_L_knownNode_15 : decode bb_L_knownNode 15 = .ok (.aconst_null, 1) := by decide +kernel
theorem dd_L_knownNode_16 : decode bb_L_knownNode 16 = .ok (.areturn, 1) := by decide +kernel
theorem dd_L_lookAtAll_0 : decode bb_L_lookAtAll 0 = .ok (.aload_n 0, 1) := by decide +kernel
theorem dd_L_lookAtAll_1 : decode bb_L_lookAtAll 1 = .ok (.invokevirtual 160, 3) := by decide +kernel
theorem dd_L_lookAtAll_4 : decode bb_L_lookAtAll 4 = .ok (.ifCond .ne 9, 3) := by decide +kernel
theorem dd_L_lookAtAll_7 : decode bb_L_lookAtAll 7 = .ok (.aload_n 0, 1) := by decide +kernel
theorem dd_L_lookAtAll_8 : decode bb_L_lookAtAll 8 = .ok (.iconst 4, 1) := by decide +kernel
theorem dd_L_lookAtAll_9 : decode bb_L_lookAtAll 9 = .ok (.putfield 23, 3) := by decide +kernel
theorem dd_L_lookAtAll_12 : decode bb_L_lookAtAll 12 = .ok (.return_, 1) := by decide +kernel
theorem dd_L_lookAtAll_13 : decode bb_L_lookAtAll 13 = .ok (.iconst 0, 1) := by decide +kernel
theorem dd_L_lookAtAll_14 : decode bb_L_lookAtAll 14 = .ok (.istore_n 1, 1) := by decide +kernel
theorem dd_L_lookAtAll_15 : decode bb_L_lookAtAll 15 = .ok (.iload_n 1, 1) := by decide +kernel
theorem dd_L_lookAtAll_16 : decode bb_L_lookAtAll 16 = .ok (.aload_n 0, 1) := by decide +kernel
theorem dd_L_lookAtAll_17 : decode bb_L_lookAtAll 17 = .ok (.getfield 16, 3) := by decide +kernel
theorem dd_L_lookAtAll_20 : decode bb_L_lookAtAll 20 = .ok (.invokevirtual 49, 3) := by decide +kernel
theorem dd_L_lookAtAll_23 : decode bb_L_lookAtAll 23 = .ok (.if_icmp .ge 31, 3) := by decide +kernel
theorem dd_L_lookAtAll_26 : decode bb_L_lookAtAll 26 = .ok (.aload_n 0, 1) := by decide +kernel
theorem dd_L_lookAtAll_27 : decode bb_L_lookAtAll 27 = .ok (.getfield 23, 3) := by decide +kernel
theorem dd_L_lookAtAll_30 : decode bb_L_lookAtAll 30 = .ok (.ifCond .ne 24, 3) := by decide +kernel
theorem dd_L_lookAtAll_33 : decode bb_L_lookAtAll 33 = .ok (.aload_n 0, 1) := by decide +kernel
theorem dd_L_lookAtAll_34 : decode bb_L_lookAtAll 34 = .ok (.aload_n 0, 1) := by decide +kernel
theorem dd_L_lookAtAll_35 : decode bb_L_lookAtAll 35 = .ok (.getfield 16, 3) := by decide +kernel
theorem dd_L_lookAtAll_38 : decode bb_L_lookAtAll 38 = .ok (.iload_n 1, 1) := by decide +kernel
theorem dd_L_lookAtAll_39 : decode bb_L_lookAtAll 39 = .ok (.invokevirtual 152, 3) := by decide +kernel
theorem dd_L_lookAtAll_42 : decode bb_L_lookAtAll 42 = .ok (.checkcast 109, 3) := by decide +kernel
theorem dd_L_lookAtAll_45 : decode bb_L_lookAtAll 45 = .ok (.invokevirtual 163, 3) := by decide +kernel
theorem dd_L_lookAtAll_48 : decode bb_L_lookAtAll 48 = .ok (.iinc 1 1, 3) := by decide +kernel
theorem dd_L_lookAtAll_51 : decode bb_L_lookAtAll 51 = .ok (.goto (-36), 3) := by decide +kernel
theorem dd_L_lookAtAll_54 : decode bb_L_lookAtAll 54 = .ok (.return_, 1) := by decide +kernel
theorem dd_L_endsInMain_0 : decode bb_L_endsInMain 0 = .ok (.aload_n 0, 1) := by decide +kernel
theorem dd_L_endsInMain_1 : decode bb_L_endsInMain 1 = .ok (.invokevirtual 69, 3) := by decide +kernel
theorem dd_L_endsInMain_4 : decode bb_L_endsInMain 4 = .ok (.astore_n 1, 1) := by decide +kernel
theorem dd_L_endsInMain_5 : decode bb_L_endsInMain 5 = .ok (.aload_n 1, 1) := by decide +kernel
theorem dd_L_endsInMain_6 : decode bb_L_endsInMain 6 = .ok (.ifnull 50, 3) := by decide +kernel
theorem dd_L_endsInMain_9 : decode bb_L_endsInMain 9 = .ok (.aload_n 1, 1) := by decide +kernel
theorem dd_L_endsInMain_10 : decode bb_L_endsInMain 10 = .ok (.getfield 166, 3) := by decide +kernel
theorem dd_L_endsInMain_13 : decode bb_L_endsInMain 13 = .ok (.ifCond .ne 43, 3) := by decide +kernel
theorem dd_L_endsInMain_16 : decode bb_L_endsInMain 16 = .ok (.aload_n 1, 1) := by decide +kernel
theorem dd_L_endsInMain_17 : decode bb_L_endsInMain 17 = .ok (.getfield 156, 3) := by decide +kernel
theorem dd_L_endsInMain_20 : decode bb_L_endsInMain 20 = .ok (.ldc2_w 169, 3) := by decide +kernel
theorem dd_L_endsInMain_23 : decode bb_L_endsInMain 23 = .ok (.lcmp, 1) := by decide +kernel
theorem dd_L_endsInMain_24 : decode bb_L_endsInMain 24 = .ok (.ifCond .ne 32, 3) := by decide +kernel
theorem dd_L_endsInMain_27 : decode bb_L_endsInMain 27 = .ok (.aload_n 1, 1) := by decide +kernel
theorem dd_L_endsInMain_28 : decode bb_L_endsInMain 28 = .ok (.getfield 171, 3) := by decide +kernel
theorem dd_L_endsInMain_31 : decode bb_L_endsInMain 31 = .ok (.iconst 3, 1) := by decide +kernel
theorem dd_L_endsInMain_32 : decode bb_L_endsInMain 32 = .ok (.if_icmp .ne 24, 3) := by decide +kernel
theorem dd_L_endsInMain_35 : decode bb_L_endsInMain 35 = .ok (.aload_n 1, 1) := by decide +kernel
theorem dd_L_endsInMain_36 : decode bb_L_endsInMain 36 = .ok (.getfield 76, 3) := by decide +kernel
theorem dd_L_endsInMain_39 : decode bb_L_endsInMain 39 = .ok (.iconst 1, 1) := by decide +kernel
theorem dd_L_endsInMain_40 : decode bb_L_endsInMain 40 = .ok (.if_icmp .ne 16, 3) := by decide +kernel
theorem dd_L_endsInMain_43 : decode bb_L_endsInMain 43 = .ok (.aload_n 1, 1) := by decide +kernel
theorem dd_L_endsInMain_44 : decode bb_L_endsInMain 44 = .ok (.iconst 0, 1) := by decide +kernel
theorem dd_L_endsInMain_45 : decode bb_L_endsInMain 45 = .ok (.invokevirtual 172, 3) := by decide +kernel
theorem dd_L_endsInMain_48 : decode bb_L_endsInMain 48 = .ok (.iconst 3, 1) := by decide +kernel
theorem dd_L_endsInMain_49 : decode bb_L_endsInMain 49 = .ok (.if_icmp .ne 7, 3) := by decide +kernel
theorem dd_L_endsInMain_52 : decode bb_L_endsInMain 52 = .ok (.iconst 1, 1) := by decide +kernel
theorem dd_L_endsInMain_53 : decode bb_L_endsInMain 53 = .ok (.goto 4, 3) := by decide +kernel
theorem dd_L_endsInMain_56 : decode bb_L_endsInMain 56 = .ok (.iconst 0, 1) := by decide +kernel
theorem dd_L_endsInMain_57 : decode bb_L_endsInMain 57 = .ok (.ireturn, 1) := by decide +kernel
theorem dd_L_lookAt_0 : decode bb_L_lookAt 0 = .ok (.aload_n 0, 1) := by decide +kernel
theorem dd_L_lookAt_1 : decode bb_L_lookAt 1 = .ok (.aload_n 1, 1) := by decide +kernel
theorem dd_L_lookAt_2 : decode bb_L_lookAt 2 = .ok (.invokevirtual 176, 3) := by decide +kernel
theorem dd_L_lookAt_5 : decode bb_L_lookAt 5 = .ok (.ifCond .ne 17, 3) := by decide +kernel
theorem dd_L_lookAt_8 : decode bb_L_lookAt 8 = .ok (.aload_n 0, 1) := by decide +kernel
theorem dd_L_lookAt_9 : decode bb_L_lookAt 9 = .ok (.iconst 5, 1) := by decide +kernel
theorem dd_L_lookAt_10 : decode bb_L_lookAt 10 = .ok (.putfield 23, 3) := by decide +kernel
theorem dd_L_lookAt_13 : decode bb_L_lookAt 13 = .ok (.aload_n 0, 1) := by decide +kernel
theorem dd_L_lookAt_14 : decode bb_L_lookAt 14 = .ok (.aload_n 1, 1) := by decide +kernel
theorem dd_L_lookAt_15 : decode bb_L_lookAt 15 = .ok (.getfield 118, 3) := by decide +kernel
theorem dd_L_lookAt_18 : decode bb_L_lookAt 18 = .ok (.putfield 27, 3) := by decide +kernel
theorem dd_L_lookAt_21 : decode bb_L_lookAt 21 = .ok (.return_, 1) := by decide +kernel
theorem dd_L_lookAt_22 : decode bb_L_lookAt 22 = .ok (.aload_n 0, 1) := by decide +kernel
theorem dd_L_lookAt_23 : decode bb_L_lookAt 23 = .ok (.aload_n 0, 1) := by decide +kernel
theorem dd_L_lookAt_24 : decode bb_L_lookAt 24 = .ok (.getfield 30, 3) := by decide +kernel
theorem dd_L_lookAt_27 : decode bb_L_lookAt 27 = .ok (.aload_n 1, 1) := by decide +kernel
theorem dd_L_lookAt_28 : decode bb_L_lookAt 28 = .ok (.getfield 180, 3) := by decide +kernel
theorem dd_L_lookAt_31 : decode bb_L_lookAt 31 = .ok (.invokestatic 183, 3) := by decide +kernel
theorem dd_L_lookAt_34 : decode bb_L_lookAt 34 = .ok (.putfield 30, 3) := by decide +kernel
theorem dd_L_lookAt_37 : decode bb_L_lookAt 37 = .ok (.aload_n 1, 1) := by decide +kernel
theorem dd_L_lookAt_38 : decode bb_L_lookAt 38 = .ok (.getfield 142, 3) := by decide +kernel
theorem dd_L_lookAt_41 : decode bb_L_lookAt 41 = .ok (.ifCond .ne 10, 3) := by decide +kernel
theorem dd_L_lookAt_44 : decode bb_L_lookAt 44 = .ok (.aload_n 1, 1) := by decide +kernel
theorem dd_L_lookAt_45 : decode bb_L_lookAt 45 = .ok (.invokestatic 189, 3) := by decide +kernel
theorem dd_L_lookAt_48 : decode bb_L_lookAt 48 = .ok (.goto 4, 3) := by decide +kernel
theorem dd_L_lookAt_51 : decode bb_L_lookAt 51 = .ok (.aconst_null, 1) := by decide +kernel
theorem dd_L_lookAt_52 : decode bb_L_lookAt 52 = .ok (.astore_n 2, 1) := by decide +kernel
theorem dd_L_lookAt_53 : decode bb_L_lookAt 53 = .ok (.aload_n 2, 1) := by decide +kernel
theorem dd_L_lookAt_54 : decode bb_L_lookAt 54 = .ok (.ifnull 17, 3) := by decide +kernel
theorem dd_L_lookAt_57 : decode bb_L_lookAt 57 = .ok (.aload_n 0, 1) := by decide +kernel
theorem dd_L_lookAt_58 : decode bb_L_lookAt 58 = .ok (.bipush 6, 2) := by decide +kernel
theorem dd_L_lookAt_60 : decode bb_L_lookAt 60 = .ok (.putfield 23, 3) := by decide +kernel
theorem dd_L_lookAt_63 : decode bb_L_lookAt 63 = .ok (.aload_n 0, 1) := by decide +kernel
theorem dd_L_lookAt_64 : decode bb_L_lookAt 64 = .ok (.aload_n 2, 1) := by decide +kernel
theorem dd_L_lookAt_65 : decode bb_L_lookAt 65 = .ok (.getfield 118, 3) := by decide +kernel
theorem dd_L_lookAt_68 : decode bb_L_lookAt 68 = .ok (.putfield 27, 3) := by decide +kernel
theorem dd_L_lookAt_71 : decode bb_L_lookAt 71 = .ok (.return_, 1) := by decide +kernel
theorem dd_L_arriveAt_0 : decode bb_L_arriveAt 0 = .ok (.aload_n 1, 1) := by decide +kernel
theorem dd_L_arriveAt_1 : decode bb_L_arriveAt 1 = .ok (.invokevirtual 193, 3) := by decide +kernel
theorem dd_L_arriveAt_4 : decode bb_L_arriveAt 4 = .ok (.aload_n 1, 1) := by decide +kernel
theorem dd_L_arriveAt_5 : decode bb_L_arriveAt 5 = .ok (.getfield 139, 3) := by decide +kernel
theorem dd_L_arriveAt_8 : decode bb_L_arriveAt 8 = .ok (.iconst 1, 1) := by decide +kernel
theorem dd_L_arriveAt_9 : decode bb_L_arriveAt 9 = .ok (.if_icmp .ne 8, 3) := by decide +kernel
theorem dd_L_arriveAt_12 : decode bb_L_arriveAt 12 = .ok (.aload_n 1, 1) := by decide +kernel
theorem dd_L_arriveAt_13 : decode bb_L_arriveAt 13 = .ok (.invokevirtual 196, 3) := by decide +kernel
theorem dd_L_arriveAt_16 : decode bb_L_arriveAt 16 = .ok (.ireturn, 1) := by decide +kernel
theorem dd_L_arriveAt_17 : decode bb_L_arriveAt 17 = .ok (.aload_n 1, 1) := by decide +kernel
theorem dd_L_arriveAt_18 : decode bb_L_arriveAt 18 = .ok (.getfield 139, 3) := by decide +kernel
theorem dd_L_arriveAt_21 : decode bb_L_arriveAt 21 = .ok (.invokestatic 199, 3) := by decide +kernel
theorem dd_L_arriveAt_24 : decode bb_L_arriveAt 24 = .ok (.ifCond .eq 16, 3) := by decide +kernel
theorem dd_L_arriveAt_27 : decode bb_L_arriveAt 27 = .ok (.aload_n 1, 1) := by decide +kernel
theorem dd_L_arriveAt_28 : decode bb_L_arriveAt 28 = .ok (.aload_n 0, 1) := by decide +kernel
theorem dd_L_arriveAt_29 : decode bb_L_arriveAt 29 = .ok (.aload_n 1, 1) := by decide +kernel
theorem dd_L_arriveAt_30 : decode bb_L_arriveAt 30 = .ok (.getfield 202, 3) := by decide +kernel
theorem dd_L_arriveAt_33 : decode bb_L_arriveAt 33 = .ok (.invokevirtual 53, 3) := by decide +kernel
theorem dd_L_arriveAt_36 : decode bb_L_arriveAt 36 = .ok (.invokevirtual 205, 3) := by decide +kernel
theorem dd_L_arriveAt_39 : decode bb_L_arriveAt 39 = .ok (.ireturn, 1) := by decide +kernel
theorem dd_L_arriveAt_40 : decode bb_L_arriveAt 40 = .ok (.aload_n 1, 1) := by decide +kernel
theorem dd_L_arriveAt_41 : decode bb_L_arriveAt 41 = .ok (.aload_n 1, 1) := by decide +kernel
theorem dd_L_arriveAt_42 : decode bb_L_arriveAt 42 = .ok (.getfield 139, 3) := by decide +kernel
theorem dd_L_arriveAt_45 : decode bb_L_arriveAt 45 = .ok (.invokestatic 209, 3) := by decide +kernel
theorem dd_L_arriveAt_48 : decode bb_L_arriveAt 48 = .ok (.putfield 126, 3) := by decide +kernel
theorem dd_L_arriveAt_51 : decode bb_L_arriveAt 51 = .ok (.iconst 1, 1) := by decide +kernel
theorem dd_L_arriveAt_52 : decode bb_L_arriveAt 52 = .ok (.ireturn, 1) := by decide +kernel
theorem dd_L_firstMisfit_0 : decode bb_L_firstMisfit 0 = .ok (.aload_n 0, 1) := by decide +kernel
theorem dd_L_firstMisfit_1 : decode bb_L_firstMisfit 1 = .ok (.astore_n 1, 1) := by decide +kernel
theorem dd_L_firstMisfit_2 : decode bb_L_firstMisfit 2 = .ok (.aload_n 1, 1) := by decide +kernel
theorem dd_L_firstMisfit_3 : decode bb_L_firstMisfit 3 = .ok (.ifnull 53, 3) := by decide +kernel
theorem dd_L_firstMisfit_6 : decode bb_L_firstMisfit 6 = .ok (.aload_n 1, 1) := by decide +kernel
theorem dd_L_firstMisfit_7 : decode bb_L_firstMisfit 7 = .ok (.invokevirtual 212, 3) := by decide +kernel
theorem dd_L_firstMisfit_10 : decode bb_L_firstMisfit 10 = .ok (.ifCond .ne 5, 3) := by decide +kernel
theorem dd_L_firstMisfit_13 : decode bb_L_firstMisfit 13 = .ok (.aload_n 1, 1) := by decide +kernel
theorem dd_L_firstMisfit_14 : decode bb_L_firstMisfit 14 = .ok (.areturn, 1) := by decide +kernel
theorem dd_L_firstMisfit_15 : decode bb_L_firstMisfit 15 = .ok (.aload_n 1, 1) := by decide +kernel
theorem dd_L_firstMisfit_16 : decode bb_L_firstMisfit 16 = .ok (.getfield 145, 3) := by decide +kernel
theorem dd_L_firstMisfit_19 : decode bb_L_firstMisfit 19 = .ok (.ifnull 18, 3) := by decide +kernel
theorem dd_L_firstMisfit_22 : decode bb_L_firstMisfit 22 = .ok (.aload_n 1, 1) := by decide +kernel
theorem dd_L_firstMisfit_23 : decode bb_L_firstMisfit 23 = .ok (.getfield 145, 3) := by decide +kernel
theorem dd_L_firstMisfit_26 : decode bb_L_firstMisfit 26 = .ok (.aload_n 1, 1) := by decide +kernel
theorem dd_L_firstMisfit_27 : decode bb_L_firstMisfit 27 = .ok (.getfield 215, 3) := by decide +kernel
theorem dd_L_firstMisfit_30 : decode bb_L_firstMisfit 30 = .ok (.aload_n 1, 1) := by decide +kernel
theorem dd_L_firstMisfit_31 : decode bb_L_firstMisfit 31 = .ok (.getfield 126, 3) := by decide +kernel
theorem dd_L_firstMisfit_34 : decode bb_L_firstMisfit 34 = .ok (.invokevirtual 218, 3) := by decide +kernel
theorem dd_L_firstMisfit_37 : decode bb_L_firstMisfit 37 = .ok (.aload_n 1, 1) := by decide +kernel
theorem dd_L_firstMisfit_38 : decode bb_L_firstMisfit 38 = .ok (.invokevirtual 222, 3) := by decide +kernel
theorem dd_L_firstMisfit_41 : decode bb_L_firstMisfit 41 = .ok (.ifCond .eq 10, 3) := by decide +kernel
theorem dd_L_firstMisfit_44 : decode bb_L_firstMisfit 44 = .ok (.aload_n 1, 1) := by decide +kernel
theorem dd_L_firstMisfit_45 : decode bb_L_firstMisfit 45 = .ok (.getfield 145, 3) := by decide +kernel
theorem dd_L_firstMisfit_48 : decode bb_L_firstMisfit 48 = .ok (.goto 4, 3) := by decide +kernel
theorem dd_L_firstMisfit_51 : decode bb_L_firstMisfit 51 = .ok (.aconst_null, 1) := by decide +kernel
theorem dd_L_firstMisfit_52 : decode bb_L_firstMisfit 52 = .ok (.astore_n 1, 1) := by decide +kernel
theorem dd_L_firstMisfit_53 : decode bb_L_firstMisfit 53 = .ok (.goto (-51), 3) := by decide +kernel
theorem dd_L_firstMisfit_56 : decode bb_L_firstMisfit 56 = .ok (.aconst_null, 1) := by decide +kernel
theorem dd_L_firstMisfit_57 : decode bb_L_firstMisfit 57 = .ok (.areturn, 1) := by decide +kernel
end
section
set_option maxHeartbeats 4000000 in
set_option maxRecDepth 100000 in
theorem cc_L_lastDefinition_n {l : Launch} {G : gC} {M : mC} {x ld ln ed en nn : Nat} {aD aN : Nat → Nat} {D : Nat → dR} {N : Nat → nR} {pn : Nat → Nat → Int64} {pt : Nat → Nat → Int32} {kn : Bool} {ft fn mv : Int32} (hR : rp G M x ld ln ed en 0 nn aD aN D N pn pt kn ft fn mv) : cR l yy_L_lastDefinition bb_L_lastDefinition 2 (some (.object "LevelTypes$Definition")) 1 G M [.ref x] (.null) := by
  refine me_R (by decide) (Nat.le_of_ble_eq_true rfl) ?_
  intro p e s m below meth c ls hx hb hr hlocks hml hown ht hM hK hl
  have hown : s.vm.findClass RR_L = some m.cls := hown
  have hl : lv_has ls 2 [(0, .ref x)] := hl
  obtain ⟨mx, hLd, hLn, hD, hN, hAp, hnd, hnn⟩ := id hR
  obtain ⟨cl, ml⟩ := ls_obj hLd
  obtain ⟨ck, mk⟩ := ls_obj hLn
  refine lv_aload_n hx hb dd_L_lastDefinition_0 rfl (lv_at hl 0 rfl) ?_
  refine mg_get hx hb ht ii_L hown hK hM mx rfl 0 (by decide) wd_1_50 (fun _ h => h) rfl dd_L_lastDefinition_1 ?_
  refine mc_V (As := []) (rest := []) 0 (ls_size hLd) hx hb hml hown ht hM hK hl.1 lk_L_49 (by decide +kernel) (by decide) ml rfl rfl rfl (Nat.le_of_ble_eq_true rfl) dd_L_lastDefinition_4 ⟨Nat.zero_le _, Nat.zero_le _⟩ ?_
  refine lv_istore_n (lv' := [(1, .int (nI 0)), (0, .ref x)]) hx hb dd_L_lastDefinition_7 rfl hl (by decide) rfl (fun ls hl => ?_)
  refine lv_iload_n hx hb dd_L_lastDefinition_8 rfl (lv_at hl 0 rfl) ?_
  refine lv_if_ne (tgt := 16) hx hb dd_L_lastDefinition_9 (by decide) (fun z => absurd nI_0 z) (fun _ => ?_)
  refine lv_null hx hb dd_L_lastDefinition_12 ?_
  refine lv_goto (tgt := 29) hx hb dd_L_lastDefinition_13 (by decide) ?_
  exact mr_an hx hb hr hlocks rfl dd_L_lastDefinition_29

set_option maxHeartbeats 4000000 in
set_option maxRecDepth 100000 in
theorem cc_L_lastDefinition_s {l : Launch} {G : gC} {M : mC} {x ld ln ed en k nn : Nat} {aD aN : Nat → Nat} {D : Nat → dR} {N : Nat → nR} {pn : Nat → Nat → Int64} {pt : Nat → Nat → Int32} {kn : Bool} {ft fn mv : Int32} (hR : rp G M x ld ln ed en (k + 1) nn aD aN D N pn pt kn ft fn mv) : cR l yy_L_lastDefinition bb_L_lastDefinition 2 (some (.object "LevelTypes$Definition")) 3 G M [.ref x] (.ref (aD k)) := by
  refine me_R (by decide) (Nat.le_of_ble_eq_true rfl) ?_
  intro p e s m below meth c ls hx hb hr hlocks hml hown ht hM hK hl
  have hown : s.vm.findClass RR_L = some m.cls := hown
  have hl : lv_has ls 2 [(0, .ref x)] := hl
  obtain ⟨mx, hLd, hLn, hD, hN, hAp, hnd, hnn⟩ := id hR
  obtain ⟨cl, ml⟩ := ls_obj hLd
  obtain ⟨ck, mk⟩ := ls_obj hLn
  refine lv_aload_n hx hb dd_L_lastDefinition_0 rfl (lv_at hl 0 rfl) ?_
  refine mg_get hx hb ht ii_L hown hK hM mx rfl 0 (by decide) wd_1_50 (fun _ h => h) rfl dd_L_lastDefinition_1 ?_
  refine mc_V (As := []) (rest := []) 0 (ls_size hLd) hx hb hml hown ht hM hK hl.1 lk_L_49 (by decide +kernel) (by decide) ml rfl rfl rfl (Nat.le_of_ble_eq_true rfl) dd_L_lastDefinition_4 ⟨Nat.zero_le _, Nat.zero_le _⟩ ?_
  refine lv_istore_n (lv' := [(1, .int (nI (k + 1))), (0, .ref x)]) hx hb dd_L_lastDefinition_7 rfl hl (by decide) rfl (fun ls hl => ?_)
  refine lv_iload_n hx hb dd_L_lastDefinition_8 rfl (lv_at hl 0 rfl) ?_
  refine lv_if_ne (tgt := 16) hx hb dd_L_lastDefinition_9 (by decide) (fun _ => ?_) (fun z => absurd z (nI_ne0 (by omega) (by omega)))
  refine lv_aload_n hx hb dd_L_lastDefinition_16 rfl (lv_at hl 1 rfl) ?_
  refine mg_get hx hb ht ii_L hown hK hM mx rfl 0 (by decide) wd_1_50 (fun _ h => h) rfl dd_L_lastDefinition_17 ?_
  refine lv_iload_n hx hb dd_L_lastDefinition_20 rfl (lv_at hl 0 rfl) ?_
  refine lv_iconst (v := 1) hx hb dd_L_lastDefinition_21 (by decide) ?_
  refine lv_isub hx hb dd_L_lastDefinition_22 ?_
  rw [nI_pred]
  refine mc_V (As := [.int (nI k)]) (rest := []) 1 (ls_get hLd (i := k) (Nat.lt_succ_self k)) hx hb hml hown ht hM hK hl.1 lk_L_152 (by decide +kernel) (by decide) ml rfl rfl rfl (Nat.le_of_ble_eq_true rfl) dd_L_lastDefinition_23 ⟨Nat.zero_le _, Nat.zero_le _⟩ ?_
  have me := (hD k (Nat.lt_succ_self k)).1
  refine va_castS hx hb hown (ht _ wd_1_113) (hK.1.1 1 _ rfl).2 (m_recv hK hM me rfl) dd_L_lastDefinition_26 ?_
  exact mr_ar hx hb hr hlocks rfl dd_L_lastDefinition_29

set_option maxHeartbeats 4000000 in
set_option maxRecDepth 100000 in
theorem cc_L_lastIsWhole_n {l : Launch} {G : gC} {M : mC} {x ld ln ed en nn : Nat} {aD aN : Nat → Nat} {D : Nat → dR} {N : Nat → nR} {pn : Nat → Nat → Int64} {pt : Nat → Nat → Int32} {kn : Bool} {ft fn mv : Int32} (hR : rp G M x ld ln ed en 0 nn aD aN D N pn pt kn ft fn mv) : cR l yy_L_lastIsWhole bb_L_lastIsWhole 2 (some .boolean) 4 G M [.ref x] (.int 1) := by
  refine me_R (by decide) (Nat.le_of_ble_eq_true rfl) ?_
  intro p e s m below meth c ls hx hb hr hlocks hml hown ht hM hK hl
  have hown : s.vm.findClass RR_L = some m.cls := hown
  have hl : lv_has ls 2 [(0, .ref x)] := hl
  obtain ⟨mx, hLd, hLn, hD, hN, hAp, hnd, hnn⟩ := id hR
  obtain ⟨cl, ml⟩ := ls_obj hLd
  obtain ⟨ck, mk⟩ := ls_obj hLn
  refine lv_aload_n hx hb dd_L_lastIsWhole_0 rfl (lv_at hl 0 rfl) ?_
  refine mc_V (As := []) (rest := []) 0 (cc_L_lastDefinition_n hR) hx hb hml hown ht hM hK hl.1 lk_L_69 (by decide +kernel) (by decide) mx rfl rfl rfl (Nat.le_of_ble_eq_true rfl) dd_L_lastIsWhole_1 ⟨Nat.zero_le _, Nat.zero_le _⟩ ?_
  refine lv_astore_nN (lv' := [(1, .null), (0, .ref x)]) hx hb dd_L_lastIsWhole_4 rfl hl (by decide) rfl (fun ls hl => ?_)
  refine lv_aload_nN hx hb dd_L_lastIsWhole_5 rfl (lv_at hl 0 rfl) ?_
  refine lv_ifnullN (tgt := 16) hx hb dd_L_lastIsWhole_6 (by decide) ?_
  refine lv_iconst (v := 1) hx hb dd_L_lastIsWhole_16 (by decide) ?_
  refine lv_goto (tgt := 21) hx hb dd_L_lastIsWhole_17 (by decide) ?_
  exact mr_i hx hb hr hlocks rfl rfl dd_L_lastIsWhole_21

set_option maxHeartbeats 4000000 in
set_option maxRecDepth 100000 in
theorem cc_L_lastIsWhole_s {l : Launch} {G : gC} {M : mC} {x ld ln ed en k nn : Nat} {aD aN : Nat → Nat} {D : Nat → dR} {N : Nat → nR} {pn : Nat → Nat → Int64} {pt : Nat → Nat → Int32} {kn : Bool} {ft fn mv : Int32} (hR : rp G M x ld ln ed en (k + 1) nn aD aN D N pn pt kn ft fn mv) : cR l yy_L_lastIsWhole bb_L_lastIsWhole 2 (some .boolean) 4 G M [.ref x] (.int (bI (d_whole (D k)))) := by
  refine me_R (by decide) (Nat.le_of_ble_eq_true rfl) ?_
  intro p e s m below meth c ls hx hb hr hlocks hml hown ht hM hK hl
  have hown : s.vm.findClass RR_L = some m.cls := hown
  have hl : lv_has ls 2 [(0, .ref x)] := hl
  obtain ⟨mx, hLd, hLn, hD, hN, hAp, hnd, hnn⟩ := id hR
  obtain ⟨cl, ml⟩ := ls_obj hLd
  obtain ⟨ck, mk⟩ := ls_obj hLn
  refine lv_aload_n hx hb dd_L_lastIsWhole_0 rfl (lv_at hl 0 rfl) ?_
  refine mc_V (As := []) (rest := []) 0 (cc_L_lastDefinition_s hR) hx hb hml hown ht hM hK hl.1 lk_L_69 (by decide +kernel) (by decide) mx rfl rfl rfl (Nat.le_of_ble_eq_true rfl) dd_L_lastIsWhole_1 ⟨Nat.zero_le _, Nat.zero_le _⟩ ?_
  have me := (hD k (Nat.lt_succ_self k)).1
  refine lv_astore_n (lv' := [(1, .ref (aD k)), (0, .ref x)]) hx hb dd_L_lastIsWhole_4 rfl hl (by decide) rfl (fun ls hl => ?_)
  refine lv_aload_n hx hb dd_L_lastIsWhole_5 rfl (lv_at hl 0 rfl) ?_
  refine lv_ifnull hx hb dd_L_lastIsWhole_6 ?_
  refine lv_aload_n hx hb dd_L_lastIsWhole_9 rfl (lv_at hl 0 rfl) ?_
  refine mc_V (As := []) (rest := []) 0 (cc_D_isWhole me) hx hb hml hown ht hM hK hl.1 lk_L_87 (by decide +kernel) (by decide) me rfl rfl rfl (Nat.le_of_ble_eq_true rfl) dd_L_lastIsWhole_10 ⟨Nat.zero_le _, Nat.zero_le _⟩ ?_
  refine lb_if_eq (tgt := 20) hx hb dd_L_lastIsWhole_13 (by decide) (fun c1 => ?_) (fun c1 => ?_)
  · refine lv_iconst (v := 0) hx hb dd_L_lastIsWhole_20 (by decide) ?_
    exact mr_i hx hb hr hlocks rfl (by simp [bI, c1]) dd_L_lastIsWhole_21
  · refine lv_iconst (v := 1) hx hb dd_L_lastIsWhole_16 (by decide) ?_
    refine lv_goto (tgt := 21) hx hb dd_L_lastIsWhole_17 (by decide) ?_
    exact mr_i hx hb hr hlocks rfl (by simp [bI, c1]) dd_L_lastIsWhole_21

theorem cc_L_lastIsWhole {l : Launch} {G : gC} {M : mC} {x ld ln ed en nd nn : Nat} {aD aN : Nat → Nat} {D : Nat → dR} {N : Nat → nR} {pn : Nat → Nat → Int64} {pt : Nat → Nat → Int32} {kn : Bool} {ft fn mv : Int32} (hR : rp G M x ld ln ed en nd nn aD aN D N pn pt kn ft fn mv) : cR l yy_L_lastIsWhole bb_L_lastIsWhole 2 (some .boolean) 4 G M [.ref x] (.int (bI (c_whole nd D))) := by
  cases nd with
  | zero => exact cc_L_lastIsWhole_n hR
  | succ k => exact cc_L_lastIsWhole_s hR

set_option maxHeartbeats 4000000 in
set_option maxRecDepth 100000 in
theorem cc_L_nodeAt {l : Launch} {G : gC} {M : mC} {x ld ln ed en nd nn : Nat} {aD aN : Nat → Nat} {D : Nat → dR} {N : Nat → nR} {pn : Nat → Nat → Int64} {pt : Nat → Nat → Int32} {kn : Bool} {ft fn mv : Int32} (hR : rp G M x ld ln ed en nd nn aD aN D N pn pt kn ft fn mv) {k : Int32} : cR l yy_L_nodeAt bb_L_nodeAt 2 (some (.object "LevelTypes$Node")) 3 G M [.ref x, .int k] (va_rf ((c_idx k nn).map aN)) := by
  refine me_R (by decide) (Nat.le_of_ble_eq_true rfl) ?_
  intro p e s m below meth c ls hx hb hr hlocks hml hown ht hM hK hl
  have hown : s.vm.findClass RR_L = some m.cls := hown
  have hl : lv_has ls 2 [(0, .ref x), (1, .int k)] := hl
  obtain ⟨mx, hLd, hLn, hD, hN, hAp, hnd, hnn⟩ := id hR
  obtain ⟨cl, ml⟩ := ls_obj hLd
  obtain ⟨ck, mk⟩ := ls_obj hLn
  refine lv_iload_n hx hb dd_L_nodeAt_0 rfl (lv_at hl 1 rfl) ?_
  refine lv_if_lt (tgt := 15) hx hb dd_L_nodeAt_1 (by decide) (fun c1 => ?_) (fun c1 => ?_)
  · refine lv_null hx hb dd_L_nodeAt_15 ?_
    refine lv_goto (tgt := 30) hx hb dd_L_nodeAt_16 (by decide) ?_
    exact mr_an hx hb hr hlocks (by first | (simp [bI, c_idx, va_rf, c1]; done) | (simp [c_idx, va_rf, nI_clamp (show j < 2 ^ 31 by omega), c1, c2]; done)) dd_L_nodeAt_30
  · refine lv_iload_n hx hb dd_L_nodeAt_4 rfl (lv_at hl 1 rfl) ?_
    refine lv_aload_n hx hb dd_L_nodeAt_5 rfl (lv_at hl 0 rfl) ?_
    refine mg_get hx hb ht ii_L hown hK hM mx rfl 1 (by decide) wd_1_51 (fun _ h => h) rfl dd_L_nodeAt_6 ?_
    refine mc_V (As := []) (rest := [.int k]) 0 (ls_size hLn) hx hb hml hown ht hM hK hl.1 lk_L_49 (by decide +kernel) (by decide) mk rfl rfl rfl (Nat.le_of_ble_eq_true rfl) dd_L_nodeAt_9 ⟨Nat.zero_le _, Nat.zero_le _⟩ ?_
    refine lv_icmp_lt (tgt := 19) hx hb dd_L_nodeAt_12 (by decide) (fun c2 => ?_) (fun c2 => ?_)
    · refine lv_aload_n hx hb dd_L_nodeAt_19 rfl (lv_at hl 0 rfl) ?_
      refine mg_get hx hb ht ii_L hown hK hM mx rfl 1 (by decide) wd_1_51 (fun _ h => h) rfl dd_L_nodeAt_20 ?_
      refine lv_iload_n hx hb dd_L_nodeAt_23 rfl (lv_at hl 1 rfl) ?_
      obtain ⟨j, hj, rfl⟩ := ix_of c1 c2 hnn
      refine mc_V (As := [.int (nI j)]) (rest := []) 1 (ls_get hLn (i := j) hj) hx hb hml hown ht hM hK hl.1 lk_L_152 (by decide +kernel) (by decide) mk rfl rfl rfl (Nat.le_of_ble_eq_true rfl) dd_L_nodeAt_24 ⟨Nat.zero_le _, Nat.zero_le _⟩ ?_
      have me := (hN j hj).1
      refine va_castS hx hb hown (ht _ wd_2_26) (hK.1.1 2 _ rfl).2 (m_recv hK hM me rfl) dd_L_nodeAt_27 ?_
      exact mr_ar hx hb hr hlocks (by first | (simp [bI, c_idx, va_rf, c1, c2]; done) | (simp [c_idx, va_rf, nI_clamp (show j < 2 ^ 31 by omega), c1, c2]; done)) dd_L_nodeAt_30
    · refine lv_null hx hb dd_L_nodeAt_15 ?_
      refine lv_goto (tgt := 30) hx hb dd_L_nodeAt_16 (by decide) ?_
      exact mr_an hx hb hr hlocks (by first | (simp [bI, c_idx, va_rf, c1, c2]; done) | (simp [c_idx, va_rf, nI_clamp (show j < 2 ^ 31 by omega), c1, c2]; done)) dd_L_nodeAt_30

set_option maxHeartbeats 4000000 in
set_option maxRecDepth 100000 in
theorem cc_L_knownNode {l : Launch} {G : gC} {M : mC} {x ld ln ed en nd nn : Nat} {aD aN : Nat → Nat} {D : Nat → dR} {N : Nat → nR} {pn : Nat → Nat → Int64} {pt : Nat → Nat → Int32} {kn : Bool} {ft fn mv : Int32} (hR : rp G M x ld ln ed en nd nn aD aN D N pn pt kn ft fn mv) {k : Int32} : cR l yy_L_knownNode bb_L_knownNode 2 (some (.object "LevelTypes$Node")) 4 G M [.ref x, .int k] (va_rf ((c_kn kn k nn).map aN)) := by
  refine me_R (by decide) (Nat.le_of_ble_eq_true rfl) ?_
  intro p e s m below meth c ls hx hb hr hlocks hml hown ht hM hK hl
  have hown : s.vm.findClass RR_L = some m.cls := hown
  have hl : lv_has ls 2 [(0, .ref x), (1, .int k)] := hl
  obtain ⟨mx, hLd, hLn, hD, hN, hAp, hnd, hnn⟩ := id hR
  obtain ⟨cl, ml⟩ := ls_obj hLd
  obtain ⟨ck, mk⟩ := ls_obj hLn
  refine lv_aload_n hx hb dd_L_knownNode_0 rfl (lv_at hl 0 rfl) ?_
  refine mg_get hx hb ht ii_L hown hK hM mx rfl 2 (by decide) wd_1_52 (fun _ h => h) rfl dd_L_knownNode_1 ?_
  refine lb_if_eq (tgt := 15) hx hb dd_L_knownNode_4 (by decide) (fun c1 => ?_) (fun c1 => ?_)
  · refine lv_null hx hb dd_L_knownNode_15 ?_
    exact mr_an hx hb hr hlocks (by first | (simp [bI, c_kn, va_rf, c1]; done) | (simp_all [c_kn, va_rf]; done)) dd_L_knownNode_16
  · refine lv_aload_n hx hb dd_L_knownNode_7 rfl (lv_at hl 0 rfl) ?_
    refine lv_iload_n hx hb dd_L_knownNode_8 rfl (lv_at hl 1 rfl) ?_
    refine mc_V (As := [.int k]) (rest := []) 1 (cc_L_nodeAt hR (k := k)) hx hb hml hown ht hM hK hl.1 lk_L_136 (by decide +kernel) (by decide) mx rfl rfl rfl (Nat.le_of_ble_eq_true rfl) dd_L_knownNode_9 ⟨Nat.zero_le _, Nat.zero_le _⟩ ?_
    rcases ey2 : ((c_idx k nn).map aN) with _ | y2
    · refine lv_goto (tgt := 16) hx hb dd_L_knownNode_12 (by decide) ?_
      exact mr_an hx hb hr hlocks (by first | (simp [bI, c_kn, va_rf, c1, ey2]; done) | (simp_all [c_kn, va_rf]; done)) dd_L_knownNode_16
    · obtain ⟨j, hj, ej, ea⟩ := c_at_some ey2 hnn
      have my2 : M y2 = some (nC (N j)) := by rw [ea]; exact (hN j hj).1
      refine lv_goto (tgt := 16) hx hb dd_L_knownNode_12 (by decide) ?_
      exact mr_ar hx hb hr hlocks (by first | (simp [bI, c_kn, va_rf, c1, ey2, ej]; done) | (simp_all [c_kn, va_rf]; done)) dd_L_knownNode_16

set_option maxHeartbeats 4000000 in
set_option maxRecDepth 100000 in
theorem cc_L_type {l : Launch} {G : gC} {M : mC} {x ld ln ed en nd nn : Nat} {aD aN : Nat → Nat} {D : Nat → dR} {N : Nat → nR} {pn : Nat → Nat → Int64} {pt : Nat → Nat → Int32} {kn : Bool} {ft fn mv : Int32} (hR : rp G M x ld ln ed en nd nn aD aN D N pn pt kn ft fn mv) {k : Int32} : cR l yy_L_type bb_L_type 3 (some .int) 5 G M [.ref x, .int k] (.int (c_val (c_kn kn k nn) (fun j => n_vt (N j)))) := by
  refine me_R (by decide) (Nat.le_of_ble_eq_true rfl) ?_
  intro p e s m below meth c ls hx hb hr hlocks hml hown ht hM hK hl
  have hown : s.vm.findClass RR_L = some m.cls := hown
  have hl : lv_has ls 3 [(0, .ref x), (1, .int k)] := hl
  obtain ⟨mx, hLd, hLn, hD, hN, hAp, hnd, hnn⟩ := id hR
  obtain ⟨cl, ml⟩ := ls_obj hLd
  obtain ⟨ck, mk⟩ := ls_obj hLn
  refine lv_aload_n hx hb dd_L_type_0 rfl (lv_at hl 0 rfl) ?_
  refine lv_iload_n hx hb dd_L_type_1 rfl (lv_at hl 1 rfl) ?_
  refine mc_V (As := [.int k]) (rest := []) 1 (cc_L_knownNode hR (k := k)) hx hb hml hown ht hM hK hl.1 lk_L_122 (by decide +kernel) (by decide) mx rfl rfl rfl (Nat.le_of_ble_eq_true rfl) dd_L_type_2 ⟨Nat.zero_le _, Nat.zero_le _⟩ ?_
  rcases ey1 : ((c_kn kn k nn).map aN) with _ | y1
  · refine lv_astore_nN (lv' := [(2, .null), (0, .ref x), (1, .int k)]) hx hb dd_L_type_5 rfl hl (by decide) rfl (fun ls hl => ?_)
    refine lv_aload_nN hx hb dd_L_type_6 rfl (lv_at hl 0 rfl) ?_
    refine lv_ifnonnullN hx hb dd_L_type_7 ?_
    refine lv_iconst (v := -1) hx hb dd_L_type_10 (by decide) ?_
    refine lv_goto (tgt := 18) hx hb dd_L_type_11 (by decide) ?_
    exact mr_i hx hb hr hlocks rfl (by rw [map_none ey1]; rfl) dd_L_type_18
  · obtain ⟨j, hj, ej, ea⟩ := c_kn_some ey1 hnn
    have my1 : M y1 = some (nC (N j)) := by rw [ea]; exact (hN j hj).1
    refine lv_astore_n (lv' := [(2, .ref y1), (0, .ref x), (1, .int k)]) hx hb dd_L_type_5 rfl hl (by decide) rfl (fun ls hl => ?_)
    refine lv_aload_n hx hb dd_L_type_6 rfl (lv_at hl 0 rfl) ?_
    refine lv_ifnonnull (tgt := 14) hx hb dd_L_type_7 (by decide) ?_
    refine lv_aload_n hx hb dd_L_type_14 rfl (lv_at hl 0 rfl) ?_
    refine mg_get hx hb ht ii_N hown hK hM my1 rfl 9 (by decide) wd_2_53 (fun _ h => h) rfl dd_L_type_15 ?_
    exact mr_i hx hb hr hlocks rfl (by rw [ej]; rfl) dd_L_type_18

set_option maxHeartbeats 4000000 in
set_option maxRecDepth 100000 in
theorem cc_L_binder {l : Launch} {G : gC} {M : mC} {x ld ln ed en nd nn : Nat} {aD aN : Nat → Nat} {D : Nat → dR} {N : Nat → nR} {pn : Nat → Nat → Int64} {pt : Nat → Nat → Int32} {kn : Bool} {ft fn mv : Int32} (hR : rp G M x ld ln ed en nd nn aD aN D N pn pt kn ft fn mv) {k : Int32} : cR l yy_L_binder bb_L_binder 3 (some .int) 5 G M [.ref x, .int k] (.int (c_val (c_kn kn k nn) (fun j => n_bb (N j)))) := by
  refine me_R (by decide) (Nat.le_of_ble_eq_true rfl) ?_
  intro p e s m below meth c ls hx hb hr hlocks hml hown ht hM hK hl
  have hown : s.vm.findClass RR_L = some m.cls := hown
  have hl : lv_has ls 3 [(0, .ref x), (1, .int k)] := hl
  obtain ⟨mx, hLd, hLn, hD, hN, hAp, hnd, hnn⟩ := id hR
  obtain ⟨cl, ml⟩ := ls_obj hLd
  obtain ⟨ck, mk⟩ := ls_obj hLn
  refine lv_aload_n hx hb dd_L_binder_0 rfl (lv_at hl 0 rfl) ?_
  refine lv_iload_n hx hb dd_L_binder_1 rfl (lv_at hl 1 rfl) ?_
  refine mc_V (As := [.int k]) (rest := []) 1 (cc_L_knownNode hR (k := k)) hx hb hml hown ht hM hK hl.1 lk_L_122 (by decide +kernel) (by decide) mx rfl rfl rfl (Nat.le_of_ble_eq_true rfl) dd_L_binder_2 ⟨Nat.zero_le _, Nat.zero_le _⟩ ?_
  rcases ey1 : ((c_kn kn k nn).map aN) with _ | y1
  · refine lv_astore_nN (lv' := [(2, .null), (0, .ref x), (1, .int k)]) hx hb dd_L_binder_5 rfl hl (by decide) rfl (fun ls hl => ?_)
    refine lv_aload_nN hx hb dd_L_binder_6 rfl (lv_at hl 0 rfl) ?_
    refine lv_ifnonnullN hx hb dd_L_binder_7 ?_
    refine lv_iconst (v := -1) hx hb dd_L_binder_10 (by decide) ?_
    refine lv_goto (tgt := 18) hx hb dd_L_binder_11 (by decide) ?_
    exact mr_i hx hb hr hlocks rfl (by rw [map_none ey1]; rfl) dd_L_binder_18
  · obtain ⟨j, hj, ej, ea⟩ := c_kn_some ey1 hnn
    have my1 : M y1 = some (nC (N j)) := by rw [ea]; exact (hN j hj).1
    refine lv_astore_n (lv' := [(2, .ref y1), (0, .ref x), (1, .int k)]) hx hb dd_L_binder_5 rfl hl (by decide) rfl (fun ls hl => ?_)
    refine lv_aload_n hx hb dd_L_binder_6 rfl (lv_at hl 0 rfl) ?_
    refine lv_ifnonnull (tgt := 14) hx hb dd_L_binder_7 (by decide) ?_
    refine lv_aload_n hx hb dd_L_binder_14 rfl (lv_at hl 0 rfl) ?_
    refine mg_get hx hb ht ii_N hown hK hM my1 rfl 11 (by decide) wd_2_56 (fun _ h => h) rfl dd_L_binder_15 ?_
    exact mr_i hx hb hr hlocks rfl (by rw [ej]; rfl) dd_L_binder_18

set_option maxHeartbeats 4000000 in
set_option maxRecDepth 100000 in
theorem cc_L_target {l : Launch} {G : gC} {M : mC} {x ld ln ed en nd nn : Nat} {aD aN : Nat → Nat} {D : Nat → dR} {N : Nat → nR} {pn : Nat → Nat → Int64} {pt : Nat → Nat → Int32} {kn : Bool} {ft fn mv : Int32} (hR : rp G M x ld ln ed en nd nn aD aN D N pn pt kn ft fn mv) {ho : Nat → Nat} {pa ca op : Nat → Option Nat} (hI : rl nd nn aD aN D N ho pa ca op) {k : Int32} : cR l yy_L_target bb_L_target 3 (some .int) 5 G M [.ref x, .int k] (.int (c_val (c_kn kn k nn) (fun j => c_num (ca j)))) := by
  refine me_R (by decide) (Nat.le_of_ble_eq_true rfl) ?_
  intro p e s m below meth c ls hx hb hr hlocks hml hown ht hM hK hl
  have hown : s.vm.findClass RR_L = some m.cls := hown
  have hl : lv_has ls 3 [(0, .ref x), (1, .int k)] := hl
  obtain ⟨mx, hLd, hLn, hD, hN, hAp, hnd, hnn⟩ := id hR
  obtain ⟨cl, ml⟩ := ls_obj hLd
  obtain ⟨ck, mk⟩ := ls_obj hLn
  refine lv_aload_n hx hb dd_L_target_0 rfl (lv_at hl 0 rfl) ?_
  refine lv_iload_n hx hb dd_L_target_1 rfl (lv_at hl 1 rfl) ?_
  refine mc_V (As := [.int k]) (rest := []) 1 (cc_L_knownNode hR (k := k)) hx hb hml hown ht hM hK hl.1 lk_L_122 (by decide +kernel) (by decide) mx rfl rfl rfl (Nat.le_of_ble_eq_true rfl) dd_L_target_2 ⟨Nat.zero_le _, Nat.zero_le _⟩ ?_
  rcases ey1 : ((c_kn kn k nn).map aN) with _ | y1
  · refine lv_astore_nN (lv' := [(2, .null), (0, .ref x), (1, .int k)]) hx hb dd_L_target_5 rfl hl (by decide) rfl (fun ls hl => ?_)
    refine lv_aload_nN hx hb dd_L_target_6 rfl (lv_at hl 0 rfl) ?_
    refine lv_ifnullN (tgt := 17) hx hb dd_L_target_7 (by decide) ?_
    refine lv_iconst (v := -1) hx hb dd_L_target_17 (by decide) ?_
    refine lv_goto (tgt := 28) hx hb dd_L_target_18 (by decide) ?_
    exact mr_i hx hb hr hlocks rfl (by rw [map_none ey1]; rfl) dd_L_target_28
  · obtain ⟨j, hj, ej, ea⟩ := c_kn_some ey1 hnn
    have my1 : M y1 = some (nC (N j)) := by rw [ea]; exact (hN j hj).1
    have mh : M (n_ho (N j)) = some (dC (D (ho j))) := by rw [(hI.1 j hj).1]; exact (hD _ (hI.1 j hj).2.1).1
    refine lv_astore_n (lv' := [(2, .ref y1), (0, .ref x), (1, .int k)]) hx hb dd_L_target_5 rfl hl (by decide) rfl (fun ls hl => ?_)
    refine lv_aload_n hx hb dd_L_target_6 rfl (lv_at hl 0 rfl) ?_
    refine lv_ifnull hx hb dd_L_target_7 ?_
    refine lv_aload_n hx hb dd_L_target_10 rfl (lv_at hl 0 rfl) ?_
    refine mg_get hx hb ht ii_N hown hK hM my1 rfl 12 (by decide) wd_2_58 (fun _ h => h) rfl dd_L_target_11 ?_
    refine lr_ifnonnull (tgt := 21) hx hb dd_L_target_14 (by decide) (fun y2 ey2 => ?_) (fun ey2 => ?_)
    · obtain ⟨t9, ht9, et9, ea9⟩ := rl_ca hI hj ey2
      have my2 : M y2 = some (dC (D t9)) := by rw [ea9]; exact (hD t9 ht9).1
      refine lv_aload_n hx hb dd_L_target_21 rfl (lv_at hl 0 rfl) ?_
      refine mg_get (v := .ref y2) hx hb ht ii_N hown hK hM my1 rfl 12 (by decide) wd_2_58 (fun _ h => h) (congrArg (fun z => some (va_rf z)) ey2) dd_L_target_22 ?_
      refine mg_get hx hb ht ii_D hown hK hM my2 rfl 0 (by decide) wd_1_128 (fun _ h => h) rfl dd_L_target_25 ?_
      exact mr_i hx hb hr hlocks rfl (by rw [ej]; show _ = Value.int (c_num (ca j)); rw [et9]; show _ = Value.int (nI t9); rw [← (hD t9 ht9).2.2.2]) dd_L_target_28
    · refine lv_iconst (v := -1) hx hb dd_L_target_17 (by decide) ?_
      refine lv_goto (tgt := 28) hx hb dd_L_target_18 (by decide) ?_
      exact mr_i hx hb hr hlocks rfl (by rw [ej]; show _ = Value.int (c_num (ca j)); rw [rl_ca0 hI hj ey2]; rfl) dd_L_target_28

set_option maxHeartbeats 4000000 in
set_option maxRecDepth 100000 in
theorem cc_L_of {l : Launch} {G : gC} {M : mC} {x ld ln ed en nd nn : Nat} {aD aN : Nat → Nat} {D : Nat → dR} {N : Nat → nR} {pn : Nat → Nat → Int64} {pt : Nat → Nat → Int32} {kn : Bool} {ft fn mv : Int32} (hR : rp G M x ld ln ed en nd nn aD aN D N pn pt kn ft fn mv) {ho : Nat → Nat} {pa ca op : Nat → Option Nat} (hI : rl nd nn aD aN D N ho pa ca op) {k : Int32} {w9 : Int32} : cR l yy_L_of bb_L_of 4 (some .int) 4 G M [.ref x, .int k, .int w9] (.int (c_val (c_idx k nn) (fun j => c_of w9 (N j) (pa j) (ho j)))) := by
  refine me_R (by decide) (Nat.le_of_ble_eq_true rfl) ?_
  intro p e s m below meth c ls hx hb hr hlocks hml hown ht hM hK hl
  have hown : s.vm.findClass RR_L = some m.cls := hown
  have hl : lv_has ls 4 [(0, .ref x), (1, .int k), (2, .int w9)] := hl
  obtain ⟨mx, hLd, hLn, hD, hN, hAp, hnd, hnn⟩ := id hR
  obtain ⟨cl, ml⟩ := ls_obj hLd
  obtain ⟨ck, mk⟩ := ls_obj hLn
  refine lv_aload_n hx hb dd_L_of_0 rfl (lv_at hl 0 rfl) ?_
  refine lv_iload_n hx hb dd_L_of_1 rfl (lv_at hl 1 rfl) ?_
  refine mc_V (As := [.int k]) (rest := []) 1 (cc_L_nodeAt hR (k := k)) hx hb hml hown ht hM hK hl.1 lk_L_136 (by decide +kernel) (by decide) mx rfl rfl rfl (Nat.le_of_ble_eq_true rfl) dd_L_of_2 ⟨Nat.zero_le _, Nat.zero_le _⟩ ?_
  rcases ey1 : ((c_idx k nn).map aN) with _ | y1
  · refine lv_astore_nN (lv' := [(3, .null), (0, .ref x), (1, .int k), (2, .int w9)]) hx hb dd_L_of_5 rfl hl (by decide) rfl (fun ls hl => ?_)
    refine lv_aload_nN hx hb dd_L_of_6 rfl (lv_at hl 0 rfl) ?_
    refine lv_ifnonnullN hx hb dd_L_of_7 ?_
    refine lv_iconst (v := -1) hx hb dd_L_of_10 (by decide) ?_
    exact mr_i hx hb hr hlocks rfl (by rw [map_none ey1]; rfl) dd_L_of_11
  · obtain ⟨j, hj, ej, ea⟩ := c_at_some ey1 hnn
    have my1 : M y1 = some (nC (N j)) := by rw [ea]; exact (hN j hj).1
    have mh : M (n_ho (N j)) = some (dC (D (ho j))) := by rw [(hI.1 j hj).1]; exact (hD _ (hI.1 j hj).2.1).1
    refine lv_astore_n (lv' := [(3, .ref y1), (0, .ref x), (1, .int k), (2, .int w9)]) hx hb dd_L_of_5 rfl hl (by decide) rfl (fun ls hl => ?_)
    refine lv_aload_n hx hb dd_L_of_6 rfl (lv_at hl 0 rfl) ?_
    refine lv_ifnonnull (tgt := 12) hx hb dd_L_of_7 (by decide) ?_
    refine lv_iload_n hx hb dd_L_of_12 rfl (lv_at hl 3 rfl) ?_
    by_cases c3 : w9 = 0
    · refine lv_tableIn (tgt := 44) hx hb dd_L_of_13 (by rw [c3]; decide) (by rw [c3]; decide) (by rw [c3]; rfl) (by decide) ?_
      refine lv_aload_n hx hb dd_L_of_44 rfl (lv_at hl 0 rfl) ?_
      refine mg_get hx hb ht ii_N hown hK hM my1 rfl 4 (by decide) wd_2_43 (fun _ h => h) rfl dd_L_of_45 ?_
      exact mr_i hx hb hr hlocks rfl (by rw [ej]; show _ = Value.int (c_of w9 (N j) (pa j) (ho j)); simp [c_of, eq_true c3]) dd_L_of_48
    by_cases c4 : w9 = 1
    · refine lv_tableIn (tgt := 49) hx hb dd_L_of_13 (by rw [c4]; decide) (by rw [c4]; decide) (by rw [c4]; rfl) (by decide) ?_
      refine lv_aload_n hx hb dd_L_of_49 rfl (lv_at hl 0 rfl) ?_
      refine mg_get hx hb ht ii_N hown hK hM my1 rfl 7 (by decide) wd_2_49 (fun _ h => h) rfl dd_L_of_50 ?_
      exact mr_i hx hb hr hlocks rfl (by rw [ej]; show _ = Value.int (c_of w9 (N j) (pa j) (ho j)); simp [c_of, c3, eq_true c4]) dd_L_of_53
    by_cases c5 : w9 = 2
    · refine lv_tableIn (tgt := 54) hx hb dd_L_of_13 (by rw [c5]; decide) (by rw [c5]; decide) (by rw [c5]; rfl) (by decide) ?_
      refine lv_aload_n hx hb dd_L_of_54 rfl (lv_at hl 0 rfl) ?_
      refine mg_get hx hb ht ii_N hown hK hM my1 rfl 2 (by decide) wd_2_38 (fun _ h => h) rfl dd_L_of_55 ?_
      refine lr_ifnonnull (tgt := 65) hx hb dd_L_of_58 (by decide) (fun y6 ey6 => ?_) (fun ey6 => ?_)
      · obtain ⟨t9, ht9, et9, ea9⟩ := rl_pa hI hj ey6
        have my6 : M y6 = some (nC (N t9)) := by rw [ea9]; exact (hN t9 (by omega)).1
        refine lv_aload_n hx hb dd_L_of_65 rfl (lv_at hl 0 rfl) ?_
        refine mg_get (v := .ref y6) hx hb ht ii_N hown hK hM my1 rfl 2 (by decide) wd_2_38 (fun _ h => h) (congrArg (fun z => some (va_rf z)) ey6) dd_L_of_66 ?_
        refine mg_get hx hb ht ii_N hown hK hM my6 rfl 0 (by decide) wd_2_33 (fun _ h => h) rfl dd_L_of_69 ?_
        exact mr_i hx hb hr hlocks rfl (by rw [ej]; show _ = Value.int (c_of w9 (N j) (pa j) (ho j)); rw [et9, (hN t9 (by omega)).2]; simp [c_of, c_num, c3, c4, eq_true c5]) dd_L_of_72
      · refine lv_iconst (v := -1) hx hb dd_L_of_61 (by decide) ?_
        refine lv_goto (tgt := 72) hx hb dd_L_of_62 (by decide) ?_
        exact mr_i hx hb hr hlocks rfl (by rw [ej]; show _ = Value.int (c_of w9 (N j) (pa j) (ho j)); rw [rl_pa0 hI hj ey6]; simp [c_of, c_num, c3, c4, eq_true c5]) dd_L_of_72
    by_cases c7 : w9 = 3
    · refine lv_tableIn (tgt := 73) hx hb dd_L_of_13 (by rw [c7]; decide) (by rw [c7]; decide) (by rw [c7]; rfl) (by decide) ?_
      refine lv_aload_n hx hb dd_L_of_73 rfl (lv_at hl 0 rfl) ?_
      refine mg_get hx hb ht ii_N hown hK hM my1 rfl 1 (by decide) wd_2_35 (fun _ h => h) rfl dd_L_of_74 ?_
      refine mg_get hx hb ht ii_D hown hK hM mh rfl 0 (by decide) wd_1_128 (fun _ h => h) rfl dd_L_of_77 ?_
      exact mr_i hx hb hr hlocks rfl (by rw [ej]; show _ = Value.int (c_of w9 (N j) (pa j) (ho j)); rw [(hD _ (hI.1 j hj).2.1).2.2.2]; simp [c_of, c3, c4, c5, eq_true c7]) dd_L_of_80
    have c8 : (w9 : Int32).toInt < 0 ∨ 3 < (w9 : Int32).toInt := by (have z0 := lv_neT (a := 0) c3 (by decide); have z1 := lv_neT (a := 1) c4 (by decide); have z2 := lv_neT (a := 2) c5 (by decide); have z3 := lv_neT (a := 3) c7 (by decide); omega)
    refine lv_tableOut (tgt := 81) hx hb dd_L_of_13 c8 (by decide) ?_
    refine lv_iconst (v := -1) hx hb dd_L_of_81 (by decide) ?_
    exact mr_i hx hb hr hlocks rfl (by rw [ej]; show _ = Value.int (c_of w9 (N j) (pa j) (ho j)); simp [c_of, c3, c4, c5, c7]) dd_L_of_82

set_option maxHeartbeats 4000000 in
set_option maxRecDepth 100000 in
theorem cc_L_look {l : Launch} {G : gC} {M : mC} {x ld ln ed en nd nn : Nat} {aD aN : Nat → Nat} {D : Nat → dR} {N : Nat → nR} {pn : Nat → Nat → Int64} {pt : Nat → Nat → Int32} {kn : Bool} {ft fn mv : Int32} (hR : rp G M x ld ln ed en nd nn aD aN D N pn pt kn ft fn mv) {w9 : Int32} : cR l yy_L_look bb_L_look 2 (some .int) 5 G M [.ref x, .int w9] (.int (c_look w9 nd nn ft fn (c_whole nd D) kn mv)) := by
  refine me_R (by decide) (Nat.le_of_ble_eq_true rfl) ?_
  intro p e s m below meth c ls hx hb hr hlocks hml hown ht hM hK hl
  have hown : s.vm.findClass RR_L = some m.cls := hown
  have hl : lv_has ls 2 [(0, .ref x), (1, .int w9)] := hl
  obtain ⟨mx, hLd, hLn, hD, hN, hAp, hnd, hnn⟩ := id hR
  obtain ⟨cl, ml⟩ := ls_obj hLd
  obtain ⟨ck, mk⟩ := ls_obj hLn
  refine lv_iload_n hx hb dd_L_look_0 rfl (lv_at hl 1 rfl) ?_
  by_cases c2 : w9 = 0
  · refine lv_tableIn (tgt := 40) hx hb dd_L_look_1 (by rw [c2]; decide) (by rw [c2]; decide) (by rw [c2]; rfl) (by decide) ?_
    refine lv_aload_n hx hb dd_L_look_40 rfl (lv_at hl 0 rfl) ?_
    refine mg_get hx hb ht ii_L hown hK hM mx rfl 0 (by decide) wd_1_50 (fun _ h => h) rfl dd_L_look_41 ?_
    refine mc_V (As := []) (rest := []) 0 (ls_size hLd) hx hb hml hown ht hM hK hl.1 lk_L_49 (by decide +kernel) (by decide) ml rfl rfl rfl (Nat.le_of_ble_eq_true rfl) dd_L_look_44 ⟨Nat.zero_le _, Nat.zero_le _⟩ ?_
    exact mr_i hx hb hr hlocks rfl (by simp [bI, c_look, eq_true c2]) dd_L_look_47
  by_cases c3 : w9 = 1
  · refine lv_tableIn (tgt := 48) hx hb dd_L_look_1 (by rw [c3]; decide) (by rw [c3]; decide) (by rw [c3]; rfl) (by decide) ?_
    refine lv_aload_n hx hb dd_L_look_48 rfl (lv_at hl 0 rfl) ?_
    refine mg_get hx hb ht ii_L hown hK hM mx rfl 1 (by decide) wd_1_51 (fun _ h => h) rfl dd_L_look_49 ?_
    refine mc_V (As := []) (rest := []) 0 (ls_size hLn) hx hb hml hown ht hM hK hl.1 lk_L_49 (by decide +kernel) (by decide) mk rfl rfl rfl (Nat.le_of_ble_eq_true rfl) dd_L_look_52 ⟨Nat.zero_le _, Nat.zero_le _⟩ ?_
    exact mr_i hx hb hr hlocks rfl (by simp [bI, c_look, c2, eq_true c3]) dd_L_look_55
  by_cases c4 : w9 = 2
  · refine lv_tableIn (tgt := 56) hx hb dd_L_look_1 (by rw [c4]; decide) (by rw [c4]; decide) (by rw [c4]; rfl) (by decide) ?_
    refine lv_aload_n hx hb dd_L_look_56 rfl (lv_at hl 0 rfl) ?_
    refine mg_get hx hb ht ii_L hown hK hM mx rfl 3 (by decide) wd_1_53 (fun _ h => h) rfl dd_L_look_57 ?_
    exact mr_i hx hb hr hlocks rfl (by simp [bI, c_look, c2, c3, eq_true c4]) dd_L_look_60
  by_cases c5 : w9 = 3
  · refine lv_tableIn (tgt := 61) hx hb dd_L_look_1 (by rw [c5]; decide) (by rw [c5]; decide) (by rw [c5]; rfl) (by decide) ?_
    refine lv_aload_n hx hb dd_L_look_61 rfl (lv_at hl 0 rfl) ?_
    refine mg_get hx hb ht ii_L hown hK hM mx rfl 4 (by decide) wd_1_54 (fun _ h => h) rfl dd_L_look_62 ?_
    exact mr_i hx hb hr hlocks rfl (by simp [bI, c_look, c2, c3, c4, eq_true c5]) dd_L_look_65
  by_cases c6 : w9 = 4
  · refine lv_tableIn (tgt := 66) hx hb dd_L_look_1 (by rw [c6]; decide) (by rw [c6]; decide) (by rw [c6]; rfl) (by decide) ?_
    refine lv_aload_n hx hb dd_L_look_66 rfl (lv_at hl 0 rfl) ?_
    refine mc_V (As := []) (rest := []) 0 (cc_L_lastIsWhole hR) hx hb hml hown ht hM hK hl.1 lk_L_45 (by decide +kernel) (by decide) mx rfl rfl rfl (Nat.le_of_ble_eq_true rfl) dd_L_look_67 ⟨Nat.zero_le _, Nat.zero_le _⟩ ?_
    refine lb_if_eq (tgt := 77) hx hb dd_L_look_70 (by decide) (fun c7 => ?_) (fun c7 => ?_)
    · refine lv_iconst (v := 0) hx hb dd_L_look_77 (by decide) ?_
      exact mr_i hx hb hr hlocks rfl (by simp [bI, c_look, c2, c3, c4, c5, eq_true c6, c7]) dd_L_look_78
    · refine lv_iconst (v := 1) hx hb dd_L_look_73 (by decide) ?_
      refine lv_goto (tgt := 78) hx hb dd_L_look_74 (by decide) ?_
      exact mr_i hx hb hr hlocks rfl (by simp [bI, c_look, c2, c3, c4, c5, eq_true c6, c7]) dd_L_look_78
  by_cases c8 : w9 = 5
  · refine lv_tableIn (tgt := 79) hx hb dd_L_look_1 (by rw [c8]; decide) (by rw [c8]; decide) (by rw [c8]; rfl) (by decide) ?_
    refine lv_aload_n hx hb dd_L_look_79 rfl (lv_at hl 0 rfl) ?_
    refine mg_get hx hb ht ii_L hown hK hM mx rfl 2 (by decide) wd_1_52 (fun _ h => h) rfl dd_L_look_80 ?_
    refine lb_if_eq (tgt := 93) hx hb dd_L_look_83 (by decide) (fun c9 => ?_) (fun c9 => ?_)
    · refine lv_iconst (v := -1) hx hb dd_L_look_93 (by decide) ?_
      exact mr_i hx hb hr hlocks rfl (by simp [bI, c_look, c2, c3, c4, c5, c6, eq_true c8, c9]) dd_L_look_94
    · refine lv_aload_n hx hb dd_L_look_86 rfl (lv_at hl 0 rfl) ?_
      refine mg_get hx hb ht ii_L hown hK hM mx rfl 5 (by decide) wd_1_55 (fun _ h => h) rfl dd_L_look_87 ?_
      refine lv_goto (tgt := 94) hx hb dd_L_look_90 (by decide) ?_
      exact mr_i hx hb hr hlocks rfl (by simp [bI, c_look, c2, c3, c4, c5, c6, eq_true c8, c9]) dd_L_look_94
  have c10 : (w9 : Int32).toInt < 0 ∨ 5 < (w9 : Int32).toInt := by (have z0 := lv_neT (a := 0) c2 (by decide); have z1 := lv_neT (a := 1) c3 (by decide); have z2 := lv_neT (a := 2) c4 (by decide); have z3 := lv_neT (a := 3) c5 (by decide); have z4 := lv_neT (a := 4) c6 (by decide); have z5 := lv_neT (a := 5) c8 (by decide); omega)
  refine lv_tableOut (tgt := 95) hx hb dd_L_look_1 c10 (by decide) ?_
  refine lv_iconst (v := -1) hx hb dd_L_look_95 (by decide) ?_
  exact mr_i hx hb hr hlocks rfl (by simp [bI, c_look, c2, c3, c4, c5, c6, c8]) dd_L_look_96

set_option maxHeartbeats 4000000 in
set_option maxRecDepth 100000 in
theorem cc_L_endsInMain_n {l : Launch} {G : gC} {M : mC} {x ld ln ed en nn : Nat} {aD aN : Nat → Nat} {D : Nat → dR} {N : Nat → nR} {pn : Nat → Nat → Int64} {pt : Nat → Nat → Int32} {kn : Bool} {ft fn mv : Int32} (hR : rp G M x ld ln ed en 0 nn aD aN D N pn pt kn ft fn mv) : cR l yy_L_endsInMain bb_L_endsInMain 2 (some .boolean) 4 G M [.ref x] (.int 0) := by
  refine me_R (by decide) (Nat.le_of_ble_eq_true rfl) ?_
  intro p e s m below meth c ls hx hb hr hlocks hml hown ht hM hK hl
  have hown : s.vm.findClass RR_L = some m.cls := hown
  have hl : lv_has ls 2 [(0, .ref x)] := hl
  obtain ⟨mx, hLd, hLn, hD, hN, hAp, hnd, hnn⟩ := id hR
  obtain ⟨cl, ml⟩ := ls_obj hLd
  obtain ⟨ck, mk⟩ := ls_obj hLn
  refine lv_aload_n hx hb dd_L_endsInMain_0 rfl (lv_at hl 0 rfl) ?_
  refine mc_V (As := []) (rest := []) 0 (cc_L_lastDefinition_n hR) hx hb hml hown ht hM hK hl.1 lk_L_69 (by decide +kernel) (by decide) mx rfl rfl rfl (Nat.le_of_ble_eq_true rfl) dd_L_endsInMain_1 ⟨Nat.zero_le _, Nat.zero_le _⟩ ?_
  refine lv_astore_nN (lv' := [(1, .null), (0, .ref x)]) hx hb dd_L_endsInMain_4 rfl hl (by decide) rfl (fun ls hl => ?_)
  refine lv_aload_nN hx hb dd_L_endsInMain_5 rfl (lv_at hl 0 rfl) ?_
  refine lv_ifnullN (tgt := 56) hx hb dd_L_endsInMain_6 (by decide) ?_
  refine lv_iconst (v := 0) hx hb dd_L_endsInMain_56 (by decide) ?_
  exact mr_i hx hb hr hlocks rfl rfl dd_L_endsInMain_57

set_option maxHeartbeats 4000000 in
set_option maxRecDepth 100000 in
theorem cc_L_endsInMain_s {l : Launch} {G : gC} {M : mC} {x ld ln ed en k nn : Nat} {aD aN : Nat → Nat} {D : Nat → dR} {N : Nat → nR} {pn : Nat → Nat → Int64} {pt : Nat → Nat → Int32} {kn : Bool} {ft fn mv : Int32} (hR : rp G M x ld ln ed en (k + 1) nn aD aN D N pn pt kn ft fn mv) : cR l yy_L_endsInMain bb_L_endsInMain 2 (some .boolean) 4 G M [.ref x] (.int (bI (c_main1 (D k) (pt k)))) := by
  refine me_R (by decide) (Nat.le_of_ble_eq_true rfl) ?_
  intro p e s m below meth c ls hx hb hr hlocks hml hown ht hM hK hl
  have hown : s.vm.findClass RR_L = some m.cls := hown
  have hl : lv_has ls 2 [(0, .ref x)] := hl
  obtain ⟨mx, hLd, hLn, hD, hN, hAp, hnd, hnn⟩ := id hR
  obtain ⟨cl, ml⟩ := ls_obj hLd
  obtain ⟨ck, mk⟩ := ls_obj hLn
  refine lv_aload_n hx hb dd_L_endsInMain_0 rfl (lv_at hl 0 rfl) ?_
  refine mc_V (As := []) (rest := []) 0 (cc_L_lastDefinition_s hR) hx hb hml hown ht hM hK hl.1 lk_L_69 (by decide +kernel) (by decide) mx rfl rfl rfl (Nat.le_of_ble_eq_true rfl) dd_L_endsInMain_1 ⟨Nat.zero_le _, Nat.zero_le _⟩ ?_
  have me := (hD k (Nat.lt_succ_self k)).1
  refine lv_astore_n (lv' := [(1, .ref (aD k)), (0, .ref x)]) hx hb dd_L_endsInMain_4 rfl hl (by decide) rfl (fun ls hl => ?_)
  refine lv_aload_n hx hb dd_L_endsInMain_5 rfl (lv_at hl 0 rfl) ?_
  refine lv_ifnull hx hb dd_L_endsInMain_6 ?_
  refine lv_aload_n hx hb dd_L_endsInMain_9 rfl (lv_at hl 0 rfl) ?_
  refine mg_get hx hb ht ii_D hown hK hM me rfl 1 (by decide) wd_1_131 (fun _ h => h) rfl dd_L_endsInMain_10 ?_
  refine lb_if_ne (tgt := 56) hx hb dd_L_endsInMain_13 (by decide) (fun c1 => ?_) (fun c1 => ?_)
  · refine lv_iconst (v := 0) hx hb dd_L_endsInMain_56 (by decide) ?_
    exact mr_i hx hb hr hlocks rfl (by simp [bI, c_main1, c1]) dd_L_endsInMain_57
  · refine lv_aload_n hx hb dd_L_endsInMain_16 rfl (lv_at hl 0 rfl) ?_
    refine mg_get hx hb ht ii_D hown hK hM me rfl 2 (by decide) wd_1_133 (fun _ h => h) rfl dd_L_endsInMain_17 ?_
    refine lv_ldc2 (v := 427310) hx hb hown (ht _ wd_2_106) dd_L_endsInMain_20 ?_
    refine W.lcmp hx hb dd_L_endsInMain_23 ?_
    refine lc_if_ne (tgt := 56) hx hb dd_L_endsInMain_24 (by decide) (fun c2 => ?_) (fun c2 => ?_)
    · refine lv_iconst (v := 0) hx hb dd_L_endsInMain_56 (by decide) ?_
      exact mr_i hx hb hr hlocks rfl (by simp [bI, c_main1, c1, c2]) dd_L_endsInMain_57
    · refine lv_aload_n hx hb dd_L_endsInMain_27 rfl (lv_at hl 0 rfl) ?_
      refine mg_get hx hb ht ii_D hown hK hM me rfl 3 (by decide) wd_1_136 (fun _ h => h) rfl dd_L_endsInMain_28 ?_
      refine lv_iconst (v := 3) hx hb dd_L_endsInMain_31 (by decide) ?_
      refine lv_icmp_ne (tgt := 56) hx hb dd_L_endsInMain_32 (by decide) (fun c3 => ?_) (fun c3 => ?_)
      · refine lv_iconst (v := 0) hx hb dd_L_endsInMain_56 (by decide) ?_
        exact mr_i hx hb hr hlocks rfl (by simp [bI, c_main1, c1, eq_true c2, c3]) dd_L_endsInMain_57
      · refine lv_aload_n hx hb dd_L_endsInMain_35 rfl (lv_at hl 0 rfl) ?_
        refine mg_get hx hb ht ii_D hown hK hM me rfl 6 (by decide) wd_1_141 (fun _ h => h) rfl dd_L_endsInMain_36 ?_
        refine lv_iconst (v := 1) hx hb dd_L_endsInMain_39 (by decide) ?_
        refine lv_icmp_ne (tgt := 56) hx hb dd_L_endsInMain_40 (by decide) (fun c4 => ?_) (fun c4 => ?_)
        · refine lv_iconst (v := 0) hx hb dd_L_endsInMain_56 (by decide) ?_
          exact mr_i hx hb hr hlocks rfl (by simp [bI, c_main1, c1, eq_true c2, eq_true c3, c4]) dd_L_endsInMain_57
        · refine lv_aload_n hx hb dd_L_endsInMain_43 rfl (lv_at hl 0 rfl) ?_
          refine lv_iconst (v := 0) hx hb dd_L_endsInMain_44 (by decide) ?_
          refine mc_V (As := [.int 0]) (rest := []) 1 (cc_D_parameterType (i := 0) me (hD k (Nat.lt_succ_self k)).2.2.1) hx hb hml hown ht hM hK hl.1 lk_L_172 (by decide +kernel) (by decide) me rfl rfl rfl (Nat.le_of_ble_eq_true rfl) dd_L_endsInMain_45 ⟨Nat.zero_le _, Nat.zero_le _⟩ ?_
          refine lv_iconst (v := 3) hx hb dd_L_endsInMain_48 (by decide) ?_
          refine lv_icmp_ne (tgt := 56) hx hb dd_L_endsInMain_49 (by decide) (fun c5 => ?_) (fun c5 => ?_)
          · refine lv_iconst (v := 0) hx hb dd_L_endsInMain_56 (by decide) ?_
            exact mr_i hx hb hr hlocks rfl (by simp [bI, c_main1, c1, eq_true c2, eq_true c3, eq_true c4, c5]) dd_L_endsInMain_57
          · refine lv_iconst (v := 1) hx hb dd_L_endsInMain_52 (by decide) ?_
            refine lv_goto (tgt := 57) hx hb dd_L_endsInMain_53 (by decide) ?_
            exact mr_i hx hb hr hlocks rfl (by simp [bI, c_main1, c1, eq_true c2, eq_true c3, eq_true c4, eq_true c5]) dd_L_endsInMain_57

theorem cc_L_endsInMain {l : Launch} {G : gC} {M : mC} {x ld ln ed en nd nn : Nat} {aD aN : Nat → Nat} {D : Nat → dR} {N : Nat → nR} {pn : Nat → Nat → Int64} {pt : Nat → Nat → Int32} {kn : Bool} {ft fn mv : Int32} (hR : rp G M x ld ln ed en nd nn aD aN D N pn pt kn ft fn mv) : cR l yy_L_endsInMain bb_L_endsInMain 2 (some .boolean) 4 G M [.ref x] (.int (bI (c_main nd D pt))) := by
  cases nd with
  | zero => exact cc_L_endsInMain_n hR
  | succ k => exact cc_L_endsInMain_s hR

set_option maxHeartbeats 4000000 in
set_option maxRecDepth 100000 in
theorem cc_L_definitionNamed {l : Launch} {G : gC} {M : mC} {x ld ln ed en nd nn : Nat} {aD aN : Nat → Nat} {D : Nat → dR} {N : Nat → nR} {pn : Nat → Nat → Int64} {pt : Nat → Nat → Int32} {kn : Bool} {ft fn mv : Int32} (hR : rp G M x ld ln ed en nd nn aD aN D N pn pt kn ft fn mv) {nm : Int64} : cR l yy_L_definitionNamed bb_L_definitionNamed 5 (some (.object "LevelTypes$Definition")) 3 G M [.ref x, .long nm] (va_rf ((c_named D nm nd 0).map aD)) := by
  refine me_R (by decide) (Nat.le_of_ble_eq_true rfl) ?_
  intro p e s m below meth c ls hx hb hr hlocks hml hown ht hM hK hl
  have hown : s.vm.findClass RR_L = some m.cls := hown
  have hl : lv_has ls 5 [(0, .ref x), (1, .long nm)] := hl
  obtain ⟨mx, hLd, hLn, hD, hN, hAp, hnd, hnn⟩ := id hR
  obtain ⟨cl, ml⟩ := ls_obj hLd
  obtain ⟨ck, mk⟩ := ls_obj hLn
  have loop : ∀ (k i : Nat) (ls : Array Slot), i + k = nd → lv_has ls 5 [(3, .int (nI i)), (0, .ref x), (1, .long nm)] → c_named D nm k i = c_named D nm nd 0 → W p l e (rd 3 0 0) s m ([.ref x, .long nm] : List Value).toArray below meth c s.heap [] 0 0 (MQ below (k2_QcV (va_rf ((c_named D nm nd 0).map aD))) ([.ref x, .long nm] : List Value).toArray s 0 0 (fun _ => False)) (F0 m 2 ls []) := by
    intro k
    induction k with
    | zero =>
      intro i ls hik hl hres
      refine lv_iload_n hx hb dd_L_definitionNamed_2 rfl (lv_at hl 0 rfl) ?_
      refine lv_aload_n hx hb dd_L_definitionNamed_3 rfl (lv_at hl 1 rfl) ?_
      refine mg_get hx hb ht ii_L hown hK hM mx rfl 0 (by decide) wd_1_50 (fun _ h => h) rfl dd_L_definitionNamed_4 ?_
      refine mc_V (As := []) (rest := [.int (nI i)]) 0 (ls_size hLd) hx hb hml hown ht hM hK hl.1 lk_L_49 (by decide +kernel) (by decide) ml rfl rfl rfl (Nat.le_of_ble_eq_true rfl) dd_L_definitionNamed_7 ⟨Nat.zero_le _, Nat.zero_le _⟩ ?_
      refine lv_icmp_ge (tgt := 45) hx hb dd_L_definitionNamed_10 (by decide) (fun _ => ?_) (fun z => absurd (nI_le (a := nd) (b := i) (by omega) (by omega)) z)
      refine lv_null hx hb dd_L_definitionNamed_45 ?_
      exact mr_an hx hb hr hlocks (by rw [← hres]; simp [c_named, va_rf]) dd_L_definitionNamed_46
    | succ k ih =>
      intro i ls hik hl hres
      refine lv_iload_n hx hb dd_L_definitionNamed_2 rfl (lv_at hl 0 rfl) ?_
      refine lv_aload_n hx hb dd_L_definitionNamed_3 rfl (lv_at hl 1 rfl) ?_
      refine mg_get hx hb ht ii_L hown hK hM mx rfl 0 (by decide) wd_1_50 (fun _ h => h) rfl dd_L_definitionNamed_4 ?_
      refine mc_V (As := []) (rest := [.int (nI i)]) 0 (ls_size hLd) hx hb hml hown ht hM hK hl.1 lk_L_49 (by decide +kernel) (by decide) ml rfl rfl rfl (Nat.le_of_ble_eq_true rfl) dd_L_definitionNamed_7 ⟨Nat.zero_le _, Nat.zero_le _⟩ ?_
      refine lv_icmp_ge (tgt := 45) hx hb dd_L_definitionNamed_10 (by decide) (fun z => absurd z (nI_ge (a := i) (b := nd) (by omega) (by omega))) (fun _ => ?_)
      refine lv_aload_n hx hb dd_L_definitionNamed_13 rfl (lv_at hl 1 rfl) ?_
      refine mg_get hx hb ht ii_L hown hK hM mx rfl 0 (by decide) wd_1_50 (fun _ h => h) rfl dd_L_definitionNamed_14 ?_
      refine lv_iload_n hx hb dd_L_definitionNamed_17 rfl (lv_at hl 0 rfl) ?_
      refine mc_V (As := [.int (nI i)]) (rest := []) 1 (ls_get hLd (i := i) (show i < nd by omega)) hx hb hml hown ht hM hK hl.1 lk_L_152 (by decide +kernel) (by decide) ml rfl rfl rfl (Nat.le_of_ble_eq_true rfl) dd_L_definitionNamed_18 ⟨Nat.zero_le _, Nat.zero_le _⟩ ?_
      have me := (hD i (show i < nd by omega)).1
      refine va_castS hx hb hown (ht _ wd_1_113) (hK.1.1 1 _ rfl).2 (m_recv hK hM me rfl) dd_L_definitionNamed_21 ?_
      refine lv_astore (lv' := [(4, .ref (aD i)), (3, .int (nI i)), (0, .ref x), (1, .long nm)]) hx hb dd_L_definitionNamed_24 hl (by decide) rfl (fun ls hl => ?_)
      refine lv_aload hx hb dd_L_definitionNamed_26 (lv_at hl 0 rfl) ?_
      refine mg_get hx hb ht ii_D hown hK hM me rfl 2 (by decide) wd_1_133 (fun _ h => h) rfl dd_L_definitionNamed_28 ?_
      refine lv_lload_n hx hb dd_L_definitionNamed_31 rfl (lv_at hl 3 rfl) ?_
      refine W.lcmp hx hb dd_L_definitionNamed_32 ?_
      refine lc_if_ne (tgt := 39) hx hb dd_L_definitionNamed_33 (by decide) (fun c1 => ?_) (fun c1 => ?_)
      · obtain ⟨x2, ex2⟩ : ∃ y : Int32, y = (nI i) + 1 := ⟨_, rfl⟩
        refine lv_iinc (v := x2) (lv' := [(3, .int x2), (4, .ref (aD i)), (0, .ref x), (1, .long nm)]) hx hb dd_L_definitionNamed_39 hl (k := 1) rfl (by rw [ex2]; rfl) (by decide) rfl (fun ls hl => ?_)
        refine lv_goto (tgt := 2) hx hb dd_L_definitionNamed_42 (by decide) ?_
        rw [ex2, nI_1] at hl
        exact ih (i + 1) ls (by omega) (lv_sub hl [0, 2, 3] rfl) (by rw [← hres]; simp [c_named, c1])
      · refine lv_aload hx hb dd_L_definitionNamed_36 (lv_at hl 0 rfl) ?_
        exact mr_ar hx hb hr hlocks (by rw [← hres]; simp [c_named, va_rf, eq_true c1]) dd_L_definitionNamed_38
  refine lv_iconst (v := 0) hx hb dd_L_definitionNamed_0 (by decide) ?_
  refine lv_istore_n (lv' := [(3, .int 0), (0, .ref x), (1, .long nm)]) hx hb dd_L_definitionNamed_1 rfl hl (by decide) rfl (fun ls hl => ?_)
  exact loop nd 0 ls (by omega) (by rw [nI_0]; exact hl) rfl
end
section
/-! how the class's picture is kept when other cells change -/
theorem mz_none {G : gC} {M : mC} {sz : Nat} {U : State} {H : Heap} (h : mZ G (fr M sz) U H) : M G.2.2.2.1 = none := by
  obtain ⟨-, -, -, -, -, -, -, -, -, -, hA⟩ := h
  cases hM : M G.2.2.2.1 with
  | none => rfl
  | some e => exact absurd (fr_in hM) hA
/-- a cell that is no row of objects isn't a list's array -/
theorem ls_ne {G : gC} {M : mC} {a ed n q : Nat} {g : Nat → Nat} {e : va_E} (h : ls_ok G M a ed n g) (h0 : M G.2.2.2.1 = none) (hq : M q = some e) (he : ∀ cap f, e ≠ oA G cap f) : q ≠ ed := by
  intro z
  subst z
  obtain ⟨c, -, ⟨-, rfl⟩ | ⟨cap, f, me, -⟩⟩ := h
  · rw [h0] at hq; cases hq
  · rw [me] at hq; cases hq; exact he cap f rfl
theorem ls_keep {G : gC} {M u : mC} {a ed n : Nat} {g : Nat → Nat} (h : ls_ok G M a ed n g) (ha : u a = M a) (he : ∀ x, M ed = some x → u ed = some x) : ls_ok G u a ed n g := by
  obtain ⟨c, m0, hE | ⟨cap, f, me, hr⟩⟩ := h
  · exact ⟨c, ha.trans m0, Or.inl hE⟩
  · exact ⟨c, ha.trans m0, Or.inr ⟨cap, f, he _ me, hr⟩⟩
theorem ls_0 {G : gC} {M : mC} {a ed : Nat} {g g' : Nat → Nat} (h : ls_ok G M a ed 0 g) : ls_ok G M a ed 0 g' := by
  obtain ⟨c, m0, hE | ⟨cap, f, me, h1, h2, h3, h4⟩⟩ := h
  · exact ⟨c, m0, Or.inl hE⟩
  · exact ⟨c, m0, Or.inr ⟨cap, f, me, h1, h2, h3, fun i hi => absurd hi (Nat.not_lt_zero _)⟩⟩
theorem ls_in {G : gC} {M : mC} {a ed n : Nat} {g : Nat → Nat} {x : va_E} (h : ls_ok G M a ed n g) (h0 : M G.2.2.2.1 = none) (hx : M ed = some x) : ∃ cap f, M ed = some (oA G cap f) := by
  obtain ⟨c, m0, ⟨-, rfl⟩ | ⟨cap, f, me, -⟩⟩ := h
  · rw [h0] at hx; cases hx
  · exact ⟨cap, f, me⟩
theorem ne_x {M : mC} {x a : Nat} {ld ln : Nat} {kn : Bool} {ft fn mv : Int32} {r : aR} (hx : M x = some (xC ld ln kn ft fn mv)) (ha : M a = some (aC r)) : x ≠ a := fun z => by rw [z, ha] at hx; cases hx
theorem ne_xo {M : mC} {x a : Nat} {ld ln : Nat} {kn : Bool} {ft fn mv : Int32} {G : gC} {cap : Nat} {f : Nat → Option Nat} (hx : M x = some (xC ld ln kn ft fn mv)) (ha : M a = some (oA G cap f)) : x ≠ a := fun z => by rw [z, ha] at hx; cases hx
/-- an empty picture -/
theorem rp_nil {G : gC} {M : mC} {x ld ln ed en : Nat} {kn : Bool} {ft fn mv : Int32} {aD aN : Nat → Nat} {D : Nat → dR} {N : Nat → nR} {pn : Nat → Nat → Int64} {pt : Nat → Nat → Int32} (mx : M x = some (xC ld ln kn ft fn mv)) (hd : ls_ok G M ld ed 0 aD) (hn : ls_ok G M ln en 0 aN) (h1 : ld ≠ ln) (h2 : ed = en → ed = G.2.2.2.1) : rp G M x ld ln ed en 0 0 aD aN D N pn pt kn ft fn mv :=
  ⟨mx, hd, hn, fun i hi => absurd hi (Nat.not_lt_zero _), fun i hi => absurd hi (Nat.not_lt_zero _), ⟨h1, h2, fun i j hi => absurd hi (Nat.not_lt_zero _)⟩, Nat.zero_le _, Nat.zero_le _⟩
def k_parts (k : Int32) : Int32 := [0, 0, 0, 2, 2, 2, 2, 2, 2, 2, 3, 2, 3, 2, -1, -1, 1, 1, 2, 1, 3, 2, 3, -1].getD k.toNatClampNeg 0
def k_partsFit (k n : Int32) : Bool := if k_isKind k = true then (if k_parts k = -1 then !decide (n < 0) else decide (n = k_parts k)) else false
theorem k_in {k : Int32} (h : k_isKind k = true) : vp_in k 24 := by
  unfold k_isKind at h
  rw [vp_in_iff]
  split at h
  · cases h
  · split at h
    · cases h
    · rename_i h0 h1
      rw [Int32.lt_iff_toInt_lt] at h0 h1
      have e0 : (0 : Int32).toInt = 0 := by decide
      have e8 : (23 : Int32).toInt = 23 := by decide
      rw [e0] at h0
      rw [e8] at h1
      omega
theorem mz_E {G : gC} {M : mC} {sz : Nat} {U : State} {H : Heap} (h : mZ G (fr M sz) U H) : ¬ fr M sz G.2.2.2.1 := by
  obtain ⟨-, -, -, -, -, -, -, -, -, -, hA⟩ := h
  exact hA
theorem e_none {A : Nat → Prop} {u : mC} {e : Nat} (hF : ∀ q, u q ≠ none → A q) (hE : ¬ A e) : u e = none := by
  cases h : u e with
  | none => rfl
  | some x => exact absurd (hF e (by rw [h]; exact Option.some_ne_none _)) hE
/-- one list changes: the other stays -/
theorem ls_other {G : gC} {M u : mC} {a ed n b eb m : Nat} {g h : Nat → Nat} (hA : ls_ok G M a ed n g) (hB : ls_ok G M b eb m h) (h0 : M G.2.2.2.1 = none) (hab : a ≠ b) (he : ed = eb → ed = G.2.2.2.1) (hq : ∀ q, q ≠ a → q ≠ ed → u q = M q) : ls_ok G u b eb m h := by
  obtain ⟨ca, ma⟩ := ls_obj hA
  obtain ⟨cb, mb⟩ := ls_obj hB
  refine ls_keep hB (hq b (Ne.symm hab) (ls_ne hA h0 mb (fun _ _ z => by cases z))) (fun z hz => ?_)
  obtain ⟨cap, f, me⟩ := ls_in hB h0 hz
  refine (hq eb (Ne.symm (oa_ne ma me)) (fun e => ?_)).trans hz
  rw [e, he e.symm, h0] at hz
  cases hz
theorem ls_x {G : gC} {M u : mC} {a ed n x : Nat} {g : Nat → Nat} {ld ln : Nat} {kn : Bool} {ft fn mv : Int32} (hA : ls_ok G M a ed n g) (h0 : M G.2.2.2.1 = none) (mx : M x = some (xC ld ln kn ft fn mv)) (hq : ∀ q, q ≠ a → q ≠ ed → u q = M q) : u x = some (xC ld ln kn ft fn mv) := by
  obtain ⟨ca, ma⟩ := ls_obj hA
  exact (hq x (ne_x mx ma) (ls_ne hA h0 mx (fun _ _ z => by cases z))).trans mx
theorem ls_up {G : gC} {M : mC} {a ed n q : Nat} {g : Nat → Nat} {e e' : va_E} (hA : ls_ok G M a ed n g) (h0 : M G.2.2.2.1 = none) (hq : M q = some e) (h1 : ∀ r, e ≠ aC r) (h2 : ∀ cap f, e ≠ oA G cap f) : ls_ok G (mp_up M q e') a ed n g := by
  obtain ⟨ca, ma⟩ := ls_obj hA
  have hqa : a ≠ q := fun z => by rw [z, hq] at ma; cases ma; exact h1 _ rfl
  exact ls_keep hA (mp_ne hqa) (fun z hz => mp_at (Ne.symm (ls_ne hA h0 hq h2)) hz)
theorem c_nn {o : Option Nat} {f : Nat → Nat} {y : Nat} (h : o.map f = some y) : o.isNone = false := by
  cases o with
  | none => cases h
  | some j => rfl
end
section
set_option maxHeartbeats 4000000 in
set_option maxRecDepth 100000 in
theorem cc_K_partsFit {l : Launch} {G : gC} {M : mC} {sz : Nat} {k n : Int32} : cW l yy_K_partsFit bb_K_partsFit 2 (some .boolean) 1 0 0 G M sz [.int k, .int n] (fun v u => v = some (.int (bI (k_partsFit k n))) ∧ u = M) := by
  refine me_W (by decide) (Nat.le_of_ble_eq_true rfl) ?_
  intro p e s m below meth c ls hx hb hr hlocks hml hown hname ht hsz hM hK hZ hl
  have hown : s.vm.findClass RR_K = some m.cls := hown
  have hl : lv_has ls 2 [(0, .int k), (1, .int n)] := hl
  have hS : va_S (fr M sz) s.heap s.heap [] := va_S.rf
  have hF : ∀ q, M q ≠ none → fr M sz q := fr_M
  have hA : ∀ q, s.heap.size ≤ q → fr M sz q := fun q h => fr_A q (by rw [← hsz]; exact h)
  refine lv_iload_n hx hb dd_K_partsFit_0 rfl (lv_at hl 0 rfl) ?_
  refine mc_S (As := [.int k]) (rest := []) 1 (cc_K_isKind (k := k)) hx hb hml hown ht hM hK hl.1 lk_K_11 (by decide +kernel) (by decide) rfl rfl (Nat.le_of_ble_eq_true rfl) dd_K_partsFit_1 ⟨Nat.zero_le _, Nat.zero_le _⟩ ?_
  refine lb_if_ne (tgt := 9) hx hb dd_K_partsFit_4 (by decide) (fun c1 => ?_) (fun c1 => ?_)
  · refine va_gets hx hb hZ.1 hS hown (ht _ wd_2_12) (fun _ h => h) dd_K_partsFit_9 ?_
    refine lv_iload_n hx hb dd_K_partsFit_12 rfl (lv_at hl 0 rfl) ?_
    refine va_ti (v := .int (k_parts k)) hx hb hZ.2.1 hS (k_in c1) rfl dd_K_partsFit_13 ?_
    refine lv_iconst (v := -1) hx hb dd_K_partsFit_14 (by decide) ?_
    refine lv_icmp_ne (tgt := 30) hx hb dd_K_partsFit_15 (by decide) (fun c2 => ?_) (fun c2 => ?_)
    · refine lv_iload_n hx hb dd_K_partsFit_30 rfl (lv_at hl 1 rfl) ?_
      refine va_gets hx hb hZ.1 hS hown (ht _ wd_2_12) (fun _ h => h) dd_K_partsFit_31 ?_
      refine lv_iload_n hx hb dd_K_partsFit_34 rfl (lv_at hl 0 rfl) ?_
      refine va_ti (v := .int (k_parts k)) hx hb hZ.2.1 hS (k_in c1) rfl dd_K_partsFit_35 ?_
      refine lv_icmp_ne (tgt := 43) hx hb dd_K_partsFit_36 (by decide) (fun c3 => ?_) (fun c3 => ?_)
      · refine lv_iconst (v := 0) hx hb dd_K_partsFit_43 (by decide) ?_
        exact mw_i hx hb hr hlocks rfl hM hF hS (Nat.zero_le _) (Nat.zero_le _) ⟨by simp [k_partsFit, bI, c1, c2, c3], rfl⟩ dd_K_partsFit_44
      · refine lv_iconst (v := 1) hx hb dd_K_partsFit_39 (by decide) ?_
        refine lv_goto (tgt := 44) hx hb dd_K_partsFit_40 (by decide) ?_
        exact mw_i hx hb hr hlocks rfl hM hF hS (Nat.zero_le _) (Nat.zero_le _) ⟨by simp [k_partsFit, bI, c1, c2, eq_true c3], rfl⟩ dd_K_partsFit_44
    · refine lv_iload_n hx hb dd_K_partsFit_18 rfl (lv_at hl 1 rfl) ?_
      refine lv_if_lt (tgt := 26) hx hb dd_K_partsFit_19 (by decide) (fun c4 => ?_) (fun c4 => ?_)
      · refine lv_iconst (v := 0) hx hb dd_K_partsFit_26 (by decide) ?_
        refine lv_goto (tgt := 44) hx hb dd_K_partsFit_27 (by decide) ?_
        exact mw_i hx hb hr hlocks rfl hM hF hS (Nat.zero_le _) (Nat.zero_le _) ⟨by simp [k_partsFit, bI, c1, eq_true c2, c4], rfl⟩ dd_K_partsFit_44
      · refine lv_iconst (v := 1) hx hb dd_K_partsFit_22 (by decide) ?_
        refine lv_goto (tgt := 44) hx hb dd_K_partsFit_23 (by decide) ?_
        exact mw_i hx hb hr hlocks rfl hM hF hS (Nat.zero_le _) (Nat.zero_le _) ⟨by simp [k_partsFit, bI, c1, eq_true c2, c4], rfl⟩ dd_K_partsFit_44
  · refine lv_iconst (v := 0) hx hb dd_K_partsFit_7 (by decide) ?_
    exact mw_i hx hb hr hlocks rfl hM hF hS (Nat.zero_le _) (Nat.zero_le _) ⟨by simp [k_partsFit, bI, c1], rfl⟩ dd_K_partsFit_8

set_option maxHeartbeats 4000000 in
set_option maxRecDepth 100000 in
theorem cc_L_init {l : Launch} {G : gC} {M : mC} {sz : Nat} {x : Nat} (mx : M x = some (.inr (0, [.null, .null, .int 0, .int 0, .int 0, .int 0]))) {aD aN : Nat → Nat} {D : Nat → dR} {N : Nat → nR} {pn : Nat → Nat → Int64} {pt : Nat → Nat → Int32} : cW l yy_L_init bb_L_init 1 none 4 2 6 G M sz [.ref x] (fun v u => v = none ∧ ∃ ld ln, rp G u x ld ln G.2.2.2.1 G.2.2.2.1 0 0 aD aN D N pn pt false 0 (-1) 0) := by
  refine me_W (by decide) (Nat.le_of_ble_eq_true rfl) ?_
  intro p e s m below meth c ls hx hb hr hlocks hml hown hname ht hsz hM hK hZ hl
  have hown : s.vm.findClass RR_L = some m.cls := hown
  have hl : lv_has ls 1 [(0, .ref x)] := hl
  have hS : va_S (fr M sz) s.heap s.heap [] := va_S.rf
  have hF : ∀ q, M q ≠ none → fr M sz q := fr_M
  have hA : ∀ q, s.heap.size ≤ q → fr M sz q := fun q h => fr_A q (by rw [← hsz]; exact h)
  refine lv_aload_n hx hb dd_L_init_0 rfl (lv_at hl 0 rfl) ?_
  refine W.objInit hx hb hown (ht _ wd_1_21) (ht _ wd_1_22) (ht _ wd_1_23) rfl (by rw [hml]; exact hl.1) rfl dd_L_init_1 (Nat.le_of_ble_eq_true rfl) (Nat.le_of_ble_eq_true rfl) ?_
  refine W.eq (g2 := F0 m 4 ls []) rfl ?_
  refine lv_aload_n hx hb dd_L_init_4 rfl (lv_at hl 0 rfl) ?_
  have hn1 : M sz = none := hm_new hM (by rw [hsz]; exact Nat.le_refl _)
  have ne2 : x ≠ sz := hm_ne mx hn1
  refine mg_new (ci := 3) hx hb ht ii_A tt_A tt_A_ok hown wd_1_24 wd_1_25 wd_1_4 hK hM hS rfl [.int 0, .null, .int 0] (fun j hj => by rcases (show j = 0 ∨ j = 1 ∨ j = 2 by omega) with rfl | rfl | rfl <;> rfl) (Nat.le_of_ble_eq_true rfl) (Nat.le_of_ble_eq_true rfl) dd_L_init_5 (fun H hM hz hS => ?_)
  rw [hsz] at hM hz ⊢
  have hsz := hz
  have hM : hm G (mp_up M sz (.inr (3, [.int 0, .null, .int 0]))) H := hM
  have hF : ∀ z9, (mp_up M sz (.inr (3, [.int 0, .null, .int 0]))) z9 ≠ none → fr M sz z9 := hF_put hF (hA _ (by have := hS.1; omega))
  have mA1 : (mp_up M sz (.inr (3, [.int 0, .null, .int 0]))) sz = some (.inr (3, [.int 0, .null, .int 0])) := mp_self _ _ _
  refine lv_dup hx hb dd_L_init_8 rfl ?_
  have hFr := hF_fr hF hS hA
  refine mx_I (As := []) (rest := [.ref sz, .ref x]) 0 (cc_A_init mA1) hx hb hml hown ht hM hK hZ hS hFr hl.1 wd_1_28 wd_1_4 wd_1_26 wd_1_27 rfl (by decide +kernel) (by decide) rfl rfl (Nat.le_of_ble_eq_true rfl) dd_L_init_9 ⟨Nat.le_of_ble_eq_true rfl, Nat.le_of_ble_eq_true rfl⟩ (fun v u H locs hp hM hd hle hk hS => ?_)
  obtain ⟨rfl, hu⟩ := hp
  rw [hu] at hM hd
  clear hu
  have hF := fun z9 h => hFr z9 (hd z9 h)
  obtain ⟨z3, hsz⟩ : ∃ z9, H.size = z9 := ⟨_, rfl⟩
  have mA1 : (mp_up (mp_up M sz (.inr (3, [.int 0, .null, .int 0]))) sz (aC (0, G.2.2.2.1, 0))) sz = some (aC (0, G.2.2.2.1, 0)) := mp_self _ _ _
  have hM : hm G (mp_up (mp_up M sz (.inr (3, [.int 0, .null, .int 0]))) sz (aC (0, G.2.2.2.1, 0))) H := hM
  have mx := mp_old (M := M) (a := sz) (e := (.inr (3, [.int 0, .null, .int 0]))) mx hn1
  have mx := mp_at (M := (mp_up M sz (.inr (3, [.int 0, .null, .int 0])))) (a := sz) (e := (aC (0, G.2.2.2.1, 0))) ne2 mx
  refine mg_put (v := .ref sz) hx hb ht ii_L tt_L tt_L_ok nn_L hown hK hM hS (hF _ (by rw [mx]; exact Option.some_ne_none _)) mx rfl 0 (by decide) wd_1_50 (fun _ h => h) (Or.inr ⟨rfl, hname, rfl⟩) rfl rfl rfl (Nat.le_of_ble_eq_true rfl) dd_L_init_12 (fun H locs hM hz hoq hS => ?_)
  have hsz := hz.trans hsz
  have hM : hm G (mp_up (mp_up (mp_up M sz (.inr (3, [.int 0, .null, .int 0]))) sz (aC (0, G.2.2.2.1, 0))) x (.inr (0, [.ref sz, .null, .int 0, .int 0, .int 0, .int 0]))) H := hM
  have hF : ∀ z9, (mp_up (mp_up (mp_up M sz (.inr (3, [.int 0, .null, .int 0]))) sz (aC (0, G.2.2.2.1, 0))) x (.inr (0, [.ref sz, .null, .int 0, .int 0, .int 0, .int 0]))) z9 ≠ none → fr M sz z9 := hF_put hF (hF _ (by rw [mx]; exact Option.some_ne_none _))
  have mx : (mp_up (mp_up (mp_up M sz (.inr (3, [.int 0, .null, .int 0]))) sz (aC (0, G.2.2.2.1, 0))) x (.inr (0, [.ref sz, .null, .int 0, .int 0, .int 0, .int 0]))) x = some (.inr (0, [.ref sz, .null, .int 0, .int 0, .int 0, .int 0])) := mp_self _ _ _
  refine lv_aload_n hx hb dd_L_init_15 rfl (lv_at hl 0 rfl) ?_
  have hn4 : (mp_up (mp_up (mp_up M sz (.inr (3, [.int 0, .null, .int 0]))) sz (aC (0, G.2.2.2.1, 0))) x (.inr (0, [.ref sz, .null, .int 0, .int 0, .int 0, .int 0]))) z3 = none := hm_new hM (by rw [hsz]; exact Nat.le_refl _)
  have ne5 : x ≠ z3 := hm_ne mx hn4
  have mA1 := mp_at (M := (mp_up (mp_up M sz (.inr (3, [.int 0, .null, .int 0]))) sz (aC (0, G.2.2.2.1, 0)))) (a := x) (e := (.inr (0, [.ref sz, .null, .int 0, .int 0, .int 0, .int 0]))) (Ne.symm ne2) mA1
  have ne6 : sz ≠ z3 := hm_ne mA1 hn4
  refine mg_new (ci := 3) hx hb ht ii_A tt_A tt_A_ok hown wd_1_24 wd_1_25 wd_1_4 hK hM hS rfl [.int 0, .null, .int 0] (fun j hj => by rcases (show j = 0 ∨ j = 1 ∨ j = 2 by omega) with rfl | rfl | rfl <;> rfl) (Nat.le_of_ble_eq_true rfl) (Nat.le_of_ble_eq_true rfl) dd_L_init_16 (fun H hM hz hS => ?_)
  rw [hsz] at hM hz ⊢
  have hsz := hz
  have hM : hm G (mp_up (mp_up (mp_up (mp_up M sz (.inr (3, [.int 0, .null, .int 0]))) sz (aC (0, G.2.2.2.1, 0))) x (.inr (0, [.ref sz, .null, .int 0, .int 0, .int 0, .int 0]))) z3 (.inr (3, [.int 0, .null, .int 0]))) H := hM
  have hF : ∀ z9, (mp_up (mp_up (mp_up (mp_up M sz (.inr (3, [.int 0, .null, .int 0]))) sz (aC (0, G.2.2.2.1, 0))) x (.inr (0, [.ref sz, .null, .int 0, .int 0, .int 0, .int 0]))) z3 (.inr (3, [.int 0, .null, .int 0]))) z9 ≠ none → fr M sz z9 := hF_put hF (hA _ (by have := hS.1; omega))
  have mA2 : (mp_up (mp_up (mp_up (mp_up M sz (.inr (3, [.int 0, .null, .int 0]))) sz (aC (0, G.2.2.2.1, 0))) x (.inr (0, [.ref sz, .null, .int 0, .int 0, .int 0, .int 0]))) z3 (.inr (3, [.int 0, .null, .int 0]))) z3 = some (.inr (3, [.int 0, .null, .int 0])) := mp_self _ _ _
  refine lv_dup hx hb dd_L_init_19 rfl ?_
  have hFr := hF_fr hF hS hA
  refine mx_I (As := []) (rest := [.ref z3, .ref x]) 0 (cc_A_init mA2) hx hb hml hown ht hM hK hZ hS hFr hl.1 wd_1_28 wd_1_4 wd_1_26 wd_1_27 rfl (by decide +kernel) (by decide) rfl rfl (Nat.le_of_ble_eq_true rfl) dd_L_init_20 ⟨Nat.le_of_ble_eq_true rfl, Nat.le_of_ble_eq_true rfl⟩ (fun v u H locs hp hM hd hle hk hS => ?_)
  obtain ⟨rfl, hu⟩ := hp
  rw [hu] at hM hd
  clear hu
  have hF := fun z9 h => hFr z9 (hd z9 h)
  obtain ⟨z7, hsz⟩ : ∃ z9, H.size = z9 := ⟨_, rfl⟩
  have mA2 : (mp_up (mp_up (mp_up (mp_up (mp_up M sz (.inr (3, [.int 0, .null, .int 0]))) sz (aC (0, G.2.2.2.1, 0))) x (.inr (0, [.ref sz, .null, .int 0, .int 0, .int 0, .int 0]))) z3 (.inr (3, [.int 0, .null, .int 0]))) z3 (aC (0, G.2.2.2.1, 0))) z3 = some (aC (0, G.2.2.2.1, 0)) := mp_self _ _ _
  have hM : hm G (mp_up (mp_up (mp_up (mp_up (mp_up M sz (.inr (3, [.int 0, .null, .int 0]))) sz (aC (0, G.2.2.2.1, 0))) x (.inr (0, [.ref sz, .null, .int 0, .int 0, .int 0, .int 0]))) z3 (.inr (3, [.int 0, .null, .int 0]))) z3 (aC (0, G.2.2.2.1, 0))) H := hM
  have mx := mp_old (M := (mp_up (mp_up (mp_up M sz (.inr (3, [.int 0, .null, .int 0]))) sz (aC (0, G.2.2.2.1, 0))) x (.inr (0, [.ref sz, .null, .int 0, .int 0, .int 0, .int 0])))) (a := z3) (e := (.inr (3, [.int 0, .null, .int 0]))) mx hn4
  have mx := mp_at (M := (mp_up (mp_up (mp_up (mp_up M sz (.inr (3, [.int 0, .null, .int 0]))) sz (aC (0, G.2.2.2.1, 0))) x (.inr (0, [.ref sz, .null, .int 0, .int 0, .int 0, .int 0]))) z3 (.inr (3, [.int 0, .null, .int 0])))) (a := z3) (e := (aC (0, G.2.2.2.1, 0))) ne5 mx
  refine mg_put (v := .ref z3) hx hb ht ii_L tt_L tt_L_ok nn_L hown hK hM hS (hF _ (by rw [mx]; exact Option.some_ne_none _)) mx rfl 1 (by decide) wd_1_51 (fun _ h => h) (Or.inr ⟨rfl, hname, rfl⟩) rfl rfl rfl (Nat.le_of_ble_eq_true rfl) dd_L_init_23 (fun H locs hM hz hoq hS => ?_)
  have hsz := hz.trans hsz
  have hM : hm G (mp_up (mp_up (mp_up (mp_up (mp_up (mp_up M sz (.inr (3, [.int 0, .null, .int 0]))) sz (aC (0, G.2.2.2.1, 0))) x (.inr (0, [.ref sz, .null, .int 0, .int 0, .int 0, .int 0]))) z3 (.inr (3, [.int 0, .null, .int 0]))) z3 (aC (0, G.2.2.2.1, 0))) x (.inr (0, [.ref sz, .ref z3, .int 0, .int 0, .int 0, .int 0]))) H := hM
  have hF : ∀ z9, (mp_up (mp_up (mp_up (mp_up (mp_up (mp_up M sz (.inr (3, [.int 0, .null, .int 0]))) sz (aC (0, G.2.2.2.1, 0))) x (.inr (0, [.ref sz, .null, .int 0, .int 0, .int 0, .int 0]))) z3 (.inr (3, [.int 0, .null, .int 0]))) z3 (aC (0, G.2.2.2.1, 0))) x (.inr (0, [.ref sz, .ref z3, .int 0, .int 0, .int 0, .int 0]))) z9 ≠ none → fr M sz z9 := hF_put hF (hF _ (by rw [mx]; exact Option.some_ne_none _))
  have mx : (mp_up (mp_up (mp_up (mp_up (mp_up (mp_up M sz (.inr (3, [.int 0, .null, .int 0]))) sz (aC (0, G.2.2.2.1, 0))) x (.inr (0, [.ref sz, .null, .int 0, .int 0, .int 0, .int 0]))) z3 (.inr (3, [.int 0, .null, .int 0]))) z3 (aC (0, G.2.2.2.1, 0))) x (.inr (0, [.ref sz, .ref z3, .int 0, .int 0, .int 0, .int 0]))) x = some (.inr (0, [.ref sz, .ref z3, .int 0, .int 0, .int 0, .int 0])) := mp_self _ _ _
  refine lv_aload_n hx hb dd_L_init_26 rfl (lv_at hl 0 rfl) ?_
  refine lv_iconst (v := 0) hx hb dd_L_init_27 (by decide) ?_
  refine mg_put (v := .int 0) hx hb ht ii_L tt_L tt_L_ok nn_L hown hK hM hS (hF _ (by rw [mx]; exact Option.some_ne_none _)) mx rfl 2 (by decide) wd_1_52 (fun _ h => h) (Or.inl rfl) rfl rfl rfl (Nat.le_of_ble_eq_true rfl) dd_L_init_28 (fun H locs hM hz hoq hS => ?_)
  have hsz := hz.trans hsz
  rw [mp_mp] at hM
  have hM : hm G (mp_up (mp_up (mp_up (mp_up (mp_up (mp_up M sz (.inr (3, [.int 0, .null, .int 0]))) sz (aC (0, G.2.2.2.1, 0))) x (.inr (0, [.ref sz, .null, .int 0, .int 0, .int 0, .int 0]))) z3 (.inr (3, [.int 0, .null, .int 0]))) z3 (aC (0, G.2.2.2.1, 0))) x (.inr (0, [.ref sz, .ref z3, .int 0, .int 0, .int 0, .int 0]))) H := hM
  have hF : ∀ z9, (mp_up (mp_up (mp_up (mp_up (mp_up (mp_up M sz (.inr (3, [.int 0, .null, .int 0]))) sz (aC (0, G.2.2.2.1, 0))) x (.inr (0, [.ref sz, .null, .int 0, .int 0, .int 0, .int 0]))) z3 (.inr (3, [.int 0, .null, .int 0]))) z3 (aC (0, G.2.2.2.1, 0))) x (.inr (0, [.ref sz, .ref z3, .int 0, .int 0, .int 0, .int 0]))) z9 ≠ none → fr M sz z9 := hF_same hF
  have mx : (mp_up (mp_up (mp_up (mp_up (mp_up (mp_up M sz (.inr (3, [.int 0, .null, .int 0]))) sz (aC (0, G.2.2.2.1, 0))) x (.inr (0, [.ref sz, .null, .int 0, .int 0, .int 0, .int 0]))) z3 (.inr (3, [.int 0, .null, .int 0]))) z3 (aC (0, G.2.2.2.1, 0))) x (.inr (0, [.ref sz, .ref z3, .int 0, .int 0, .int 0, .int 0]))) x = some (.inr (0, [.ref sz, .ref z3, .int 0, .int 0, .int 0, .int 0])) := mp_self _ _ _
  refine lv_aload_n hx hb dd_L_init_31 rfl (lv_at hl 0 rfl) ?_
  refine lv_iconst (v := 0) hx hb dd_L_init_32 (by decide) ?_
  refine mg_put (v := .int 0) hx hb ht ii_L tt_L tt_L_ok nn_L hown hK hM hS (hF _ (by rw [mx]; exact Option.some_ne_none _)) mx rfl 3 (by decide) wd_1_53 (fun _ h => h) (Or.inl rfl) rfl rfl rfl (Nat.le_of_ble_eq_true rfl) dd_L_init_33 (fun H locs hM hz hoq hS => ?_)
  have hsz := hz.trans hsz
  rw [mp_mp] at hM
  have hM : hm G (mp_up (mp_up (mp_up (mp_up (mp_up (mp_up M sz (.inr (3, [.int 0, .null, .int 0]))) sz (aC (0, G.2.2.2.1, 0))) x (.inr (0, [.ref sz, .null, .int 0, .int 0, .int 0, .int 0]))) z3 (.inr (3, [.int 0, .null, .int 0]))) z3 (aC (0, G.2.2.2.1, 0))) x (.inr (0, [.ref sz, .ref z3, .int 0, .int 0, .int 0, .int 0]))) H := hM
  have hF : ∀ z9, (mp_up (mp_up (mp_up (mp_up (mp_up (mp_up M sz (.inr (3, [.int 0, .null, .int 0]))) sz (aC (0, G.2.2.2.1, 0))) x (.inr (0, [.ref sz, .null, .int 0, .int 0, .int 0, .int 0]))) z3 (.inr (3, [.int 0, .null, .int 0]))) z3 (aC (0, G.2.2.2.1, 0))) x (.inr (0, [.ref sz, .ref z3, .int 0, .int 0, .int 0, .int 0]))) z9 ≠ none → fr M sz z9 := hF_same hF
  have mx : (mp_up (mp_up (mp_up (mp_up (mp_up (mp_up M sz (.inr (3, [.int 0, .null, .int 0]))) sz (aC (0, G.2.2.2.1, 0))) x (.inr (0, [.ref sz, .null, .int 0, .int 0, .int 0, .int 0]))) z3 (.inr (3, [.int 0, .null, .int 0]))) z3 (aC (0, G.2.2.2.1, 0))) x (.inr (0, [.ref sz, .ref z3, .int 0, .int 0, .int 0, .int 0]))) x = some (.inr (0, [.ref sz, .ref z3, .int 0, .int 0, .int 0, .int 0])) := mp_self _ _ _
  refine lv_aload_n hx hb dd_L_init_36 rfl (lv_at hl 0 rfl) ?_
  refine lv_iconst (v := -1) hx hb dd_L_init_37 (by decide) ?_
  refine mg_put (v := .int (-1)) hx hb ht ii_L tt_L tt_L_ok nn_L hown hK hM hS (hF _ (by rw [mx]; exact Option.some_ne_none _)) mx rfl 4 (by decide) wd_1_54 (fun _ h => h) (Or.inl rfl) rfl rfl rfl (Nat.le_of_ble_eq_true rfl) dd_L_init_38 (fun H locs hM hz hoq hS => ?_)
  have hsz := hz.trans hsz
  rw [mp_mp] at hM
  have hM : hm G (mp_up (mp_up (mp_up (mp_up (mp_up (mp_up M sz (.inr (3, [.int 0, .null, .int 0]))) sz (aC (0, G.2.2.2.1, 0))) x (.inr (0, [.ref sz, .null, .int 0, .int 0, .int 0, .int 0]))) z3 (.inr (3, [.int 0, .null, .int 0]))) z3 (aC (0, G.2.2.2.1, 0))) x (.inr (0, [.ref sz, .ref z3, .int 0, .int 0, .int (-1), .int 0]))) H := hM
  have hF : ∀ z9, (mp_up (mp_up (mp_up (mp_up (mp_up (mp_up M sz (.inr (3, [.int 0, .null, .int 0]))) sz (aC (0, G.2.2.2.1, 0))) x (.inr (0, [.ref sz, .null, .int 0, .int 0, .int 0, .int 0]))) z3 (.inr (3, [.int 0, .null, .int 0]))) z3 (aC (0, G.2.2.2.1, 0))) x (.inr (0, [.ref sz, .ref z3, .int 0, .int 0, .int (-1), .int 0]))) z9 ≠ none → fr M sz z9 := hF_same hF
  have mx : (mp_up (mp_up (mp_up (mp_up (mp_up (mp_up M sz (.inr (3, [.int 0, .null, .int 0]))) sz (aC (0, G.2.2.2.1, 0))) x (.inr (0, [.ref sz, .null, .int 0, .int 0, .int 0, .int 0]))) z3 (.inr (3, [.int 0, .null, .int 0]))) z3 (aC (0, G.2.2.2.1, 0))) x (.inr (0, [.ref sz, .ref z3, .int 0, .int 0, .int (-1), .int 0]))) x = some (.inr (0, [.ref sz, .ref z3, .int 0, .int 0, .int (-1), .int 0])) := mp_self _ _ _
  refine lv_aload_n hx hb dd_L_init_41 rfl (lv_at hl 0 rfl) ?_
  refine lv_iconst (v := 0) hx hb dd_L_init_42 (by decide) ?_
  refine mg_put (v := .int 0) hx hb ht ii_L tt_L tt_L_ok nn_L hown hK hM hS (hF _ (by rw [mx]; exact Option.some_ne_none _)) mx rfl 5 (by decide) wd_1_55 (fun _ h => h) (Or.inl rfl) rfl rfl rfl (Nat.le_of_ble_eq_true rfl) dd_L_init_43 (fun H locs hM hz hoq hS => ?_)
  have hsz := hz.trans hsz
  rw [mp_mp] at hM
  have hM : hm G (mp_up (mp_up (mp_up (mp_up (mp_up (mp_up M sz (.inr (3, [.int 0, .null, .int 0]))) sz (aC (0, G.2.2.2.1, 0))) x (.inr (0, [.ref sz, .null, .int 0, .int 0, .int 0, .int 0]))) z3 (.inr (3, [.int 0, .null, .int 0]))) z3 (aC (0, G.2.2.2.1, 0))) x (.inr (0, [.ref sz, .ref z3, .int 0, .int 0, .int (-1), .int 0]))) H := hM
  have hF : ∀ z9, (mp_up (mp_up (mp_up (mp_up (mp_up (mp_up M sz (.inr (3, [.int 0, .null, .int 0]))) sz (aC (0, G.2.2.2.1, 0))) x (.inr (0, [.ref sz, .null, .int 0, .int 0, .int 0, .int 0]))) z3 (.inr (3, [.int 0, .null, .int 0]))) z3 (aC (0, G.2.2.2.1, 0))) x (.inr (0, [.ref sz, .ref z3, .int 0, .int 0, .int (-1), .int 0]))) z9 ≠ none → fr M sz z9 := hF_same hF
  have mx : (mp_up (mp_up (mp_up (mp_up (mp_up (mp_up M sz (.inr (3, [.int 0, .null, .int 0]))) sz (aC (0, G.2.2.2.1, 0))) x (.inr (0, [.ref sz, .null, .int 0, .int 0, .int 0, .int 0]))) z3 (.inr (3, [.int 0, .null, .int 0]))) z3 (aC (0, G.2.2.2.1, 0))) x (.inr (0, [.ref sz, .ref z3, .int 0, .int 0, .int (-1), .int 0]))) x = some (.inr (0, [.ref sz, .ref z3, .int 0, .int 0, .int (-1), .int 0])) := mp_self _ _ _
  have mA1 := mp_old (M := (mp_up (mp_up (mp_up M sz (.inr (3, [.int 0, .null, .int 0]))) sz (aC (0, G.2.2.2.1, 0))) x (.inr (0, [.ref sz, .null, .int 0, .int 0, .int 0, .int 0])))) (a := z3) (e := (.inr (3, [.int 0, .null, .int 0]))) mA1 hn4
  have mA1 := mp_at (M := (mp_up (mp_up (mp_up (mp_up M sz (.inr (3, [.int 0, .null, .int 0]))) sz (aC (0, G.2.2.2.1, 0))) x (.inr (0, [.ref sz, .null, .int 0, .int 0, .int 0, .int 0]))) z3 (.inr (3, [.int 0, .null, .int 0])))) (a := z3) (e := (aC (0, G.2.2.2.1, 0))) ne6 mA1
  have mA1 := mp_at (M := (mp_up (mp_up (mp_up (mp_up (mp_up M sz (.inr (3, [.int 0, .null, .int 0]))) sz (aC (0, G.2.2.2.1, 0))) x (.inr (0, [.ref sz, .null, .int 0, .int 0, .int 0, .int 0]))) z3 (.inr (3, [.int 0, .null, .int 0]))) z3 (aC (0, G.2.2.2.1, 0)))) (a := x) (e := (.inr (0, [.ref sz, .ref z3, .int 0, .int 0, .int (-1), .int 0]))) (Ne.symm ne2) mA1
  have mA2 := mp_at (M := (mp_up (mp_up (mp_up (mp_up (mp_up M sz (.inr (3, [.int 0, .null, .int 0]))) sz (aC (0, G.2.2.2.1, 0))) x (.inr (0, [.ref sz, .null, .int 0, .int 0, .int 0, .int 0]))) z3 (.inr (3, [.int 0, .null, .int 0]))) z3 (aC (0, G.2.2.2.1, 0)))) (a := x) (e := (.inr (0, [.ref sz, .ref z3, .int 0, .int 0, .int (-1), .int 0]))) (Ne.symm ne5) mA2
  exact mw_v hx hb hr hlocks hM hF hS (Nat.le_of_ble_eq_true rfl) (Nat.le_of_ble_eq_true rfl) ⟨rfl, sz, z3, rp_nil mx ⟨_, mA1, Or.inl ⟨rfl, rfl⟩⟩ ⟨_, mA2, Or.inl ⟨rfl, rfl⟩⟩ ne6 (fun _ => rfl)⟩ dd_L_init_46

set_option maxHeartbeats 4000000 in
set_option maxRecDepth 100000 in
theorem cc_L_clear {l : Launch} {G : gC} {M : mC} {sz : Nat} {x ld ln ed en nd nn : Nat} {aD aN : Nat → Nat} {D : Nat → dR} {N : Nat → nR} {pn : Nat → Nat → Int64} {pt : Nat → Nat → Int32} {kn : Bool} {ft fn mv : Int32} (hR : rp G M x ld ln ed en nd nn aD aN D N pn pt kn ft fn mv) {bD bN : Nat → Nat} {D' : Nat → dR} {N' : Nat → nR} {pn' : Nat → Nat → Int64} {pt' : Nat → Nat → Int32} : cW l yy_L_clear bb_L_clear 1 none 1 0 0 G M sz [.ref x] (fun v u => v = none ∧ rp G u x ld ln ed en 0 0 bD bN D' N' pn' pt' false 0 (-1) 0) := by
  refine me_W (by decide) (Nat.le_of_ble_eq_true rfl) ?_
  intro p e s m below meth c ls hx hb hr hlocks hml hown hname ht hsz hM hK hZ hl
  have hown : s.vm.findClass RR_L = some m.cls := hown
  have hl : lv_has ls 1 [(0, .ref x)] := hl
  have hS : va_S (fr M sz) s.heap s.heap [] := va_S.rf
  have hF : ∀ q, M q ≠ none → fr M sz q := fr_M
  have hA : ∀ q, s.heap.size ≤ q → fr M sz q := fun q h => fr_A q (by rw [← hsz]; exact h)
  obtain ⟨mx, hLd, hLn, hD, hN, hAp, hnd, hnn⟩ := id hR
  obtain ⟨cl, ml⟩ := ls_obj hLd
  obtain ⟨ck, mk⟩ := ls_obj hLn
  have h00 := mz_none hZ
  have hE := mz_E hZ
  have hLd0 := hLd
  refine lv_aload_n hx hb dd_L_clear_0 rfl (lv_at hl 0 rfl) ?_
  refine mg_get hx hb ht ii_L hown hK hM mx rfl 0 (by decide) wd_1_50 (fun _ h => h) rfl dd_L_clear_1 ?_
  have hFr := hF_fr hF hS hA
  refine mx_V (As := []) (rest := []) 0 (cc_A_clear (g' := bD) hLd) hx hb hml hown ht hM hK hZ hS hFr hl.1 lk_L_33 (by decide +kernel) (by decide) ml rfl rfl rfl (Nat.le_of_ble_eq_true rfl) dd_L_clear_4 ⟨Nat.zero_le _, Nat.zero_le _⟩ (fun v u1 H locs hp hM hd hle hk hS => ?_)
  obtain ⟨rfl, hLd, hq⟩ := hp
  have hF := fun z9 h => hFr z9 (hd z9 h)
  have mx := ls_x hLd0 h00 mx hq
  have hLn := ls_other hLd0 hLn h00 hAp.1 hAp.2.1 hq
  obtain ⟨ck, mk⟩ := ls_obj hLn
  have h01 := e_none hF hE
  have hLn0 := hLn
  obtain ⟨z1, hsz⟩ : ∃ z9, H.size = z9 := ⟨_, rfl⟩
  refine lv_aload_n hx hb dd_L_clear_7 rfl (lv_at hl 0 rfl) ?_
  refine mg_get hx hb ht ii_L hown hK hM mx rfl 1 (by decide) wd_1_51 (fun _ h => h) rfl dd_L_clear_8 ?_
  have hFr := hF_fr hF hS hA
  refine mx_V (As := []) (rest := []) 0 (cc_A_clear (g' := bN) hLn) hx hb hml hown ht hM hK hZ hS hFr hl.1 lk_L_33 (by decide +kernel) (by decide) mk rfl rfl rfl (Nat.le_of_ble_eq_true rfl) dd_L_clear_11 ⟨Nat.zero_le _, Nat.zero_le _⟩ (fun v u2 H locs hp hM hd hle hk hS => ?_)
  obtain ⟨rfl, hLn, hq⟩ := hp
  have hF := fun z9 h => hFr z9 (hd z9 h)
  have mx := ls_x hLn0 h01 mx hq
  have hLd := ls_other hLn0 hLd h01 (Ne.symm hAp.1) (fun e => by rw [e]; exact hAp.2.1 e.symm) hq
  obtain ⟨cl, ml⟩ := ls_obj hLd
  obtain ⟨ck, mk⟩ := ls_obj hLn
  have h02 := e_none hF hE
  obtain ⟨z2, hsz⟩ : ∃ z9, H.size = z9 := ⟨_, rfl⟩
  refine lv_aload_n hx hb dd_L_clear_14 rfl (lv_at hl 0 rfl) ?_
  refine lv_iconst (v := 0) hx hb dd_L_clear_15 (by decide) ?_
  have mx0 := mx
  refine mg_put (v := .int 0) hx hb ht ii_L tt_L tt_L_ok nn_L hown hK hM hS (hF _ (by rw [mx]; exact Option.some_ne_none _)) mx rfl 2 (by decide) wd_1_52 (fun _ h => h) (Or.inl rfl) rfl rfl rfl (Nat.le_of_ble_eq_true rfl) dd_L_clear_16 (fun H locs hM hz hoq hS => ?_)
  have hsz := hz.trans hsz
  have hM : hm G (mp_up u2 x (.inr (0, [.ref ld, .ref ln, .int 0, .int ft, .int fn, .int mv]))) H := hM
  have hF : ∀ z9, (mp_up u2 x (.inr (0, [.ref ld, .ref ln, .int 0, .int ft, .int fn, .int mv]))) z9 ≠ none → fr M sz z9 := hF_put hF (hF _ (by rw [mx]; exact Option.some_ne_none _))
  have mx : (mp_up u2 x (.inr (0, [.ref ld, .ref ln, .int 0, .int ft, .int fn, .int mv]))) x = some (.inr (0, [.ref ld, .ref ln, .int 0, .int ft, .int fn, .int mv])) := mp_self _ _ _
  refine lv_aload_n hx hb dd_L_clear_19 rfl (lv_at hl 0 rfl) ?_
  refine lv_iconst (v := 0) hx hb dd_L_clear_20 (by decide) ?_
  refine mg_put (v := .int 0) hx hb ht ii_L tt_L tt_L_ok nn_L hown hK hM hS (hF _ (by rw [mx]; exact Option.some_ne_none _)) mx rfl 3 (by decide) wd_1_53 (fun _ h => h) (Or.inl rfl) rfl rfl rfl (Nat.le_of_ble_eq_true rfl) dd_L_clear_21 (fun H locs hM hz hoq hS => ?_)
  have hsz := hz.trans hsz
  rw [mp_mp] at hM
  have hM : hm G (mp_up u2 x (.inr (0, [.ref ld, .ref ln, .int 0, .int 0, .int fn, .int mv]))) H := hM
  have hF : ∀ z9, (mp_up u2 x (.inr (0, [.ref ld, .ref ln, .int 0, .int 0, .int fn, .int mv]))) z9 ≠ none → fr M sz z9 := hF_same hF
  have mx : (mp_up u2 x (.inr (0, [.ref ld, .ref ln, .int 0, .int 0, .int fn, .int mv]))) x = some (.inr (0, [.ref ld, .ref ln, .int 0, .int 0, .int fn, .int mv])) := mp_self _ _ _
  refine lv_aload_n hx hb dd_L_clear_24 rfl (lv_at hl 0 rfl) ?_
  refine lv_iconst (v := -1) hx hb dd_L_clear_25 (by decide) ?_
  refine mg_put (v := .int (-1)) hx hb ht ii_L tt_L tt_L_ok nn_L hown hK hM hS (hF _ (by rw [mx]; exact Option.some_ne_none _)) mx rfl 4 (by decide) wd_1_54 (fun _ h => h) (Or.inl rfl) rfl rfl rfl (Nat.le_of_ble_eq_true rfl) dd_L_clear_26 (fun H locs hM hz hoq hS => ?_)
  have hsz := hz.trans hsz
  rw [mp_mp] at hM
  have hM : hm G (mp_up u2 x (.inr (0, [.ref ld, .ref ln, .int 0, .int 0, .int (-1), .int mv]))) H := hM
  have hF : ∀ z9, (mp_up u2 x (.inr (0, [.ref ld, .ref ln, .int 0, .int 0, .int (-1), .int mv]))) z9 ≠ none → fr M sz z9 := hF_same hF
  have mx : (mp_up u2 x (.inr (0, [.ref ld, .ref ln, .int 0, .int 0, .int (-1), .int mv]))) x = some (.inr (0, [.ref ld, .ref ln, .int 0, .int 0, .int (-1), .int mv])) := mp_self _ _ _
  refine lv_aload_n hx hb dd_L_clear_29 rfl (lv_at hl 0 rfl) ?_
  refine lv_iconst (v := 0) hx hb dd_L_clear_30 (by decide) ?_
  refine mg_put (v := .int 0) hx hb ht ii_L tt_L tt_L_ok nn_L hown hK hM hS (hF _ (by rw [mx]; exact Option.some_ne_none _)) mx rfl 5 (by decide) wd_1_55 (fun _ h => h) (Or.inl rfl) rfl rfl rfl (Nat.le_of_ble_eq_true rfl) dd_L_clear_31 (fun H locs hM hz hoq hS => ?_)
  have hsz := hz.trans hsz
  rw [mp_mp] at hM
  have hM : hm G (mp_up u2 x (.inr (0, [.ref ld, .ref ln, .int 0, .int 0, .int (-1), .int 0]))) H := hM
  have hF : ∀ z9, (mp_up u2 x (.inr (0, [.ref ld, .ref ln, .int 0, .int 0, .int (-1), .int 0]))) z9 ≠ none → fr M sz z9 := hF_same hF
  have mx : (mp_up u2 x (.inr (0, [.ref ld, .ref ln, .int 0, .int 0, .int (-1), .int 0]))) x = some (.inr (0, [.ref ld, .ref ln, .int 0, .int 0, .int (-1), .int 0])) := mp_self _ _ _
  exact mw_v hx hb hr hlocks hM hF hS (Nat.zero_le _) (Nat.zero_le _) ⟨rfl, rp_nil mx (ls_up hLd h02 mx0 (fun _ z => by cases z) (fun _ _ z => by cases z)) (ls_up hLn h02 mx0 (fun _ z => by cases z) (fun _ _ z => by cases z)) hAp.1 hAp.2.1⟩ dd_L_clear_34
end
section
/-! one more definition -/
theorem rp_mono {G : gC} {M u : mC} {x ld ln ed en nd nn : Nat} {aD aN : Nat → Nat} {D : Nat → dR} {N : Nat → nR} {pn : Nat → Nat → Int64} {pt : Nat → Nat → Int32} {kn : Bool} {ft fn mv : Int32} (hR : rp G M x ld ln ed en nd nn aD aN D N pn pt kn ft fn mv) (h : ∀ q e, M q = some e → u q = some e) : rp G u x ld ln ed en nd nn aD aN D N pn pt kn ft fn mv := by
  obtain ⟨mx, hLd, hLn, hD, hN, hAp, hnd, hnn⟩ := hR
  obtain ⟨cl, ml⟩ := ls_obj hLd
  obtain ⟨ck, mk⟩ := ls_obj hLn
  exact ⟨h _ _ mx, ls_keep hLd ((h _ _ ml).trans ml.symm) (h _), ls_keep hLn ((h _ _ mk).trans mk.symm) (h _), fun i hi => ⟨h _ _ (hD i hi).1, h _ _ (hD i hi).2.1, h _ _ (hD i hi).2.2.1, (hD i hi).2.2.2⟩, fun j hj => ⟨h _ _ (hN j hj).1, (hN j hj).2⟩, hAp, hnd, hnn⟩
/-- behind add: cells that are no list and no row of objects -/
theorem add_keep {G : gC} {u2 u3 : mC} {a ed' : Nat} {r : aR} (hq : ∀ q, q ≠ a → q ≠ ed' → u3 q = u2 q) (ma : u2 a = some (aC r)) (hed : (∃ cap f, u2 ed' = some (oA G cap f)) ∨ u2 ed' = none) {q : Nat} {e : va_E} (h : u2 q = some e) (h1 : ∀ r, e ≠ aC r) (h2 : ∀ cap f, e ≠ oA G cap f) : u3 q = some e := by
  refine (hq q (fun z => ?_) (fun z => ?_)).trans h
  · rw [z, ma] at h; cases h; exact h1 _ rfl
  · rcases hed with ⟨cap, f, me⟩ | me
    · rw [z, me] at h; cases h; exact h2 _ _ rfl
    · rw [z, me] at h; cases h
/-- behind add: the other list -/
theorem add_other {G : gC} {u2 u3 : mC} {a b ed' eb m : Nat} {r : aR} {h : Nat → Nat} (hq : ∀ q, q ≠ a → q ≠ ed' → u3 q = u2 q) (ma : u2 a = some (aC r)) (hed : (∃ cap f, u2 ed' = some (oA G cap f)) ∨ u2 ed' = none) (hB : ls_ok G u2 b eb m h) (h02 : u2 G.2.2.2.1 = none) (hab : a ≠ b) (he : ed' = eb → ed' = G.2.2.2.1) : ls_ok G u3 b eb m h := by
  obtain ⟨cb, mb⟩ := ls_obj hB
  refine ls_keep hB (hq b (Ne.symm hab) (fun z => ?_)) (fun z hz => ?_)
  · rcases hed with ⟨cap, f, me⟩ | me
    · rw [z, me] at mb; cases mb
    · rw [z, me] at mb; cases mb
  · obtain ⟨cap, f, me⟩ := ls_in hB h02 hz
    refine (hq eb (Ne.symm (oa_ne ma me)) (fun e => ?_)).trans hz
    rw [e, he e.symm, h02] at hz
    cases hz
theorem ed_ne {G : gC} {u2 : mC} {b eb ed ed' m : Nat} {h : Nat → Nat} (hB : ls_ok G u2 b eb m h) (hed : ed' = ed ∨ u2 ed' = none) (he : ed = eb → ed = G.2.2.2.1) : ed' = eb → ed' = G.2.2.2.1 := by
  intro z
  rcases hed with e | e
  · rw [e] at z ⊢; exact he z
  · obtain ⟨c, -, ⟨-, e2⟩ | ⟨cap, f, me, -⟩⟩ := hB
    · rw [z]; exact e2
    · rw [← z, e] at me; cases me
theorem up_x {G : gC} {M : mC} {x q : Nat} {e e' : va_E} {ld ln : Nat} {kn : Bool} {ft fn mv : Int32} (mx : M x = some (xC ld ln kn ft fn mv)) (h : M q = some e) (hn : ∀ ld ln kn ft fn mv, e ≠ xC ld ln kn ft fn mv) : mp_up M x e' q = some e := mp_at (fun z => by rw [z, mx] at h; cases h; exact hn _ _ _ _ _ _ rfl) h
theorem rp_def {G : gC} {M u2 u3 : mC} {x ld ln ed en ed' nd nn a : Nat} {aD aN : Nat → Nat} {D : Nat → dR} {N : Nat → nR} {pn : Nat → Nat → Int64} {pt : Nat → Nat → Int32} {kn : Bool} {ft fn mv : Int32} {d : dR} (hR : rp G M x ld ln ed en nd nn aD aN D N pn pt kn ft fn mv) (hlt : nd < 64) (h2 : ∀ q e, M q = some e → u2 q = some e) (ha : u2 a = some (dC d)) (hb : u2 (d_apn d) = some (lA G 8 (fun _ => 0))) (hc : u2 (d_apt d) = some (iA G 8 (fun _ => 0))) (hnum : d_num d = nI nd) (hnb : M (d_apn d) = none) (hnc : M (d_apt d) = none) (h02 : u2 G.2.2.2.1 = none) (h03 : u3 G.2.2.2.1 = none) (hL : ls_ok G u3 ld ed' (nd + 1) (va_up aD nd a)) (hed : (ed' = ed ∧ ∃ cap f, u2 ed = some (oA G cap f)) ∨ u2 ed' = none) (hq : ∀ q, q ≠ ld → q ≠ ed' → u3 q = u2 q) :
    rp G (mp_up u3 x (xC ld ln false ft fn mv)) x ld ln ed' en (nd + 1) nn (va_up aD nd a) aN (va_up D nd d) N (va_up pn nd (fun _ => 0)) (va_up pt nd (fun _ => 0)) false ft fn mv := by
  have hR2 := rp_mono hR h2
  have hD1 := hR.2.2.2.1
  obtain ⟨mx, hLd, hLn, hD, hN, hAp, hnd, hnn⟩ := hR2
  obtain ⟨cl, ml⟩ := ls_obj hLd
  have hed2 : (∃ cap f, u2 ed' = some (oA G cap f)) ∨ u2 ed' = none := hed.elim (fun h => Or.inl (by rw [h.1]; exact h.2)) Or.inr
  have hed3 : ed' = en → ed' = G.2.2.2.1 := ed_ne hLn (hed.elim (fun h => Or.inl h.1) Or.inr) hAp.2.1
  have mx3 : u3 x = some (xC ld ln kn ft fn mv) := add_keep hq ml hed2 mx (fun _ z => by cases z) (fun _ _ z => by cases z)
  have k3 : ∀ {q : Nat} {e : va_E}, u2 q = some e → (∀ r, e ≠ aC r) → (∀ cap f, e ≠ oA G cap f) → (∀ ld ln kn ft fn mv, e ≠ xC ld ln kn ft fn mv) → mp_up u3 x (xC ld ln false ft fn mv) q = some e := fun h h1 h2 h3 => up_x (G := G) mx3 (add_keep hq ml hed2 h h1 h2) h3
  refine ⟨mp_self _ _ _, ls_up hL h03 mx3 (fun _ z => by cases z) (fun _ _ z => by cases z), ls_up (add_other hq ml hed2 hLn h02 hAp.1 hed3) h03 mx3 (fun _ z => by cases z) (fun _ _ z => by cases z), ?_, ?_, ⟨hAp.1, hed3, ?_⟩, by omega, hnn⟩
  · intro i hi
    by_cases hin : i = nd
    · subst hin
      rw [va_up_self, va_up_self, va_up_self, va_up_self]
      exact ⟨k3 ha (fun _ z => by cases z) (fun _ _ z => by cases z) (fun _ _ _ _ _ _ z => by cases z), k3 hb (fun _ z => by cases z) (fun _ _ z => by simp at z) (fun _ _ _ _ _ _ z => by cases z), k3 hc (fun _ z => by cases z) (fun _ _ z => by simp at z) (fun _ _ _ _ _ _ z => by cases z), hnum⟩
    · rw [va_up_ne _ _ hin, va_up_ne _ _ hin, va_up_ne _ _ hin, va_up_ne _ _ hin]
      obtain ⟨g1, g2, g3, g4⟩ := hD i (by omega)
      exact ⟨k3 g1 (fun _ z => by cases z) (fun _ _ z => by cases z) (fun _ _ _ _ _ _ z => by cases z), k3 g2 (fun _ z => by cases z) (fun _ _ z => by simp at z) (fun _ _ _ _ _ _ z => by cases z), k3 g3 (fun _ z => by cases z) (fun _ _ z => by simp at z) (fun _ _ _ _ _ _ z => by cases z), g4⟩
  · intro j hj
    obtain ⟨g1, g2⟩ := hN j hj
    exact ⟨k3 g1 (fun _ z => by cases z) (fun _ _ z => by cases z) (fun _ _ _ _ _ _ z => by cases z), g2⟩
  · intro i j hi hj h
    by_cases hin : i = nd
    · by_cases hjn : j = nd
      · rw [hin, hjn]
      · subst hin
        rw [va_up_self, va_up_ne _ _ hjn] at h
        obtain ⟨g1, g2, g3, g4⟩ := hD1 j (by omega)
        rcases h with h | h
        · rw [← h, hnb] at g2; cases g2
        · rw [← h, hnc] at g3; cases g3
    · by_cases hjn : j = nd
      · subst hjn
        rw [va_up_self, va_up_ne _ _ hin] at h
        obtain ⟨g1, g2, g3, g4⟩ := hD1 i (by omega)
        rcases h with h | h
        · rw [h, hnb] at g2; cases g2
        · rw [h, hnc] at g3; cases g3
      · rw [va_up_ne _ _ hin, va_up_ne _ _ hjn] at h
        exact hAp.2.2 i j (by omega) (by omega) h
theorem def_maps {M : mC} {sz : Nat} {e0 e1 e2 e3 e4 : va_E} (hn : ∀ q, sz ≤ q → M q = none) : mp_up (mp_up (mp_up (mp_up (mp_up M sz e0) (sz + 1) e1) sz e2) (sz + 1 + 1) e3) sz e4 sz = some e4 ∧ mp_up (mp_up (mp_up (mp_up (mp_up M sz e0) (sz + 1) e1) sz e2) (sz + 1 + 1) e3) sz e4 (sz + 1) = some e1 ∧ mp_up (mp_up (mp_up (mp_up (mp_up M sz e0) (sz + 1) e1) sz e2) (sz + 1 + 1) e3) sz e4 (sz + 1 + 1) = some e3 ∧ ∀ q e, M q = some e → mp_up (mp_up (mp_up (mp_up (mp_up M sz e0) (sz + 1) e1) sz e2) (sz + 1 + 1) e3) sz e4 q = some e := by
  refine ⟨mp_self _ _ _, ?_, ?_, fun q e h => ?_⟩
  · rw [mp_ne (by omega), mp_ne (by omega), mp_ne (by omega), mp_self]
  · rw [mp_ne (by omega), mp_self]
  · have hq : q < sz := Nat.not_le.mp fun z => by rw [hn q z] at h; cases h
    rw [mp_ne (by omega), mp_ne (by omega), mp_ne (by omega), mp_ne (by omega), mp_ne (by omega)]
    exact h
def c_defOk (chg : Bool) (nm : Int64) (ty : Int32) (nd : Nat) (D : Nat → dR) : Bool := c_whole nd D && decide (nI nd < 64) && !decide (nm ≤ 0) && (if chg = true then k_isWritten ty else k_isType ty) && (c_named D nm nd 0).isNone
end
section
set_option maxHeartbeats 4000000 in
set_option maxRecDepth 100000 in
theorem cc_L_define {l : Launch} {G : gC} {M : mC} {sz : Nat} {x ld ln ed en nd nn : Nat} {aD aN : Nat → Nat} {D : Nat → dR} {N : Nat → nR} {pn : Nat → Nat → Int64} {pt : Nat → Nat → Int32} {kn : Bool} {ft fn mv : Int32} (hR : rp G M x ld ln ed en nd nn aD aN D N pn pt kn ft fn mv) {chg : Bool} {nm : Int64} {ty : Int32} : cW l yy_L_define bb_L_define 7 (some .int) 7 8 4000 G M sz [.ref x, .int (bI chg), .long nm, .int ty] (fun v u => (c_defOk chg nm ty nd D = false ∧ v = some (.int (-1)) ∧ u = M) ∨ (c_defOk chg nm ty nd D = true ∧ v = some (.int (nI nd)) ∧ ∃ a b c ed', rp G u x ld ln ed' en (nd + 1) nn (va_up aD nd a) aN (va_up D nd (nI nd, chg, nm, ty, b, c, 0, false, none)) N (va_up pn nd (fun _ => 0)) (va_up pt nd (fun _ => 0)) false ft fn mv)) := by
  refine me_W (by decide) (Nat.le_of_ble_eq_true rfl) ?_
  intro p e s m below meth c ls hx hb hr hlocks hml hown hname ht hsz hM hK hZ hl
  have hown : s.vm.findClass RR_L = some m.cls := hown
  have hl : lv_has ls 7 [(0, .ref x), (1, .int (bI chg)), (2, .long nm), (4, .int ty)] := hl
  have hS : va_S (fr M sz) s.heap s.heap [] := va_S.rf
  have hF : ∀ q, M q ≠ none → fr M sz q := fr_M
  have hA : ∀ q, s.heap.size ≤ q → fr M sz q := fun q h => fr_A q (by rw [← hsz]; exact h)
  obtain ⟨mx, hLd, hLn, hD, hN, hAp, hnd, hnn⟩ := id hR
  obtain ⟨cl, ml⟩ := ls_obj hLd
  obtain ⟨ck, mk⟩ := ls_obj hLn
  have hE := mz_E hZ
  refine lv_iload_n hx hb dd_L_define_0 rfl (lv_at hl 1 rfl) ?_
  refine lb_if_eq (tgt := 12) hx hb dd_L_define_1 (by decide) (fun c1 => ?_) (fun c1 => ?_)
  · refine lv_iload hx hb dd_L_define_12 (lv_at hl 3 rfl) ?_
    refine mc_S (As := [.int ty]) (rest := []) 1 (cc_T_isType (k := ty)) hx hb hml hown ht hM hK hl.1 lk_L_42 (by decide +kernel) (by decide) rfl rfl (Nat.le_of_ble_eq_true rfl) dd_L_define_14 ⟨Nat.zero_le _, Nat.zero_le _⟩ ?_
    refine lv_istore (lv' := [(5, .int (bI (k_isType ty))), (0, .ref x), (1, .int (bI chg)), (2, .long nm), (4, .int ty)]) hx hb dd_L_define_17 hl (by decide) rfl (fun ls hl => ?_)
    refine lv_aload_n hx hb dd_L_define_19 rfl (lv_at hl 1 rfl) ?_
    refine mc_V (As := []) (rest := []) 0 (cc_L_lastIsWhole hR) hx hb hml hown ht hM hK hl.1 lk_L_45 (by decide +kernel) (by decide) mx rfl rfl rfl (Nat.le_of_ble_eq_true rfl) dd_L_define_20 ⟨Nat.zero_le _, Nat.zero_le _⟩ ?_
    refine lb_if_eq (tgt := 38) hx hb dd_L_define_23 (by decide) (fun c2 => ?_) (fun c2 => ?_)
    · refine lv_iconst (v := -1) hx hb dd_L_define_38 (by decide) ?_
      exact mw_i hx hb hr hlocks rfl hM hF hS (Nat.le_of_ble_eq_true rfl) (Nat.le_of_ble_eq_true rfl) (Or.inl ⟨by simp [c_defOk, c1, c2], rfl, rfl⟩) dd_L_define_39
    · refine lv_aload_n hx hb dd_L_define_26 rfl (lv_at hl 1 rfl) ?_
      refine mg_get hx hb ht ii_L hown hK hM mx rfl 0 (by decide) wd_1_50 (fun _ h => h) rfl dd_L_define_27 ?_
      refine mc_V (As := []) (rest := []) 0 (ls_size hLd) hx hb hml hown ht hM hK hl.1 lk_L_49 (by decide +kernel) (by decide) ml rfl rfl rfl (Nat.le_of_ble_eq_true rfl) dd_L_define_30 ⟨Nat.le_of_ble_eq_true rfl, Nat.le_of_ble_eq_true rfl⟩ ?_
      refine lv_bipush (v := 64) hx hb dd_L_define_33 (by decide) ?_
      refine lv_icmp_lt (tgt := 40) hx hb dd_L_define_35 (by decide) (fun c3 => ?_) (fun c3 => ?_)
      · refine lv_lload_n hx hb dd_L_define_40 rfl (lv_at hl 3 rfl) ?_
        refine lv_lconst (v := 0) hx hb dd_L_define_41 (by decide) ?_
        refine W.lcmp hx hb dd_L_define_42 ?_
        refine lc_if_le (tgt := 59) hx hb dd_L_define_43 (by decide) (fun c4 => ?_) (fun c4 => ?_)
        · refine lv_iconst (v := -1) hx hb dd_L_define_59 (by decide) ?_
          exact mw_i hx hb hr hlocks rfl hM hF hS (Nat.le_of_ble_eq_true rfl) (Nat.le_of_ble_eq_true rfl) (Or.inl ⟨by simp [c_defOk, c1, c2, c3, c4], rfl, rfl⟩) dd_L_define_60
        · refine lv_iload hx hb dd_L_define_46 (lv_at hl 0 rfl) ?_
          refine lb_if_eq (tgt := 59) hx hb dd_L_define_48 (by decide) (fun c5 => ?_) (fun c5 => ?_)
          · refine lv_iconst (v := -1) hx hb dd_L_define_59 (by decide) ?_
            exact mw_i hx hb hr hlocks rfl hM hF hS (Nat.le_of_ble_eq_true rfl) (Nat.le_of_ble_eq_true rfl) (Or.inl ⟨by simp [c_defOk, c1, c2, c3, c4, c5], rfl, rfl⟩) dd_L_define_60
          · refine lv_aload_n hx hb dd_L_define_51 rfl (lv_at hl 1 rfl) ?_
            refine lv_lload_n hx hb dd_L_define_52 rfl (lv_at hl 3 rfl) ?_
            refine mc_V (As := [.long nm]) (rest := []) 1 (cc_L_definitionNamed hR (nm := nm)) hx hb hml hown ht hM hK hl.1 lk_L_53 (by decide +kernel) (by decide) mx rfl rfl rfl (Nat.le_of_ble_eq_true rfl) dd_L_define_53 ⟨Nat.zero_le _, Nat.zero_le _⟩ ?_
            refine lr_ifnull (tgt := 61) hx hb dd_L_define_56 (by decide) (fun ey6 => ?_) (fun y6 ey6 => ?_)
            · have hlt : nd < 64 := (nI_ltI (b := 64) (by omega) (by decide)).mp c3
              have hn0 : ∀ q, sz ≤ q → M q = none := fun q h => hm_new hM (by rw [hsz]; exact h)
              have hn7 : M sz = none := hm_new hM (by rw [hsz]; exact Nat.le_refl _)
              refine mg_new (ci := 1) hx hb ht ii_D tt_D tt_D_ok hown wd_1_113 wd_1_122 wd_1_9 hK hM hS rfl [.int 0, .int 0, .long 0, .int 0, .null, .null, .int 0, .int 0, .null] (fun j hj => by rcases (show j = 0 ∨ j = 1 ∨ j = 2 ∨ j = 3 ∨ j = 4 ∨ j = 5 ∨ j = 6 ∨ j = 7 ∨ j = 8 by omega) with rfl | rfl | rfl | rfl | rfl | rfl | rfl | rfl | rfl <;> rfl) (Nat.le_of_ble_eq_true rfl) (Nat.le_of_ble_eq_true rfl) dd_L_define_61 (fun H hM hz hS => ?_)
              rw [hsz] at hM hz ⊢
              have hsz := hz
              have hM : hm G (mp_up M sz (.inr (1, [.int 0, .int 0, .long 0, .int 0, .null, .null, .int 0, .int 0, .null]))) H := hM
              have hF : ∀ z9, (mp_up M sz (.inr (1, [.int 0, .int 0, .long 0, .int 0, .null, .null, .int 0, .int 0, .null]))) z9 ≠ none → fr M sz z9 := hF_put hF (hA _ (by have := hS.1; omega))
              have ma : (mp_up M sz (.inr (1, [.int 0, .int 0, .long 0, .int 0, .null, .null, .int 0, .int 0, .null]))) sz = some (.inr (1, [.int 0, .int 0, .long 0, .int 0, .null, .null, .int 0, .int 0, .null])) := mp_self _ _ _
              have hR1 := rp_mono hR (fun q e h => mp_old (e := .inr (1, [.int 0, .int 0, .long 0, .int 0, .null, .null, .int 0, .int 0, .null])) h hn7)
              obtain ⟨mx, hLd, hLn, hD, hN, -, -, -⟩ := id hR1
              obtain ⟨cl, ml⟩ := ls_obj hLd
              obtain ⟨ck, mk⟩ := ls_obj hLn
              refine lv_dup hx hb dd_L_define_64 rfl ?_
              refine lv_aload_n hx hb dd_L_define_65 rfl (lv_at hl 1 rfl) ?_
              refine mg_get hx hb ht ii_L hown hK hM mx rfl 0 (by decide) wd_1_50 (fun _ h => h) rfl dd_L_define_66 ?_
              refine mc_V (As := []) (rest := [.ref sz, .ref sz]) 0 (ls_size hLd) hx hb hml hown ht hM hK hl.1 lk_L_49 (by decide +kernel) (by decide) ml rfl rfl rfl (Nat.le_of_ble_eq_true rfl) dd_L_define_69 ⟨Nat.le_of_ble_eq_true rfl, Nat.le_of_ble_eq_true rfl⟩ ?_
              refine lv_iload_n hx hb dd_L_define_72 rfl (lv_at hl 2 rfl) ?_
              refine lv_lload_n hx hb dd_L_define_73 rfl (lv_at hl 3 rfl) ?_
              refine lv_iload hx hb dd_L_define_74 (lv_at hl 4 rfl) ?_
              have hFr := hF_fr hF hS hA
              refine mx_I (As := [.int (nI nd), .int (bI chg), .long nm, .int ty]) (rest := [.ref sz]) 4 (cc_D_init ma) hx hb hml hown ht hM hK hZ hS hFr hl.1 wd_1_125 wd_1_9 wd_1_123 wd_1_124 rfl (by decide +kernel) (by decide) rfl rfl (Nat.le_of_ble_eq_true rfl) dd_L_define_76 ⟨Nat.le_of_ble_eq_true rfl, Nat.le_of_ble_eq_true rfl⟩ (fun v u2 H locs hp hM hd hle hk hS => ?_)
              rw [hsz] at hp
              obtain ⟨rfl, hu⟩ := hp
              have hF := fun z9 h => hFr z9 (hd z9 h)
              obtain ⟨j1, j2, j3, j4⟩ : u2 sz = _ ∧ u2 (sz + 1) = _ ∧ u2 (sz + 1 + 1) = _ ∧ ∀ q e, M q = some e → u2 q = some e := by rw [hu]; exact def_maps hn0
              have hR2 := rp_mono hR j4
              obtain ⟨mx, hLd, hLn, hD, hN, -, -, -⟩ := id hR2
              obtain ⟨cl, ml⟩ := ls_obj hLd
              obtain ⟨ck, mk⟩ := ls_obj hLn
              have h02 := e_none hF hE
              refine lv_astore (lv' := [(6, .ref sz), (5, .int (bI (k_isType ty))), (0, .ref x), (1, .int (bI chg)), (2, .long nm), (4, .int ty)]) hx hb dd_L_define_79 hl (by decide) rfl (fun ls hl => ?_)
              refine lv_aload_n hx hb dd_L_define_81 rfl (lv_at hl 2 rfl) ?_
              refine mg_get hx hb ht ii_L hown hK hM mx rfl 0 (by decide) wd_1_50 (fun _ h => h) rfl dd_L_define_82 ?_
              refine lv_aload hx hb dd_L_define_85 (lv_at hl 0 rfl) ?_
              have hFr := hF_fr hF hS hA
              refine mx_V (As := [.ref sz]) (rest := []) 1 (cc_A_add hLd (by omega) (Or.inr ⟨_, j1⟩) (fun i hi => Or.inr ⟨_, (hD i hi).1⟩)) hx hb hml hown ht hM hK hZ hS hFr hl.1 lk_L_62 (by decide +kernel) (by decide) ml rfl rfl rfl (Nat.le_of_ble_eq_true rfl) dd_L_define_87 ⟨Nat.le_of_ble_eq_true rfl, Nat.le_of_ble_eq_true rfl⟩ (fun v u3 H locs hp hM hd hle hk hS => ?_)
              obtain ⟨rfl, ed', hL3, hed, hq⟩ := hp
              have hF := fun z9 h => hFr z9 (hd z9 h)
              have h03 := e_none hF hE
              have hed2 : (ed' = ed ∧ ∃ cap f, u2 ed = some (oA G cap f)) ∨ u2 ed' = none := hed.elim Or.inl (fun h => Or.inr (by rw [h.1]; exact h.2))
              have hed3 : (∃ cap f, u2 ed' = some (oA G cap f)) ∨ u2 ed' = none := hed2.elim (fun h => Or.inl (by rw [h.1]; exact h.2)) Or.inr
              have mx := add_keep hq ml hed3 mx (fun _ z => by cases z) (fun _ _ z => by cases z)
              have j1' := add_keep hq ml hed3 j1 (fun _ z => by cases z) (fun _ _ z => by cases z)
              have hxz : sz ≠ x := fun z => by rw [z, mx] at j1'; cases j1'
              refine lv_pop hx hb dd_L_define_90 rfl ?_
              refine lv_aload_n hx hb dd_L_define_91 rfl (lv_at hl 2 rfl) ?_
              refine lv_iconst (v := 0) hx hb dd_L_define_92 (by decide) ?_
              refine mg_put (v := .int 0) hx hb ht ii_L tt_L tt_L_ok nn_L hown hK hM hS (hF _ (by rw [mx]; exact Option.some_ne_none _)) mx rfl 2 (by decide) wd_1_52 (fun _ h => h) (Or.inl rfl) rfl rfl rfl (Nat.le_of_ble_eq_true rfl) dd_L_define_93 (fun H locs hM hz hoq hS => ?_)
              have hM : hm G (mp_up u3 x (.inr (0, [.ref ld, .ref ln, .int 0, .int ft, .int fn, .int mv]))) H := hM
              have hF : ∀ z9, (mp_up u3 x (.inr (0, [.ref ld, .ref ln, .int 0, .int ft, .int fn, .int mv]))) z9 ≠ none → fr M sz z9 := hF_put hF (hF _ (by rw [mx]; exact Option.some_ne_none _))
              have mx : (mp_up u3 x (.inr (0, [.ref ld, .ref ln, .int 0, .int ft, .int fn, .int mv]))) x = some (.inr (0, [.ref ld, .ref ln, .int 0, .int ft, .int fn, .int mv])) := mp_self _ _ _
              refine lv_aload hx hb dd_L_define_96 (lv_at hl 0 rfl) ?_
              have j1' := mp_at (M := u3) (a := x) (e := (.inr (0, [.ref ld, .ref ln, .int 0, .int ft, .int fn, .int mv]))) hxz j1'
              refine mg_get hx hb ht ii_D hown hK hM j1' rfl 0 (by decide) wd_1_128 (fun _ h => h) rfl dd_L_define_98 ?_
              exact mw_i hx hb hr hlocks rfl hM hF hS (Nat.le_of_ble_eq_true rfl) (Nat.le_of_ble_eq_true rfl) (Or.inr ⟨by simp [c_defOk, c1, c2, c3, c4, c5, map_none ey6], rfl, sz, sz + 1, sz + 1 + 1, ed', rp_def (d := (nI nd, chg, nm, ty, sz + 1, sz + 1 + 1, 0, false, none)) hR hlt j4 j1 j2 j3 rfl (hn0 _ (Nat.le_succ _)) (hn0 _ (show sz ≤ sz + 1 + 1 by omega)) h02 h03 hL3 hed2 hq⟩) dd_L_define_101
            · refine lv_iconst (v := -1) hx hb dd_L_define_59 (by decide) ?_
              exact mw_i hx hb hr hlocks rfl hM hF hS (Nat.le_of_ble_eq_true rfl) (Nat.le_of_ble_eq_true rfl) (Or.inl ⟨by simp [c_defOk, c1, c2, c3, c4, c5, c_nn ey6], rfl, rfl⟩) dd_L_define_60
      · refine lv_iconst (v := -1) hx hb dd_L_define_38 (by decide) ?_
        exact mw_i hx hb hr hlocks rfl hM hF hS (Nat.le_of_ble_eq_true rfl) (Nat.le_of_ble_eq_true rfl) (Or.inl ⟨by simp [c_defOk, c1, c2, c3], rfl, rfl⟩) dd_L_define_39
  · refine lv_iload hx hb dd_L_define_4 (lv_at hl 3 rfl) ?_
    refine mc_S (As := [.int ty]) (rest := []) 1 (cc_T_isWritten (k := ty)) hx hb hml hown ht hM hK hl.1 lk_L_36 (by decide +kernel) (by decide) rfl rfl (Nat.le_of_ble_eq_true rfl) dd_L_define_6 ⟨Nat.zero_le _, Nat.zero_le _⟩ ?_
    refine lv_goto (tgt := 17) hx hb dd_L_define_9 (by decide) ?_
    refine lv_istore (lv' := [(5, .int (bI (k_isWritten ty))), (0, .ref x), (1, .int (bI chg)), (2, .long nm), (4, .int ty)]) hx hb dd_L_define_17 hl (by decide) rfl (fun ls hl => ?_)
    refine lv_aload_n hx hb dd_L_define_19 rfl (lv_at hl 1 rfl) ?_
    refine mc_V (As := []) (rest := []) 0 (cc_L_lastIsWhole hR) hx hb hml hown ht hM hK hl.1 lk_L_45 (by decide +kernel) (by decide) mx rfl rfl rfl (Nat.le_of_ble_eq_true rfl) dd_L_define_20 ⟨Nat.zero_le _, Nat.zero_le _⟩ ?_
    refine lb_if_eq (tgt := 38) hx hb dd_L_define_23 (by decide) (fun c8 => ?_) (fun c8 => ?_)
    · refine lv_iconst (v := -1) hx hb dd_L_define_38 (by decide) ?_
      exact mw_i hx hb hr hlocks rfl hM hF hS (Nat.le_of_ble_eq_true rfl) (Nat.le_of_ble_eq_true rfl) (Or.inl ⟨by simp [c_defOk, c1, c8], rfl, rfl⟩) dd_L_define_39
    · refine lv_aload_n hx hb dd_L_define_26 rfl (lv_at hl 1 rfl) ?_
      refine mg_get hx hb ht ii_L hown hK hM mx rfl 0 (by decide) wd_1_50 (fun _ h => h) rfl dd_L_define_27 ?_
      refine mc_V (As := []) (rest := []) 0 (ls_size hLd) hx hb hml hown ht hM hK hl.1 lk_L_49 (by decide +kernel) (by decide) ml rfl rfl rfl (Nat.le_of_ble_eq_true rfl) dd_L_define_30 ⟨Nat.le_of_ble_eq_true rfl, Nat.le_of_ble_eq_true rfl⟩ ?_
      refine lv_bipush (v := 64) hx hb dd_L_define_33 (by decide) ?_
      refine lv_icmp_lt (tgt := 40) hx hb dd_L_define_35 (by decide) (fun c9 => ?_) (fun c9 => ?_)
      · refine lv_lload_n hx hb dd_L_define_40 rfl (lv_at hl 3 rfl) ?_
        refine lv_lconst (v := 0) hx hb dd_L_define_41 (by decide) ?_
        refine W.lcmp hx hb dd_L_define_42 ?_
        refine lc_if_le (tgt := 59) hx hb dd_L_define_43 (by decide) (fun c10 => ?_) (fun c10 => ?_)
        · refine lv_iconst (v := -1) hx hb dd_L_define_59 (by decide) ?_
          exact mw_i hx hb hr hlocks rfl hM hF hS (Nat.le_of_ble_eq_true rfl) (Nat.le_of_ble_eq_true rfl) (Or.inl ⟨by simp [c_defOk, c1, c8, c9, c10], rfl, rfl⟩) dd_L_define_60
        · refine lv_iload hx hb dd_L_define_46 (lv_at hl 0 rfl) ?_
          refine lb_if_eq (tgt := 59) hx hb dd_L_define_48 (by decide) (fun c11 => ?_) (fun c11 => ?_)
          · refine lv_iconst (v := -1) hx hb dd_L_define_59 (by decide) ?_
            exact mw_i hx hb hr hlocks rfl hM hF hS (Nat.le_of_ble_eq_true rfl) (Nat.le_of_ble_eq_true rfl) (Or.inl ⟨by simp [c_defOk, c1, c8, c9, c10, c11], rfl, rfl⟩) dd_L_define_60
          · refine lv_aload_n hx hb dd_L_define_51 rfl (lv_at hl 1 rfl) ?_
            refine lv_lload_n hx hb dd_L_define_52 rfl (lv_at hl 3 rfl) ?_
            refine mc_V (As := [.long nm]) (rest := []) 1 (cc_L_definitionNamed hR (nm := nm)) hx hb hml hown ht hM hK hl.1 lk_L_53 (by decide +kernel) (by decide) mx rfl rfl rfl (Nat.le_of_ble_eq_true rfl) dd_L_define_53 ⟨Nat.zero_le _, Nat.zero_le _⟩ ?_
            refine lr_ifnull (tgt := 61) hx hb dd_L_define_56 (by decide) (fun ey12 => ?_) (fun y12 ey12 => ?_)
            · have hlt : nd < 64 := (nI_ltI (b := 64) (by omega) (by decide)).mp c9
              have hn0 : ∀ q, sz ≤ q → M q = none := fun q h => hm_new hM (by rw [hsz]; exact h)
              have hn13 : M sz = none := hm_new hM (by rw [hsz]; exact Nat.le_refl _)
              refine mg_new (ci := 1) hx hb ht ii_D tt_D tt_D_ok hown wd_1_113 wd_1_122 wd_1_9 hK hM hS rfl [.int 0, .int 0, .long 0, .int 0, .null, .null, .int 0, .int 0, .null] (fun j hj => by rcases (show j = 0 ∨ j = 1 ∨ j = 2 ∨ j = 3 ∨ j = 4 ∨ j = 5 ∨ j = 6 ∨ j = 7 ∨ j = 8 by omega) with rfl | rfl | rfl | rfl | rfl | rfl | rfl | rfl | rfl <;> rfl) (Nat.le_of_ble_eq_true rfl) (Nat.le_of_ble_eq_true rfl) dd_L_define_61 (fun H hM hz hS => ?_)
              rw [hsz] at hM hz ⊢
              have hsz := hz
              have hM : hm G (mp_up M sz (.inr (1, [.int 0, .int 0, .long 0, .int 0, .null, .null, .int 0, .int 0, .null]))) H := hM
              have hF : ∀ z9, (mp_up M sz (.inr (1, [.int 0, .int 0, .long 0, .int 0, .null, .null, .int 0, .int 0, .null]))) z9 ≠ none → fr M sz z9 := hF_put hF (hA _ (by have := hS.1; omega))
              have ma : (mp_up M sz (.inr (1, [.int 0, .int 0, .long 0, .int 0, .null, .null, .int 0, .int 0, .null]))) sz = some (.inr (1, [.int 0, .int 0, .long 0, .int 0, .null, .null, .int 0, .int 0, .null])) := mp_self _ _ _
              have hR1 := rp_mono hR (fun q e h => mp_old (e := .inr (1, [.int 0, .int 0, .long 0, .int 0, .null, .null, .int 0, .int 0, .null])) h hn13)
              obtain ⟨mx, hLd, hLn, hD, hN, -, -, -⟩ := id hR1
              obtain ⟨cl, ml⟩ := ls_obj hLd
              obtain ⟨ck, mk⟩ := ls_obj hLn
              refine lv_dup hx hb dd_L_define_64 rfl ?_
              refine lv_aload_n hx hb dd_L_define_65 rfl (lv_at hl 1 rfl) ?_
              refine mg_get hx hb ht ii_L hown hK hM mx rfl 0 (by decide) wd_1_50 (fun _ h => h) rfl dd_L_define_66 ?_
              refine mc_V (As := []) (rest := [.ref sz, .ref sz]) 0 (ls_size hLd) hx hb hml hown ht hM hK hl.1 lk_L_49 (by decide +kernel) (by decide) ml rfl rfl rfl (Nat.le_of_ble_eq_true rfl) dd_L_define_69 ⟨Nat.le_of_ble_eq_true rfl, Nat.le_of_ble_eq_true rfl⟩ ?_
              refine lv_iload_n hx hb dd_L_define_72 rfl (lv_at hl 2 rfl) ?_
              refine lv_lload_n hx hb dd_L_define_73 rfl (lv_at hl 3 rfl) ?_
              refine lv_iload hx hb dd_L_define_74 (lv_at hl 4 rfl) ?_
              have hFr := hF_fr hF hS hA
              refine mx_I (As := [.int (nI nd), .int (bI chg), .long nm, .int ty]) (rest := [.ref sz]) 4 (cc_D_init ma) hx hb hml hown ht hM hK hZ hS hFr hl.1 wd_1_125 wd_1_9 wd_1_123 wd_1_124 rfl (by decide +kernel) (by decide) rfl rfl (Nat.le_of_ble_eq_true rfl) dd_L_define_76 ⟨Nat.le_of_ble_eq_true rfl, Nat.le_of_ble_eq_true rfl⟩ (fun v u2 H locs hp hM hd hle hk hS => ?_)
              rw [hsz] at hp
              obtain ⟨rfl, hu⟩ := hp
              have hF := fun z9 h => hFr z9 (hd z9 h)
              obtain ⟨j1, j2, j3, j4⟩ : u2 sz = _ ∧ u2 (sz + 1) = _ ∧ u2 (sz + 1 + 1) = _ ∧ ∀ q e, M q = some e → u2 q = some e := by rw [hu]; exact def_maps hn0
              have hR2 := rp_mono hR j4
              obtain ⟨mx, hLd, hLn, hD, hN, -, -, -⟩ := id hR2
              obtain ⟨cl, ml⟩ := ls_obj hLd
              obtain ⟨ck, mk⟩ := ls_obj hLn
              have h02 := e_none hF hE
              refine lv_astore (lv' := [(6, .ref sz), (5, .int (bI (k_isWritten ty))), (0, .ref x), (1, .int (bI chg)), (2, .long nm), (4, .int ty)]) hx hb dd_L_define_79 hl (by decide) rfl (fun ls hl => ?_)
              refine lv_aload_n hx hb dd_L_define_81 rfl (lv_at hl 2 rfl) ?_
              refine mg_get hx hb ht ii_L hown hK hM mx rfl 0 (by decide) wd_1_50 (fun _ h => h) rfl dd_L_define_82 ?_
              refine lv_aload hx hb dd_L_define_85 (lv_at hl 0 rfl) ?_
              have hFr := hF_fr hF hS hA
              refine mx_V (As := [.ref sz]) (rest := []) 1 (cc_A_add hLd (by omega) (Or.inr ⟨_, j1⟩) (fun i hi => Or.inr ⟨_, (hD i hi).1⟩)) hx hb hml hown ht hM hK hZ hS hFr hl.1 lk_L_62 (by decide +kernel) (by decide) ml rfl rfl rfl (Nat.le_of_ble_eq_true rfl) dd_L_define_87 ⟨Nat.le_of_ble_eq_true rfl, Nat.le_of_ble_eq_true rfl⟩ (fun v u3 H locs hp hM hd hle hk hS => ?_)
              obtain ⟨rfl, ed', hL3, hed, hq⟩ := hp
              have hF := fun z9 h => hFr z9 (hd z9 h)
              have h03 := e_none hF hE
              have hed2 : (ed' = ed ∧ ∃ cap f, u2 ed = some (oA G cap f)) ∨ u2 ed' = none := hed.elim Or.inl (fun h => Or.inr (by rw [h.1]; exact h.2))
              have hed3 : (∃ cap f, u2 ed' = some (oA G cap f)) ∨ u2 ed' = none := hed2.elim (fun h => Or.inl (by rw [h.1]; exact h.2)) Or.inr
              have mx := add_keep hq ml hed3 mx (fun _ z => by cases z) (fun _ _ z => by cases z)
              have j1' := add_keep hq ml hed3 j1 (fun _ z => by cases z) (fun _ _ z => by cases z)
              have hxz : sz ≠ x := fun z => by rw [z, mx] at j1'; cases j1'
              refine lv_pop hx hb dd_L_define_90 rfl ?_
              refine lv_aload_n hx hb dd_L_define_91 rfl (lv_at hl 2 rfl) ?_
              refine lv_iconst (v := 0) hx hb dd_L_define_92 (by decide) ?_
              refine mg_put (v := .int 0) hx hb ht ii_L tt_L tt_L_ok nn_L hown hK hM hS (hF _ (by rw [mx]; exact Option.some_ne_none _)) mx rfl 2 (by decide) wd_1_52 (fun _ h => h) (Or.inl rfl) rfl rfl rfl (Nat.le_of_ble_eq_true rfl) dd_L_define_93 (fun H locs hM hz hoq hS => ?_)
              have hM : hm G (mp_up u3 x (.inr (0, [.ref ld, .ref ln, .int 0, .int ft, .int fn, .int mv]))) H := hM
              have hF : ∀ z9, (mp_up u3 x (.inr (0, [.ref ld, .ref ln, .int 0, .int ft, .int fn, .int mv]))) z9 ≠ none → fr M sz z9 := hF_put hF (hF _ (by rw [mx]; exact Option.some_ne_none _))
              have mx : (mp_up u3 x (.inr (0, [.ref ld, .ref ln, .int 0, .int ft, .int fn, .int mv]))) x = some (.inr (0, [.ref ld, .ref ln, .int 0, .int ft, .int fn, .int mv])) := mp_self _ _ _
              refine lv_aload hx hb dd_L_define_96 (lv_at hl 0 rfl) ?_
              have j1' := mp_at (M := u3) (a := x) (e := (.inr (0, [.ref ld, .ref ln, .int 0, .int ft, .int fn, .int mv]))) hxz j1'
              refine mg_get hx hb ht ii_D hown hK hM j1' rfl 0 (by decide) wd_1_128 (fun _ h => h) rfl dd_L_define_98 ?_
              exact mw_i hx hb hr hlocks rfl hM hF hS (Nat.le_of_ble_eq_true rfl) (Nat.le_of_ble_eq_true rfl) (Or.inr ⟨by simp [c_defOk, c1, c8, c9, c10, c11, map_none ey12], rfl, sz, sz + 1, sz + 1 + 1, ed', rp_def (d := (nI nd, chg, nm, ty, sz + 1, sz + 1 + 1, 0, false, none)) hR hlt j4 j1 j2 j3 rfl (hn0 _ (Nat.le_succ _)) (hn0 _ (show sz ≤ sz + 1 + 1 by omega)) h02 h03 hL3 hed2 hq⟩) dd_L_define_101
            · refine lv_iconst (v := -1) hx hb dd_L_define_59 (by decide) ?_
              exact mw_i hx hb hr hlocks rfl hM hF hS (Nat.le_of_ble_eq_true rfl) (Nat.le_of_ble_eq_true rfl) (Or.inl ⟨by simp [c_defOk, c1, c8, c9, c10, c11, c_nn ey12], rfl, rfl⟩) dd_L_define_60
      · refine lv_iconst (v := -1) hx hb dd_L_define_38 (by decide) ?_
        exact mw_i hx hb hr hlocks rfl hM hF hS (Nat.le_of_ble_eq_true rfl) (Nat.le_of_ble_eq_true rfl) (Or.inl ⟨by simp [c_defOk, c1, c8, c9], rfl, rfl⟩) dd_L_define_39
end
section
/-! one more parameter of the last definition -/
theorem aD_inj {G : gC} {M : mC} {nd : Nat} {aD : Nat → Nat} {D : Nat → dR} {pn : Nat → Nat → Int64} {pt : Nat → Nat → Int32} (hD : rp_D G M nd aD D pn pt) (hn : nd ≤ 64) {i j : Nat} (hi : i < nd) (hj : j < nd) (h : aD i = aD j) : i = j := by
  obtain ⟨g1, -, -, g4⟩ := hD i hi
  obtain ⟨h1, -, -, h4⟩ := hD j hj
  rw [h, h1] at g1
  have e : D j = D i := by
    have := Option.some.inj g1
    simp only [Sum.inr.injEq, Prod.mk.injEq, List.cons.injEq, Value.int.injEq] at this
    have hh := this.2.1
    rw [g4, h4] at hh
    exact ((nI_eq (by omega) (by omega)).mp hh) ▸ rfl
  rw [e, g4] at h4
  exact (nI_eq (by omega) (by omega)).mp h4
theorem rp_par {G : gC} {M : mC} {x ld ln ed en k nn : Nat} {aD aN : Nat → Nat} {D : Nat → dR} {N : Nat → nR} {pn : Nat → Nat → Int64} {pt : Nat → Nat → Int32} {kn : Bool} {ft fn mv : Int32} {d : dR} {f : Nat → Int64} {g : Nat → Int32} (hR : rp G M x ld ln ed en (k + 1) nn aD aN D N pn pt kn ft fn mv) (h0 : M G.2.2.2.1 = none) (h1 : d_apn d = d_apn (D k)) (h2 : d_apt d = d_apt (D k)) (h3 : d_num d = d_num (D k)) :
    rp G (mp_up (mp_up (mp_up (mp_up M (d_apn (D k)) (lA G 8 f)) (d_apt (D k)) (iA G 8 g)) (aD k) (dC d)) x (xC ld ln false ft fn mv)) x ld ln ed en (k + 1) nn aD aN (va_up D k d) N (va_up pn k f) (va_up pt k g) false ft fn mv := by
  obtain ⟨mx, hLd, hLn, hD, hN, hAp, hnd, hnn⟩ := hR
  obtain ⟨cl, ml⟩ := ls_obj hLd
  obtain ⟨ck, mk⟩ := ls_obj hLn
  obtain ⟨d1, d2, d3, d4⟩ := hD k (Nat.lt_succ_self k)
  have nab : d_apn (D k) ≠ d_apt (D k) := fun z => by rw [z, d3] at d2; simp at d2
  have nax : d_apn (D k) ≠ x := fun z => by rw [z, mx] at d2; cases d2
  have nbx : d_apt (D k) ≠ x := fun z => by rw [z, mx] at d3; cases d3
  have nkx : aD k ≠ x := fun z => by rw [z, mx] at d1; cases d1
  have nka : aD k ≠ d_apn (D k) := fun z => by rw [z, d2] at d1; cases d1
  have nkb : aD k ≠ d_apt (D k) := fun z => by rw [z, d3] at d1; cases d1
  -- a cell of another kind stays
  have st : ∀ {q : Nat}, q ≠ d_apn (D k) → q ≠ d_apt (D k) → q ≠ aD k → q ≠ x → mp_up (mp_up (mp_up (mp_up M (d_apn (D k)) (lA G 8 f)) (d_apt (D k)) (iA G 8 g)) (aD k) (dC d)) x (xC ld ln false ft fn mv) q = M q := fun z1 z2 z3 z4 => by rw [mp_ne z4, mp_ne z3, mp_ne z2, mp_ne z1]
  have lst : ∀ {a e n : Nat} {h : Nat → Nat}, ls_ok G M a e n h → ls_ok G (mp_up (mp_up (mp_up (mp_up M (d_apn (D k)) (lA G 8 f)) (d_apt (D k)) (iA G 8 g)) (aD k) (dC d)) x (xC ld ln false ft fn mv)) a e n h := by
    intro a e n h hL
    obtain ⟨ca, ma⟩ := ls_obj hL
    refine ls_keep hL (st (fun z => by rw [z, d2] at ma; cases ma) (fun z => by rw [z, d3] at ma; cases ma) (fun z => by rw [z, d1] at ma; cases ma) (fun z => by rw [z, mx] at ma; cases ma)) (fun z hz => ?_)
    obtain ⟨cap, f', me⟩ := ls_in hL h0 hz
    exact (st (fun z => by rw [z, d2] at me; simp at me) (fun z => by rw [z, d3] at me; simp at me) (fun z => by rw [z, d1] at me; cases me) (fun z => by rw [z, mx] at me; cases me)).trans hz
  refine ⟨mp_self _ _ _, lst hLd, lst hLn, fun i hi => ?_, fun j hj => ?_, ⟨hAp.1, hAp.2.1, fun i j hi hj h => ?_⟩, hnd, hnn⟩
  · by_cases hik : i = k
    · subst hik
      rw [va_up_self, va_up_self, va_up_self, h1, h2, h3]
      refine ⟨?_, ?_, ?_, d4⟩
      · rw [mp_ne nkx, mp_self]
      · rw [mp_ne nax, mp_ne (Ne.symm nka), mp_ne nab, mp_self]
      · rw [mp_ne nbx, mp_ne (Ne.symm nkb), mp_self]
    · rw [va_up_ne _ _ hik, va_up_ne _ _ hik, va_up_ne _ _ hik]
      obtain ⟨g1, g2, g3, g4⟩ := hD i hi
      refine ⟨?_, ?_, ?_, g4⟩
      · exact (st (fun z => by rw [z, d2] at g1; cases g1) (fun z => by rw [z, d3] at g1; cases g1) (fun z => hik (aD_inj hD hnd hi (Nat.lt_succ_self k) z)) (fun z => by rw [z, mx] at g1; cases g1)).trans g1
      · exact (st (fun z => hik (hAp.2.2 i k hi (Nat.lt_succ_self k) (Or.inl z))) (fun z => by rw [z, d3] at g2; simp at g2) (fun z => by rw [z, d1] at g2; cases g2) (fun z => by rw [z, mx] at g2; cases g2)).trans g2
      · exact (st (fun z => by rw [z, d2] at g3; simp at g3) (fun z => hik (hAp.2.2 i k hi (Nat.lt_succ_self k) (Or.inr z))) (fun z => by rw [z, d1] at g3; cases g3) (fun z => by rw [z, mx] at g3; cases g3)).trans g3
  · obtain ⟨g1, g2⟩ := hN j hj
    exact ⟨(st (fun z => by rw [z, d2] at g1; cases g1) (fun z => by rw [z, d3] at g1; cases g1) (fun z => by rw [z, d1] at g1; cases g1) (fun z => by rw [z, mx] at g1; cases g1)).trans g1, g2⟩
  · have e : ∀ i, d_apn (va_up D k d i) = d_apn (D i) ∧ d_apt (va_up D k d i) = d_apt (D i) := by
      intro i
      by_cases hik : i = k
      · subst hik; rw [va_up_self]; exact ⟨h1, h2⟩
      · rw [va_up_ne _ _ hik]; exact ⟨rfl, rfl⟩
    rw [(e i).1, (e j).1, (e i).2, (e j).2] at h
    exact hAp.2.2 i j hi hj h
def c_parOk (d : dR) (f : Nat → Int64) (nm : Int64) (ty : Int32) : Bool := !d_beg d && decide (d_np d < 8) && !decide (nm ≤ 0) && k_isType ty && decide (d_index d f nm = -1)
end
section
set_option maxHeartbeats 4000000 in
set_option maxRecDepth 100000 in
theorem cc_L_parameter_n {l : Launch} {G : gC} {M : mC} {sz : Nat} {x ld ln ed en nn : Nat} {aD aN : Nat → Nat} {D : Nat → dR} {N : Nat → nR} {pn : Nat → Nat → Int64} {pt : Nat → Nat → Int32} {kn : Bool} {ft fn mv : Int32} (hR : rp G M x ld ln ed en 0 nn aD aN D N pn pt kn ft fn mv) {nm : Int64} {ty : Int32} : cW l yy_L_parameter bb_L_parameter 5 (some .int) 4 8 4000 G M sz [.ref x, .long nm, .int ty] (fun v u => v = some (.int (-1)) ∧ u = M) := by
  refine me_W (by decide) (Nat.le_of_ble_eq_true rfl) ?_
  intro p e s m below meth c ls hx hb hr hlocks hml hown hname ht hsz hM hK hZ hl
  have hown : s.vm.findClass RR_L = some m.cls := hown
  have hl : lv_has ls 5 [(0, .ref x), (1, .long nm), (3, .int ty)] := hl
  have hS : va_S (fr M sz) s.heap s.heap [] := va_S.rf
  have hF : ∀ q, M q ≠ none → fr M sz q := fr_M
  have hA : ∀ q, s.heap.size ≤ q → fr M sz q := fun q h => fr_A q (by rw [← hsz]; exact h)
  obtain ⟨mx, hLd, hLn, hD, hN, hAp, hnd, hnn⟩ := id hR
  obtain ⟨cl, ml⟩ := ls_obj hLd
  obtain ⟨ck, mk⟩ := ls_obj hLn
  refine lv_aload_n hx hb dd_L_parameter_0 rfl (lv_at hl 0 rfl) ?_
  refine mc_V (As := []) (rest := []) 0 (cc_L_lastDefinition_n hR) hx hb hml hown ht hM hK hl.1 lk_L_69 (by decide +kernel) (by decide) mx rfl rfl rfl (Nat.le_of_ble_eq_true rfl) dd_L_parameter_1 ⟨Nat.le_of_ble_eq_true rfl, Nat.le_of_ble_eq_true rfl⟩ ?_
  refine lv_astoreN (lv' := [(4, .null), (0, .ref x), (1, .long nm), (3, .int ty)]) hx hb dd_L_parameter_4 hl (by decide) rfl (fun ls hl => ?_)
  refine lv_aloadN hx hb dd_L_parameter_6 (lv_at hl 0 rfl) ?_
  refine lv_ifnullN (tgt := 29) hx hb dd_L_parameter_8 (by decide) ?_
  refine lv_iconst (v := -1) hx hb dd_L_parameter_29 (by decide) ?_
  exact mw_i hx hb hr hlocks rfl hM hF hS (Nat.le_of_ble_eq_true rfl) (Nat.le_of_ble_eq_true rfl) ⟨rfl, rfl⟩ dd_L_parameter_30

set_option maxHeartbeats 4000000 in
set_option maxRecDepth 100000 in
theorem cc_L_parameter_s {l : Launch} {G : gC} {M : mC} {sz : Nat} {x ld ln ed en k nn : Nat} {aD aN : Nat → Nat} {D : Nat → dR} {N : Nat → nR} {pn : Nat → Nat → Int64} {pt : Nat → Nat → Int32} {kn : Bool} {ft fn mv : Int32} (hR : rp G M x ld ln ed en (k + 1) nn aD aN D N pn pt kn ft fn mv) {nm : Int64} {ty : Int32} {c9 : Nat} (hnp : d_np (D k) = nI c9) (hc9 : c9 ≤ 8) : cW l yy_L_parameter bb_L_parameter 5 (some .int) 4 8 4000 G M sz [.ref x, .long nm, .int ty] (fun v u => (c_parOk (D k) (pn k) nm ty = false ∧ v = some (.int (-1)) ∧ u = M) ∨ (c_parOk (D k) (pn k) nm ty = true ∧ v = some (.int (nI (c9 + 1))) ∧ rp G u x ld ln ed en (k + 1) nn aD aN (va_up D k (d_s_np (D k) (nI (c9 + 1)))) N (va_up pn k (vp_updL (pn k) c9 nm)) (va_up pt k (upd (pt k) c9 ty)) false ft fn mv)) := by
  refine me_W (by decide) (Nat.le_of_ble_eq_true rfl) ?_
  intro p e s m below meth c ls hx hb hr hlocks hml hown hname ht hsz hM hK hZ hl
  have hown : s.vm.findClass RR_L = some m.cls := hown
  have hl : lv_has ls 5 [(0, .ref x), (1, .long nm), (3, .int ty)] := hl
  have hS : va_S (fr M sz) s.heap s.heap [] := va_S.rf
  have hF : ∀ q, M q ≠ none → fr M sz q := fr_M
  have hA : ∀ q, s.heap.size ≤ q → fr M sz q := fun q h => fr_A q (by rw [← hsz]; exact h)
  obtain ⟨mx, hLd, hLn, hD, hN, hAp, hnd, hnn⟩ := id hR
  obtain ⟨cl, ml⟩ := ls_obj hLd
  obtain ⟨ck, mk⟩ := ls_obj hLn
  have h00 := mz_none hZ
  have mx0 := mx
  obtain ⟨me0, mn0, mt0, -⟩ := hD k (Nat.lt_succ_self k)
  refine lv_aload_n hx hb dd_L_parameter_0 rfl (lv_at hl 0 rfl) ?_
  refine mc_V (As := []) (rest := []) 0 (cc_L_lastDefinition_s hR) hx hb hml hown ht hM hK hl.1 lk_L_69 (by decide +kernel) (by decide) mx rfl rfl rfl (Nat.le_of_ble_eq_true rfl) dd_L_parameter_1 ⟨Nat.le_of_ble_eq_true rfl, Nat.le_of_ble_eq_true rfl⟩ ?_
  obtain ⟨me, mn, mt, -⟩ := hD k (Nat.lt_succ_self k)
  refine lv_astore (lv' := [(4, .ref (aD k)), (0, .ref x), (1, .long nm), (3, .int ty)]) hx hb dd_L_parameter_4 hl (by decide) rfl (fun ls hl => ?_)
  refine lv_aload hx hb dd_L_parameter_6 (lv_at hl 0 rfl) ?_
  refine lv_ifnull hx hb dd_L_parameter_8 ?_
  refine lv_aload hx hb dd_L_parameter_11 (lv_at hl 0 rfl) ?_
  refine mg_get hx hb ht ii_D hown hK hM me rfl 7 (by decide) wd_1_143 (fun _ h => h) rfl dd_L_parameter_13 ?_
  refine lb_if_ne (tgt := 29) hx hb dd_L_parameter_16 (by decide) (fun c1 => ?_) (fun c1 => ?_)
  · refine lv_iconst (v := -1) hx hb dd_L_parameter_29 (by decide) ?_
    exact mw_i hx hb hr hlocks rfl hM hF hS (Nat.le_of_ble_eq_true rfl) (Nat.le_of_ble_eq_true rfl) (Or.inl ⟨by simp [c_parOk, hnp, c1], rfl, rfl⟩) dd_L_parameter_30
  · refine lv_aload hx hb dd_L_parameter_19 (lv_at hl 0 rfl) ?_
    refine mg_get (v := .int (nI c9)) hx hb ht ii_D hown hK hM me rfl 6 (by decide) wd_1_141 (fun _ h => h) (congrArg (fun z => some (Value.int z)) hnp) dd_L_parameter_21 ?_
    refine lv_bipush (v := 8) hx hb dd_L_parameter_24 (by decide) ?_
    refine lv_icmp_lt (tgt := 31) hx hb dd_L_parameter_26 (by decide) (fun c2 => ?_) (fun c2 => ?_)
    · refine lv_lload_n hx hb dd_L_parameter_31 rfl (lv_at hl 2 rfl) ?_
      refine lv_lconst (v := 0) hx hb dd_L_parameter_32 (by decide) ?_
      refine W.lcmp hx hb dd_L_parameter_33 ?_
      refine lc_if_le (tgt := 54) hx hb dd_L_parameter_34 (by decide) (fun c3 => ?_) (fun c3 => ?_)
      · refine lv_iconst (v := -1) hx hb dd_L_parameter_54 (by decide) ?_
        exact mw_i hx hb hr hlocks rfl hM hF hS (Nat.le_of_ble_eq_true rfl) (Nat.le_of_ble_eq_true rfl) (Or.inl ⟨by simp [c_parOk, hnp, c1, c2, c3], rfl, rfl⟩) dd_L_parameter_55
      · refine lv_iload_n hx hb dd_L_parameter_37 rfl (lv_at hl 3 rfl) ?_
        refine mc_S (As := [.int ty]) (rest := []) 1 (cc_T_isType (k := ty)) hx hb hml hown ht hM hK hl.1 lk_L_42 (by decide +kernel) (by decide) rfl rfl (Nat.le_of_ble_eq_true rfl) dd_L_parameter_38 ⟨Nat.zero_le _, Nat.zero_le _⟩ ?_
        refine lb_if_eq (tgt := 54) hx hb dd_L_parameter_41 (by decide) (fun c4 => ?_) (fun c4 => ?_)
        · refine lv_iconst (v := -1) hx hb dd_L_parameter_54 (by decide) ?_
          exact mw_i hx hb hr hlocks rfl hM hF hS (Nat.le_of_ble_eq_true rfl) (Nat.le_of_ble_eq_true rfl) (Or.inl ⟨by simp [c_parOk, hnp, c1, c2, c3, c4], rfl, rfl⟩) dd_L_parameter_55
        · refine lv_aload hx hb dd_L_parameter_44 (lv_at hl 0 rfl) ?_
          refine lv_lload_n hx hb dd_L_parameter_46 rfl (lv_at hl 2 rfl) ?_
          refine mc_V (As := [.long nm]) (rest := []) 1 (cc_D_indexOfParameter me mn (x := nm)) hx hb hml hown ht hM hK hl.1 lk_L_79 (by decide +kernel) (by decide) me rfl rfl rfl (Nat.le_of_ble_eq_true rfl) dd_L_parameter_47 ⟨Nat.zero_le _, Nat.zero_le _⟩ ?_
          refine lv_iconst (v := -1) hx hb dd_L_parameter_50 (by decide) ?_
          refine lv_icmp_eq (tgt := 56) hx hb dd_L_parameter_51 (by decide) (fun c5 => ?_) (fun c5 => ?_)
          · have hc8 : c9 < 8 := (nI_ltI (b := 8) (by omega) (by decide)).mp c2
            refine lv_aload hx hb dd_L_parameter_56 (lv_at hl 0 rfl) ?_
            refine lv_lload_n hx hb dd_L_parameter_58 rfl (lv_at hl 2 rfl) ?_
            refine lv_iload_n hx hb dd_L_parameter_59 rfl (lv_at hl 3 rfl) ?_
            have hFr := hF_fr hF hS hA
            refine mx_V (As := [.long nm, .int ty]) (rest := []) 2 (cc_D_addParameter me mn mt hnp hc8 (x := nm) (t := ty)) hx hb hml hown ht hM hK hZ hS hFr hl.1 lk_L_83 (by decide +kernel) (by decide) me rfl rfl rfl (Nat.le_of_ble_eq_true rfl) dd_L_parameter_60 ⟨Nat.le_of_ble_eq_true rfl, Nat.le_of_ble_eq_true rfl⟩ (fun v u H locs hp hM hd hle hk hS => ?_)
            obtain ⟨rfl, hu⟩ := hp
            rw [hu] at hM hd
            clear hu
            have hF := fun z9 h => hFr z9 (hd z9 h)
            obtain ⟨z6, hsz⟩ : ∃ z9, H.size = z9 := ⟨_, rfl⟩
            have mn : (mp_up M (d_apn (D k)) (lA G 8 (vp_updL (pn k) c9 nm))) (d_apn (D k)) = some (lA G 8 (vp_updL (pn k) c9 nm)) := mp_self _ _ _
            have mt : (mp_up (mp_up M (d_apn (D k)) (lA G 8 (vp_updL (pn k) c9 nm))) (d_apt (D k)) (iA G 8 (upd (pt k) c9 ty))) (d_apt (D k)) = some (iA G 8 (upd (pt k) c9 ty)) := mp_self _ _ _
            have me : (mp_up (mp_up (mp_up M (d_apn (D k)) (lA G 8 (vp_updL (pn k) c9 nm))) (d_apt (D k)) (iA G 8 (upd (pt k) c9 ty))) (aD k) (dC (d_s_np (D k) (nI (c9 + 1))))) (aD k) = some (dC (d_s_np (D k) (nI (c9 + 1)))) := mp_self _ _ _
            have hM : hm G (mp_up (mp_up (mp_up M (d_apn (D k)) (lA G 8 (vp_updL (pn k) c9 nm))) (d_apt (D k)) (iA G 8 (upd (pt k) c9 ty))) (aD k) (dC (d_s_np (D k) (nI (c9 + 1))))) H := hM
            refine lv_aload_n hx hb dd_L_parameter_63 rfl (lv_at hl 1 rfl) ?_
            refine lv_iconst (v := 0) hx hb dd_L_parameter_64 (by decide) ?_
            have mx := mp_at (M := M) (a := (d_apn (D k))) (e := (lA G 8 (vp_updL (pn k) c9 nm))) (fun z => by rw [z, mn0] at mx0; cases mx0) mx
            have mx := mp_at (M := (mp_up M (d_apn (D k)) (lA G 8 (vp_updL (pn k) c9 nm)))) (a := (d_apt (D k))) (e := (iA G 8 (upd (pt k) c9 ty))) (fun z => by rw [z, mt0] at mx0; cases mx0) mx
            have mx := mp_at (M := (mp_up (mp_up M (d_apn (D k)) (lA G 8 (vp_updL (pn k) c9 nm))) (d_apt (D k)) (iA G 8 (upd (pt k) c9 ty)))) (a := (aD k)) (e := (dC (d_s_np (D k) (nI (c9 + 1))))) (fun z => by rw [z, me0] at mx0; cases mx0) mx
            refine mg_put (v := .int 0) hx hb ht ii_L tt_L tt_L_ok nn_L hown hK hM hS (hF _ (by rw [mx]; exact Option.some_ne_none _)) mx rfl 2 (by decide) wd_1_52 (fun _ h => h) (Or.inl rfl) rfl rfl rfl (Nat.le_of_ble_eq_true rfl) dd_L_parameter_65 (fun H locs hM hz hoq hS => ?_)
            have hsz := hz.trans hsz
            have hM : hm G (mp_up (mp_up (mp_up (mp_up M (d_apn (D k)) (lA G 8 (vp_updL (pn k) c9 nm))) (d_apt (D k)) (iA G 8 (upd (pt k) c9 ty))) (aD k) (dC (d_s_np (D k) (nI (c9 + 1))))) x (.inr (0, [.ref ld, .ref ln, .int 0, .int ft, .int fn, .int mv]))) H := hM
            have hF : ∀ z9, (mp_up (mp_up (mp_up (mp_up M (d_apn (D k)) (lA G 8 (vp_updL (pn k) c9 nm))) (d_apt (D k)) (iA G 8 (upd (pt k) c9 ty))) (aD k) (dC (d_s_np (D k) (nI (c9 + 1))))) x (.inr (0, [.ref ld, .ref ln, .int 0, .int ft, .int fn, .int mv]))) z9 ≠ none → fr M sz z9 := hF_put hF (hF _ (by rw [mx]; exact Option.some_ne_none _))
            have mx : (mp_up (mp_up (mp_up (mp_up M (d_apn (D k)) (lA G 8 (vp_updL (pn k) c9 nm))) (d_apt (D k)) (iA G 8 (upd (pt k) c9 ty))) (aD k) (dC (d_s_np (D k) (nI (c9 + 1))))) x (.inr (0, [.ref ld, .ref ln, .int 0, .int ft, .int fn, .int mv]))) x = some (.inr (0, [.ref ld, .ref ln, .int 0, .int ft, .int fn, .int mv])) := mp_self _ _ _
            refine lv_aload hx hb dd_L_parameter_68 (lv_at hl 0 rfl) ?_
            have me := mp_at (M := (mp_up (mp_up (mp_up M (d_apn (D k)) (lA G 8 (vp_updL (pn k) c9 nm))) (d_apt (D k)) (iA G 8 (upd (pt k) c9 ty))) (aD k) (dC (d_s_np (D k) (nI (c9 + 1)))))) (a := x) (e := (.inr (0, [.ref ld, .ref ln, .int 0, .int ft, .int fn, .int mv]))) (fun z => by rw [z, mx0] at me0; cases me0) me
            refine mg_get hx hb ht ii_D hown hK hM me rfl 6 (by decide) wd_1_141 (fun _ h => h) rfl dd_L_parameter_70 ?_
            exact mw_i hx hb hr hlocks rfl hM hF hS (Nat.le_of_ble_eq_true rfl) (Nat.le_of_ble_eq_true rfl) (Or.inr ⟨by simp [c_parOk, hnp, c1, c2, c3, c4, eq_true c5], rfl, rp_par hR h00 rfl rfl rfl⟩) dd_L_parameter_73
          · refine lv_iconst (v := -1) hx hb dd_L_parameter_54 (by decide) ?_
            exact mw_i hx hb hr hlocks rfl hM hF hS (Nat.le_of_ble_eq_true rfl) (Nat.le_of_ble_eq_true rfl) (Or.inl ⟨by simp [c_parOk, hnp, c1, c2, c3, c4, c5], rfl, rfl⟩) dd_L_parameter_55
    · refine lv_iconst (v := -1) hx hb dd_L_parameter_29 (by decide) ?_
      exact mw_i hx hb hr hlocks rfl hM hF hS (Nat.le_of_ble_eq_true rfl) (Nat.le_of_ble_eq_true rfl) (Or.inl ⟨by simp [c_parOk, hnp, c1, c2], rfl, rfl⟩) dd_L_parameter_30
end
section
/-! the picture behind single changes: the root's numbers, a definition's record, a node's record, one more node -/
theorem rp_setX {G : gC} {M : mC} {x ld ln ed en nd nn : Nat} {aD aN : Nat → Nat} {D : Nat → dR} {N : Nat → nR} {pn : Nat → Nat → Int64} {pt : Nat → Nat → Int32} {kn kn' : Bool} {ft fn mv ft' fn' mv' : Int32} (hR : rp G M x ld ln ed en nd nn aD aN D N pn pt kn ft fn mv) (h0 : M G.2.2.2.1 = none) : rp G (mp_up M x (xC ld ln kn' ft' fn' mv')) x ld ln ed en nd nn aD aN D N pn pt kn' ft' fn' mv' := by
  obtain ⟨mx, hLd, hLn, hD, hN, hAp, hnd, hnn⟩ := hR
  refine ⟨mp_self _ _ _, ls_up hLd h0 mx (fun _ z => by cases z) (fun _ _ z => by cases z), ls_up hLn h0 mx (fun _ z => by cases z) (fun _ _ z => by cases z), fun i hi => ?_, fun j hj => ?_, hAp, hnd, hnn⟩
  · obtain ⟨g1, g2, g3, g4⟩ := hD i hi
    exact ⟨mp_at (fun z => by rw [z, mx] at g1; cases g1) g1, mp_at (fun z => by rw [z, mx] at g2; cases g2) g2, mp_at (fun z => by rw [z, mx] at g3; cases g3) g3, g4⟩
  · obtain ⟨g1, g2⟩ := hN j hj
    exact ⟨mp_at (fun z => by rw [z, mx] at g1; cases g1) g1, g2⟩
theorem aN_inj {M : mC} {nn : Nat} {aN : Nat → Nat} {N : Nat → nR} (hN : rp_N M nn aN N) (hn : nn ≤ 600) {i j : Nat} (hi : i < nn) (hj : j < nn) (h : aN i = aN j) : i = j := by
  obtain ⟨g1, g4⟩ := hN i hi
  obtain ⟨h1, h4⟩ := hN j hj
  rw [h, h1] at g1
  have this := Option.some.inj g1
  simp only [Sum.inr.injEq, Prod.mk.injEq, List.cons.injEq, Value.int.injEq] at this
  have hh := this.2.1
  rw [g4, h4] at hh
  exact ((nI_eq (by omega) (by omega)).mp hh).symm
theorem rp_setD {G : gC} {M : mC} {x ld ln ed en nd nn k : Nat} {aD aN : Nat → Nat} {D : Nat → dR} {N : Nat → nR} {pn : Nat → Nat → Int64} {pt : Nat → Nat → Int32} {kn : Bool} {ft fn mv : Int32} {d : dR} (hR : rp G M x ld ln ed en nd nn aD aN D N pn pt kn ft fn mv) (h0 : M G.2.2.2.1 = none) (hk : k < nd) (h1 : d_apn d = d_apn (D k)) (h2 : d_apt d = d_apt (D k)) (h3 : d_num d = d_num (D k)) : rp G (mp_up M (aD k) (dC d)) x ld ln ed en nd nn aD aN (va_up D k d) N pn pt kn ft fn mv := by
  obtain ⟨mx, hLd, hLn, hD, hN, hAp, hnd, hnn⟩ := hR
  obtain ⟨d1, d2, d3, d4⟩ := hD k hk
  refine ⟨mp_at (fun z => by rw [z, d1] at mx; cases mx) mx, ls_up hLd h0 d1 (fun _ z => by cases z) (fun _ _ z => by cases z), ls_up hLn h0 d1 (fun _ z => by cases z) (fun _ _ z => by cases z), fun i hi => ?_, fun j hj => ?_, ⟨hAp.1, hAp.2.1, fun i j hi hj h => ?_⟩, hnd, hnn⟩
  · by_cases hik : i = k
    · subst hik
      rw [va_up_self, h1, h2, h3]
      exact ⟨mp_self _ _ _, mp_at (fun z => by rw [z, d1] at d2; cases d2) d2, mp_at (fun z => by rw [z, d1] at d3; cases d3) d3, d4⟩
    · rw [va_up_ne _ _ hik]
      obtain ⟨g1, g2, g3, g4⟩ := hD i hi
      exact ⟨mp_at (fun z => hik (aD_inj hD hnd hi hk z)) g1, mp_at (fun z => by rw [z, d1] at g2; cases g2) g2, mp_at (fun z => by rw [z, d1] at g3; cases g3) g3, g4⟩
  · obtain ⟨g1, g2⟩ := hN j hj
    exact ⟨mp_at (fun z => by rw [z, d1] at g1; cases g1) g1, g2⟩
  · have e : ∀ i, d_apn (va_up D k d i) = d_apn (D i) ∧ d_apt (va_up D k d i) = d_apt (D i) := by
      intro i
      by_cases hik : i = k
      · subst hik; rw [va_up_self]; exact ⟨h1, h2⟩
      · rw [va_up_ne _ _ hik]; exact ⟨rfl, rfl⟩
    rw [(e i).1, (e j).1, (e i).2, (e j).2] at h
    exact hAp.2.2 i j hi hj h
theorem rp_setN {G : gC} {M : mC} {x ld ln ed en nd nn j : Nat} {aD aN : Nat → Nat} {D : Nat → dR} {N : Nat → nR} {pn : Nat → Nat → Int64} {pt : Nat → Nat → Int32} {kn : Bool} {ft fn mv : Int32} {r : nR} (hR : rp G M x ld ln ed en nd nn aD aN D N pn pt kn ft fn mv) (h0 : M G.2.2.2.1 = none) (hj : j < nn) (h3 : n_num r = n_num (N j)) : rp G (mp_up M (aN j) (nC r)) x ld ln ed en nd nn aD aN D (va_up N j r) pn pt kn ft fn mv := by
  obtain ⟨mx, hLd, hLn, hD, hN, hAp, hnd, hnn⟩ := hR
  obtain ⟨d1, d4⟩ := hN j hj
  refine ⟨mp_at (fun z => by rw [z, d1] at mx; cases mx) mx, ls_up hLd h0 d1 (fun _ z => by cases z) (fun _ _ z => by cases z), ls_up hLn h0 d1 (fun _ z => by cases z) (fun _ _ z => by cases z), fun i hi => ?_, fun i hi => ?_, hAp, hnd, hnn⟩
  · obtain ⟨g1, g2, g3, g4⟩ := hD i hi
    exact ⟨mp_at (fun z => by rw [z, d1] at g1; cases g1) g1, mp_at (fun z => by rw [z, d1] at g2; cases g2) g2, mp_at (fun z => by rw [z, d1] at g3; cases g3) g3, g4⟩
  · by_cases hij : i = j
    · subst hij
      rw [va_up_self, h3]
      exact ⟨mp_self _ _ _, d4⟩
    · rw [va_up_ne _ _ hij]
      obtain ⟨g1, g2⟩ := hN i hi
      exact ⟨mp_at (fun z => hij (aN_inj hN hnn hi hj z)) g1, g2⟩
theorem rp_addN {G : gC} {M u2 u3 : mC} {x ld ln ed en en' nd nn a : Nat} {aD aN : Nat → Nat} {D : Nat → dR} {N : Nat → nR} {pn : Nat → Nat → Int64} {pt : Nat → Nat → Int32} {kn : Bool} {ft fn mv : Int32} {r : nR} (hR : rp G M x ld ln ed en nd nn aD aN D N pn pt kn ft fn mv) (hlt : nn < 600) (h2 : ∀ q e, M q = some e → u2 q = some e) (ha : u2 a = some (nC r)) (hnum : n_num r = nI nn) (h02 : u2 G.2.2.2.1 = none) (hL : ls_ok G u3 ln en' (nn + 1) (va_up aN nn a)) (hed : (en' = en ∧ ∃ cap f, u2 en = some (oA G cap f)) ∨ u2 en' = none) (hq : ∀ q, q ≠ ln → q ≠ en' → u3 q = u2 q) :
    rp G u3 x ld ln ed en' nd (nn + 1) aD (va_up aN nn a) D (va_up N nn r) pn pt kn ft fn mv := by
  have hR2 := rp_mono hR h2
  obtain ⟨mx, hLd, hLn, hD, hN, hAp, hnd, hnn⟩ := hR2
  obtain ⟨cl, ml⟩ := ls_obj hLn
  have hed2 : (∃ cap f, u2 en' = some (oA G cap f)) ∨ u2 en' = none := hed.elim (fun h => Or.inl (by rw [h.1]; exact h.2)) Or.inr
  have hed3 : en' = ed → en' = G.2.2.2.1 := ed_ne hLd (hed.elim (fun h => Or.inl h.1) Or.inr) (fun e => by rw [e]; exact hAp.2.1 e.symm)
  have k3 : ∀ {q : Nat} {e : va_E}, u2 q = some e → (∀ r, e ≠ aC r) → (∀ cap f, e ≠ oA G cap f) → u3 q = some e := fun h h1 h2 => add_keep hq ml hed2 h h1 h2
  refine ⟨k3 mx (fun _ z => by cases z) (fun _ _ z => by cases z), add_other hq ml hed2 hLd h02 (Ne.symm hAp.1) hed3, hL, fun i hi => ?_, fun j hj => ?_, ⟨hAp.1, fun e => by rw [e]; exact hed3 e.symm, hAp.2.2⟩, hnd, by omega⟩
  · obtain ⟨g1, g2, g3, g4⟩ := hD i hi
    exact ⟨k3 g1 (fun _ z => by cases z) (fun _ _ z => by cases z), k3 g2 (fun _ z => by cases z) (fun _ _ z => by simp at z), k3 g3 (fun _ z => by cases z) (fun _ _ z => by simp at z), g4⟩
  · by_cases hjn : j = nn
    · subst hjn
      rw [va_up_self, va_up_self]
      exact ⟨k3 ha (fun _ z => by cases z) (fun _ _ z => by cases z), hnum⟩
    · rw [va_up_ne _ _ hjn, va_up_ne _ _ hjn]
      obtain ⟨g1, g2⟩ := hN j (by omega)
      exact ⟨k3 g1 (fun _ z => by cases z) (fun _ _ z => by cases z), g2⟩
/-- the chain of parents by numbers: f steps at most -/
def c_chL (N : Nat → nR) (pa : Nat → Option Nat) : Nat → Option Nat → List nR
  | 0, _ => []
  | _ + 1, none => []
  | f + 1, some j => N j :: c_chL N pa f (pa j)
/-- the first of the chain that lacks parts -/
def c_rest (N : Nat → nR) (pa : Nat → Option Nat) : Nat → Option Nat → Option Nat
  | 0, _ => none
  | _ + 1, none => none
  | f + 1, some j => if n_fl (N j) < n_pt (N j) then some j else c_rest N pa f (pa j)
theorem chn_L {M : mC} {nn : Nat} {aN : Nat → Nat} {N : Nat → nR} {pa : Nat → Option Nat} (hN : rp_N M nn aN N) (hp : ∀ j, j < nn → n_pa (N j) = (pa j).map aN ∧ ∀ p, pa j = some p → p < j) : ∀ (f : Nat) (o : Option Nat), (∀ j, o = some j → j < nn ∧ j < f) → chn M (o.map aN) (c_chL N pa f o)
  | 0, none, _ => trivial
  | 0, some j, h => absurd (h j rfl).2 (Nat.not_lt_zero _)
  | _ + 1, none, _ => trivial
  | f + 1, some j, h => by
    obtain ⟨h1, h2⟩ := h j rfl
    refine ⟨(hN j h1).1, ?_⟩
    rw [(hp j h1).1]
    exact chn_L hN hp f (pa j) (fun p hpj => ⟨Nat.lt_trans ((hp j h1).2 p hpj) h1, by have := (hp j h1).2 p hpj; omega⟩)
theorem rest_L {nn : Nat} {aN : Nat → Nat} {N : Nat → nR} {pa : Nat → Option Nat} (hp : ∀ j, j < nn → n_pa (N j) = (pa j).map aN ∧ ∀ p, pa j = some p → p < j) : ∀ (f : Nat) (o : Option Nat), (∀ j, o = some j → j < nn ∧ j < f) → d_rest (o.map aN) (c_chL N pa f o) = (c_rest N pa f o).map aN
  | 0, none, _ => rfl
  | 0, some j, h => absurd (h j rfl).2 (Nat.not_lt_zero _)
  | _ + 1, none, _ => rfl
  | f + 1, some j, h => by
    obtain ⟨h1, h2⟩ := h j rfl
    show (if n_fl (N j) < n_pt (N j) then some (aN j) else d_rest (n_pa (N j)) (c_chL N pa f (pa j))) = (if n_fl (N j) < n_pt (N j) then some j else c_rest N pa f (pa j)).map aN
    by_cases hc : n_fl (N j) < n_pt (N j)
    · rw [if_pos hc, if_pos hc]; rfl
    · rw [if_neg hc, if_neg hc, (hp j h1).1]
      exact rest_L hp f (pa j) (fun p hpj => ⟨Nat.lt_trans ((hp j h1).2 p hpj) h1, by have := (hp j h1).2 p hpj; omega⟩)
end
section
/-! one more node -/
abbrev c_new (nn ad : Nat) (dop : Option Nat) (sl kd : Int32) (fi se : Int64) (pts : Int32) : nR := (nI nn, ad, dop, sl, kd, fi, se, pts, 0, -1, -1, -1, none, 0)
def c_bump (N : Nat → nR) (o : Option Nat) : Nat → nR := match o with
  | none => N
  | some j => va_up N j (n_s_fl (N j) (n_fl (N j) + 1))
theorem bump_pa (N : Nat → nR) (o : Option Nat) (j : Nat) : n_pa (c_bump N o j) = n_pa (N j) := by
  cases o with
  | none => rfl
  | some i =>
    by_cases h : j = i
    · subst h; show n_pa (va_up N j _ j) = _; rw [va_up_self]
    · show n_pa (va_up N i _ j) = _; rw [va_up_ne _ _ h]
theorem map_up {o : Option Nat} {aN : Nat → Nat} {nn a : Nat} (h : ∀ p, o = some p → p < nn) : o.map aN = o.map (va_up aN nn a) := by
  cases o with
  | none => rfl
  | some p => show some (aN p) = some (va_up aN nn a p); rw [va_up_ne _ _ (by have := h p rfl; omega)]
theorem node_pa {nd nn k a : Nat} {aD aN : Nat → Nat} {D : Nat → dR} {N : Nat → nR} {ho : Nat → Nat} {pa ca op : Nat → Option Nat} (hI : rl nd nn aD aN D N ho pa ca op) (hk : k < nd) {r : nR} (hr : n_pa r = d_op (D k)) : ∀ j, j < nn + 1 → n_pa (c_bump (va_up N nn r) (op k) j) = (va_up pa nn (op k) j).map (va_up aN nn a) ∧ ∀ p, va_up pa nn (op k) j = some p → p < j := by
  intro j hj
  rw [bump_pa]
  by_cases hjn : j = nn
  · subst hjn
    rw [va_up_self, va_up_self, hr, (hI.2 k hk).1]
    exact ⟨map_up (fun p hp => ((hI.2 k hk).2 p hp).1), fun p hp => ((hI.2 k hk).2 p hp).1⟩
  · rw [va_up_ne _ _ hjn, va_up_ne _ _ hjn]
    obtain ⟨-, -, h3, h4, -⟩ := hI.1 j (by omega)
    rw [h3]
    exact ⟨map_up (fun p hp => by have := (h4 p hp).1; omega), fun p hp => (h4 p hp).1⟩
theorem rp_bump {G : gC} {u3 : mC} {x ld ln ed en nd n1 : Nat} {aD aN : Nat → Nat} {D : Nat → dR} {N : Nat → nR} {pn : Nat → Nat → Int64} {pt : Nat → Nat → Int32} {kn : Bool} {ft fn mv : Int32} (o : Option Nat) (hR : rp G u3 x ld ln ed en nd n1 aD aN D N pn pt kn ft fn mv) (h0 : u3 G.2.2.2.1 = none) (ho : ∀ j, o = some j → j < n1) : ∃ Nm : mC, (o = none → Nm = u3) ∧ (∀ j, o = some j → Nm = mp_up u3 (aN j) (nC (n_s_fl (N j) (n_fl (N j) + 1)))) ∧ rp G Nm x ld ln ed en nd n1 aD aN D (c_bump N o) pn pt kn ft fn mv ∧ Nm G.2.2.2.1 = none := by
  cases o with
  | none => exact ⟨u3, fun _ => rfl, fun j h => (by cases h), hR, h0⟩
  | some j =>
    have hj := ho j rfl
    have hz : G.2.2.2.1 ≠ aN j := fun z => by
      have := (hR.2.2.2.2.1 j hj).1
      rw [← z, h0] at this
      cases this
    exact ⟨_, fun h => (by cases h), fun i h => (by cases h; rfl), rp_setN hR h0 hj rfl, (mp_ne hz).trans h0⟩
def c_nodeOk (kd : Int32) (fi se : Int64) (pts : Int32) (d : dR) (q : nR) (nn : Nat) : Bool := !d_whole d && decide (nI nn < 4096) && k_isKind kd && (k_isChange kd == d_wants d q) && k_partsFit kd pts && k_namesFit kd fi se
end
section
set_option maxHeartbeats 4000000 in
set_option maxRecDepth 100000 in
theorem cc_L_node_n {l : Launch} {G : gC} {M : mC} {sz : Nat} {x ld ln ed en nn : Nat} {aD aN : Nat → Nat} {D : Nat → dR} {N : Nat → nR} {pn : Nat → Nat → Int64} {pt : Nat → Nat → Int32} {kn : Bool} {ft fn mv : Int32} (hR : rp G M x ld ln ed en 0 nn aD aN D N pn pt kn ft fn mv) {kd pts : Int32} {fi se : Int64} : cW l yy_L_node bb_L_node 9 (some .int) 7 8 4000 G M sz [.ref x, .int kd, .long fi, .long se, .int pts] (fun v u => v = some (.int (-1)) ∧ u = M) := by
  refine me_W (by decide) (Nat.le_of_ble_eq_true rfl) ?_
  intro p e s m below meth c ls hx hb hr hlocks hml hown hname ht hsz hM hK hZ hl
  have hown : s.vm.findClass RR_L = some m.cls := hown
  have hl : lv_has ls 9 [(0, .ref x), (1, .int kd), (2, .long fi), (4, .long se), (6, .int pts)] := hl
  have hS : va_S (fr M sz) s.heap s.heap [] := va_S.rf
  have hF : ∀ q, M q ≠ none → fr M sz q := fr_M
  have hA : ∀ q, s.heap.size ≤ q → fr M sz q := fun q h => fr_A q (by rw [← hsz]; exact h)
  obtain ⟨mx, hLd, hLn, hD, hN, hAp, hnd, hnn⟩ := id hR
  obtain ⟨cl, ml⟩ := ls_obj hLd
  obtain ⟨ck, mk⟩ := ls_obj hLn
  refine lv_aload_n hx hb dd_L_node_0 rfl (lv_at hl 0 rfl) ?_
  refine mc_V (As := []) (rest := []) 0 (cc_L_lastDefinition_n hR) hx hb hml hown ht hM hK hl.1 lk_L_69 (by decide +kernel) (by decide) mx rfl rfl rfl (Nat.le_of_ble_eq_true rfl) dd_L_node_1 ⟨Nat.le_of_ble_eq_true rfl, Nat.le_of_ble_eq_true rfl⟩ ?_
  refine lv_astoreN (lv' := [(7, .null), (0, .ref x), (1, .int kd), (2, .long fi), (4, .long se), (6, .int pts)]) hx hb dd_L_node_4 hl (by decide) rfl (fun ls hl => ?_)
  refine lv_aloadN hx hb dd_L_node_6 (lv_at hl 0 rfl) ?_
  refine lv_ifnullN (tgt := 32) hx hb dd_L_node_8 (by decide) ?_
  refine lv_iconst (v := -1) hx hb dd_L_node_32 (by decide) ?_
  exact mw_i hx hb hr hlocks rfl hM hF hS (Nat.le_of_ble_eq_true rfl) (Nat.le_of_ble_eq_true rfl) ⟨rfl, rfl⟩ dd_L_node_33

set_option maxHeartbeats 4000000 in
set_option maxRecDepth 100000 in
theorem cc_L_node_s {l : Launch} {G : gC} {M : mC} {sz : Nat} {x ld ln ed en k nn : Nat} {aD aN : Nat → Nat} {D : Nat → dR} {N : Nat → nR} {pn : Nat → Nat → Int64} {pt : Nat → Nat → Int32} {kn : Bool} {ft fn mv : Int32} (hR : rp G M x ld ln ed en (k + 1) nn aD aN D N pn pt kn ft fn mv) {ho : Nat → Nat} {pa ca op : Nat → Option Nat} (hI : rl (k + 1) nn aD aN D N ho pa ca op) (hn6 : nn < 600) {kd pts : Int32} {fi se : Int64} : cW l yy_L_node bb_L_node 9 (some .int) 7 8 4000 G M sz [.ref x, .int kd, .long fi, .long se, .int pts] (fun v u => (c_nodeOk kd fi se pts (D k) (N ((op k).getD 0)) nn = false ∧ v = some (.int (-1)) ∧ u = M) ∨ (c_nodeOk kd fi se pts (D k) (N ((op k).getD 0)) nn = true ∧ v = some (.int (nI nn)) ∧ ∃ a en', rp G u x ld ln ed en' (k + 1) (nn + 1) aD (va_up aN nn a) (va_up D k (d_s_op (d_s_beg (D k) true) ((c_rest (c_bump (va_up N nn (c_new nn (aD k) (d_op (D k)) (d_slot (D k) (N ((op k).getD 0))) kd fi se pts)) (op k)) (va_up pa nn (op k)) (nn + 2) (some nn)).map (va_up aN nn a)))) (c_bump (va_up N nn (c_new nn (aD k) (d_op (D k)) (d_slot (D k) (N ((op k).getD 0))) kd fi se pts)) (op k)) pn pt false ft fn mv)) := by
  refine me_W (by decide) (Nat.le_of_ble_eq_true rfl) ?_
  intro p e s m below meth c ls hx hb hr hlocks hml hown hname ht hsz hM hK hZ hl
  have hown : s.vm.findClass RR_L = some m.cls := hown
  have hl : lv_has ls 9 [(0, .ref x), (1, .int kd), (2, .long fi), (4, .long se), (6, .int pts)] := hl
  have hS : va_S (fr M sz) s.heap s.heap [] := va_S.rf
  have hF : ∀ q, M q ≠ none → fr M sz q := fr_M
  have hA : ∀ q, s.heap.size ≤ q → fr M sz q := fun q h => fr_A q (by rw [← hsz]; exact h)
  obtain ⟨mx, hLd, hLn, hD, hN, hAp, hnd, hnn⟩ := id hR
  obtain ⟨cl, ml⟩ := ls_obj hLd
  obtain ⟨ck, mk⟩ := ls_obj hLn
  have hE := mz_E hZ
  have mq : ∀ y, d_op (D k) = some y → M y = some (nC (N ((op k).getD 0))) := fun y hy => by
    obtain ⟨o, ho9, eo, ea⟩ := rl_op hI (Nat.lt_succ_self k) hy
    rw [ea, eo]
    exact (hN o ho9).1
  refine lv_aload_n hx hb dd_L_node_0 rfl (lv_at hl 0 rfl) ?_
  refine mc_V (As := []) (rest := []) 0 (cc_L_lastDefinition_s hR) hx hb hml hown ht hM hK hl.1 lk_L_69 (by decide +kernel) (by decide) mx rfl rfl rfl (Nat.le_of_ble_eq_true rfl) dd_L_node_1 ⟨Nat.le_of_ble_eq_true rfl, Nat.le_of_ble_eq_true rfl⟩ ?_
  obtain ⟨me, mn, mt, -⟩ := hD k (Nat.lt_succ_self k)
  refine lv_astore (lv' := [(7, .ref (aD k)), (0, .ref x), (1, .int kd), (2, .long fi), (4, .long se), (6, .int pts)]) hx hb dd_L_node_4 hl (by decide) rfl (fun ls hl => ?_)
  refine lv_aload hx hb dd_L_node_6 (lv_at hl 0 rfl) ?_
  refine lv_ifnull hx hb dd_L_node_8 ?_
  refine lv_aload hx hb dd_L_node_11 (lv_at hl 0 rfl) ?_
  refine mc_V (As := []) (rest := []) 0 (cc_D_isWhole me) hx hb hml hown ht hM hK hl.1 lk_L_87 (by decide +kernel) (by decide) me rfl rfl rfl (Nat.le_of_ble_eq_true rfl) dd_L_node_13 ⟨Nat.zero_le _, Nat.zero_le _⟩ ?_
  refine lb_if_ne (tgt := 32) hx hb dd_L_node_16 (by decide) (fun c1 => ?_) (fun c1 => ?_)
  · refine lv_iconst (v := -1) hx hb dd_L_node_32 (by decide) ?_
    exact mw_i hx hb hr hlocks rfl hM hF hS (Nat.le_of_ble_eq_true rfl) (Nat.le_of_ble_eq_true rfl) (Or.inl ⟨by simp [c_nodeOk, c1], rfl, rfl⟩) dd_L_node_33
  · refine lv_aload_n hx hb dd_L_node_19 rfl (lv_at hl 1 rfl) ?_
    refine mg_get hx hb ht ii_L hown hK hM mx rfl 1 (by decide) wd_1_51 (fun _ h => h) rfl dd_L_node_20 ?_
    refine mc_V (As := []) (rest := []) 0 (ls_size hLn) hx hb hml hown ht hM hK hl.1 lk_L_49 (by decide +kernel) (by decide) mk rfl rfl rfl (Nat.le_of_ble_eq_true rfl) dd_L_node_23 ⟨Nat.le_of_ble_eq_true rfl, Nat.le_of_ble_eq_true rfl⟩ ?_
    refine lv_sipush (v := 4096) hx hb dd_L_node_26 (by decide) ?_
    refine lv_icmp_lt (tgt := 34) hx hb dd_L_node_29 (by decide) (fun c2 => ?_) (fun c2 => ?_)
    · refine lv_iload_n hx hb dd_L_node_34 rfl (lv_at hl 2 rfl) ?_
      refine mc_S (As := [.int kd]) (rest := []) 1 (cc_K_isKind (k := kd)) hx hb hml hown ht hM hK hl.1 lk_L_90 (by decide +kernel) (by decide) rfl rfl (Nat.le_of_ble_eq_true rfl) dd_L_node_35 ⟨Nat.zero_le _, Nat.zero_le _⟩ ?_
      refine lb_if_eq (tgt := 53) hx hb dd_L_node_38 (by decide) (fun c3 => ?_) (fun c3 => ?_)
      · refine lv_iconst (v := -1) hx hb dd_L_node_53 (by decide) ?_
        exact mw_i hx hb hr hlocks rfl hM hF hS (Nat.le_of_ble_eq_true rfl) (Nat.le_of_ble_eq_true rfl) (Or.inl ⟨by simp [c_nodeOk, c1, c2, c3], rfl, rfl⟩) dd_L_node_54
      · refine lv_iload_n hx hb dd_L_node_41 rfl (lv_at hl 2 rfl) ?_
        refine mc_S (As := [.int kd]) (rest := []) 1 (cc_K_isChange (k := kd)) hx hb hml hown ht hM hK hl.1 lk_L_95 (by decide +kernel) (by decide) rfl rfl (Nat.le_of_ble_eq_true rfl) dd_L_node_42 ⟨Nat.zero_le _, Nat.zero_le _⟩ ?_
        refine lv_aload hx hb dd_L_node_45 (lv_at hl 0 rfl) ?_
        refine mc_V (As := []) (rest := [.int (bI (k_isChange kd))]) 0 (cc_D_wantsChange me (q := (N ((op k).getD 0))) mq) hx hb hml hown ht hM hK hl.1 lk_L_98 (by decide +kernel) (by decide) me rfl rfl rfl (Nat.le_of_ble_eq_true rfl) dd_L_node_47 ⟨Nat.le_of_ble_eq_true rfl, Nat.le_of_ble_eq_true rfl⟩ ?_
        refine lv_icmp_eq (tgt := 55) hx hb dd_L_node_50 (by decide) (fun c4 => ?_) (fun c4 => ?_)
        · have c4 := (beq_iff_eq.mpr (bI_eq.mp c4) : ((k_isChange kd) == (d_wants (D k) (N ((op k).getD 0)))) = true)
          refine lv_iload_n hx hb dd_L_node_55 rfl (lv_at hl 2 rfl) ?_
          refine lv_iload hx hb dd_L_node_56 (lv_at hl 5 rfl) ?_
          have hFr := hF_fr hF hS hA
          refine mx_S (As := [.int kd, .int pts]) (rest := []) 2 (cc_K_partsFit (k := kd) (n := pts)) hx hb hml hown ht hM hK hZ hS hFr hl.1 lk_L_101 (by decide +kernel) (by decide) rfl rfl (Nat.le_of_ble_eq_true rfl) dd_L_node_58 ⟨Nat.le_of_ble_eq_true rfl, Nat.le_of_ble_eq_true rfl⟩ (fun v u H locs hp hM hd hle hk hS => ?_)
          obtain ⟨rfl, hu⟩ := hp
          rw [hu] at hM hd
          clear hu
          have hF := fun z9 h => hFr z9 (hd z9 h)
          obtain ⟨az, hsz⟩ : ∃ z9, H.size = z9 := ⟨_, rfl⟩
          refine lb_if_eq (tgt := 74) hx hb dd_L_node_61 (by decide) (fun c5 => ?_) (fun c5 => ?_)
          · refine lv_iconst (v := -1) hx hb dd_L_node_74 (by decide) ?_
            exact mw_i hx hb hr hlocks rfl hM hF hS (Nat.le_of_ble_eq_true rfl) (Nat.le_of_ble_eq_true rfl) (Or.inl ⟨by simp [c_nodeOk, c1, c2, c3, c4, c5], rfl, rfl⟩) dd_L_node_75
          · refine lv_iload_n hx hb dd_L_node_64 rfl (lv_at hl 2 rfl) ?_
            refine lv_lload_n hx hb dd_L_node_65 rfl (lv_at hl 3 rfl) ?_
            refine lv_lload hx hb dd_L_node_66 (lv_at hl 4 rfl) ?_
            refine mc_S (As := [.int kd, .long fi, .long se]) (rest := []) 3 (cc_K_namesFit (k := kd) (f := fi) (z := se)) hx hb hml hown ht hM hK hl.1 lk_L_105 (by decide +kernel) (by decide) rfl rfl (Nat.le_of_ble_eq_true rfl) dd_L_node_68 ⟨Nat.zero_le _, Nat.zero_le _⟩ ?_
            refine lb_if_ne (tgt := 76) hx hb dd_L_node_71 (by decide) (fun c6 => ?_) (fun c6 => ?_)
            · have hlt : nn < 600 := hn6
              have hn0 : M az = none := hm_new hM (by rw [hsz]; exact Nat.le_refl _)
              have hneD : aD k ≠ az := hm_ne me hn0
              have hneQ : ∀ y, d_op (D k) = some y → y ≠ az := fun y hy => hm_ne (mq y hy) hn0
              have hn7 : M az = none := hm_new hM (by rw [hsz]; exact Nat.le_refl _)
              refine mg_new (ci := 2) hx hb ht ii_N tt_N tt_N_ok hown wd_2_26 wd_2_27 wd_1_15 hK hM hS rfl [.int 0, .null, .null, .int 0, .int 0, .long 0, .long 0, .int 0, .int 0, .int 0, .int 0, .int 0, .null, .int 0] (fun j hj => by rcases (show j = 0 ∨ j = 1 ∨ j = 2 ∨ j = 3 ∨ j = 4 ∨ j = 5 ∨ j = 6 ∨ j = 7 ∨ j = 8 ∨ j = 9 ∨ j = 10 ∨ j = 11 ∨ j = 12 ∨ j = 13 by omega) with rfl | rfl | rfl | rfl | rfl | rfl | rfl | rfl | rfl | rfl | rfl | rfl | rfl | rfl <;> rfl) (Nat.le_of_ble_eq_true rfl) (Nat.le_of_ble_eq_true rfl) dd_L_node_76 (fun H hM hz hS => ?_)
              rw [hsz] at hM hz ⊢
              have hsz := hz
              have hM : hm G (mp_up M az (.inr (2, [.int 0, .null, .null, .int 0, .int 0, .long 0, .long 0, .int 0, .int 0, .int 0, .int 0, .int 0, .null, .int 0]))) H := hM
              have hF : ∀ z9, (mp_up M az (.inr (2, [.int 0, .null, .null, .int 0, .int 0, .long 0, .long 0, .int 0, .int 0, .int 0, .int 0, .int 0, .null, .int 0]))) z9 ≠ none → fr M sz z9 := hF_put hF (hA _ (by have := hS.1; omega))
              have ma : (mp_up M az (.inr (2, [.int 0, .null, .null, .int 0, .int 0, .long 0, .long 0, .int 0, .int 0, .int 0, .int 0, .int 0, .null, .int 0]))) az = some (.inr (2, [.int 0, .null, .null, .int 0, .int 0, .long 0, .long 0, .int 0, .int 0, .int 0, .int 0, .int 0, .null, .int 0])) := mp_self _ _ _
              have hR1 := rp_mono hR (fun q e h => mp_old (e := .inr (2, [.int 0, .null, .null, .int 0, .int 0, .long 0, .long 0, .int 0, .int 0, .int 0, .int 0, .int 0, .null, .int 0])) h hn0)
              obtain ⟨mx, hLd, hLn, hD, hN, -, -, -⟩ := id hR1
              obtain ⟨cl, ml⟩ := ls_obj hLd
              obtain ⟨ck, mk⟩ := ls_obj hLn
              have me := (hD k (Nat.lt_succ_self k)).1
              have mq := fun y hy => mp_at (e := .inr (2, [.int 0, .null, .null, .int 0, .int 0, .long 0, .long 0, .int 0, .int 0, .int 0, .int 0, .int 0, .null, .int 0])) (hneQ y hy) (mq y hy)
              refine lv_dup hx hb dd_L_node_79 rfl ?_
              refine lv_aload_n hx hb dd_L_node_80 rfl (lv_at hl 1 rfl) ?_
              refine mg_get hx hb ht ii_L hown hK hM mx rfl 1 (by decide) wd_1_51 (fun _ h => h) rfl dd_L_node_81 ?_
              refine mc_V (As := []) (rest := [.ref az, .ref az]) 0 (ls_size hLn) hx hb hml hown ht hM hK hl.1 lk_L_49 (by decide +kernel) (by decide) mk rfl rfl rfl (Nat.le_of_ble_eq_true rfl) dd_L_node_84 ⟨Nat.le_of_ble_eq_true rfl, Nat.le_of_ble_eq_true rfl⟩ ?_
              refine lv_aload hx hb dd_L_node_87 (lv_at hl 0 rfl) ?_
              refine lv_iload_n hx hb dd_L_node_89 rfl (lv_at hl 2 rfl) ?_
              refine lv_lload_n hx hb dd_L_node_90 rfl (lv_at hl 3 rfl) ?_
              refine lv_lload hx hb dd_L_node_91 (lv_at hl 4 rfl) ?_
              refine lv_iload hx hb dd_L_node_93 (lv_at hl 5 rfl) ?_
              have hFr := hF_fr hF hS hA
              refine mx_I (As := [.int (nI nn), .ref (aD k), .int kd, .long fi, .long se, .int pts]) (rest := [.ref az]) 6 (cc_N_init ma me hneD (q := (N ((op k).getD 0))) mq hneQ) hx hb hml hown ht hM hK hZ hS hFr hl.1 wd_2_30 wd_1_15 wd_2_28 wd_2_29 rfl (by decide +kernel) (by decide) rfl rfl (Nat.le_of_ble_eq_true rfl) dd_L_node_95 ⟨Nat.le_of_ble_eq_true rfl, Nat.le_of_ble_eq_true rfl⟩ (fun v u2 H locs hp hM hd hle hk hS => ?_)
              obtain ⟨rfl, hu⟩ := hp
              rw [mp_mp] at hu
              have hF := fun z9 h => hFr z9 (hd z9 h)
              have j1 : u2 az = some (nC (c_new nn (aD k) (d_op (D k)) (d_slot (D k) (N ((op k).getD 0))) kd fi se pts)) := by rw [hu]; exact mp_self _ _ _
              have j4 : ∀ q e, M q = some e → u2 q = some e := fun q e h => by rw [hu]; exact mp_old h hn0
              have hR2 := rp_mono hR j4
              obtain ⟨mx, hLd, hLn, hD, hN, -, -, -⟩ := id hR2
              obtain ⟨cl, ml⟩ := ls_obj hLd
              obtain ⟨ck, mk⟩ := ls_obj hLn
              have h02 := e_none hF hE
              refine lv_astore (lv' := [(8, .ref az), (7, .ref (aD k)), (0, .ref x), (1, .int kd), (2, .long fi), (4, .long se), (6, .int pts)]) hx hb dd_L_node_98 hl (by decide) rfl (fun ls hl => ?_)
              refine lv_aload_n hx hb dd_L_node_100 rfl (lv_at hl 2 rfl) ?_
              refine mg_get hx hb ht ii_L hown hK hM mx rfl 1 (by decide) wd_1_51 (fun _ h => h) rfl dd_L_node_101 ?_
              refine lv_aload hx hb dd_L_node_104 (lv_at hl 0 rfl) ?_
              have hFr := hF_fr hF hS hA
              refine mx_V (As := [.ref az]) (rest := []) 1 (cc_A_add hLn hnn (Or.inl ⟨_, j1⟩) (fun i hi => Or.inl ⟨_, (hN i hi).1⟩)) hx hb hml hown ht hM hK hZ hS hFr hl.1 lk_L_62 (by decide +kernel) (by decide) mk rfl rfl rfl (Nat.le_of_ble_eq_true rfl) dd_L_node_106 ⟨Nat.le_of_ble_eq_true rfl, Nat.le_of_ble_eq_true rfl⟩ (fun v u3 H locs hp hM hd hle hk hS => ?_)
              obtain ⟨rfl, en', hL3, hed, hq⟩ := hp
              have hF := fun z9 h => hFr z9 (hd z9 h)
              have h03 := e_none hF hE
              have hed2 : (en' = en ∧ ∃ cap f, u2 en = some (oA G cap f)) ∨ u2 en' = none := hed.elim Or.inl (fun h => Or.inr (by rw [h.1]; exact h.2))
              have hR3 := rp_addN hR hlt j4 j1 rfl h02 hL3 hed2 hq
              obtain ⟨mx, hLd, hLn, hD, hN, -, -, -⟩ := id hR3
              obtain ⟨cl, ml⟩ := ls_obj hLd
              obtain ⟨ck, mk⟩ := ls_obj hLn
              obtain ⟨Nm, hNn, hNs, hRm, h04⟩ := rp_bump (op k) hR3 h03 (fun j hj => by have := ((hI.2 k (Nat.lt_succ_self k)).2 j hj).1; omega)
              have hpp := node_pa (a := az) hI (Nat.lt_succ_self k) (r := (c_new nn (aD k) (d_op (D k)) (d_slot (D k) (N ((op k).getD 0))) kd fi se pts)) rfl
              have hch := chn_L hRm.2.2.2.2.1 hpp (nn + 2) (some nn) (fun j hj => by cases hj; omega)
              have e9 : (some nn).map (va_up aN nn az) = some az := by show some (va_up aN nn az nn) = _; rw [va_up_self]
              rw [e9] at hch
              have hrest := rest_L hpp (nn + 2) (some nn) (fun j hj => by cases hj; omega)
              rw [e9] at hrest
              have me := (hD k (Nat.lt_succ_self k)).1
              have j1 := (hN nn (Nat.lt_succ_self nn)).1
              rw [va_up_self, va_up_self] at j1
              refine lv_pop hx hb dd_L_node_109 rfl ?_
              refine lv_aload hx hb dd_L_node_110 (lv_at hl 1 rfl) ?_
              refine lv_aload hx hb dd_L_node_112 (lv_at hl 0 rfl) ?_
              have mq3 : ∀ y, d_op (D k) = some y → u3 y = some (nC (N ((op k).getD 0))) := fun y hy => by obtain ⟨o, ho9, eo, ea⟩ := rl_op hI (Nat.lt_succ_self k) hy; have := (hN o (by omega)).1; rw [va_up_ne _ _ (by omega), va_up_ne _ _ (by omega)] at this; rw [ea, eo]; exact this
              have hNs3 : ∀ y, d_op (D k) = some y → Nm = mp_up u3 y (nC (n_s_fl (N ((op k).getD 0)) (n_fl (N ((op k).getD 0)) + 1))) := fun y hy => by obtain ⟨o, ho9, eo, ea⟩ := rl_op hI (Nat.lt_succ_self k) hy; have := hNs o eo; rw [va_up_ne _ _ (by omega), va_up_ne _ _ (by omega)] at this; rw [ea, eo]; exact this
              have hNn3 : d_op (D k) = none → Nm = u3 := fun h => hNn (by rw [(hI.2 k (Nat.lt_succ_self k)).1] at h; exact map_none h)
              have hFr := hF_fr hF hS hA
              refine mx_V (As := [.ref az]) (rest := []) 1 (cc_D_take me mq3 hNn3 hNs3 hch) hx hb hml hown ht hM hK hZ hS hFr hl.1 lk_L_114 (by decide +kernel) (by decide) me rfl rfl rfl (Nat.le_of_ble_eq_true rfl) dd_L_node_114 ⟨Nat.le_of_ble_eq_true rfl, Nat.le_of_ble_eq_true rfl⟩ (fun v u4 H locs hp hM hd hle hk hS => ?_)
              obtain ⟨rfl, hu4⟩ := hp
              rw [hrest] at hu4
              have hF := fun z9 h => hFr z9 (hd z9 h)
              have h05 := e_none hF hE
              have hR4 := rp_setD hRm h04 (Nat.lt_succ_self k) (d := d_s_op (d_s_beg (D k) true) ((c_rest (c_bump (va_up N nn (c_new nn (aD k) (d_op (D k)) (d_slot (D k) (N ((op k).getD 0))) kd fi se pts)) (op k)) (va_up pa nn (op k)) (nn + 2) (some nn)).map (va_up aN nn az))) rfl rfl rfl
              rw [← hu4] at hR4
              obtain ⟨mx, hLd, hLn, hD, hN, -, -, -⟩ := id hR4
              obtain ⟨cl, ml⟩ := ls_obj hLd
              obtain ⟨ck, mk⟩ := ls_obj hLn
              have j1 := (hN nn (Nat.lt_succ_self nn)).1
              have j2 := (hN nn (Nat.lt_succ_self nn)).2
              rw [va_up_self] at j1
              have hxz : az ≠ x := fun z => by rw [z, mx] at j1; cases j1
              refine lv_aload_n hx hb dd_L_node_117 rfl (lv_at hl 2 rfl) ?_
              refine lv_iconst (v := 0) hx hb dd_L_node_118 (by decide) ?_
              refine mg_put (v := .int 0) hx hb ht ii_L tt_L tt_L_ok nn_L hown hK hM hS (hF _ (by rw [mx]; exact Option.some_ne_none _)) mx rfl 2 (by decide) wd_1_52 (fun _ h => h) (Or.inl rfl) rfl rfl rfl (Nat.le_of_ble_eq_true rfl) dd_L_node_119 (fun H locs hM hz hoq hS => ?_)
              have hM : hm G (mp_up u4 x (.inr (0, [.ref ld, .ref ln, .int 0, .int ft, .int fn, .int mv]))) H := hM
              have hF : ∀ z9, (mp_up u4 x (.inr (0, [.ref ld, .ref ln, .int 0, .int ft, .int fn, .int mv]))) z9 ≠ none → fr M sz z9 := hF_put hF (hF _ (by rw [mx]; exact Option.some_ne_none _))
              have mx : (mp_up u4 x (.inr (0, [.ref ld, .ref ln, .int 0, .int ft, .int fn, .int mv]))) x = some (.inr (0, [.ref ld, .ref ln, .int 0, .int ft, .int fn, .int mv])) := mp_self _ _ _
              refine lv_aload hx hb dd_L_node_122 (lv_at hl 0 rfl) ?_
              have j1 := mp_at (M := u4) (a := x) (e := (.inr (0, [.ref ld, .ref ln, .int 0, .int ft, .int fn, .int mv]))) hxz j1
              refine mg_get hx hb ht ii_N hown hK hM j1 rfl 0 (by decide) wd_2_33 (fun _ h => h) rfl dd_L_node_124 ?_
              exact mw_i hx hb hr hlocks rfl hM hF hS (Nat.le_of_ble_eq_true rfl) (Nat.le_of_ble_eq_true rfl) (Or.inr ⟨by simp [c_nodeOk, c1, c2, c3, c4, c5, c6], congrArg (fun z => some (Value.int z)) j2, az, en', rp_setX (kn' := false) hR4 h05⟩) dd_L_node_127
            · refine lv_iconst (v := -1) hx hb dd_L_node_74 (by decide) ?_
              exact mw_i hx hb hr hlocks rfl hM hF hS (Nat.le_of_ble_eq_true rfl) (Nat.le_of_ble_eq_true rfl) (Or.inl ⟨by simp [c_nodeOk, c1, c2, c3, c4, c5, c6], rfl, rfl⟩) dd_L_node_75
        · have c4 := (beq_eq_false_iff_ne.mpr (fun h => c4 (bI_eq.mpr h)) : ((k_isChange kd) == (d_wants (D k) (N ((op k).getD 0)))) = false)
          refine lv_iconst (v := -1) hx hb dd_L_node_53 (by decide) ?_
          exact mw_i hx hb hr hlocks rfl hM hF hS (Nat.le_of_ble_eq_true rfl) (Nat.le_of_ble_eq_true rfl) (Or.inl ⟨by simp [c_nodeOk, c1, c2, c3, c4], rfl, rfl⟩) dd_L_node_54
    · refine lv_iconst (v := -1) hx hb dd_L_node_32 (by decide) ?_
      exact mw_i hx hb hr hlocks rfl hM hF hS (Nat.le_of_ble_eq_true rfl) (Nat.le_of_ble_eq_true rfl) (Or.inl ⟨by simp [c_nodeOk, c1, c2], rfl, rfl⟩) dd_L_node_33
end
section
/-! coming to a node: what its record is behind it, and whether its X or F is there -/
theorem chd_L {M : mC} {nn j : Nat} {aN : Nat → Nat} {N : Nat → nR} {pa : Nat → Option Nat} (hN : rp_N M nn aN N) (hn : nn ≤ 600) (hj : j < nn) (hp : ∀ j, j < nn → n_pa (N j) = (pa j).map aN ∧ ∀ p, pa j = some p → p < j) : ∀ (f : Nat) (o : Option Nat), (∀ i, o = some i → i < j ∧ i < f) → chd (aN j) (o.map aN) (c_chL N pa f o)
  | 0, none, _ => trivial
  | 0, some i, h => absurd (h i rfl).2 (Nat.not_lt_zero _)
  | _ + 1, none, _ => trivial
  | f + 1, some i, h => by
    obtain ⟨h1, h2⟩ := h i rfl
    refine ⟨fun z => ?_, ?_⟩
    · have := aN_inj hN hn (by omega) hj z
      omega
    · rw [(hp i (by omega)).1]
      exact chd_L hN hn hj hp f (pa i) (fun p hpi => by have := (hp i (by omega)).2 p hpi; omega)
abbrev c_q (N : Nat → nR) (o : Option Nat) : nR := N (o.getD 0)
def c_arrive (nd : Nat) (aD : Nat → Nat) (D : Nat → dR) (pn : Nat → Nat → Int64) (pt : Nat → Nat → Int32) (N : Nat → nR) (ho : Nat → Nat) (pa : Nat → Option Nat) (nn j : Nat) : nR × Bool :=
  let r1 := n_s_va (N j) (n_count (N j) (c_q N (pa j)) (D (ho j)))
  if n_kd (N j) = 1 then
    (n_s_vt (n_s_bb r1 (n_bv (n_bnd (n_fi (N j)) r1 (c_chL (va_up N j r1) pa (nn + 1) (pa j))) (d_index (D (ho j)) (pn (ho j)) (n_fi (N j))))) (n_bt (n_bnd (n_fi (N j)) r1 (c_chL (va_up N j r1) pa (nn + 1) (pa j))) (n_fi (N j)) (D (ho j)) (pt (ho j)) (d_index (D (ho j)) (pn (ho j)) (n_fi (N j)))), n_bok (n_bnd (n_fi (N j)) r1 (c_chL (va_up N j r1) pa (nn + 1) (pa j))) (d_index (D (ho j)) (pn (ho j)) (n_fi (N j))))
  else if k_isCall (n_kd (N j)) = true then
    match c_named D (n_fi (N j)) nd 0 with
    | none => (r1, false)
    | some t => if n_aimOk r1 (D t) = true then (n_s_vt (n_s_ca r1 (some (aD t))) (d_vt (D t)), true) else (r1, false)
  else (n_s_vt r1 (k_ownType (n_kd (N j))), true)
theorem c_named_lt {D : Nat → dR} {x : Int64} : ∀ (k i t : Nat), c_named D x k i = some t → t < i + k
  | 0, i, t, h => by cases h
  | k + 1, i, t, h => by
    unfold c_named at h
    split at h
    · cases h; omega
    · have := c_named_lt k (i + 1) t h; omega
theorem map_some {o : Option Nat} {f : Nat → Nat} {y : Nat} (h : o.map f = some y) : ∃ t, o = some t ∧ y = f t := by
  cases o with
  | none => cases h
  | some t => cases h; exact ⟨t, rfl, rfl⟩
theorem rl_q {nd nn : Nat} {aD aN : Nat → Nat} {D : Nat → dR} {N : Nat → nR} {ho : Nat → Nat} {pa ca op : Nat → Option Nat} (hI : rl nd nn aD aN D N ho pa ca op) {M : mC} (hN : rp_N M nn aN N) {j : Nat} (hj : j < nn) : ∀ y, n_pa (N j) = some y → M y = some (nC (c_q N (pa j))) := by
  intro y hy
  obtain ⟨p, hp, ep, ea⟩ := rl_pa hI hj hy
  rw [ea, ep]
  exact (hN p (by omega)).1
theorem rl_qne {nd nn : Nat} {aD aN : Nat → Nat} {D : Nat → dR} {N : Nat → nR} {ho : Nat → Nat} {pa ca op : Nat → Option Nat} (hI : rl nd nn aD aN D N ho pa ca op) {M : mC} (hN : rp_N M nn aN N) (hn : nn ≤ 600) {j : Nat} (hj : j < nn) : ∀ y, n_pa (N j) = some y → y ≠ aN j := by
  intro y hy z
  obtain ⟨p, hp, ep, ea⟩ := rl_pa hI hj hy
  rw [ea] at z
  have := aN_inj hN hn (by omega) hj z
  omega
theorem rl_pp {nd nn : Nat} {aD aN : Nat → Nat} {D : Nat → dR} {N : Nat → nR} {ho : Nat → Nat} {pa ca op : Nat → Option Nat} (hI : rl nd nn aD aN D N ho pa ca op) {j : Nat} {r : nR} (hr : n_pa r = n_pa (N j)) : ∀ i, i < nn → n_pa (va_up N j r i) = (pa i).map aN ∧ ∀ p, pa i = some p → p < i := by
  intro i hi
  obtain ⟨-, -, h3, h4, -⟩ := hI.1 i hi
  refine ⟨?_, fun p hp => (h4 p hp).1⟩
  by_cases hij : i = j
  · subst hij; rw [va_up_self, hr]; exact h3
  · rw [va_up_ne _ _ hij]; exact h3
end
section
set_option maxHeartbeats 4000000 in
set_option maxRecDepth 100000 in
theorem cc_L_arriveAt {l : Launch} {G : gC} {M : mC} {sz : Nat} {x ld ln ed en nd nn : Nat} {aD aN : Nat → Nat} {D : Nat → dR} {N : Nat → nR} {pn : Nat → Nat → Int64} {pt : Nat → Nat → Int32} {kn : Bool} {ft fn mv : Int32} (hR : rp G M x ld ln ed en nd nn aD aN D N pn pt kn ft fn mv) {ho : Nat → Nat} {pa ca op : Nat → Option Nat} (hI : rl nd nn aD aN D N ho pa ca op) {j : Nat} (hj : j < nn) : cW l yy_L_arriveAt bb_L_arriveAt 2 (some .boolean) 4 0 0 G M sz [.ref x, .ref (aN j)] (fun v u => v = some (.int (bI (c_arrive nd aD D pn pt N ho pa nn j).2)) ∧ rp G u x ld ln ed en nd nn aD aN D (va_up N j (c_arrive nd aD D pn pt N ho pa nn j).1) pn pt kn ft fn mv) := by
  refine me_W (by decide) (Nat.le_of_ble_eq_true rfl) ?_
  intro p e s m below meth c ls hx hb hr hlocks hml hown hname ht hsz hM hK hZ hl
  have hown : s.vm.findClass RR_L = some m.cls := hown
  have hl : lv_has ls 2 [(0, .ref x), (1, .ref (aN j))] := hl
  have hS : va_S (fr M sz) s.heap s.heap [] := va_S.rf
  have hF : ∀ q, M q ≠ none → fr M sz q := fr_M
  have hA : ∀ q, s.heap.size ≤ q → fr M sz q := fun q h => fr_A q (by rw [← hsz]; exact h)
  obtain ⟨mx, hLd, hLn, hD, hN, hAp, hnd, hnn⟩ := id hR
  obtain ⟨cl, ml⟩ := ls_obj hLd
  obtain ⟨ck, mk⟩ := ls_obj hLn
  have hE := mz_E hZ
  have h00 := mz_none hZ
  have me := (hN j hj).1
  have md : M (n_ho (N j)) = some (dC (D (ho j))) := by rw [(hI.1 j hj).1]; exact (hD _ (hI.1 j hj).2.1).1
  refine lv_aload_n hx hb dd_L_arriveAt_0 rfl (lv_at hl 1 rfl) ?_
  have hFr := hF_fr hF hS hA
  refine mx_V (As := []) (rest := []) 0 (cc_N_countVariables me md (q := c_q N (pa j)) (rl_q hI hN hj) (rl_qne hI hN hnn hj)) hx hb hml hown ht hM hK hZ hS hFr hl.1 lk_L_193 (by decide +kernel) (by decide) me rfl rfl rfl (Nat.le_of_ble_eq_true rfl) dd_L_arriveAt_1 ⟨Nat.zero_le _, Nat.zero_le _⟩ (fun v u1 H locs hp hM hd hle hk hS => ?_)
  obtain ⟨rfl, hu⟩ := hp
  have hF := fun z9 h => hFr z9 (hd z9 h)
  have h01 := e_none hF hE
  obtain ⟨r1, er1⟩ : ∃ z, z = n_s_va (N j) (n_count (N j) (c_q N (pa j)) (D (ho j))) := ⟨_, rfl⟩
  rw [← er1] at hu
  have hk1 : n_kd r1 = n_kd (N j) := by rw [er1]
  have hf1 : n_fi r1 = n_fi (N j) := by rw [er1]
  have hp1 : n_pa r1 = n_pa (N j) := by rw [er1]
  have hh1 : n_ho r1 = n_ho (N j) := by rw [er1]
  have hn1 : n_num r1 = n_num (N j) := by rw [er1]
  have hR1 := rp_setN hR h00 hj hn1
  rw [← hu] at hR1
  obtain ⟨mx, hLd, hLn, hD, hN, -, -, -⟩ := id hR1
  obtain ⟨cl, ml⟩ := ls_obj hLd
  obtain ⟨ck, mk⟩ := ls_obj hLn
  have me : u1 (aN j) = some (nC r1) := by rw [hu]; exact mp_self _ _ _
  refine lv_aload_n hx hb dd_L_arriveAt_4 rfl (lv_at hl 1 rfl) ?_
  refine mg_get hx hb ht ii_N hown hK hM me rfl 4 (by decide) wd_2_43 (fun _ h => h) rfl dd_L_arriveAt_5 ?_
  refine lv_iconst (v := 1) hx hb dd_L_arriveAt_8 (by decide) ?_
  refine lv_icmp_ne (tgt := 17) hx hb dd_L_arriveAt_9 (by decide) (fun c1 => ?_) (fun c1 => ?_)
  · refine lv_aload_n hx hb dd_L_arriveAt_17 rfl (lv_at hl 1 rfl) ?_
    refine mg_get hx hb ht ii_N hown hK hM me rfl 4 (by decide) wd_2_43 (fun _ h => h) rfl dd_L_arriveAt_18 ?_
    refine mc_S (As := [.int (n_kd r1)]) (rest := []) 1 (cc_K_isCall (k := (n_kd r1))) hx hb hml hown ht hM hK hl.1 lk_L_199 (by decide +kernel) (by decide) rfl rfl (Nat.le_of_ble_eq_true rfl) dd_L_arriveAt_21 ⟨Nat.zero_le _, Nat.zero_le _⟩ ?_
    refine lb_if_eq (tgt := 40) hx hb dd_L_arriveAt_24 (by decide) (fun c2 => ?_) (fun c2 => ?_)
    · refine lv_aload_n hx hb dd_L_arriveAt_40 rfl (lv_at hl 1 rfl) ?_
      refine lv_aload_n hx hb dd_L_arriveAt_41 rfl (lv_at hl 1 rfl) ?_
      refine mg_get hx hb ht ii_N hown hK hM me rfl 4 (by decide) wd_2_43 (fun _ h => h) rfl dd_L_arriveAt_42 ?_
      refine mc_S (As := [.int (n_kd r1)]) (rest := [.ref (aN j)]) 1 (cc_K_ownType (k := (n_kd r1))) hx hb hml hown ht hM hK hl.1 lk_L_209 (by decide +kernel) (by decide) rfl rfl (Nat.le_of_ble_eq_true rfl) dd_L_arriveAt_45 ⟨Nat.zero_le _, Nat.zero_le _⟩ ?_
      refine mg_put (v := .int (k_ownType (n_kd r1))) hx hb ht ii_N tt_N tt_N_ok nn_N hown hK hM hS (hF _ (by rw [me]; exact Option.some_ne_none _)) me rfl 9 (by decide) wd_2_53 (fun _ h => h) (Or.inl rfl) rfl rfl rfl (Nat.le_of_ble_eq_true rfl) dd_L_arriveAt_48 (fun H locs hM hz hoq hS => ?_)
      have hM : hm G (mp_up u1 (aN j) (nC (n_s_vt r1 (k_ownType (n_kd r1))))) H := hM
      have hF : ∀ z9, (mp_up u1 (aN j) (nC (n_s_vt r1 (k_ownType (n_kd r1))))) z9 ≠ none → fr M sz z9 := hF_put hF (hF _ (by rw [me]; exact Option.some_ne_none _))
      have me : (mp_up u1 (aN j) (nC (n_s_vt r1 (k_ownType (n_kd r1))))) (aN j) = some (nC (n_s_vt r1 (k_ownType (n_kd r1)))) := mp_self _ _ _
      refine lv_iconst (v := 1) hx hb dd_L_arriveAt_51 (by decide) ?_
      have kc1 := c1
      rw [hk1] at kc1
      have kc2 := c2
      rw [hk1] at kc2
      have hca : c_arrive nd aD D pn pt N ho pa nn j = (n_s_vt r1 (k_ownType (n_kd (N j))), true) := by unfold c_arrive; rw [if_neg kc1, if_neg (by rw [kc2]; decide), ← er1]
      have hR2 := rp_setN hR1 h01 hj (r := n_s_vt r1 (k_ownType (n_kd r1))) (by rw [va_up_self])
      rw [bx_uu, hk1] at hR2
      exact mw_i hx hb hr hlocks rfl hM hF hS (Nat.zero_le _) (Nat.zero_le _) ⟨by rw [hca]; rfl, by rw [hca, hk1]; exact hR2⟩ dd_L_arriveAt_52
    · refine lv_aload_n hx hb dd_L_arriveAt_27 rfl (lv_at hl 1 rfl) ?_
      refine lv_aload_n hx hb dd_L_arriveAt_28 rfl (lv_at hl 0 rfl) ?_
      refine lv_aload_n hx hb dd_L_arriveAt_29 rfl (lv_at hl 1 rfl) ?_
      refine mg_get hx hb ht ii_N hown hK hM me rfl 5 (by decide) wd_2_45 (fun _ h => h) rfl dd_L_arriveAt_30 ?_
      refine mc_V (As := [.long (n_fi r1)]) (rest := [.ref (aN j)]) 1 (cc_L_definitionNamed hR1 (nm := n_fi r1)) hx hb hml hown ht hM hK hl.1 lk_L_53 (by decide +kernel) (by decide) mx rfl rfl rfl (Nat.le_of_ble_eq_true rfl) dd_L_arriveAt_33 ⟨Nat.zero_le _, Nat.zero_le _⟩ ?_
      rw [hf1]
      rcases ey3 : ((c_named D (n_fi (N j)) nd 0).map aD) with _ | y3
      · have hFr := hF_fr hF hS hA
        refine mx_V (As := [.null]) (rest := []) 1 (cc_N_aimAt_n me) hx hb hml hown ht hM hK hZ hS hFr hl.1 lk_L_205 (by decide +kernel) (by decide) me rfl rfl rfl (Nat.le_of_ble_eq_true rfl) dd_L_arriveAt_36 ⟨Nat.zero_le _, Nat.zero_le _⟩ (fun v u2 H locs hp hM hd hle hk hS => ?_)
        obtain ⟨rfl, hu2⟩ := hp
        have hF := fun z9 h => hFr z9 (hd z9 h)
        have kc1 := c1
        rw [hk1] at kc1
        have kc2 := c2
        rw [hk1] at kc2
        have hca : c_arrive nd aD D pn pt N ho pa nn j = (r1, false) := by unfold c_arrive; rw [if_neg kc1, if_pos kc2, map_none ey3, ← er1]
        rw [← hu2] at hR1
        exact mw_i hx hb hr hlocks rfl hM hF hS (Nat.zero_le _) (Nat.zero_le _) ⟨by rw [hca]; rfl, by rw [hca]; exact hR1⟩ dd_L_arriveAt_39
      · obtain ⟨t9, et9, ea9⟩ := map_some ey3
        have ht9 : t9 < nd := by have := c_named_lt nd 0 t9 et9; omega
        have my3 : u1 y3 = some (dC (D t9)) := by rw [ea9]; exact (hD t9 ht9).1
        have hFr := hF_fr hF hS hA
        refine mx_V (As := [.ref y3]) (rest := []) 1 (cc_N_aimAt_s me my3 (hm_nd my3 me)) hx hb hml hown ht hM hK hZ hS hFr hl.1 lk_L_205 (by decide +kernel) (by decide) me rfl rfl rfl (Nat.le_of_ble_eq_true rfl) dd_L_arriveAt_36 ⟨Nat.zero_le _, Nat.zero_le _⟩ (fun v u2 H locs hp hM hd hle hk hS => ?_)
        obtain ⟨rfl, hu2⟩ := hp
        have hF := fun z9 h => hFr z9 (hd z9 h)
        have kc1 := c1
        rw [hk1] at kc1
        have kc2 := c2
        rw [hk1] at kc2
        have hca : c_arrive nd aD D pn pt N ho pa nn j = (if n_aimOk r1 (D t9) = true then (n_s_vt (n_s_ca r1 (some (aD t9))) (d_vt (D t9)), true) else (r1, false)) := by unfold c_arrive; rw [if_neg kc1, if_pos kc2, et9, ← er1]
        have hR2 : rp G u2 x ld ln ed en nd nn aD aN D (va_up N j (c_arrive nd aD D pn pt N ho pa nn j).1) pn pt kn ft fn mv ∧ (c_arrive nd aD D pn pt N ho pa nn j).2 = n_aimOk r1 (D t9) := by
          rw [hca]
          by_cases hok : n_aimOk r1 (D t9) = true
          · rw [if_pos hok] at hu2 ⊢
            refine ⟨?_, hok.symm⟩
            have hR2 := rp_setN hR1 h01 hj (r := n_s_vt (n_s_ca r1 (some (aD t9))) (d_vt (D t9))) (by rw [va_up_self])
            rw [bx_uu] at hR2
            rw [hu2, ea9]
            exact hR2
          · rw [if_neg hok] at hu2 ⊢
            refine ⟨?_, (Bool.eq_false_iff.mpr hok).symm⟩
            rw [hu2]
            exact hR1
        exact mw_i hx hb hr hlocks bI_z hM hF hS (Nat.zero_le _) (Nat.zero_le _) ⟨by rw [hR2.2], hR2.1⟩ dd_L_arriveAt_39
  · refine lv_aload_n hx hb dd_L_arriveAt_12 rfl (lv_at hl 1 rfl) ?_
    have hpp := rl_pp hI hp1
    have hch := chn_L hN hpp (nn + 1) (pa j) (fun p hp => by have := (hpp j hj).2 p hp; omega)
    have hcd := chd_L hN hnn hj hpp (nn + 1) (pa j) (fun p hp => by have := (hpp j hj).2 p hp; omega)
    have hpj : (pa j).map aN = n_pa r1 := by rw [hp1]; exact (hI.1 j hj).2.2.1.symm
    rw [hpj] at hch hcd
    have hhj : n_ho r1 = aD (ho j) := hh1.trans (hI.1 j hj).1
    obtain ⟨g1, g2, g3, -⟩ := hD (ho j) (hI.1 j hj).2.1
    have hFr := hF_fr hF hS hA
    refine mx_V (As := []) (rest := []) 0 (cc_N_bind me (by rw [hhj]; exact g1) g2 g3 hch hcd) hx hb hml hown ht hM hK hZ hS hFr hl.1 lk_L_196 (by decide +kernel) (by decide) me rfl rfl rfl (Nat.le_of_ble_eq_true rfl) dd_L_arriveAt_13 ⟨Nat.zero_le _, Nat.zero_le _⟩ (fun v u2 H locs hp hM hd hle hk hS => ?_)
    obtain ⟨rfl, hu2⟩ := hp
    have hF := fun z9 h => hFr z9 (hd z9 h)
    rw [hf1] at hu2 ⊢
    have kc1 := c1
    rw [hk1] at kc1
    have hca : c_arrive nd aD D pn pt N ho pa nn j = (n_s_vt (n_s_bb r1 (n_bv (n_bnd (n_fi (N j)) r1 (c_chL (va_up N j r1) pa (nn + 1) (pa j))) (d_index (D (ho j)) (pn (ho j)) (n_fi (N j))))) (n_bt (n_bnd (n_fi (N j)) r1 (c_chL (va_up N j r1) pa (nn + 1) (pa j))) (n_fi (N j)) (D (ho j)) (pt (ho j)) (d_index (D (ho j)) (pn (ho j)) (n_fi (N j)))), n_bok (n_bnd (n_fi (N j)) r1 (c_chL (va_up N j r1) pa (nn + 1) (pa j))) (d_index (D (ho j)) (pn (ho j)) (n_fi (N j)))) := by unfold c_arrive; rw [if_pos kc1, ← er1]
    have hR2 := rp_setN hR1 h01 hj (r := n_s_vt (n_s_bb r1 (n_bv (n_bnd (n_fi (N j)) r1 (c_chL (va_up N j r1) pa (nn + 1) (pa j))) (d_index (D (ho j)) (pn (ho j)) (n_fi (N j))))) (n_bt (n_bnd (n_fi (N j)) r1 (c_chL (va_up N j r1) pa (nn + 1) (pa j))) (n_fi (N j)) (D (ho j)) (pt (ho j)) (d_index (D (ho j)) (pn (ho j)) (n_fi (N j))))) (by rw [va_up_self])
    rw [← hu2, bx_uu] at hR2
    exact mw_i hx hb hr hlocks bI_z hM hF hS (Nat.zero_le _) (Nat.zero_le _) ⟨by rw [hca], by rw [hca]; exact hR2⟩ dd_L_arriveAt_16
end
section
/-! leaving nodes: from a leaf up, while each is the last part of its parent -/
def c_hear (N : Nat → nR) (pa : Nat → Option Nat) (i : Nat) : Nat → nR := match pa i with
  | none => N
  | some p => va_up N p (n_hear (N p) (n_pl (N i)) (n_vt (N i)))
abbrev c_tq (pa ca : Nat → Option Nat) (i : Nat) : Nat := (ca ((pa i).getD 0)).getD 0
def c_fit (D : Nat → dR) (pt : Nat → Nat → Int32) (N : Nat → nR) (ho : Nat → Nat) (pa ca : Nat → Option Nat) (i : Nat) : Bool := n_fitsV (N i) (c_q N (pa i)) (D (ho i)) (D (c_tq pa ca i)) (pt (c_tq pa ca i))
def c_mis (D : Nat → dR) (pt : Nat → Nat → Int32) (ho : Nat → Nat) (pa ca : Nat → Option Nat) : Nat → (Nat → nR) → Option Nat → (Nat → nR) × Option Nat
  | 0, N, _ => (N, none)
  | _ + 1, N, none => (N, none)
  | f + 1, N, some i => if c_fit D pt N ho pa ca i = true then (if n_isLast (c_hear N pa i i) (c_q (c_hear N pa i) (pa i)) = true then c_mis D pt ho pa ca f (c_hear N pa i) (pa i) else (c_hear N pa i, none)) else (N, some i)
theorem hear_ho (r : nR) (k t : Int32) : n_ho (n_hear r k t) = n_ho r ∧ n_pa (n_hear r k t) = n_pa r ∧ n_ca (n_hear r k t) = n_ca r ∧ n_num (n_hear r k t) = n_num r := by
  unfold n_hear
  split <;> (split <;> (try split) <;> exact ⟨rfl, rfl, rfl, rfl⟩)
theorem rl_set {nd nn : Nat} {aD aN : Nat → Nat} {D : Nat → dR} {N : Nat → nR} {ho : Nat → Nat} {pa ca op : Nat → Option Nat} (hI : rl nd nn aD aN D N ho pa ca op) {p : Nat} {r : nR} (h1 : n_ho r = n_ho (N p)) (h2 : n_pa r = n_pa (N p)) (h3 : n_ca r = n_ca (N p)) : rl nd nn aD aN D (va_up N p r) ho pa ca op := by
  refine ⟨fun j hj => ?_, hI.2⟩
  by_cases hjp : j = p
  · subst hjp
    rw [va_up_self, h1, h2, h3]
    exact hI.1 j hj
  · rw [va_up_ne _ _ hjp]
    exact hI.1 j hj
theorem rl_hear {nd nn : Nat} {aD aN : Nat → Nat} {D : Nat → dR} {N : Nat → nR} {ho : Nat → Nat} {pa ca op : Nat → Option Nat} (hI : rl nd nn aD aN D N ho pa ca op) (i : Nat) : rl nd nn aD aN D (c_hear N pa i) ho pa ca op := by
  unfold c_hear
  split
  · exact hI
  · exact rl_set hI (hear_ho _ _ _).1 (hear_ho _ _ _).2.1 (hear_ho _ _ _).2.2.1
theorem up_eq {α : Type} {f : Nat → α} {p : Nat} {v : α} (h : v = f p) : va_up f p v = f := by
  funext i
  by_cases hi : i = p
  · subst hi; rw [va_up_self, h]
  · rw [va_up_ne _ _ hi]
theorem rl_mq {G : gC} {M : mC} {nd nn : Nat} {aD aN : Nat → Nat} {D : Nat → dR} {N : Nat → nR} {pn : Nat → Nat → Int64} {pt : Nat → Nat → Int32} {ho : Nat → Nat} {pa ca op : Nat → Option Nat} (hI : rl nd nn aD aN D N ho pa ca op) (hD : rp_D G M nd aD D pn pt) {i : Nat} (hi : i < nn) : (∀ y, n_ca (c_q N (pa i)) = some y → M y = some (dC (D (c_tq pa ca i)))) ∧ (n_ca (c_q N (pa i)) ≠ none → M (d_apt (D (c_tq pa ca i))) = some (iA G 8 (pt (c_tq pa ca i)))) := by
  have hq : (pa i).getD 0 < nn := by
    cases hp : pa i with
    | none => show 0 < nn; omega
    | some p => show p < nn; have := ((hI.1 i hi).2.2.2.1 p hp).1; omega
  refine ⟨fun y hy => ?_, fun hne => ?_⟩
  · obtain ⟨t, ht, et, ea⟩ := rl_ca hI hq hy
    rw [ea]
    show M (aD t) = some (dC (D ((ca ((pa i).getD 0)).getD 0)))
    rw [et]
    exact (hD t ht).1
  · cases hc : n_ca (c_q N (pa i)) with
    | none => exact absurd hc hne
    | some y =>
      obtain ⟨t, ht, et, ea⟩ := rl_ca hI hq hc
      show M (d_apt (D ((ca ((pa i).getD 0)).getD 0))) = some (iA G 8 (pt ((ca ((pa i).getD 0)).getD 0)))
      rw [et]
      exact (hD t ht).2.2.1
theorem mis_none {D : Nat → dR} {pt : Nat → Nat → Int32} {ho : Nat → Nat} {pa ca : Nat → Option Nat} : ∀ (f : Nat) (N : Nat → nR), c_mis D pt ho pa ca f N none = (N, none)
  | 0, _ => rfl
  | _ + 1, _ => rfl
end
section
set_option maxHeartbeats 4000000 in
set_option maxRecDepth 100000 in
theorem cc_L_firstMisfit {l : Launch} {G : gC} {M : mC} {sz : Nat} {x ld ln ed en nd nn : Nat} {aD aN : Nat → Nat} {D : Nat → dR} {N : Nat → nR} {pn : Nat → Nat → Int64} {pt : Nat → Nat → Int32} {kn : Bool} {ft fn mv : Int32} (hR : rp G M x ld ln ed en nd nn aD aN D N pn pt kn ft fn mv) {ho : Nat → Nat} {pa ca op : Nat → Option Nat} (hI : rl nd nn aD aN D N ho pa ca op) {j : Nat} (hj : j < nn) : cW l yy_L_firstMisfit bb_L_firstMisfit 2 (some (.object "LevelTypes$Node")) 3 0 0 G M sz [.ref (aN j)] (fun v u => v = some (va_rf ((c_mis D pt ho pa ca (nn + 1) N (some j)).2.map aN)) ∧ rp G u x ld ln ed en nd nn aD aN D (c_mis D pt ho pa ca (nn + 1) N (some j)).1 pn pt kn ft fn mv) := by
  refine me_W (by decide) (Nat.le_of_ble_eq_true rfl) ?_
  intro p e s m below meth c ls hx hb hr hlocks hml hown hname ht hsz hM hK hZ hl
  have hown : s.vm.findClass RR_L = some m.cls := hown
  have hl : lv_has ls 2 [(0, .ref (aN j))] := hl
  have hS : va_S (fr M sz) s.heap s.heap [] := va_S.rf
  have hF : ∀ q, M q ≠ none → fr M sz q := fr_M
  have hA : ∀ q, s.heap.size ≤ q → fr M sz q := fun q h => fr_A q (by rw [← hsz]; exact h)
  have hE := mz_E hZ
  have loop : ∀ (f : Nat) (o : Option Nat) (M1 : mC) (N1 : Nat → nR) (H : Heap) (locs : List Loc) (ls : Array Slot), (∀ i, o = some i → i < nn ∧ i < f) → rp G M1 x ld ln ed en nd nn aD aN D N1 pn pt kn ft fn mv → rl nd nn aD aN D N1 ho pa ca op → hm G M1 H → (∀ q, M1 q ≠ none → fr M sz q) → va_S (fr M sz) s.heap H locs → lv_has ls 2 [(1, va_rf (o.map aN)), (0, .ref (aN j))] → c_mis D pt ho pa ca f N1 o = (c_mis D pt ho pa ca (nn + 1) N (some j)) → W p l e (rd 3 0 0) s m ([.ref (aN j)] : List Value).toArray below meth c H locs 0 0 (MQ below (cQ G M sz (fun v u => v = some (va_rf ((c_mis D pt ho pa ca (nn + 1) N (some j)).2.map aN)) ∧ rp G u x ld ln ed en nd nn aD aN D (c_mis D pt ho pa ca (nn + 1) N (some j)).1 pn pt kn ft fn mv)) ([.ref (aN j)] : List Value).toArray s 0 0 (fr M sz)) (F0 m 2 ls []) := by
    intro f
    induction f with
    | zero =>
      intro o M1 N1 H locs ls ho9 hR hI hM hF hS hl hres
      cases o with
      | some i => exact absurd (ho9 i rfl).2 (Nat.not_lt_zero _)
      | none =>
        have hl : lv_has ls 2 [(1, .null), (0, .ref (aN j))] := hl
        refine lv_aload_nN hx hb dd_L_firstMisfit_2 rfl (lv_at hl 0 rfl) ?_
        refine lv_ifnullN (tgt := 56) hx hb dd_L_firstMisfit_3 (by decide) ?_
        refine lv_null hx hb dd_L_firstMisfit_56 ?_
        exact mw_a (x := none) hx hb hr (by first | exact Or.inl ⟨_, rfl⟩ | exact Or.inr ⟨_, rfl⟩) hlocks hM hF hS (Nat.zero_le _) (Nat.zero_le _) ⟨by rw [← hres]; rfl, by rw [← hres]; exact hR⟩ dd_L_firstMisfit_57
    | succ f ih =>
      intro o M1 N1 H locs ls ho9 hR hI hM hF hS hl hres
      cases o with
      | none =>
        have hl : lv_has ls 2 [(1, .null), (0, .ref (aN j))] := hl
        refine lv_aload_nN hx hb dd_L_firstMisfit_2 rfl (lv_at hl 0 rfl) ?_
        refine lv_ifnullN (tgt := 56) hx hb dd_L_firstMisfit_3 (by decide) ?_
        refine lv_null hx hb dd_L_firstMisfit_56 ?_
        exact mw_a (x := none) hx hb hr (by first | exact Or.inl ⟨_, rfl⟩ | exact Or.inr ⟨_, rfl⟩) hlocks hM hF hS (Nat.zero_le _) (Nat.zero_le _) ⟨by rw [← hres]; rfl, by rw [← hres]; exact hR⟩ dd_L_firstMisfit_57
      | some i =>
        have hl : lv_has ls 2 [(1, .ref (aN i)), (0, .ref (aN j))] := hl
        obtain ⟨hi, hif⟩ := ho9 i rfl
        obtain ⟨mx, hLd, hLn, hD, hN, -, -, hnn⟩ := id hR
        have h00 := e_none hF hE
        have mi := (hN i hi).1
        have md : M1 (n_ho (N1 i)) = some (dC (D (ho i))) := by rw [(hI.1 i hi).1]; exact (hD _ (hI.1 i hi).2.1).1
        refine lv_aload_n hx hb dd_L_firstMisfit_2 rfl (lv_at hl 0 rfl) ?_
        refine lv_ifnull hx hb dd_L_firstMisfit_3 ?_
        refine lv_aload_n hx hb dd_L_firstMisfit_6 rfl (lv_at hl 0 rfl) ?_
        refine mc_V (As := []) (rest := []) 0 (cc_N_fits mi md (q := c_q N1 (pa i)) (rl_q hI hN hi) (rl_mq hI hD hi).1 (rl_mq hI hD hi).2) hx hb hml hown ht hM hK hl.1 lk_L_212 (by decide +kernel) (by decide) mi rfl rfl rfl (Nat.le_of_ble_eq_true rfl) dd_L_firstMisfit_7 ⟨Nat.zero_le _, Nat.zero_le _⟩ ?_
        refine lb_if_ne (tgt := 15) hx hb dd_L_firstMisfit_10 (by decide) (fun c1 => ?_) (fun c1 => ?_)
        · refine lv_aload_n hx hb dd_L_firstMisfit_15 rfl (lv_at hl 0 rfl) ?_
          refine mg_get hx hb ht ii_N hown hK hM mi rfl 2 (by decide) wd_2_38 (fun _ h => h) rfl dd_L_firstMisfit_16 ?_
          refine lr_ifnull (tgt := 37) hx hb dd_L_firstMisfit_19 (by decide) (fun ey2 => ?_) (fun y2 ey2 => ?_)
          · have epn := rl_pa0 hI hi ey2
            have hce : c_hear N1 pa i = N1 := by unfold c_hear; rw [epn]
            have hR2 : rp G M1 x ld ln ed en nd nn aD aN D (c_hear N1 pa i) pn pt kn ft fn mv := by rw [hce]; exact hR
            have hI2 := rl_hear hI i
            obtain ⟨mx, hLd, hLn, hD, hN, -, -, -⟩ := id hR2
            obtain ⟨cl, ml⟩ := ls_obj hLd
            obtain ⟨ck, mk⟩ := ls_obj hLn
            have mi := (hN i hi).1
            have epa : n_pa (c_hear N1 pa i i) = n_pa (N1 i) := (hI2.1 i hi).2.2.1.trans (hI.1 i hi).2.2.1.symm
            refine lv_aload_n hx hb dd_L_firstMisfit_37 rfl (lv_at hl 0 rfl) ?_
            refine mc_V (As := []) (rest := []) 0 (cc_N_isLastPart mi (q := c_q (c_hear N1 pa i) (pa i)) (rl_q hI2 hN hi)) hx hb hml hown ht hM hK hl.1 lk_L_222 (by decide +kernel) (by decide) mi rfl rfl rfl (Nat.le_of_ble_eq_true rfl) dd_L_firstMisfit_38 ⟨Nat.zero_le _, Nat.zero_le _⟩ ?_
            refine lb_if_eq (tgt := 51) hx hb dd_L_firstMisfit_41 (by decide) (fun c3 => ?_) (fun c3 => ?_)
            · refine lv_null hx hb dd_L_firstMisfit_51 ?_
              refine lv_astore_nN (lv' := [(1, .null), (0, .ref (aN j))]) hx hb dd_L_firstMisfit_52 rfl hl (by decide) rfl (fun ls hl => ?_)
              refine lv_goto (tgt := 2) hx hb dd_L_firstMisfit_53 (by decide) ?_
              have hcm : c_mis D pt ho pa ca (f + 1) N1 (some i) = (c_hear N1 pa i, none) := by
                have cf : c_fit D pt N1 ho pa ca i = true := c1
                unfold c_mis
                rw [if_pos cf]
                by_cases hl9 : n_isLast (c_hear N1 pa i i) (c_q (c_hear N1 pa i) (pa i)) = true
                · rw [if_pos hl9, epn, mis_none]
                · rw [if_neg hl9]
              exact ih none _ _ H locs ls (fun i h => by cases h) hR2 hI2 hM hF hS (lv_sub hl [0, 1] rfl) (by rw [mis_none, ← hres, hcm])
            · refine lv_aload_n hx hb dd_L_firstMisfit_44 rfl (lv_at hl 0 rfl) ?_
              refine mg_get (v := .null) hx hb ht ii_N hown hK hM mi rfl 2 (by decide) wd_2_38 (fun _ h => h) (congrArg (fun z => some (va_rf z)) (epa.trans ey2)) dd_L_firstMisfit_45 ?_
              refine lv_goto (tgt := 52) hx hb dd_L_firstMisfit_48 (by decide) ?_
              refine lv_astore_nN (lv' := [(1, .null), (0, .ref (aN j))]) hx hb dd_L_firstMisfit_52 rfl hl (by decide) rfl (fun ls hl => ?_)
              refine lv_goto (tgt := 2) hx hb dd_L_firstMisfit_53 (by decide) ?_
              have hcm : c_mis D pt ho pa ca (f + 1) N1 (some i) = (c_hear N1 pa i, none) := by
                have cf : c_fit D pt N1 ho pa ca i = true := c1
                unfold c_mis
                rw [if_pos cf]
                by_cases hl9 : n_isLast (c_hear N1 pa i i) (c_q (c_hear N1 pa i) (pa i)) = true
                · rw [if_pos hl9, epn, mis_none]
                · rw [if_neg hl9]
              exact ih none _ _ H locs ls (fun i h => by cases h) hR2 hI2 hM hF hS (lv_sub hl [0, 1] rfl) (by rw [mis_none, ← hres, hcm])
          · obtain ⟨p9, hp9', ep9, ea9⟩ := rl_pa hI hi ey2
            have hp9 : p9 < nn := by omega
            have my2 : M1 y2 = some (nC (N1 p9)) := by rw [ea9]; exact (hN p9 hp9).1
            refine lv_aload_n hx hb dd_L_firstMisfit_22 rfl (lv_at hl 0 rfl) ?_
            refine mg_get (v := .ref y2) hx hb ht ii_N hown hK hM mi rfl 2 (by decide) wd_2_38 (fun _ h => h) (congrArg (fun z => some (va_rf z)) ey2) dd_L_firstMisfit_23 ?_
            refine lv_aload_n hx hb dd_L_firstMisfit_26 rfl (lv_at hl 0 rfl) ?_
            refine mg_get hx hb ht ii_N hown hK hM mi rfl 3 (by decide) wd_2_40 (fun _ h => h) rfl dd_L_firstMisfit_27 ?_
            refine lv_aload_n hx hb dd_L_firstMisfit_30 rfl (lv_at hl 0 rfl) ?_
            refine mg_get hx hb ht ii_N hown hK hM mi rfl 9 (by decide) wd_2_53 (fun _ h => h) rfl dd_L_firstMisfit_31 ?_
            have hFr := hF_fr hF hS hA
            refine mx_V (As := [.int (n_pl (N1 i)), .int (n_vt (N1 i))]) (rest := []) 2 (cc_N_hearOf my2) hx hb hml hown ht hM hK hZ hS hFr hl.1 lk_L_218 (by decide +kernel) (by decide) my2 rfl rfl rfl (Nat.le_of_ble_eq_true rfl) dd_L_firstMisfit_34 ⟨Nat.zero_le _, Nat.zero_le _⟩ (fun v u2 H locs hp hM hd hle hk hS => ?_)
            obtain ⟨rfl, hu⟩ := hp
            have hF := fun z9 h => hFr z9 (hd z9 h)
            have h02 := e_none hF hE
            have hce : c_hear N1 pa i = va_up N1 p9 (n_hear (N1 p9) (n_pl (N1 i)) (n_vt (N1 i))) := by unfold c_hear; rw [ep9]
            have hR2 : rp G u2 x ld ln ed en nd nn aD aN D (c_hear N1 pa i) pn pt kn ft fn mv := by
              rw [hce]
              rcases hu with ⟨e1, e2⟩ | e2
              · rw [e1, up_eq rfl, e2]; exact hR
              · rw [e2, ea9]; exact rp_setN hR h00 hp9 (hear_ho _ _ _).2.2.2
            have hI2 := rl_hear hI i
            obtain ⟨mx, hLd, hLn, hD, hN, -, -, -⟩ := id hR2
            obtain ⟨cl, ml⟩ := ls_obj hLd
            obtain ⟨ck, mk⟩ := ls_obj hLn
            have mi := (hN i hi).1
            have epa : n_pa (c_hear N1 pa i i) = n_pa (N1 i) := (hI2.1 i hi).2.2.1.trans (hI.1 i hi).2.2.1.symm
            refine lv_aload_n hx hb dd_L_firstMisfit_37 rfl (lv_at hl 0 rfl) ?_
            refine mc_V (As := []) (rest := []) 0 (cc_N_isLastPart mi (q := c_q (c_hear N1 pa i) (pa i)) (rl_q hI2 hN hi)) hx hb hml hown ht hM hK hl.1 lk_L_222 (by decide +kernel) (by decide) mi rfl rfl rfl (Nat.le_of_ble_eq_true rfl) dd_L_firstMisfit_38 ⟨Nat.zero_le _, Nat.zero_le _⟩ ?_
            refine lb_if_eq (tgt := 51) hx hb dd_L_firstMisfit_41 (by decide) (fun c4 => ?_) (fun c4 => ?_)
            · refine lv_null hx hb dd_L_firstMisfit_51 ?_
              refine lv_astore_nN (lv' := [(1, .null), (0, .ref (aN j))]) hx hb dd_L_firstMisfit_52 rfl hl (by decide) rfl (fun ls hl => ?_)
              refine lv_goto (tgt := 2) hx hb dd_L_firstMisfit_53 (by decide) ?_
              exact ih none _ _ H locs ls (fun i h => by cases h) hR2 hI2 hM hF hS (lv_sub hl [0, 1] rfl) (by rw [← hres]; cases f <;> simp [c_mis, c_fit, c1, c4])
            · refine lv_aload_n hx hb dd_L_firstMisfit_44 rfl (lv_at hl 0 rfl) ?_
              refine mg_get (v := .ref y2) hx hb ht ii_N hown hK hM mi rfl 2 (by decide) wd_2_38 (fun _ h => h) (congrArg (fun z => some (va_rf z)) (epa.trans ey2)) dd_L_firstMisfit_45 ?_
              refine lv_goto (tgt := 52) hx hb dd_L_firstMisfit_48 (by decide) ?_
              refine lv_astore_n (lv' := [(1, .ref y2), (0, .ref (aN j))]) hx hb dd_L_firstMisfit_52 rfl hl (by decide) rfl (fun ls hl => ?_)
              refine lv_goto (tgt := 2) hx hb dd_L_firstMisfit_53 (by decide) ?_
              exact ih (pa i) _ _ H locs ls (fun q hq => by rw [ep9] at hq; cases hq; omega) hR2 hI2 hM hF hS (by rw [ep9]; show lv_has ls 2 [(1, .ref (aN p9)), _]; rw [← ea9]; exact lv_sub hl [0, 1] rfl) (by rw [← hres]; simp [c_mis, c_fit, c1, c4])
        · refine lv_aload_n hx hb dd_L_firstMisfit_13 rfl (lv_at hl 0 rfl) ?_
          have hcm : c_mis D pt ho pa ca (f + 1) N1 (some i) = (N1, some i) := by simp [c_mis, c_fit, c1]
          rw [hcm] at hres
          exact mw_a (x := (some (aN i))) hx hb hr (by first | exact Or.inl ⟨_, rfl⟩ | exact Or.inr ⟨_, rfl⟩) hlocks hM hF hS (Nat.zero_le _) (Nat.zero_le _) ⟨by rw [← hres]; rfl, by rw [← hres]; exact hR⟩ dd_L_firstMisfit_14
  refine lv_aload_n hx hb dd_L_firstMisfit_0 rfl (lv_at hl 0 rfl) ?_
  refine lv_astore_n (lv' := [(1, .ref (aN j)), (0, .ref (aN j))]) hx hb dd_L_firstMisfit_1 rfl hl (by decide) rfl (fun ls hl => ?_)
  exact loop (nn + 1) (some j) M N s.heap [] ls (fun i h => by cases h; omega) hR hI hM hF hS hl rfl
end
section
/-! looking at a node, and at all -/
def c_ca (nd : Nat) (D : Nat → dR) (N : Nat → nR) (ca : Nat → Option Nat) (j : Nat) : Nat → Option Nat :=
  if n_kd (N j) = 1 then ca else if k_isCall (n_kd (N j)) = true then
    match c_named D (n_fi (N j)) nd 0 with
    | none => ca
    | some t => if n_aimOk (N j) (D t) = true then va_up ca j (some t) else ca
  else ca
abbrev cS : Type := (Nat → nR) × (Nat → Option Nat) × Int32 × Int32 × Int32
def c_at (nd : Nat) (aD : Nat → Nat) (D : Nat → dR) (pn : Nat → Nat → Int64) (pt : Nat → Nat → Int32) (ho : Nat → Nat) (pa : Nat → Option Nat) (nn : Nat) (z : cS) (j : Nat) : cS :=
  let a := c_arrive nd aD D pn pt z.1 ho pa nn j
  let N1 := va_up z.1 j a.1
  let c1 := c_ca nd D z.1 z.2.1 j
  if a.2 = true then
    let mv1 := if z.2.2.2.2 < n_va a.1 then n_va a.1 else z.2.2.2.2
    if n_pt a.1 = 0 then
      let q := c_mis D pt ho pa c1 (nn + 1) N1 (some j)
      match q.2 with
      | none => (q.1, c1, z.2.2.1, z.2.2.2.1, mv1)
      | some i => (q.1, c1, 6, nI i, mv1)
    else (N1, c1, z.2.2.1, z.2.2.2.1, mv1)
  else (N1, c1, 5, nI j, z.2.2.2.2)
theorem rl_ca_up {nd nn : Nat} {aD aN : Nat → Nat} {D : Nat → dR} {N : Nat → nR} {ho : Nat → Nat} {pa ca op : Nat → Option Nat} (hI : rl nd nn aD aN D N ho pa ca op) {p t : Nat} {r : nR} (h1 : n_ho r = n_ho (N p)) (h2 : n_pa r = n_pa (N p)) (h3 : n_ca r = some (aD t)) (ht : t < nd) : rl nd nn aD aN D (va_up N p r) ho pa (va_up ca p (some t)) op := by
  refine ⟨fun j hj => ?_, hI.2⟩
  by_cases hjp : j = p
  · subst hjp
    rw [va_up_self, va_up_self, h1, h2, h3]
    obtain ⟨g1, g2, g3, g4, -, -⟩ := hI.1 j hj
    exact ⟨g1, g2, g3, g4, rfl, fun z hz => by cases hz; exact ht⟩
  · rw [va_up_ne _ _ hjp, va_up_ne _ _ hjp]
    exact hI.1 j hj
theorem rl_arr {nd nn : Nat} {aD aN : Nat → Nat} {D : Nat → dR} {N : Nat → nR} {pn : Nat → Nat → Int64} {pt : Nat → Nat → Int32} {ho : Nat → Nat} {pa ca op : Nat → Option Nat} (hI : rl nd nn aD aN D N ho pa ca op) (j : Nat) : rl nd nn aD aN D (va_up N j (c_arrive nd aD D pn pt N ho pa nn j).1) ho pa (c_ca nd D N ca j) op := by
  unfold c_arrive c_ca
  by_cases h1 : n_kd (N j) = 1
  · simp only [if_pos h1]
    exact rl_set hI rfl rfl rfl
  · simp only [if_neg h1]
    by_cases h2 : k_isCall (n_kd (N j)) = true
    · simp only [if_pos h2]
      cases hn : c_named D (n_fi (N j)) nd 0 with
      | none => exact rl_set hI rfl rfl rfl
      | some t =>
        have ht : t < nd := by have := c_named_lt nd 0 t hn; omega
        by_cases h3 : n_aimOk (N j) (D t) = true
        · have h4 : n_aimOk (n_s_va (N j) (n_count (N j) (c_q N (pa j)) (D (ho j)))) (D t) = true := h3
          simp only [if_pos h3, if_pos h4]
          exact rl_ca_up hI rfl rfl rfl ht
        · have h4 : ¬ n_aimOk (n_s_va (N j) (n_count (N j) (c_q N (pa j)) (D (ho j)))) (D t) = true := h3
          simp only [if_neg h3, if_neg h4]
          exact rl_set hI rfl rfl rfl
    · simp only [if_neg h2]
      exact rl_set hI rfl rfl rfl
theorem rl_mis {nd nn : Nat} {aD aN : Nat → Nat} {D : Nat → dR} {pt : Nat → Nat → Int32} {ho : Nat → Nat} {pa ca op : Nat → Option Nat} : ∀ (f : Nat) (N : Nat → nR) (o : Option Nat), rl nd nn aD aN D N ho pa ca op → (∀ i, o = some i → i < nn) → rl nd nn aD aN D (c_mis D pt ho pa ca f N o).1 ho pa ca op ∧ ∀ i, (c_mis D pt ho pa ca f N o).2 = some i → i < nn
  | 0, N, o, hI, ho9 => ⟨hI, fun i h => by cases h⟩
  | f + 1, N, none, hI, ho9 => ⟨hI, fun i h => by cases h⟩
  | f + 1, N, some i, hI, ho9 => by
    unfold c_mis
    by_cases h1 : c_fit D pt N ho pa ca i = true
    · rw [if_pos h1]
      by_cases h2 : n_isLast (c_hear N pa i i) (c_q (c_hear N pa i) (pa i)) = true
      · rw [if_pos h2]
        exact rl_mis f _ _ (rl_hear hI i) (fun p hp => by have h3 := ((hI.1 i (ho9 i rfl)).2.2.2.1 p hp).1; have h4 := ho9 i rfl; omega)
      · rw [if_neg h2]
        exact ⟨rl_hear hI i, fun z h => by cases h⟩
    · rw [if_neg h1]
      exact ⟨hI, fun z h => by cases h; exact ho9 i rfl⟩
theorem rl_at {nd nn : Nat} {aD aN : Nat → Nat} {D : Nat → dR} {pn : Nat → Nat → Int64} {pt : Nat → Nat → Int32} {ho : Nat → Nat} {pa op : Nat → Option Nat} {z : cS} (hI : rl nd nn aD aN D z.1 ho pa z.2.1 op) {j : Nat} (hj : j < nn) : rl nd nn aD aN D (c_at nd aD D pn pt ho pa nn z j).1 ho pa (c_at nd aD D pn pt ho pa nn z j).2.1 op := by
  have h1 := rl_arr (pn := pn) (pt := pt) hI j
  have h2 := (rl_mis (pt := pt) (nn + 1) _ (some j) h1 (fun i h => by cases h; exact hj)).1
  unfold c_at
  simp only []
  split
  · split
    · split
      · exact h2
      · exact h2
    · exact h1
  · exact h1
/-- from the i-th node on, k to go, while there is no fault -/
def c_all (nd : Nat) (aD : Nat → Nat) (D : Nat → dR) (pn : Nat → Nat → Int64) (pt : Nat → Nat → Int32) (ho : Nat → Nat) (pa : Nat → Option Nat) (nn : Nat) : Nat → Nat → cS → cS
  | 0, _, z => z
  | k + 1, i, z => if z.2.2.1 = 0 then c_all nd aD D pn pt ho pa nn k (i + 1) (c_at nd aD D pn pt ho pa nn z i) else z
def c_lookAll (nd : Nat) (aD : Nat → Nat) (D : Nat → dR) (pn : Nat → Nat → Int64) (pt : Nat → Nat → Int32) (ho : Nat → Nat) (pa : Nat → Option Nat) (nn : Nat) (z : cS) : cS :=
  if c_main nd D pt = true then c_all nd aD D pn pt ho pa nn nn 0 z else (z.1, z.2.1, 4, z.2.2.2.1, z.2.2.2.2)
theorem rl_all {nd nn : Nat} {aD aN : Nat → Nat} {D : Nat → dR} {pn : Nat → Nat → Int64} {pt : Nat → Nat → Int32} {ho : Nat → Nat} {pa op : Nat → Option Nat} : ∀ (k i : Nat) (z : cS), i + k = nn → rl nd nn aD aN D z.1 ho pa z.2.1 op → rl nd nn aD aN D (c_all nd aD D pn pt ho pa nn k i z).1 ho pa (c_all nd aD D pn pt ho pa nn k i z).2.1 op
  | 0, i, z, _, h => h
  | k + 1, i, z, hik, h => by
    unfold c_all
    split
    · exact rl_all k (i + 1) _ (by omega) (rl_at h (by omega))
    · exact h
theorem rl_lookAll {nd nn : Nat} {aD aN : Nat → Nat} {D : Nat → dR} {pn : Nat → Nat → Int64} {pt : Nat → Nat → Int32} {ho : Nat → Nat} {pa op : Nat → Option Nat} {z : cS} (h : rl nd nn aD aN D z.1 ho pa z.2.1 op) : rl nd nn aD aN D (c_lookAll nd aD D pn pt ho pa nn z).1 ho pa (c_lookAll nd aD D pn pt ho pa nn z).2.1 op := by
  unfold c_lookAll
  split
  · exact rl_all nn 0 z (by omega) h
  · exact h
end
section
set_option maxHeartbeats 4000000 in
set_option maxRecDepth 100000 in
theorem cc_L_lookAt {l : Launch} {G : gC} {M : mC} {sz : Nat} {x ld ln ed en nd nn : Nat} {aD aN : Nat → Nat} {D : Nat → dR} {N : Nat → nR} {pn : Nat → Nat → Int64} {pt : Nat → Nat → Int32} {kn : Bool} {ft fn mv : Int32} (hR : rp G M x ld ln ed en nd nn aD aN D N pn pt kn ft fn mv) {ho : Nat → Nat} {pa ca op : Nat → Option Nat} (hI : rl nd nn aD aN D N ho pa ca op) {j : Nat} (hj : j < nn) : cW l yy_L_lookAt bb_L_lookAt 3 none 5 0 0 G M sz [.ref x, .ref (aN j)] (fun v u => v = none ∧ rp G u x ld ln ed en nd nn aD aN D (c_at nd aD D pn pt ho pa nn (N, ca, ft, fn, mv) j).1 pn pt kn (c_at nd aD D pn pt ho pa nn (N, ca, ft, fn, mv) j).2.2.1 (c_at nd aD D pn pt ho pa nn (N, ca, ft, fn, mv) j).2.2.2.1 (c_at nd aD D pn pt ho pa nn (N, ca, ft, fn, mv) j).2.2.2.2) := by
  refine me_W (by decide) (Nat.le_of_ble_eq_true rfl) ?_
  intro p e s m below meth c ls hx hb hr hlocks hml hown hname ht hsz hM hK hZ hl
  have hown : s.vm.findClass RR_L = some m.cls := hown
  have hl : lv_has ls 3 [(0, .ref x), (1, .ref (aN j))] := hl
  have hS : va_S (fr M sz) s.heap s.heap [] := va_S.rf
  have hF : ∀ q, M q ≠ none → fr M sz q := fr_M
  have hA : ∀ q, s.heap.size ≤ q → fr M sz q := fun q h => fr_A q (by rw [← hsz]; exact h)
  obtain ⟨mx, hLd, hLn, hD, hN, hAp, hnd, hnn⟩ := id hR
  obtain ⟨cl, ml⟩ := ls_obj hLd
  obtain ⟨ck, mk⟩ := ls_obj hLn
  have hE := mz_E hZ
  have h00 := mz_none hZ
  have me := (hN j hj).1
  refine lv_aload_n hx hb dd_L_lookAt_0 rfl (lv_at hl 0 rfl) ?_
  refine lv_aload_n hx hb dd_L_lookAt_1 rfl (lv_at hl 1 rfl) ?_
  have hFr := hF_fr hF hS hA
  refine mx_V (As := [.ref (aN j)]) (rest := []) 1 (cc_L_arriveAt hR hI hj) hx hb hml hown ht hM hK hZ hS hFr hl.1 lk_L_176 (by decide +kernel) (by decide) mx rfl rfl rfl (Nat.le_of_ble_eq_true rfl) dd_L_lookAt_2 ⟨Nat.zero_le _, Nat.zero_le _⟩ (fun v u1 H locs hp hM hd hle hk hS => ?_)
  have hI1 := rl_arr (pn := pn) (pt := pt) hI j
  obtain ⟨ar, ear⟩ : ∃ z, z = c_arrive nd aD D pn pt N ho pa nn j := ⟨_, rfl⟩
  obtain ⟨cn9, ec1⟩ : ∃ z, z = c_ca nd D N ca j := ⟨_, rfl⟩
  obtain ⟨N1, eN1⟩ : ∃ z, z = va_up N j ar.1 := ⟨_, rfl⟩
  rw [← ear] at hp hI1
  rw [← ec1] at hI1
  rw [← eN1] at hp hI1
  obtain ⟨rfl, hR1⟩ := hp
  have hF := fun z9 h => hFr z9 (hd z9 h)
  have h01 := e_none hF hE
  obtain ⟨mx, hLd, hLn, hD, hN, -, -, -⟩ := id hR1
  obtain ⟨cl, ml⟩ := ls_obj hLd
  obtain ⟨ck, mk⟩ := ls_obj hLn
  have mx1 := mx
  have me : u1 (aN j) = some (nC ar.1) := by have := (hN j hj).1; rw [eN1, va_up_self] at this; exact this
  have men := (hN j hj).2
  rw [eN1, va_up_self] at men
  have hax : aN j ≠ x := fun z => by rw [z, mx] at me; cases me
  refine lb_if_ne (tgt := 22) hx hb dd_L_lookAt_5 (by decide) (fun c1 => ?_) (fun c1 => ?_)
  · refine lv_aload_n hx hb dd_L_lookAt_22 rfl (lv_at hl 0 rfl) ?_
    refine lv_aload_n hx hb dd_L_lookAt_23 rfl (lv_at hl 0 rfl) ?_
    refine mg_get hx hb ht ii_L hown hK hM mx rfl 5 (by decide) wd_1_55 (fun _ h => h) rfl dd_L_lookAt_24 ?_
    refine lv_aload_n hx hb dd_L_lookAt_27 rfl (lv_at hl 1 rfl) ?_
    refine mg_get hx hb ht ii_N hown hK hM me rfl 13 (by decide) wd_2_60 (fun _ h => h) rfl dd_L_lookAt_28 ?_
    refine va_mmax (rest := [.ref x]) hx hb (hml.trans hl.1.symm) hown (ht _ wd_2_151) (ht _ wd_1_187) (ht _ wd_1_11) (ht _ wd_1_188) (Nat.le_of_ble_eq_true rfl) (Nat.le_of_ble_eq_true rfl) (Nat.zero_le _) (Nat.zero_le _) dd_L_lookAt_31 ?_
    obtain ⟨mv1, emv⟩ : ∃ z : Int32, z = (if mv < (n_va ar.1) then (n_va ar.1) else mv) := ⟨_, rfl⟩
    rw [← emv]
    refine mg_put (v := .int mv1) hx hb ht ii_L tt_L tt_L_ok nn_L hown hK hM hS (hF _ (by rw [mx]; exact Option.some_ne_none _)) mx rfl 5 (by decide) wd_1_55 (fun _ h => h) (Or.inl rfl) rfl rfl rfl (Nat.le_of_ble_eq_true rfl) dd_L_lookAt_34 (fun H locs hM hz hoq hS => ?_)
    have hM : hm G (mp_up u1 x (.inr (0, [.ref ld, .ref ln, .int (bI kn), .int ft, .int fn, .int mv1]))) H := hM
    have hF : ∀ z9, (mp_up u1 x (.inr (0, [.ref ld, .ref ln, .int (bI kn), .int ft, .int fn, .int mv1]))) z9 ≠ none → fr M sz z9 := hF_put hF (hF _ (by rw [mx]; exact Option.some_ne_none _))
    have mx : (mp_up u1 x (.inr (0, [.ref ld, .ref ln, .int (bI kn), .int ft, .int fn, .int mv1]))) x = some (.inr (0, [.ref ld, .ref ln, .int (bI kn), .int ft, .int fn, .int mv1])) := mp_self _ _ _
    refine lv_aload_n hx hb dd_L_lookAt_37 rfl (lv_at hl 1 rfl) ?_
    have me := mp_at (M := u1) (a := x) (e := (.inr (0, [.ref ld, .ref ln, .int (bI kn), .int ft, .int fn, .int mv1]))) hax me
    refine mg_get hx hb ht ii_N hown hK hM me rfl 7 (by decide) wd_2_49 (fun _ h => h) rfl dd_L_lookAt_38 ?_
    refine lv_if_ne (tgt := 51) hx hb dd_L_lookAt_41 (by decide) (fun c2 => ?_) (fun c2 => ?_)
    · refine lv_null hx hb dd_L_lookAt_51 ?_
      refine lv_astore_nN (lv' := [(2, .null), (0, .ref x), (1, .ref (aN j))]) hx hb dd_L_lookAt_52 rfl hl (by decide) rfl (fun ls hl => ?_)
      refine lv_aload_nN hx hb dd_L_lookAt_53 rfl (lv_at hl 0 rfl) ?_
      refine lv_ifnullN (tgt := 71) hx hb dd_L_lookAt_54 (by decide) ?_
      have hca : (c_at nd aD D pn pt ho pa nn (N, ca, ft, fn, mv) j) = (N1, cn9, ft, fn, mv1) := by
        simp only [c_at]
        rw [← ear, ← ec1, ← eN1, if_pos c1, ← emv, if_neg c2]
      exact mw_v hx hb hr hlocks hM hF hS (Nat.zero_le _) (Nat.zero_le _) ⟨rfl, by rw [hca]; exact rp_setX (kn' := kn) (ft' := ft) (fn' := fn) (mv' := mv1) hR1 h01⟩ dd_L_lookAt_71
    · refine lv_aload_n hx hb dd_L_lookAt_44 rfl (lv_at hl 1 rfl) ?_
      have hR2 := rp_setX (kn' := kn) (ft' := ft) (fn' := fn) (mv' := mv1) hR1 h01
      have hFr := hF_fr hF hS hA
      refine mx_S (As := [.ref (aN j)]) (rest := []) 1 (cc_L_firstMisfit hR2 hI1 hj) hx hb hml hown ht hM hK hZ hS hFr hl.1 lk_L_189 (by decide +kernel) (by decide) rfl rfl (Nat.le_of_ble_eq_true rfl) dd_L_lookAt_45 ⟨Nat.zero_le _, Nat.zero_le _⟩ (fun v u3 H locs hp hM hd hle hk hS => ?_)
      have hil := (rl_mis (pt := pt) (nn + 1) N1 (some j) hI1 (fun i h => by cases h; exact hj)).2
      obtain ⟨q, eq9⟩ : ∃ z, z = c_mis D pt ho pa cn9 (nn + 1) N1 (some j) := ⟨_, rfl⟩
      rw [← eq9] at hp hil
      obtain ⟨rfl, hR3⟩ := hp
      have hF := fun z9 h => hFr z9 (hd z9 h)
      have h03 := e_none hF hE
      obtain ⟨mx, hLd, hLn, hD, hN, -, -, -⟩ := id hR3
      obtain ⟨cl, ml⟩ := ls_obj hLd
      obtain ⟨ck, mk⟩ := ls_obj hLn
      have mx3 := mx
      rcases ey3 : (q.2.map aN) with _ | y3
      · refine lv_goto (tgt := 52) hx hb dd_L_lookAt_48 (by decide) ?_
        refine lv_astore_nN (lv' := [(2, .null), (0, .ref x), (1, .ref (aN j))]) hx hb dd_L_lookAt_52 rfl hl (by decide) rfl (fun ls hl => ?_)
        refine lv_aload_nN hx hb dd_L_lookAt_53 rfl (lv_at hl 0 rfl) ?_
        refine lv_ifnullN (tgt := 71) hx hb dd_L_lookAt_54 (by decide) ?_
        have hca : (c_at nd aD D pn pt ho pa nn (N, ca, ft, fn, mv) j) = (q.1, cn9, ft, fn, mv1) := by
          simp only [c_at]
          rw [← ear, ← ec1, ← eN1, if_pos c1, ← emv, if_pos c2, ← eq9, map_none ey3]
        exact mw_v hx hb hr hlocks hM hF hS (Nat.zero_le _) (Nat.zero_le _) ⟨rfl, by rw [hca]; exact hR3⟩ dd_L_lookAt_71
      · obtain ⟨i9, ei9, ea9⟩ := map_some ey3
        have hi9 := hil i9 ei9
        have my3 : u3 y3 = some (nC (q.1 i9)) := by rw [ea9]; exact (hN i9 hi9).1
        have men9 := (hN i9 hi9).2
        have hyx : y3 ≠ x := fun z => by rw [z, mx3] at my3; cases my3
        refine lv_goto (tgt := 52) hx hb dd_L_lookAt_48 (by decide) ?_
        refine lv_astore_n (lv' := [(2, .ref y3), (0, .ref x), (1, .ref (aN j))]) hx hb dd_L_lookAt_52 rfl hl (by decide) rfl (fun ls hl => ?_)
        refine lv_aload_n hx hb dd_L_lookAt_53 rfl (lv_at hl 0 rfl) ?_
        refine lv_ifnull hx hb dd_L_lookAt_54 ?_
        refine lv_aload_n hx hb dd_L_lookAt_57 rfl (lv_at hl 1 rfl) ?_
        refine lv_bipush (v := 6) hx hb dd_L_lookAt_58 (by decide) ?_
        refine mg_put (v := .int 6) hx hb ht ii_L tt_L tt_L_ok nn_L hown hK hM hS (hF _ (by rw [mx]; exact Option.some_ne_none _)) mx rfl 3 (by decide) wd_1_53 (fun _ h => h) (Or.inl rfl) rfl rfl rfl (Nat.le_of_ble_eq_true rfl) dd_L_lookAt_60 (fun H locs hM hz hoq hS => ?_)
        have hM : hm G (mp_up u3 x (.inr (0, [.ref ld, .ref ln, .int (bI kn), .int 6, .int fn, .int mv1]))) H := hM
        have hF : ∀ z9, (mp_up u3 x (.inr (0, [.ref ld, .ref ln, .int (bI kn), .int 6, .int fn, .int mv1]))) z9 ≠ none → fr M sz z9 := hF_put hF (hF _ (by rw [mx]; exact Option.some_ne_none _))
        have mx : (mp_up u3 x (.inr (0, [.ref ld, .ref ln, .int (bI kn), .int 6, .int fn, .int mv1]))) x = some (.inr (0, [.ref ld, .ref ln, .int (bI kn), .int 6, .int fn, .int mv1])) := mp_self _ _ _
        refine lv_aload_n hx hb dd_L_lookAt_63 rfl (lv_at hl 1 rfl) ?_
        refine lv_aload_n hx hb dd_L_lookAt_64 rfl (lv_at hl 0 rfl) ?_
        have my3 := mp_at (M := u3) (a := x) (e := (.inr (0, [.ref ld, .ref ln, .int (bI kn), .int 6, .int fn, .int mv1]))) hyx my3
        refine mg_get hx hb ht ii_N hown hK hM my3 rfl 0 (by decide) wd_2_33 (fun _ h => h) rfl dd_L_lookAt_65 ?_
        refine mg_put (v := .int (n_num (q.1 i9))) hx hb ht ii_L tt_L tt_L_ok nn_L hown hK hM hS (hF _ (by rw [mx]; exact Option.some_ne_none _)) mx rfl 4 (by decide) wd_1_54 (fun _ h => h) (Or.inl rfl) rfl rfl rfl (Nat.le_of_ble_eq_true rfl) dd_L_lookAt_68 (fun H locs hM hz hoq hS => ?_)
        rw [mp_mp] at hM
        have hM : hm G (mp_up u3 x (.inr (0, [.ref ld, .ref ln, .int (bI kn), .int 6, .int (n_num (q.1 i9)), .int mv1]))) H := hM
        have hF : ∀ z9, (mp_up u3 x (.inr (0, [.ref ld, .ref ln, .int (bI kn), .int 6, .int (n_num (q.1 i9)), .int mv1]))) z9 ≠ none → fr M sz z9 := hF_same hF
        have mx : (mp_up u3 x (.inr (0, [.ref ld, .ref ln, .int (bI kn), .int 6, .int (n_num (q.1 i9)), .int mv1]))) x = some (.inr (0, [.ref ld, .ref ln, .int (bI kn), .int 6, .int (n_num (q.1 i9)), .int mv1])) := mp_self _ _ _
        have hca : (c_at nd aD D pn pt ho pa nn (N, ca, ft, fn, mv) j) = (q.1, cn9, 6, nI i9, mv1) := by
          simp only [c_at]
          rw [← ear, ← ec1, ← eN1, if_pos c1, ← emv, if_pos c2, ← eq9, ei9]
        have hRz := rp_setX (kn' := kn) (ft' := 6) (fn' := n_num (q.1 i9)) (mv' := mv1) hR3 h03
        exact mw_v hx hb hr hlocks hM hF hS (Nat.zero_le _) (Nat.zero_le _) ⟨rfl, by rw [hca]; show rp G _ x ld ln ed en nd nn aD aN D q.1 pn pt kn 6 (nI i9) mv1; rw [← men9]; exact hRz⟩ dd_L_lookAt_71
  · refine lv_aload_n hx hb dd_L_lookAt_8 rfl (lv_at hl 0 rfl) ?_
    refine lv_iconst (v := 5) hx hb dd_L_lookAt_9 (by decide) ?_
    refine mg_put (v := .int 5) hx hb ht ii_L tt_L tt_L_ok nn_L hown hK hM hS (hF _ (by rw [mx]; exact Option.some_ne_none _)) mx rfl 3 (by decide) wd_1_53 (fun _ h => h) (Or.inl rfl) rfl rfl rfl (Nat.le_of_ble_eq_true rfl) dd_L_lookAt_10 (fun H locs hM hz hoq hS => ?_)
    have hM : hm G (mp_up u1 x (.inr (0, [.ref ld, .ref ln, .int (bI kn), .int 5, .int fn, .int mv]))) H := hM
    have hF : ∀ z9, (mp_up u1 x (.inr (0, [.ref ld, .ref ln, .int (bI kn), .int 5, .int fn, .int mv]))) z9 ≠ none → fr M sz z9 := hF_put hF (hF _ (by rw [mx]; exact Option.some_ne_none _))
    have mx : (mp_up u1 x (.inr (0, [.ref ld, .ref ln, .int (bI kn), .int 5, .int fn, .int mv]))) x = some (.inr (0, [.ref ld, .ref ln, .int (bI kn), .int 5, .int fn, .int mv])) := mp_self _ _ _
    refine lv_aload_n hx hb dd_L_lookAt_13 rfl (lv_at hl 0 rfl) ?_
    refine lv_aload_n hx hb dd_L_lookAt_14 rfl (lv_at hl 1 rfl) ?_
    have me := mp_at (M := u1) (a := x) (e := (.inr (0, [.ref ld, .ref ln, .int (bI kn), .int 5, .int fn, .int mv]))) hax me
    refine mg_get hx hb ht ii_N hown hK hM me rfl 0 (by decide) wd_2_33 (fun _ h => h) rfl dd_L_lookAt_15 ?_
    refine mg_put (v := .int (n_num ar.1)) hx hb ht ii_L tt_L tt_L_ok nn_L hown hK hM hS (hF _ (by rw [mx]; exact Option.some_ne_none _)) mx rfl 4 (by decide) wd_1_54 (fun _ h => h) (Or.inl rfl) rfl rfl rfl (Nat.le_of_ble_eq_true rfl) dd_L_lookAt_18 (fun H locs hM hz hoq hS => ?_)
    rw [mp_mp] at hM
    have hM : hm G (mp_up u1 x (.inr (0, [.ref ld, .ref ln, .int (bI kn), .int 5, .int (n_num ar.1), .int mv]))) H := hM
    have hF : ∀ z9, (mp_up u1 x (.inr (0, [.ref ld, .ref ln, .int (bI kn), .int 5, .int (n_num ar.1), .int mv]))) z9 ≠ none → fr M sz z9 := hF_same hF
    have mx : (mp_up u1 x (.inr (0, [.ref ld, .ref ln, .int (bI kn), .int 5, .int (n_num ar.1), .int mv]))) x = some (.inr (0, [.ref ld, .ref ln, .int (bI kn), .int 5, .int (n_num ar.1), .int mv])) := mp_self _ _ _
    have hca : (c_at nd aD D pn pt ho pa nn (N, ca, ft, fn, mv) j) = (N1, cn9, 5, nI j, mv) := by
      simp only [c_at]
      rw [← ear, ← ec1, ← eN1, if_neg (by rw [c1]; decide)]
    have hRz := rp_setX (kn' := kn) (ft' := 5) (fn' := n_num ar.1) (mv' := mv) hR1 h01
    exact mw_v hx hb hr hlocks hM hF hS (Nat.zero_le _) (Nat.zero_le _) ⟨rfl, by rw [hca]; show rp G _ x ld ln ed en nd nn aD aN D N1 pn pt kn 5 (nI j) mv; rw [← men]; exact hRz⟩ dd_L_lookAt_21

set_option maxHeartbeats 4000000 in
set_option maxRecDepth 100000 in
theorem cc_L_lookAtAll {l : Launch} {G : gC} {M : mC} {sz : Nat} {x ld ln ed en nd nn : Nat} {aD aN : Nat → Nat} {D : Nat → dR} {N : Nat → nR} {pn : Nat → Nat → Int64} {pt : Nat → Nat → Int32} {kn : Bool} {ft fn mv : Int32} (hR : rp G M x ld ln ed en nd nn aD aN D N pn pt kn ft fn mv) {ho : Nat → Nat} {pa ca op : Nat → Option Nat} (hI : rl nd nn aD aN D N ho pa ca op) : cW l yy_L_lookAtAll bb_L_lookAtAll 2 none 6 0 0 G M sz [.ref x] (fun v u => v = none ∧ rp G u x ld ln ed en nd nn aD aN D (c_lookAll nd aD D pn pt ho pa nn (N, ca, ft, fn, mv)).1 pn pt kn (c_lookAll nd aD D pn pt ho pa nn (N, ca, ft, fn, mv)).2.2.1 (c_lookAll nd aD D pn pt ho pa nn (N, ca, ft, fn, mv)).2.2.2.1 (c_lookAll nd aD D pn pt ho pa nn (N, ca, ft, fn, mv)).2.2.2.2) := by
  refine me_W (by decide) (Nat.le_of_ble_eq_true rfl) ?_
  intro p e s m below meth c ls hx hb hr hlocks hml hown hname ht hsz hM hK hZ hl
  have hown : s.vm.findClass RR_L = some m.cls := hown
  have hl : lv_has ls 2 [(0, .ref x)] := hl
  have hS : va_S (fr M sz) s.heap s.heap [] := va_S.rf
  have hF : ∀ q, M q ≠ none → fr M sz q := fr_M
  have hA : ∀ q, s.heap.size ≤ q → fr M sz q := fun q h => fr_A q (by rw [← hsz]; exact h)
  have h00 := mz_none hZ
  have loop : c_main nd D pt = true → ∀ (k i : Nat) (M1 : mC) (N1 : Nat → nR) (ca1 : Nat → Option Nat) (ft1 fn1 mv1 : Int32) (H : Heap) (locs : List Loc) (ls : Array Slot), i + k = nn → rp G M1 x ld ln ed en nd nn aD aN D N1 pn pt kn ft1 fn1 mv1 → rl nd nn aD aN D N1 ho pa ca1 op → hm G M1 H → (∀ q, M1 q ≠ none → fr M sz q) → va_S (fr M sz) s.heap H locs → lv_has ls 2 [(1, .int (nI i)), (0, .ref x)] → c_all nd aD D pn pt ho pa nn k i (N1, ca1, ft1, fn1, mv1) = c_all nd aD D pn pt ho pa nn nn 0 (N, ca, ft, fn, mv) → W p l e (rd 6 0 0) s m ([.ref x] : List Value).toArray below meth c H locs 0 0 (MQ below (cQ G M sz (fun v u => v = none ∧ rp G u x ld ln ed en nd nn aD aN D (c_lookAll nd aD D pn pt ho pa nn (N, ca, ft, fn, mv)).1 pn pt kn (c_lookAll nd aD D pn pt ho pa nn (N, ca, ft, fn, mv)).2.2.1 (c_lookAll nd aD D pn pt ho pa nn (N, ca, ft, fn, mv)).2.2.2.1 (c_lookAll nd aD D pn pt ho pa nn (N, ca, ft, fn, mv)).2.2.2.2)) ([.ref x] : List Value).toArray s 0 0 (fr M sz)) (F0 m 15 ls []) := by
    intro hmain k
    have hal : c_lookAll nd aD D pn pt ho pa nn (N, ca, ft, fn, mv) = c_all nd aD D pn pt ho pa nn nn 0 (N, ca, ft, fn, mv) := by unfold c_lookAll; rw [if_pos hmain]
    induction k with
    | zero =>
      intro i M1 N1 ca1 ft1 fn1 mv1 H locs ls hik hR hI hM hF hS hl hres
      obtain ⟨mx, hLd, hLn, hD, hN, hAp, hnd, hnn⟩ := id hR
      obtain ⟨cl, ml⟩ := ls_obj hLd
      obtain ⟨ck, mk⟩ := ls_obj hLn
      refine lv_iload_n hx hb dd_L_lookAtAll_15 rfl (lv_at hl 0 rfl) ?_
      refine lv_aload_n hx hb dd_L_lookAtAll_16 rfl (lv_at hl 1 rfl) ?_
      refine mg_get hx hb ht ii_L hown hK hM mx rfl 1 (by decide) wd_1_51 (fun _ h => h) rfl dd_L_lookAtAll_17 ?_
      refine mc_V (As := []) (rest := [.int (nI i)]) 0 (ls_size hLn) hx hb hml hown ht hM hK hl.1 lk_L_49 (by decide +kernel) (by decide) mk rfl rfl rfl (Nat.le_of_ble_eq_true rfl) dd_L_lookAtAll_20 ⟨Nat.zero_le _, Nat.zero_le _⟩ ?_
      refine lv_icmp_ge (tgt := 54) hx hb dd_L_lookAtAll_23 (by decide) (fun _ => ?_) (fun z => absurd (nI_le (a := nn) (b := i) (by omega) (by omega)) z)
      exact mw_v hx hb hr hlocks hM hF hS (Nat.zero_le _) (Nat.zero_le _) ⟨rfl, by rw [hal, ← hres]; exact hR⟩ dd_L_lookAtAll_54
    | succ k ih =>
      intro i M1 N1 ca1 ft1 fn1 mv1 H locs ls hik hR hI hM hF hS hl hres
      obtain ⟨mx, hLd, hLn, hD, hN, hAp, hnd, hnn⟩ := id hR
      obtain ⟨cl, ml⟩ := ls_obj hLd
      obtain ⟨ck, mk⟩ := ls_obj hLn
      refine lv_iload_n hx hb dd_L_lookAtAll_15 rfl (lv_at hl 0 rfl) ?_
      refine lv_aload_n hx hb dd_L_lookAtAll_16 rfl (lv_at hl 1 rfl) ?_
      refine mg_get hx hb ht ii_L hown hK hM mx rfl 1 (by decide) wd_1_51 (fun _ h => h) rfl dd_L_lookAtAll_17 ?_
      refine mc_V (As := []) (rest := [.int (nI i)]) 0 (ls_size hLn) hx hb hml hown ht hM hK hl.1 lk_L_49 (by decide +kernel) (by decide) mk rfl rfl rfl (Nat.le_of_ble_eq_true rfl) dd_L_lookAtAll_20 ⟨Nat.zero_le _, Nat.zero_le _⟩ ?_
      refine lv_icmp_ge (tgt := 54) hx hb dd_L_lookAtAll_23 (by decide) (fun z => absurd z (nI_ge (a := i) (b := nn) (by omega) (by omega))) (fun _ => ?_)
      refine lv_aload_n hx hb dd_L_lookAtAll_26 rfl (lv_at hl 1 rfl) ?_
      refine mg_get hx hb ht ii_L hown hK hM mx rfl 3 (by decide) wd_1_53 (fun _ h => h) rfl dd_L_lookAtAll_27 ?_
      refine lv_if_ne (tgt := 54) hx hb dd_L_lookAtAll_30 (by decide) (fun c1 => ?_) (fun c1 => ?_)
      · exact mw_v hx hb hr hlocks hM hF hS (Nat.zero_le _) (Nat.zero_le _) ⟨rfl, by rw [hal, ← hres]; simp only [c_all]; rw [if_neg c1]; exact hR⟩ dd_L_lookAtAll_54
      · refine lv_aload_n hx hb dd_L_lookAtAll_33 rfl (lv_at hl 1 rfl) ?_
        refine lv_aload_n hx hb dd_L_lookAtAll_34 rfl (lv_at hl 1 rfl) ?_
        refine mg_get hx hb ht ii_L hown hK hM mx rfl 1 (by decide) wd_1_51 (fun _ h => h) rfl dd_L_lookAtAll_35 ?_
        refine lv_iload_n hx hb dd_L_lookAtAll_38 rfl (lv_at hl 0 rfl) ?_
        refine mc_V (As := [.int (nI i)]) (rest := [.ref x]) 1 (ls_get hLn (i := i) (show i < nn by omega)) hx hb hml hown ht hM hK hl.1 lk_L_152 (by decide +kernel) (by decide) mk rfl rfl rfl (Nat.le_of_ble_eq_true rfl) dd_L_lookAtAll_39 ⟨Nat.zero_le _, Nat.zero_le _⟩ ?_
        have me := (hN i (show i < nn by omega)).1
        refine va_castS hx hb hown (ht _ wd_2_26) (hK.1.1 2 _ rfl).2 (m_recv hK hM me rfl) dd_L_lookAtAll_42 ?_
        have hFr := hF_fr hF hS hA
        refine mx_V (As := [.ref (aN i)]) (rest := []) 1 (cc_L_lookAt hR hI (show i < nn by omega)) hx hb hml hown ht hM hK hZ hS hFr hl.1 lk_L_163 (by decide +kernel) (by decide) mx rfl rfl rfl (Nat.le_of_ble_eq_true rfl) dd_L_lookAtAll_45 ⟨Nat.zero_le _, Nat.zero_le _⟩ (fun v u2 H locs hp hM hd hle hk hS => ?_)
        obtain ⟨rfl, hR2⟩ := hp
        have hF := fun z9 h => hFr z9 (hd z9 h)
        have hI2 := rl_at (pn := pn) (pt := pt) (z := (N1, ca1, ft1, fn1, mv1)) hI (show i < nn by omega)
        obtain ⟨x2, ex2⟩ : ∃ y : Int32, y = (nI i) + 1 := ⟨_, rfl⟩
        refine lv_iinc (v := x2) (lv' := [(1, .int x2), (0, .ref x)]) hx hb dd_L_lookAtAll_48 hl (k := 0) rfl (by rw [ex2]; rfl) (by decide) rfl (fun ls hl => ?_)
        refine lv_goto (tgt := 15) hx hb dd_L_lookAtAll_51 (by decide) ?_
        rw [ex2, nI_1] at hl
        exact ih (i + 1) u2 _ _ _ _ _ H locs ls (by omega) hR2 hI2 hM hF hS hl (by rw [← hres]; simp only [c_all]; rw [if_pos c1])
  obtain ⟨mx, hLd, hLn, hD, hN, hAp, hnd, hnn⟩ := id hR
  obtain ⟨cl, ml⟩ := ls_obj hLd
  obtain ⟨ck, mk⟩ := ls_obj hLn
  refine lv_aload_n hx hb dd_L_lookAtAll_0 rfl (lv_at hl 0 rfl) ?_
  refine mc_V (As := []) (rest := []) 0 (cc_L_endsInMain hR) hx hb hml hown ht hM hK hl.1 lk_L_160 (by decide +kernel) (by decide) mx rfl rfl rfl (Nat.le_of_ble_eq_true rfl) dd_L_lookAtAll_1 ⟨Nat.zero_le _, Nat.zero_le _⟩ ?_
  refine lb_if_ne (tgt := 13) hx hb dd_L_lookAtAll_4 (by decide) (fun c1 => ?_) (fun c1 => ?_)
  · refine lv_iconst (v := 0) hx hb dd_L_lookAtAll_13 (by decide) ?_
    refine lv_istore_n (lv' := [(1, .int 0), (0, .ref x)]) hx hb dd_L_lookAtAll_14 rfl hl (by decide) rfl (fun ls hl => ?_)
    exact loop c1 nn 0 M N ca ft fn mv s.heap [] ls (by omega) hR hI hM hF hS (by rw [nI_0]; exact hl) rfl
  · refine lv_aload_n hx hb dd_L_lookAtAll_7 rfl (lv_at hl 0 rfl) ?_
    refine lv_iconst (v := 4) hx hb dd_L_lookAtAll_8 (by decide) ?_
    refine mg_put (v := .int 4) hx hb ht ii_L tt_L tt_L_ok nn_L hown hK hM hS (hF _ (by rw [mx]; exact Option.some_ne_none _)) mx rfl 3 (by decide) wd_1_53 (fun _ h => h) (Or.inl rfl) rfl rfl rfl (Nat.le_of_ble_eq_true rfl) dd_L_lookAtAll_9 (fun H locs hM hz hoq hS => ?_)
    have hsz := hz.trans hsz
    have hM : hm G (mp_up M x (.inr (0, [.ref ld, .ref ln, .int (bI kn), .int 4, .int fn, .int mv]))) H := hM
    have hF : ∀ z9, (mp_up M x (.inr (0, [.ref ld, .ref ln, .int (bI kn), .int 4, .int fn, .int mv]))) z9 ≠ none → fr M sz z9 := hF_put hF (hF _ (by rw [mx]; exact Option.some_ne_none _))
    have mx : (mp_up M x (.inr (0, [.ref ld, .ref ln, .int (bI kn), .int 4, .int fn, .int mv]))) x = some (.inr (0, [.ref ld, .ref ln, .int (bI kn), .int 4, .int fn, .int mv])) := mp_self _ _ _
    have hal : c_lookAll nd aD D pn pt ho pa nn (N, ca, ft, fn, mv) = (N, ca, 4, fn, mv) := by unfold c_lookAll; rw [if_neg (by rw [c1]; decide)]
    exact mw_v hx hb hr hlocks hM hF hS (Nat.zero_le _) (Nat.zero_le _) ⟨rfl, by rw [hal]; exact rp_setX (kn' := kn) (ft' := 4) (fn' := fn) (mv' := mv) hR h00⟩ dd_L_lookAtAll_12

set_option maxHeartbeats 4000000 in
set_option maxRecDepth 100000 in
theorem cc_L_check {l : Launch} {G : gC} {M : mC} {sz : Nat} {x ld ln ed en nd nn : Nat} {aD aN : Nat → Nat} {D : Nat → dR} {N : Nat → nR} {pn : Nat → Nat → Int64} {pt : Nat → Nat → Int32} {kn : Bool} {ft fn mv : Int32} (hR : rp G M x ld ln ed en nd nn aD aN D N pn pt kn ft fn mv) {ho : Nat → Nat} {pa ca op : Nat → Option Nat} (hI : rl nd nn aD aN D N ho pa ca op) : cW l yy_L_check bb_L_check 1 (some .int) 7 8 4000 G M sz [.ref x] (fun v u => (c_whole nd D = false ∧ v = some (.int (-1)) ∧ u = M) ∨ (c_whole nd D = true ∧ v = some (.int (c_lookAll nd aD D pn pt ho pa nn (N, ca, 0, -1, 0)).2.2.1) ∧ rp G u x ld ln ed en nd nn aD aN D (c_lookAll nd aD D pn pt ho pa nn (N, ca, 0, -1, 0)).1 pn pt (decide ((c_lookAll nd aD D pn pt ho pa nn (N, ca, 0, -1, 0)).2.2.1 = 0)) (c_lookAll nd aD D pn pt ho pa nn (N, ca, 0, -1, 0)).2.2.1 (c_lookAll nd aD D pn pt ho pa nn (N, ca, 0, -1, 0)).2.2.2.1 (c_lookAll nd aD D pn pt ho pa nn (N, ca, 0, -1, 0)).2.2.2.2)) := by
  refine me_W (by decide) (Nat.le_of_ble_eq_true rfl) ?_
  intro p e s m below meth c ls hx hb hr hlocks hml hown hname ht hsz hM hK hZ hl
  have hown : s.vm.findClass RR_L = some m.cls := hown
  have hl : lv_has ls 1 [(0, .ref x)] := hl
  have hS : va_S (fr M sz) s.heap s.heap [] := va_S.rf
  have hF : ∀ q, M q ≠ none → fr M sz q := fr_M
  have hA : ∀ q, s.heap.size ≤ q → fr M sz q := fun q h => fr_A q (by rw [← hsz]; exact h)
  obtain ⟨mx, hLd, hLn, hD, hN, hAp, hnd, hnn⟩ := id hR
  obtain ⟨cl, ml⟩ := ls_obj hLd
  obtain ⟨ck, mk⟩ := ls_obj hLn
  have hE := mz_E hZ
  have h00 := mz_none hZ
  refine lv_aload_n hx hb dd_L_check_0 rfl (lv_at hl 0 rfl) ?_
  refine mc_V (As := []) (rest := []) 0 (cc_L_lastIsWhole hR) hx hb hml hown ht hM hK hl.1 lk_L_45 (by decide +kernel) (by decide) mx rfl rfl rfl (Nat.le_of_ble_eq_true rfl) dd_L_check_1 ⟨Nat.le_of_ble_eq_true rfl, Nat.le_of_ble_eq_true rfl⟩ ?_
  refine lb_if_ne (tgt := 9) hx hb dd_L_check_4 (by decide) (fun c1 => ?_) (fun c1 => ?_)
  · refine lv_aload_n hx hb dd_L_check_9 rfl (lv_at hl 0 rfl) ?_
    refine lv_iconst (v := 0) hx hb dd_L_check_10 (by decide) ?_
    refine mg_put (v := .int 0) hx hb ht ii_L tt_L tt_L_ok nn_L hown hK hM hS (hF _ (by rw [mx]; exact Option.some_ne_none _)) mx rfl 3 (by decide) wd_1_53 (fun _ h => h) (Or.inl rfl) rfl rfl rfl (Nat.le_of_ble_eq_true rfl) dd_L_check_11 (fun H locs hM hz hoq hS => ?_)
    have hsz := hz.trans hsz
    have hM : hm G (mp_up M x (.inr (0, [.ref ld, .ref ln, .int (bI kn), .int 0, .int fn, .int mv]))) H := hM
    have hF : ∀ z9, (mp_up M x (.inr (0, [.ref ld, .ref ln, .int (bI kn), .int 0, .int fn, .int mv]))) z9 ≠ none → fr M sz z9 := hF_put hF (hF _ (by rw [mx]; exact Option.some_ne_none _))
    have mx : (mp_up M x (.inr (0, [.ref ld, .ref ln, .int (bI kn), .int 0, .int fn, .int mv]))) x = some (.inr (0, [.ref ld, .ref ln, .int (bI kn), .int 0, .int fn, .int mv])) := mp_self _ _ _
    refine lv_aload_n hx hb dd_L_check_14 rfl (lv_at hl 0 rfl) ?_
    refine lv_iconst (v := -1) hx hb dd_L_check_15 (by decide) ?_
    refine mg_put (v := .int (-1)) hx hb ht ii_L tt_L tt_L_ok nn_L hown hK hM hS (hF _ (by rw [mx]; exact Option.some_ne_none _)) mx rfl 4 (by decide) wd_1_54 (fun _ h => h) (Or.inl rfl) rfl rfl rfl (Nat.le_of_ble_eq_true rfl) dd_L_check_16 (fun H locs hM hz hoq hS => ?_)
    have hsz := hz.trans hsz
    rw [mp_mp] at hM
    have hM : hm G (mp_up M x (.inr (0, [.ref ld, .ref ln, .int (bI kn), .int 0, .int (-1), .int mv]))) H := hM
    have hF : ∀ z9, (mp_up M x (.inr (0, [.ref ld, .ref ln, .int (bI kn), .int 0, .int (-1), .int mv]))) z9 ≠ none → fr M sz z9 := hF_same hF
    have mx : (mp_up M x (.inr (0, [.ref ld, .ref ln, .int (bI kn), .int 0, .int (-1), .int mv]))) x = some (.inr (0, [.ref ld, .ref ln, .int (bI kn), .int 0, .int (-1), .int mv])) := mp_self _ _ _
    refine lv_aload_n hx hb dd_L_check_19 rfl (lv_at hl 0 rfl) ?_
    refine lv_iconst (v := 0) hx hb dd_L_check_20 (by decide) ?_
    refine mg_put (v := .int 0) hx hb ht ii_L tt_L tt_L_ok nn_L hown hK hM hS (hF _ (by rw [mx]; exact Option.some_ne_none _)) mx rfl 5 (by decide) wd_1_55 (fun _ h => h) (Or.inl rfl) rfl rfl rfl (Nat.le_of_ble_eq_true rfl) dd_L_check_21 (fun H locs hM hz hoq hS => ?_)
    have hsz := hz.trans hsz
    rw [mp_mp] at hM
    have hM : hm G (mp_up M x (.inr (0, [.ref ld, .ref ln, .int (bI kn), .int 0, .int (-1), .int 0]))) H := hM
    have hF : ∀ z9, (mp_up M x (.inr (0, [.ref ld, .ref ln, .int (bI kn), .int 0, .int (-1), .int 0]))) z9 ≠ none → fr M sz z9 := hF_same hF
    have mx : (mp_up M x (.inr (0, [.ref ld, .ref ln, .int (bI kn), .int 0, .int (-1), .int 0]))) x = some (.inr (0, [.ref ld, .ref ln, .int (bI kn), .int 0, .int (-1), .int 0])) := mp_self _ _ _
    refine lv_aload_n hx hb dd_L_check_24 rfl (lv_at hl 0 rfl) ?_
    have hR1 := rp_setX (kn' := kn) (ft' := 0) (fn' := -1) (mv' := 0) hR h00
    have hFr := hF_fr hF hS hA
    refine mx_V (As := []) (rest := []) 0 (cc_L_lookAtAll hR1 hI) hx hb hml hown ht hM hK hZ hS hFr hl.1 lk_L_119 (by decide +kernel) (by decide) mx rfl rfl rfl (Nat.le_of_ble_eq_true rfl) dd_L_check_25 ⟨Nat.le_of_ble_eq_true rfl, Nat.le_of_ble_eq_true rfl⟩ (fun v u2 H locs hp hM hd hle hk hS => ?_)
    obtain ⟨zz, ez9⟩ : ∃ z, z = c_lookAll nd aD D pn pt ho pa nn (N, ca, 0, -1, 0) := ⟨_, rfl⟩
    rw [← ez9] at hp ⊢
    obtain ⟨rfl, hR2⟩ := hp
    have hF := fun z9 h => hFr z9 (hd z9 h)
    have h02 := e_none hF hE
    obtain ⟨mx, hLd, hLn, hD, hN, -, -, -⟩ := id hR2
    obtain ⟨cl, ml⟩ := ls_obj hLd
    obtain ⟨ck, mk⟩ := ls_obj hLn
    refine lv_aload_n hx hb dd_L_check_28 rfl (lv_at hl 0 rfl) ?_
    refine lv_aload_n hx hb dd_L_check_29 rfl (lv_at hl 0 rfl) ?_
    refine mg_get hx hb ht ii_L hown hK hM mx rfl 3 (by decide) wd_1_53 (fun _ h => h) rfl dd_L_check_30 ?_
    refine lv_if_ne (tgt := 40) hx hb dd_L_check_33 (by decide) (fun c2 => ?_) (fun c2 => ?_)
    · refine lv_iconst (v := 0) hx hb dd_L_check_40 (by decide) ?_
      refine mg_put (v := .int 0) hx hb ht ii_L tt_L tt_L_ok nn_L hown hK hM hS (hF _ (by rw [mx]; exact Option.some_ne_none _)) mx rfl 2 (by decide) wd_1_52 (fun _ h => h) (Or.inl rfl) rfl rfl rfl (Nat.le_of_ble_eq_true rfl) dd_L_check_41 (fun H locs hM hz hoq hS => ?_)
      have hM : hm G (mp_up u2 x (.inr (0, [.ref ld, .ref ln, .int 0, .int zz.2.2.1, .int zz.2.2.2.1, .int zz.2.2.2.2]))) H := hM
      have hF : ∀ z9, (mp_up u2 x (.inr (0, [.ref ld, .ref ln, .int 0, .int zz.2.2.1, .int zz.2.2.2.1, .int zz.2.2.2.2]))) z9 ≠ none → fr M sz z9 := hF_put hF (hF _ (by rw [mx]; exact Option.some_ne_none _))
      have mx : (mp_up u2 x (.inr (0, [.ref ld, .ref ln, .int 0, .int zz.2.2.1, .int zz.2.2.2.1, .int zz.2.2.2.2]))) x = some (.inr (0, [.ref ld, .ref ln, .int 0, .int zz.2.2.1, .int zz.2.2.2.1, .int zz.2.2.2.2])) := mp_self _ _ _
      refine lv_aload_n hx hb dd_L_check_44 rfl (lv_at hl 0 rfl) ?_
      refine mg_get hx hb ht ii_L hown hK hM mx rfl 3 (by decide) wd_1_53 (fun _ h => h) rfl dd_L_check_45 ?_
      have hRz := rp_setX (kn' := false) (ft' := zz.2.2.1) (fn' := zz.2.2.2.1) (mv' := zz.2.2.2.2) hR2 h02
      have hdz : decide (zz.2.2.1 = 0) = false := decide_eq_false c2
      exact mw_i hx hb hr hlocks rfl hM hF hS (Nat.le_of_ble_eq_true rfl) (Nat.le_of_ble_eq_true rfl) (Or.inr ⟨c1, rfl, by rw [hdz]; exact hRz⟩) dd_L_check_48
    · refine lv_iconst (v := 1) hx hb dd_L_check_36 (by decide) ?_
      refine lv_goto (tgt := 41) hx hb dd_L_check_37 (by decide) ?_
      refine mg_put (v := .int 1) hx hb ht ii_L tt_L tt_L_ok nn_L hown hK hM hS (hF _ (by rw [mx]; exact Option.some_ne_none _)) mx rfl 2 (by decide) wd_1_52 (fun _ h => h) (Or.inl rfl) rfl rfl rfl (Nat.le_of_ble_eq_true rfl) dd_L_check_41 (fun H locs hM hz hoq hS => ?_)
      have hM : hm G (mp_up u2 x (.inr (0, [.ref ld, .ref ln, .int 1, .int zz.2.2.1, .int zz.2.2.2.1, .int zz.2.2.2.2]))) H := hM
      have hF : ∀ z9, (mp_up u2 x (.inr (0, [.ref ld, .ref ln, .int 1, .int zz.2.2.1, .int zz.2.2.2.1, .int zz.2.2.2.2]))) z9 ≠ none → fr M sz z9 := hF_put hF (hF _ (by rw [mx]; exact Option.some_ne_none _))
      have mx : (mp_up u2 x (.inr (0, [.ref ld, .ref ln, .int 1, .int zz.2.2.1, .int zz.2.2.2.1, .int zz.2.2.2.2]))) x = some (.inr (0, [.ref ld, .ref ln, .int 1, .int zz.2.2.1, .int zz.2.2.2.1, .int zz.2.2.2.2])) := mp_self _ _ _
      refine lv_aload_n hx hb dd_L_check_44 rfl (lv_at hl 0 rfl) ?_
      refine mg_get hx hb ht ii_L hown hK hM mx rfl 3 (by decide) wd_1_53 (fun _ h => h) rfl dd_L_check_45 ?_
      have hRz := rp_setX (kn' := true) (ft' := zz.2.2.1) (fn' := zz.2.2.2.1) (mv' := zz.2.2.2.2) hR2 h02
      have hdz : decide (zz.2.2.1 = 0) = true := decide_eq_true c2
      exact mw_i hx hb hr hlocks rfl hM hF hS (Nat.le_of_ble_eq_true rfl) (Nat.le_of_ble_eq_true rfl) (Or.inr ⟨c1, rfl, by rw [hdz]; exact hRz⟩) dd_L_check_48
  · refine lv_iconst (v := -1) hx hb dd_L_check_7 (by decide) ?_
    exact mw_i hx hb hr hlocks rfl hM hF hS (Nat.le_of_ble_eq_true rfl) (Nat.le_of_ble_eq_true rfl) (Or.inl ⟨c1, rfl, rfl⟩) dd_L_check_8
end
