/-! words of the tables, by their places -/
theorem lw_memk {w : Cond} {L : List Cond} (hk : ∀ w ∈ L, w ∈ tables_1) (i : Nat) (h : L[i]? = some w) (hg : goodWord w = true) : w ∈ gTbl := List.mem_append_right _ (List.mem_filter.mpr ⟨List.mem_append_right _ (hk w (List.mem_of_getElem? h)), hg⟩)
theorem tk_1 : ∀ w ∈ tables_1_1, w ∈ tables_1 := fun w h => List.mem_append_left _ h
theorem tk_2 : ∀ w ∈ tables_1_2, w ∈ tables_1 := fun w h => List.mem_append_right _ (List.mem_append_left _ h)
theorem tk_3 : ∀ w ∈ tables_1_3, w ∈ tables_1 := fun w h => List.mem_append_right _ (List.mem_append_right _ (List.mem_append_left _ h))
theorem tk_4 : ∀ w ∈ tables_1_4, w ∈ tables_1 := fun w h => List.mem_append_right _ (List.mem_append_right _ (List.mem_append_right _ (List.mem_append_left _ h)))
theorem tk_5 : ∀ w ∈ tables_1_5, w ∈ tables_1 := fun w h => List.mem_append_right _ (List.mem_append_right _ (List.mem_append_right _ (List.mem_append_right _ (List.mem_append_left _ h))))
theorem tk_6 : ∀ w ∈ tables_1_6, w ∈ tables_1 := fun w h => List.mem_append_right _ (List.mem_append_right _ (List.mem_append_right _ (List.mem_append_right _ (List.mem_append_right _ (List.mem_append_left _ h)))))
theorem tk_7 : ∀ w ∈ tables_1_7, w ∈ tables_1 := fun w h => List.mem_append_right _ (List.mem_append_right _ (List.mem_append_right _ (List.mem_append_right _ (List.mem_append_right _ (List.mem_append_right _ (List.mem_append_left _ h))))))
theorem tk_8 : ∀ w ∈ tables_1_8, w ∈ tables_1 := fun w h => List.mem_append_right _ (List.mem_append_right _ (List.mem_append_right _ (List.mem_append_right _ (List.mem_append_right _ (List.mem_append_right _ (List.mem_append_right _ (List.mem_append_left _ h)))))))
theorem tk_9 : ∀ w ∈ tables_1_9, w ∈ tables_1 := fun w h => List.mem_append_right _ (List.mem_append_right _ (List.mem_append_right _ (List.mem_append_right _ (List.mem_append_right _ (List.mem_append_right _ (List.mem_append_right _ (List.mem_append_right _ (List.mem_append_left _ h))))))))
theorem tk_10 : ∀ w ∈ tables_1_10, w ∈ tables_1 := fun w h => List.mem_append_right _ (List.mem_append_right _ (List.mem_append_right _ (List.mem_append_right _ (List.mem_append_right _ (List.mem_append_right _ (List.mem_append_right _ (List.mem_append_right _ (List.mem_append_right _ (List.mem_append_left _ h)))))))))
theorem tk_11 : ∀ w ∈ tables_1_11, w ∈ tables_1 := fun w h => List.mem_append_right _ (List.mem_append_right _ (List.mem_append_right _ (List.mem_append_right _ (List.mem_append_right _ (List.mem_append_right _ (List.mem_append_right _ (List.mem_append_right _ (List.mem_append_right _ (List.mem_append_right _ (h))))))))))
theorem wd_0 : (Cond.initialized "CribLineLaw") ∈ gTbl := lw_memk tk_1 0 rfl rfl
theorem wd_1 : (Cond.initialized "CribLine") ∈ gTbl := lw_memk tk_1 1 rfl rfl
theorem wd_2 : (Cond.initialized "CribLine$Family") ∈ gTbl := lw_memk tk_1 2 rfl rfl
theorem wd_3 : (Cond.initialized "CribLine$Person") ∈ gTbl := lw_memk tk_1 3 rfl rfl
theorem wd_4 : (Cond.initialized "CribLine$Log") ∈ gTbl := lw_memk tk_1 4 rfl rfl
theorem wd_5 : (Cond.initialized "CribLine$Law") ∈ gTbl := lw_memk tk_1 5 rfl rfl
theorem wd_6 : (Cond.initialized "CribLine$Reader") ∈ gTbl := lw_memk tk_1 6 rfl rfl
theorem wd_7 : (Cond.initialized "CribLine$FamilyReader") ∈ gTbl := lw_memk tk_1 7 rfl rfl
theorem wd_8 : (Cond.initialized "CribLine$LawReader") ∈ gTbl := lw_memk tk_1 8 rfl rfl
theorem wd_9 : (Cond.initialized "CribLine$Days") ∈ gTbl := lw_memk tk_1 9 rfl rfl
theorem wd_10 : (Cond.initialized "CribLine$Ages") ∈ gTbl := lw_memk tk_1 10 rfl rfl
theorem wd_11 : (Cond.initialized "CribLine$Pairs") ∈ gTbl := lw_memk tk_1 11 rfl rfl
theorem wd_12 : (Cond.initialized "CribLine$Ties") ∈ gTbl := lw_memk tk_1 12 rfl rfl
theorem wd_13 : (Cond.initialized "CribLineModel") ∈ gTbl := lw_memk tk_1 13 rfl rfl
theorem wd_14 : (Cond.initialized "java/lang/System") ∈ gTbl := lw_memk tk_1 14 rfl rfl
theorem wd_15 : (Cond.initialized "java/lang/Math") ∈ gTbl := lw_memk tk_1 15 rfl rfl
theorem wd_16 : (Cond.initialized "java/lang/String") ∈ gTbl := lw_memk tk_1 16 rfl rfl
theorem wd_17 : (Cond.initialized "java/lang/StringLatin1") ∈ gTbl := lw_memk tk_1 17 rfl rfl
theorem wd_18 : (Cond.initialized "jdk/internal/util/Preconditions") ∈ gTbl := lw_memk tk_1 18 rfl rfl
theorem wd_19 : (Cond.initialized "java/lang/StringUTF16") ∈ gTbl := lw_memk tk_1 19 rfl rfl
theorem wd_20 : (Cond.initialized "java/lang/Throwable") ∈ gTbl := lw_memk tk_1 20 rfl rfl
theorem wd_21 : (Cond.initialized "java/lang/Exception") ∈ gTbl := lw_memk tk_1 21 rfl rfl
theorem wd_22 : (Cond.initialized "java/lang/RuntimeException") ∈ gTbl := lw_memk tk_1 22 rfl rfl
theorem wd_23 : (Cond.initialized "java/lang/IllegalArgumentException") ∈ gTbl := lw_memk tk_1 23 rfl rfl
theorem wd_24 : (Cond.initialized "java/lang/UnsupportedOperationException") ∈ gTbl := lw_memk tk_1 24 rfl rfl
theorem wd_25 : (Cond.initialized "java/lang/IndexOutOfBoundsException") ∈ gTbl := lw_memk tk_1 25 rfl rfl
theorem wd_26 : (Cond.initialized "java/util/NoSuchElementException") ∈ gTbl := lw_memk tk_1 26 rfl rfl
theorem wd_27 : (Cond.initialized "java/lang/IllegalStateException") ∈ gTbl := lw_memk tk_1 27 rfl rfl
theorem wd_28 : (Cond.initialized "java/lang/Integer") ∈ gTbl := lw_memk tk_1 28 rfl rfl
theorem wd_29 : (Cond.initialized "java/util/Arrays") ∈ gTbl := lw_memk tk_1 29 rfl rfl
theorem wd_30 : (Cond.classLink "CribLineLaw" (8 : Nat) "CribLine") ∈ gTbl := lw_memk tk_1 30 rfl rfl
theorem wd_31 : (Cond.instantiable "CribLine" (18 : Nat)) ∈ gTbl := lw_memk tk_1 31 rfl rfl
theorem wd_32 : (Cond.methodLink "CribLineLaw" (147 : Nat) ({ cls := "CribLine", name := "<init>", desc := "()V" } : MethodName)) ∈ gTbl := lw_memk tk_1 32 rfl rfl
theorem wd_33 : (Cond.instanceMethod ({ cls := "CribLine", name := "<init>", desc := "()V" } : MethodName)) ∈ gTbl := lw_memk tk_1 33 rfl rfl
theorem wd_34 : (Cond.code ({ cls := "CribLine", name := "<init>", desc := "()V" } : MethodName) prog_1_method_1_code (2 : Nat) (Option.none : Option ClassFile.FieldType)) ∈ gTbl := lw_memk tk_1 34 rfl rfl
theorem wd_35 : (Cond.methodLink "CribLine" (1 : Nat) ({ cls := "java/lang/Object", name := "<init>", desc := "()V" } : MethodName)) ∈ gTbl := lw_memk tk_1 35 rfl rfl
theorem wd_36 : (Cond.instanceMethod ({ cls := "java/lang/Object", name := "<init>", desc := "()V" } : MethodName)) ∈ gTbl := lw_memk tk_1 36 rfl rfl
theorem wd_37 : (Cond.code ({ cls := "java/lang/Object", name := "<init>", desc := "()V" } : MethodName) object_method_1_code (1 : Nat) (Option.none : Option ClassFile.FieldType)) ∈ gTbl := lw_memk tk_1 37 rfl rfl
theorem wd_38 : (Cond.classLink "CribLine" (20 : Nat) "CribLine$Family") ∈ gTbl := lw_memk tk_1 38 rfl rfl
theorem wd_39 : (Cond.instantiable "CribLine$Family" (11 : Nat)) ∈ gTbl := lw_memk tk_1 39 rfl rfl
theorem wd_40 : (Cond.methodLink "CribLine" (22 : Nat) ({ cls := "CribLine$Family", name := "<init>", desc := "()V" } : MethodName)) ∈ gTbl := lw_memk tk_1 40 rfl rfl
theorem wd_41 : (Cond.instanceMethod ({ cls := "CribLine$Family", name := "<init>", desc := "()V" } : MethodName)) ∈ gTbl := lw_memk tk_1 41 rfl rfl
theorem wd_42 : (Cond.code ({ cls := "CribLine$Family", name := "<init>", desc := "()V" } : MethodName) prog_4_method_1_code (2 : Nat) (Option.none : Option ClassFile.FieldType)) ∈ gTbl := lw_memk tk_1 42 rfl rfl
theorem wd_43 : (Cond.methodLink "CribLine$Family" (3 : Nat) ({ cls := "java/lang/Object", name := "<init>", desc := "()V" } : MethodName)) ∈ gTbl := lw_memk tk_1 43 rfl rfl
theorem wd_44 : (Cond.classLink "CribLine$Family" (11 : Nat) "CribLine$Person") ∈ gTbl := lw_memk tk_1 44 rfl rfl
theorem wd_46 : (Cond.instantiable "CribLine$Person" (9 : Nat)) ∈ gTbl := lw_memk tk_1 46 rfl rfl
theorem wd_47 : (Cond.methodLink "CribLine$Family" (17 : Nat) ({ cls := "CribLine$Person", name := "<init>", desc := "()V" } : MethodName)) ∈ gTbl := lw_memk tk_1 47 rfl rfl
theorem wd_48 : (Cond.instanceMethod ({ cls := "CribLine$Person", name := "<init>", desc := "()V" } : MethodName)) ∈ gTbl := lw_memk tk_1 48 rfl rfl
theorem wd_49 : (Cond.code ({ cls := "CribLine$Person", name := "<init>", desc := "()V" } : MethodName) prog_10_method_1_code (1 : Nat) (Option.none : Option ClassFile.FieldType)) ∈ gTbl := lw_memk tk_1 49 rfl rfl
theorem wd_50 : (Cond.methodLink "CribLine$Person" (3 : Nat) ({ cls := "java/lang/Object", name := "<init>", desc := "()V" } : MethodName)) ∈ gTbl := lw_memk tk_1 50 rfl rfl
theorem wd_51 : (Cond.fieldLink "CribLine$Person" (21 : Nat) "CribLine$Person" "age" "I") ∈ gTbl := lw_memk tk_1 51 rfl rfl
theorem wd_52 : (Cond.fieldLink "CribLine$Ages" (50 : Nat) "CribLine$Person" "age" "I") ∈ gTbl := lw_memk tk_1 52 rfl rfl
theorem wd_53 : (Cond.fieldLink "CribLine$Family" (75 : Nat) "CribLine$Person" "age" "I") ∈ gTbl := lw_memk tk_1 53 rfl rfl
theorem wd_54 : (Cond.fieldLink "CribLine$Days" (83 : Nat) "CribLine$Person" "age" "I") ∈ gTbl := lw_memk tk_1 54 rfl rfl
theorem wd_55 : (Cond.fieldLink "CribLine$Law" (72 : Nat) "CribLine$Person" "age" "I") ∈ gTbl := lw_memk tk_1 55 rfl rfl
theorem wd_56 : (Cond.fieldLink "CribLine$Ties" (54 : Nat) "CribLine$Person" "age" "I") ∈ gTbl := lw_memk tk_1 56 rfl rfl
theorem wd_57 : (Cond.fieldLink "CribLine$FamilyReader" (100 : Nat) "CribLine$Person" "age" "I") ∈ gTbl := lw_memk tk_1 57 rfl rfl
theorem wd_58 : (Cond.fieldLink "CribLine" (169 : Nat) "CribLine$Person" "age" "I") ∈ gTbl := lw_memk tk_1 58 rfl rfl
theorem wd_59 : (Cond.fieldLink "CribLine$Person" (24 : Nat) "CribLine$Person" "turns" "I") ∈ gTbl := lw_memk tk_1 59 rfl rfl
theorem wd_60 : (Cond.fieldLink "CribLine$Law" (77 : Nat) "CribLine$Person" "turns" "I") ∈ gTbl := lw_memk tk_1 60 rfl rfl
theorem wd_61 : (Cond.fieldLink "CribLine$Family" (87 : Nat) "CribLine$Person" "turns" "I") ∈ gTbl := lw_memk tk_1 61 rfl rfl
theorem wd_62 : (Cond.fieldLink "CribLine$Days" (96 : Nat) "CribLine$Person" "turns" "I") ∈ gTbl := lw_memk tk_1 62 rfl rfl
theorem wd_63 : (Cond.fieldLink "CribLine" (174 : Nat) "CribLine$Person" "turns" "I") ∈ gTbl := lw_memk tk_1 63 rfl rfl
theorem wd_64 : (Cond.fieldLink "CribLine$Person" (27 : Nat) "CribLine$Person" "sort" "I") ∈ gTbl := lw_memk tk_1 64 rfl rfl
theorem wd_65 : (Cond.fieldLink "CribLine$Pairs" (42 : Nat) "CribLine$Person" "sort" "I") ∈ gTbl := lw_memk tk_1 65 rfl rfl
theorem wd_66 : (Cond.fieldLink "CribLine$Family" (72 : Nat) "CribLine$Person" "sort" "I") ∈ gTbl := lw_memk tk_1 66 rfl rfl
theorem wd_67 : (Cond.fieldLink "CribLine" (177 : Nat) "CribLine$Person" "sort" "I") ∈ gTbl := lw_memk tk_1 67 rfl rfl
theorem wd_68 : (Cond.fieldLink "CribLine$Person" (9 : Nat) "CribLine$Person" "parent" "I") ∈ gTbl := lw_memk tk_1 68 rfl rfl
theorem wd_69 : (Cond.fieldLink "CribLine$Ties" (42 : Nat) "CribLine$Person" "parent" "I") ∈ gTbl := lw_memk tk_1 69 rfl rfl
theorem wd_70 : (Cond.fieldLink "CribLine$Family" (78 : Nat) "CribLine$Person" "parent" "I") ∈ gTbl := lw_memk tk_1 70 rfl rfl
theorem wd_71 : (Cond.fieldLink "CribLine$Law" (92 : Nat) "CribLine$Person" "parent" "I") ∈ gTbl := lw_memk tk_1 71 rfl rfl
theorem wd_72 : (Cond.fieldLink "CribLine" (180 : Nat) "CribLine$Person" "parent" "I") ∈ gTbl := lw_memk tk_1 72 rfl rfl
theorem wd_73 : (Cond.fieldLink "CribLine$Person" (15 : Nat) "CribLine$Person" "spouse" "I") ∈ gTbl := lw_memk tk_1 73 rfl rfl
theorem wd_74 : (Cond.fieldLink "CribLine$Pairs" (47 : Nat) "CribLine$Person" "spouse" "I") ∈ gTbl := lw_memk tk_1 74 rfl rfl
theorem wd_75 : (Cond.fieldLink "CribLine$Law" (89 : Nat) "CribLine$Person" "spouse" "I") ∈ gTbl := lw_memk tk_1 75 rfl rfl
theorem wd_76 : (Cond.fieldLink "CribLine" (183 : Nat) "CribLine$Person" "spouse" "I") ∈ gTbl := lw_memk tk_1 76 rfl rfl
theorem wd_77 : (Cond.fieldLink "CribLine$Family" (113 : Nat) "CribLine$Person" "spouse" "I") ∈ gTbl := lw_memk tk_1 77 rfl rfl
theorem wd_78 : (Cond.fieldLink "CribLine$Person" (30 : Nat) "CribLine$Person" "wants" "I") ∈ gTbl := lw_memk tk_1 78 rfl rfl
theorem wd_79 : (Cond.fieldLink "CribLine$Days" (52 : Nat) "CribLine$Person" "wants" "I") ∈ gTbl := lw_memk tk_1 79 rfl rfl
theorem wd_80 : (Cond.fieldLink "CribLine$FamilyReader" (80 : Nat) "CribLine$Person" "wants" "I") ∈ gTbl := lw_memk tk_1 80 rfl rfl
theorem wd_81 : (Cond.fieldLink "CribLine" (186 : Nat) "CribLine$Person" "wants" "I") ∈ gTbl := lw_memk tk_1 81 rfl rfl
theorem wd_82 : (Cond.fieldLink "CribLine$Ties" (84 : Nat) "CribLine$Person" "wants" "I") ∈ gTbl := lw_memk tk_1 82 rfl rfl
theorem wd_83 : (Cond.fieldLink "CribLine$Person" (18 : Nat) "CribLine$Person" "stern" "I") ∈ gTbl := lw_memk tk_1 83 rfl rfl
theorem wd_84 : (Cond.fieldLink "CribLine$Days" (59 : Nat) "CribLine$Person" "stern" "I") ∈ gTbl := lw_memk tk_1 84 rfl rfl
theorem wd_85 : (Cond.fieldLink "CribLine$FamilyReader" (83 : Nat) "CribLine$Person" "stern" "I") ∈ gTbl := lw_memk tk_1 85 rfl rfl
theorem wd_86 : (Cond.fieldLink "CribLine" (189 : Nat) "CribLine$Person" "stern" "I") ∈ gTbl := lw_memk tk_1 86 rfl rfl
theorem wd_87 : (Cond.fieldLink "CribLine$Ties" (79 : Nat) "CribLine$Person" "stern" "I") ∈ gTbl := lw_memk tk_1 87 rfl rfl
theorem wd_88 : (Cond.fieldLink "CribLine$Person" (33 : Nat) "CribLine$Person" "permits" "I") ∈ gTbl := lw_memk tk_1 88 rfl rfl
theorem wd_89 : (Cond.fieldLink "CribLine$FamilyReader" (86 : Nat) "CribLine$Person" "permits" "I") ∈ gTbl := lw_memk tk_1 89 rfl rfl
theorem wd_90 : (Cond.fieldLink "CribLine" (192 : Nat) "CribLine$Person" "permits" "I") ∈ gTbl := lw_memk tk_1 90 rfl rfl
theorem wd_91 : (Cond.fieldLink "CribLine$Family" (119 : Nat) "CribLine$Person" "permits" "I") ∈ gTbl := lw_memk tk_1 91 rfl rfl
theorem wd_92 : (Cond.fieldLink "CribLine$Person" (36 : Nat) "CribLine$Person" "governors" "I") ∈ gTbl := lw_memk tk_1 92 rfl rfl
theorem wd_93 : (Cond.fieldLink "CribLine$Days" (37 : Nat) "CribLine$Person" "governors" "I") ∈ gTbl := lw_memk tk_1 93 rfl rfl
theorem wd_94 : (Cond.fieldLink "CribLine$Family" (106 : Nat) "CribLine$Person" "governors" "I") ∈ gTbl := lw_memk tk_1 94 rfl rfl
theorem wd_95 : (Cond.fieldLink "CribLine" (195 : Nat) "CribLine$Person" "governors" "I") ∈ gTbl := lw_memk tk_1 95 rfl rfl
theorem wd_96 : (Cond.fieldLink "CribLine$Ties" (71 : Nat) "CribLine$Person" "governors" "I") ∈ gTbl := lw_memk tk_1 96 rfl rfl
theorem wd_116 : (Cond.arrayClass ClassFile.FieldType.int) ∈ gTbl := lw_memk tk_1 116 rfl rfl
theorem wd_117 : (Cond.classLink "CribLine$Family" (26 : Nat) "CribLine$Log") ∈ gTbl := lw_memk tk_1 117 rfl rfl
theorem wd_118 : (Cond.instantiable "CribLine$Log" (3 : Nat)) ∈ gTbl := lw_memk tk_1 118 rfl rfl
theorem wd_119 : (Cond.methodLink "CribLine$Family" (28 : Nat) ({ cls := "CribLine$Log", name := "<init>", desc := "()V" } : MethodName)) ∈ gTbl := lw_memk tk_1 119 rfl rfl
theorem wd_120 : (Cond.instanceMethod ({ cls := "CribLine$Log", name := "<init>", desc := "()V" } : MethodName)) ∈ gTbl := lw_memk tk_1 120 rfl rfl
theorem wd_121 : (Cond.code ({ cls := "CribLine$Log", name := "<init>", desc := "()V" } : MethodName) prog_8_method_1_code (1 : Nat) (Option.none : Option ClassFile.FieldType)) ∈ gTbl := lw_memk tk_1 121 rfl rfl
theorem wd_122 : (Cond.methodLink "CribLine$Log" (3 : Nat) ({ cls := "java/lang/Object", name := "<init>", desc := "()V" } : MethodName)) ∈ gTbl := lw_memk tk_1 122 rfl rfl
theorem wd_123 : (Cond.fieldLink "CribLine$Log" (11 : Nat) "CribLine$Log" "cells" "[I") ∈ gTbl := lw_memk tk_1 123 rfl rfl
theorem wd_124 : (Cond.fieldLink "CribLine$Log" (15 : Nat) "CribLine$Log" "next" "I") ∈ gTbl := lw_memk tk_1 124 rfl rfl
theorem wd_125 : (Cond.fieldLink "CribLine$Log" (19 : Nat) "CribLine$Log" "size" "I") ∈ gTbl := lw_memk tk_1 125 rfl rfl
theorem wd_126 : (Cond.fieldLink "CribLine" (418 : Nat) "CribLine$Log" "size" "I") ∈ gTbl := lw_memk tk_1 126 rfl rfl
theorem wd_134 : (Cond.fieldLink "CribLine$Family" (13 : Nat) "CribLine$Family" "people" "[LCribLine$Person;") ∈ gTbl := lw_memk tk_1 134 rfl rfl
theorem wd_135 : (Cond.fieldLink "CribLine$Family" (18 : Nat) "CribLine$Family" "nobody" "LCribLine$Person;") ∈ gTbl := lw_memk tk_1 135 rfl rfl
theorem wd_136 : (Cond.fieldLink "CribLine$Family" (22 : Nat) "CribLine$Family" "loans" "[I") ∈ gTbl := lw_memk tk_1 136 rfl rfl
theorem wd_137 : (Cond.fieldLink "CribLine$Family" (29 : Nat) "CribLine$Family" "log" "LCribLine$Log;") ∈ gTbl := lw_memk tk_1 137 rfl rfl
theorem wd_138 : (Cond.fieldLink "CribLine" (202 : Nat) "CribLine$Family" "log" "LCribLine$Log;") ∈ gTbl := lw_memk tk_1 138 rfl rfl
theorem wd_139 : (Cond.fieldLink "CribLine$Family" (33 : Nat) "CribLine$Family" "size" "I") ∈ gTbl := lw_memk tk_1 139 rfl rfl
theorem wd_140 : (Cond.fieldLink "CribLine$Ties" (15 : Nat) "CribLine$Family" "size" "I") ∈ gTbl := lw_memk tk_1 140 rfl rfl
theorem wd_141 : (Cond.fieldLink "CribLine$FamilyReader" (54 : Nat) "CribLine$Family" "size" "I") ∈ gTbl := lw_memk tk_1 141 rfl rfl
theorem wd_142 : (Cond.fieldLink "CribLine$Days" (29 : Nat) "CribLine$Family" "size" "I") ∈ gTbl := lw_memk tk_1 142 rfl rfl
theorem wd_143 : (Cond.fieldLink "CribLine$Pairs" (60 : Nat) "CribLine$Family" "size" "I") ∈ gTbl := lw_memk tk_1 143 rfl rfl
theorem wd_144 : (Cond.fieldLink "CribLine$Ages" (100 : Nat) "CribLine$Family" "size" "I") ∈ gTbl := lw_memk tk_1 144 rfl rfl
theorem wd_145 : (Cond.fieldLink "CribLine" (246 : Nat) "CribLine$Family" "size" "I") ∈ gTbl := lw_memk tk_1 145 rfl rfl
theorem wd_146 : (Cond.fieldLink "CribLine$Family" (37 : Nat) "CribLine$Family" "round" "I") ∈ gTbl := lw_memk tk_1 146 rfl rfl
theorem wd_147 : (Cond.fieldLink "CribLine$FamilyReader" (61 : Nat) "CribLine$Family" "round" "I") ∈ gTbl := lw_memk tk_1 147 rfl rfl
theorem wd_148 : (Cond.fieldLink "CribLine$Ages" (117 : Nat) "CribLine$Family" "round" "I") ∈ gTbl := lw_memk tk_1 148 rfl rfl
theorem wd_149 : (Cond.fieldLink "CribLine" (249 : Nat) "CribLine$Family" "round" "I") ∈ gTbl := lw_memk tk_1 149 rfl rfl
theorem wd_150 : (Cond.fieldLink "CribLine$Family" (40 : Nat) "CribLine$Family" "ripe" "I") ∈ gTbl := lw_memk tk_1 150 rfl rfl
theorem wd_151 : (Cond.fieldLink "CribLine$FamilyReader" (43 : Nat) "CribLine$Family" "ripe" "I") ∈ gTbl := lw_memk tk_1 151 rfl rfl
theorem wd_152 : (Cond.fieldLink "CribLine$Law" (95 : Nat) "CribLine$Family" "ripe" "I") ∈ gTbl := lw_memk tk_1 152 rfl rfl
theorem wd_153 : (Cond.fieldLink "CribLine" (406 : Nat) "CribLine$Family" "ripe" "I") ∈ gTbl := lw_memk tk_1 153 rfl rfl
theorem wd_154 : (Cond.fieldLink "CribLine$Family" (43 : Nat) "CribLine$Family" "step" "I") ∈ gTbl := lw_memk tk_1 154 rfl rfl
theorem wd_155 : (Cond.fieldLink "CribLine$FamilyReader" (48 : Nat) "CribLine$Family" "step" "I") ∈ gTbl := lw_memk tk_1 155 rfl rfl
theorem wd_156 : (Cond.fieldLink "CribLine$Law" (51 : Nat) "CribLine$Family" "step" "I") ∈ gTbl := lw_memk tk_1 156 rfl rfl
theorem wd_157 : (Cond.fieldLink "CribLine$Days" (103 : Nat) "CribLine$Family" "step" "I") ∈ gTbl := lw_memk tk_1 157 rfl rfl
theorem wd_158 : (Cond.fieldLink "CribLine" (269 : Nat) "CribLine$Family" "step" "I") ∈ gTbl := lw_memk tk_1 158 rfl rfl
theorem wd_159 : (Cond.fieldLink "CribLine$Family" (46 : Nat) "CribLine$Family" "day" "I") ∈ gTbl := lw_memk tk_1 159 rfl rfl
theorem wd_160 : (Cond.fieldLink "CribLine$FamilyReader" (51 : Nat) "CribLine$Family" "day" "I") ∈ gTbl := lw_memk tk_1 160 rfl rfl
theorem wd_161 : (Cond.fieldLink "CribLine$Law" (86 : Nat) "CribLine$Family" "day" "I") ∈ gTbl := lw_memk tk_1 161 rfl rfl
theorem wd_162 : (Cond.fieldLink "CribLine" (403 : Nat) "CribLine$Family" "day" "I") ∈ gTbl := lw_memk tk_1 162 rfl rfl
theorem wd_163 : (Cond.fieldLink "CribLine$Family" (49 : Nat) "CribLine$Family" "seed" "I") ∈ gTbl := lw_memk tk_1 163 rfl rfl
theorem wd_164 : (Cond.fieldLink "CribLine$Days" (113 : Nat) "CribLine$Family" "seed" "I") ∈ gTbl := lw_memk tk_1 164 rfl rfl
theorem wd_165 : (Cond.fieldLink "CribLine" (400 : Nat) "CribLine$Family" "seed" "I") ∈ gTbl := lw_memk tk_1 165 rfl rfl
theorem wd_166 : (Cond.fieldLink "CribLine$Family" (52 : Nat) "CribLine$Family" "texts" "I") ∈ gTbl := lw_memk tk_1 166 rfl rfl
theorem wd_167 : (Cond.fieldLink "CribLine" (127 : Nat) "CribLine$Family" "texts" "I") ∈ gTbl := lw_memk tk_1 167 rfl rfl
theorem wd_191 : (Cond.classLink "CribLine" (30 : Nat) "CribLine$Law") ∈ gTbl := lw_memk tk_1 191 rfl rfl
theorem wd_192 : (Cond.instantiable "CribLine$Law" (10 : Nat)) ∈ gTbl := lw_memk tk_1 192 rfl rfl
theorem wd_193 : (Cond.methodLink "CribLine" (32 : Nat) ({ cls := "CribLine$Law", name := "<init>", desc := "()V" } : MethodName)) ∈ gTbl := lw_memk tk_1 193 rfl rfl
theorem wd_194 : (Cond.instanceMethod ({ cls := "CribLine$Law", name := "<init>", desc := "()V" } : MethodName)) ∈ gTbl := lw_memk tk_1 194 rfl rfl
theorem wd_195 : (Cond.code ({ cls := "CribLine$Law", name := "<init>", desc := "()V" } : MethodName) prog_6_method_1_code (1 : Nat) (Option.none : Option ClassFile.FieldType)) ∈ gTbl := lw_memk tk_1 195 rfl rfl
theorem wd_196 : (Cond.methodLink "CribLine$Law" (3 : Nat) ({ cls := "java/lang/Object", name := "<init>", desc := "()V" } : MethodName)) ∈ gTbl := lw_memk tk_1 196 rfl rfl
theorem wd_197 : (Cond.fieldLink "CribLine$Law" (11 : Nat) "CribLine$Law" "kinds" "[I") ∈ gTbl := lw_memk tk_1 197 rfl rfl
theorem wd_198 : (Cond.fieldLink "CribLine$Law" (15 : Nat) "CribLine$Law" "amounts" "[I") ∈ gTbl := lw_memk tk_1 198 rfl rfl
theorem wd_199 : (Cond.fieldLink "CribLine$Law" (18 : Nat) "CribLine$Law" "begins" "[I") ∈ gTbl := lw_memk tk_1 199 rfl rfl
theorem wd_200 : (Cond.fieldLink "CribLine$Law" (21 : Nat) "CribLine$Law" "ends" "[I") ∈ gTbl := lw_memk tk_1 200 rfl rfl
theorem wd_201 : (Cond.fieldLink "CribLine$Law" (24 : Nat) "CribLine$Law" "steps" "[I") ∈ gTbl := lw_memk tk_1 201 rfl rfl
theorem wd_202 : (Cond.fieldLink "CribLine$Law" (27 : Nat) "CribLine$Law" "numbers" "[I") ∈ gTbl := lw_memk tk_1 202 rfl rfl
theorem wd_203 : (Cond.fieldLink "CribLine$Law" (32 : Nat) "CribLine$Law" "facts" "[I") ∈ gTbl := lw_memk tk_1 203 rfl rfl
theorem wd_204 : (Cond.fieldLink "CribLine$Law" (35 : Nat) "CribLine$Law" "stack" "[I") ∈ gTbl := lw_memk tk_1 204 rfl rfl
theorem wd_205 : (Cond.fieldLink "CribLine$Law" (38 : Nat) "CribLine$Law" "size" "I") ∈ gTbl := lw_memk tk_1 205 rfl rfl
theorem wd_206 : (Cond.fieldLink "CribLine$LawReader" (32 : Nat) "CribLine$Law" "size" "I") ∈ gTbl := lw_memk tk_1 206 rfl rfl
theorem wd_207 : (Cond.fieldLink "CribLine$Law" (42 : Nat) "CribLine$Law" "lines" "I") ∈ gTbl := lw_memk tk_1 207 rfl rfl
theorem wd_208 : (Cond.fieldLink "CribLine" (141 : Nat) "CribLine$Law" "lines" "I") ∈ gTbl := lw_memk tk_1 208 rfl rfl
theorem wd_230 : (Cond.classLink "CribLine" (40 : Nat) "CribLine$FamilyReader") ∈ gTbl := lw_memk tk_1 230 rfl rfl
theorem wd_231 : (Cond.instantiable "CribLine$FamilyReader" (9 : Nat)) ∈ gTbl := lw_memk tk_1 231 rfl rfl
theorem wd_232 : (Cond.methodLink "CribLine" (42 : Nat) ({ cls := "CribLine$FamilyReader", name := "<init>", desc := "(LCribLine$Family;)V" } : MethodName)) ∈ gTbl := lw_memk tk_1 232 rfl rfl
theorem wd_233 : (Cond.instanceMethod ({ cls := "CribLine$FamilyReader", name := "<init>", desc := "(LCribLine$Family;)V" } : MethodName)) ∈ gTbl := lw_memk tk_1 233 rfl rfl
theorem wd_234 : (Cond.code ({ cls := "CribLine$FamilyReader", name := "<init>", desc := "(LCribLine$Family;)V" } : MethodName) prog_5_method_1_code (2 : Nat) (Option.none : Option ClassFile.FieldType)) ∈ gTbl := lw_memk tk_1 234 rfl rfl
theorem wd_235 : (Cond.methodLink "CribLine$FamilyReader" (3 : Nat) ({ cls := "CribLine$Reader", name := "<init>", desc := "(I)V" } : MethodName)) ∈ gTbl := lw_memk tk_1 235 rfl rfl
theorem wd_236 : (Cond.instanceMethod ({ cls := "CribLine$Reader", name := "<init>", desc := "(I)V" } : MethodName)) ∈ gTbl := lw_memk tk_1 236 rfl rfl
theorem wd_237 : (Cond.code ({ cls := "CribLine$Reader", name := "<init>", desc := "(I)V" } : MethodName) prog_11_method_1_code (2 : Nat) (Option.none : Option ClassFile.FieldType)) ∈ gTbl := lw_memk tk_1 237 rfl rfl
theorem wd_238 : (Cond.methodLink "CribLine$Reader" (3 : Nat) ({ cls := "java/lang/Object", name := "<init>", desc := "()V" } : MethodName)) ∈ gTbl := lw_memk tk_1 238 rfl rfl
theorem wd_239 : (Cond.fieldLink "CribLine$FamilyReader" (9 : Nat) "CribLine$FamilyReader" "draft" "LCribLine$Family;") ∈ gTbl := lw_memk tk_1 239 rfl rfl
theorem wd_240 : (Cond.fieldLink "CribLine$Reader" (9 : Nat) "CribLine$Reader" "things" "[I") ∈ gTbl := lw_memk tk_2 0 rfl rfl
theorem wd_241 : (Cond.fieldLink "CribLine$Reader" (15 : Nat) "CribLine$Reader" "begins" "[I") ∈ gTbl := lw_memk tk_2 1 rfl rfl
theorem wd_242 : (Cond.fieldLink "CribLine$Reader" (18 : Nat) "CribLine$Reader" "numbers" "[I") ∈ gTbl := lw_memk tk_2 2 rfl rfl
theorem wd_243 : (Cond.fieldLink "CribLine$Reader" (34 : Nat) "CribLine$Reader" "mostLines" "I") ∈ gTbl := lw_memk tk_2 3 rfl rfl
theorem wd_244 : (Cond.fieldLink "CribLine$Reader" (21 : Nat) "CribLine$Reader" "size" "I") ∈ gTbl := lw_memk tk_2 4 rfl rfl
theorem wd_245 : (Cond.fieldLink "CribLine$Reader" (25 : Nat) "CribLine$Reader" "length" "I") ∈ gTbl := lw_memk tk_2 5 rfl rfl
theorem wd_246 : (Cond.fieldLink "CribLine$Reader" (28 : Nat) "CribLine$Reader" "at" "I") ∈ gTbl := lw_memk tk_2 6 rfl rfl
theorem wd_247 : (Cond.fieldLink "CribLine$LawReader" (21 : Nat) "CribLine$LawReader" "at" "I") ∈ gTbl := lw_memk tk_2 7 rfl rfl
theorem wd_248 : (Cond.sameField "CribLine$LawReader" "CribLine$Reader" "at" "I") ∈ gTbl := lw_memk tk_2 8 rfl rfl
theorem wd_249 : (Cond.fieldLink "CribLine$FamilyReader" (32 : Nat) "CribLine$FamilyReader" "at" "I") ∈ gTbl := lw_memk tk_2 9 rfl rfl
theorem wd_250 : (Cond.sameField "CribLine$FamilyReader" "CribLine$Reader" "at" "I") ∈ gTbl := lw_memk tk_2 10 rfl rfl
theorem wd_251 : (Cond.fieldLink "CribLine$Reader" (31 : Nat) "CribLine$Reader" "number" "I") ∈ gTbl := lw_memk tk_2 11 rfl rfl
theorem wd_252 : (Cond.fieldLink "CribLine$LawReader" (29 : Nat) "CribLine$LawReader" "number" "I") ∈ gTbl := lw_memk tk_2 12 rfl rfl
theorem wd_253 : (Cond.sameField "CribLine$LawReader" "CribLine$Reader" "number" "I") ∈ gTbl := lw_memk tk_2 13 rfl rfl
theorem wd_254 : (Cond.fieldLink "CribLine$FamilyReader" (40 : Nat) "CribLine$FamilyReader" "number" "I") ∈ gTbl := lw_memk tk_2 14 rfl rfl
theorem wd_255 : (Cond.sameField "CribLine$FamilyReader" "CribLine$Reader" "number" "I") ∈ gTbl := lw_memk tk_2 15 rfl rfl
theorem wd_275 : (Cond.classLink "CribLine" (49 : Nat) "CribLine$LawReader") ∈ gTbl := lw_memk tk_2 35 rfl rfl
theorem wd_276 : (Cond.instantiable "CribLine$LawReader" (9 : Nat)) ∈ gTbl := lw_memk tk_2 36 rfl rfl
theorem wd_277 : (Cond.methodLink "CribLine" (51 : Nat) ({ cls := "CribLine$LawReader", name := "<init>", desc := "(LCribLine$Law;)V" } : MethodName)) ∈ gTbl := lw_memk tk_2 37 rfl rfl
theorem wd_278 : (Cond.instanceMethod ({ cls := "CribLine$LawReader", name := "<init>", desc := "(LCribLine$Law;)V" } : MethodName)) ∈ gTbl := lw_memk tk_2 38 rfl rfl
theorem wd_279 : (Cond.code ({ cls := "CribLine$LawReader", name := "<init>", desc := "(LCribLine$Law;)V" } : MethodName) prog_7_method_1_code (2 : Nat) (Option.none : Option ClassFile.FieldType)) ∈ gTbl := lw_memk tk_2 39 rfl rfl
theorem wd_280 : (Cond.methodLink "CribLine$LawReader" (5 : Nat) ({ cls := "CribLine$Reader", name := "<init>", desc := "(I)V" } : MethodName)) ∈ gTbl := lw_memk tk_2 40 rfl rfl
theorem wd_281 : (Cond.fieldLink "CribLine$LawReader" (11 : Nat) "CribLine$LawReader" "draft" "LCribLine$Law;") ∈ gTbl := lw_memk tk_2 41 rfl rfl
theorem wd_294 : (Cond.classLink "CribLine" (75 : Nat) "CribLine$Days") ∈ gTbl := lw_memk tk_2 54 rfl rfl
theorem wd_295 : (Cond.instantiable "CribLine$Days" (3 : Nat)) ∈ gTbl := lw_memk tk_2 55 rfl rfl
theorem wd_296 : (Cond.methodLink "CribLine" (77 : Nat) ({ cls := "CribLine$Days", name := "<init>", desc := "(LCribLine$Family;LCribLine$Law;)V" } : MethodName)) ∈ gTbl := lw_memk tk_2 56 rfl rfl
theorem wd_297 : (Cond.instanceMethod ({ cls := "CribLine$Days", name := "<init>", desc := "(LCribLine$Family;LCribLine$Law;)V" } : MethodName)) ∈ gTbl := lw_memk tk_2 57 rfl rfl
theorem wd_298 : (Cond.code ({ cls := "CribLine$Days", name := "<init>", desc := "(LCribLine$Family;LCribLine$Law;)V" } : MethodName) prog_3_method_1_code (3 : Nat) (Option.none : Option ClassFile.FieldType)) ∈ gTbl := lw_memk tk_2 58 rfl rfl
theorem wd_299 : (Cond.methodLink "CribLine$Days" (3 : Nat) ({ cls := "java/lang/Object", name := "<init>", desc := "()V" } : MethodName)) ∈ gTbl := lw_memk tk_2 59 rfl rfl
theorem wd_300 : (Cond.classLink "CribLine$Days" (9 : Nat) "CribLine$Family") ∈ gTbl := lw_memk tk_2 60 rfl rfl
theorem wd_301 : (Cond.methodLink "CribLine$Days" (11 : Nat) ({ cls := "CribLine$Family", name := "<init>", desc := "()V" } : MethodName)) ∈ gTbl := lw_memk tk_2 61 rfl rfl
theorem wd_302 : (Cond.fieldLink "CribLine$Days" (18 : Nat) "CribLine$Days" "now" "LCribLine$Family;") ∈ gTbl := lw_memk tk_2 62 rfl rfl
theorem wd_303 : (Cond.fieldLink "CribLine$Days" (21 : Nat) "CribLine$Days" "law" "LCribLine$Law;") ∈ gTbl := lw_memk tk_2 63 rfl rfl
theorem wd_304 : (Cond.fieldLink "CribLine$Days" (12 : Nat) "CribLine$Days" "trial" "LCribLine$Family;") ∈ gTbl := lw_memk tk_2 64 rfl rfl
theorem wd_312 : (Cond.classLink "CribLine" (84 : Nat) "CribLine$Ages") ∈ gTbl := lw_memk tk_2 72 rfl rfl
theorem wd_313 : (Cond.instantiable "CribLine$Ages" (8 : Nat)) ∈ gTbl := lw_memk tk_2 73 rfl rfl
theorem wd_314 : (Cond.methodLink "CribLine" (86 : Nat) ({ cls := "CribLine$Ages", name := "<init>", desc := "(LCribLine$Family;LCribLine$Law;)V" } : MethodName)) ∈ gTbl := lw_memk tk_2 74 rfl rfl
theorem wd_315 : (Cond.instanceMethod ({ cls := "CribLine$Ages", name := "<init>", desc := "(LCribLine$Family;LCribLine$Law;)V" } : MethodName)) ∈ gTbl := lw_memk tk_2 75 rfl rfl
theorem wd_316 : (Cond.code ({ cls := "CribLine$Ages", name := "<init>", desc := "(LCribLine$Family;LCribLine$Law;)V" } : MethodName) prog_2_method_1_code (3 : Nat) (Option.none : Option ClassFile.FieldType)) ∈ gTbl := lw_memk tk_2 76 rfl rfl
theorem wd_317 : (Cond.methodLink "CribLine$Ages" (5 : Nat) ({ cls := "java/lang/Object", name := "<init>", desc := "()V" } : MethodName)) ∈ gTbl := lw_memk tk_2 77 rfl rfl
theorem wd_318 : (Cond.classLink "CribLine$Ages" (1 : Nat) "CribLine$Family") ∈ gTbl := lw_memk tk_2 78 rfl rfl
theorem wd_319 : (Cond.methodLink "CribLine$Ages" (11 : Nat) ({ cls := "CribLine$Family", name := "<init>", desc := "()V" } : MethodName)) ∈ gTbl := lw_memk tk_2 79 rfl rfl
theorem wd_320 : (Cond.fieldLink "CribLine$Ages" (35 : Nat) "CribLine$Ages" "now" "LCribLine$Family;") ∈ gTbl := lw_memk tk_2 80 rfl rfl
theorem wd_321 : (Cond.fieldLink "CribLine$Ages" (38 : Nat) "CribLine$Ages" "law" "LCribLine$Law;") ∈ gTbl := lw_memk tk_2 81 rfl rfl
theorem wd_322 : (Cond.fieldLink "CribLine$Ages" (12 : Nat) "CribLine$Ages" "trial" "LCribLine$Family;") ∈ gTbl := lw_memk tk_2 82 rfl rfl
theorem wd_323 : (Cond.fieldLink "CribLine$Ages" (18 : Nat) "CribLine$Ages" "steps" "[I") ∈ gTbl := lw_memk tk_2 83 rfl rfl
theorem wd_324 : (Cond.fieldLink "CribLine$Ages" (22 : Nat) "CribLine$Ages" "leads" "[I") ∈ gTbl := lw_memk tk_2 84 rfl rfl
theorem wd_325 : (Cond.fieldLink "CribLine$Ages" (25 : Nat) "CribLine$Ages" "queue" "[I") ∈ gTbl := lw_memk tk_2 85 rfl rfl
theorem wd_326 : (Cond.fieldLink "CribLine$Ages" (28 : Nat) "CribLine$Ages" "parts" "[I") ∈ gTbl := lw_memk tk_2 86 rfl rfl
theorem wd_327 : (Cond.fieldLink "CribLine$Ages" (31 : Nat) "CribLine$Ages" "reachedAges" "I") ∈ gTbl := lw_memk tk_2 87 rfl rfl
theorem wd_345 : (Cond.classLink "CribLine" (91 : Nat) "CribLine$Pairs") ∈ gTbl := lw_memk tk_2 105 rfl rfl
theorem wd_346 : (Cond.instantiable "CribLine$Pairs" (6 : Nat)) ∈ gTbl := lw_memk tk_2 106 rfl rfl
theorem wd_347 : (Cond.methodLink "CribLine" (93 : Nat) ({ cls := "CribLine$Pairs", name := "<init>", desc := "(LCribLine$Family;)V" } : MethodName)) ∈ gTbl := lw_memk tk_2 107 rfl rfl
theorem wd_348 : (Cond.instanceMethod ({ cls := "CribLine$Pairs", name := "<init>", desc := "(LCribLine$Family;)V" } : MethodName)) ∈ gTbl := lw_memk tk_2 108 rfl rfl
theorem wd_349 : (Cond.code ({ cls := "CribLine$Pairs", name := "<init>", desc := "(LCribLine$Family;)V" } : MethodName) prog_9_method_1_code (2 : Nat) (Option.none : Option ClassFile.FieldType)) ∈ gTbl := lw_memk tk_2 109 rfl rfl
theorem wd_350 : (Cond.methodLink "CribLine$Pairs" (3 : Nat) ({ cls := "java/lang/Object", name := "<init>", desc := "()V" } : MethodName)) ∈ gTbl := lw_memk tk_2 110 rfl rfl
theorem wd_351 : (Cond.fieldLink "CribLine$Pairs" (30 : Nat) "CribLine$Pairs" "now" "LCribLine$Family;") ∈ gTbl := lw_memk tk_2 111 rfl rfl
theorem wd_352 : (Cond.fieldLink "CribLine$Pairs" (11 : Nat) "CribLine$Pairs" "mates" "[I") ∈ gTbl := lw_memk tk_2 112 rfl rfl
theorem wd_353 : (Cond.fieldLink "CribLine$Pairs" (17 : Nat) "CribLine$Pairs" "best" "[I") ∈ gTbl := lw_memk tk_2 113 rfl rfl
theorem wd_354 : (Cond.fieldLink "CribLine$Pairs" (20 : Nat) "CribLine$Pairs" "asked" "[I") ∈ gTbl := lw_memk tk_2 114 rfl rfl
theorem wd_355 : (Cond.fieldLink "CribLine$Pairs" (23 : Nat) "CribLine$Pairs" "bestPairs" "I") ∈ gTbl := lw_memk tk_2 115 rfl rfl
theorem wd_356 : (Cond.fieldLink "CribLine" (329 : Nat) "CribLine$Pairs" "bestPairs" "I") ∈ gTbl := lw_memk tk_2 116 rfl rfl
theorem wd_357 : (Cond.fieldLink "CribLine$Pairs" (27 : Nat) "CribLine$Pairs" "bestGaps" "I") ∈ gTbl := lw_memk tk_2 117 rfl rfl
theorem wd_358 : (Cond.fieldLink "CribLine" (326 : Nat) "CribLine$Pairs" "bestGaps" "I") ∈ gTbl := lw_memk tk_2 118 rfl rfl
theorem wd_372 : (Cond.classLink "CribLine" (98 : Nat) "CribLine$Ties") ∈ gTbl := lw_memk tk_2 132 rfl rfl
theorem wd_373 : (Cond.instantiable "CribLine$Ties" (1 : Nat)) ∈ gTbl := lw_memk tk_2 133 rfl rfl
theorem wd_374 : (Cond.methodLink "CribLine" (100 : Nat) ({ cls := "CribLine$Ties", name := "<init>", desc := "(LCribLine$Family;)V" } : MethodName)) ∈ gTbl := lw_memk tk_2 134 rfl rfl
theorem wd_375 : (Cond.instanceMethod ({ cls := "CribLine$Ties", name := "<init>", desc := "(LCribLine$Family;)V" } : MethodName)) ∈ gTbl := lw_memk tk_2 135 rfl rfl
theorem wd_376 : (Cond.code ({ cls := "CribLine$Ties", name := "<init>", desc := "(LCribLine$Family;)V" } : MethodName) prog_12_method_1_code (2 : Nat) (Option.none : Option ClassFile.FieldType)) ∈ gTbl := lw_memk tk_2 136 rfl rfl
theorem wd_377 : (Cond.methodLink "CribLine$Ties" (3 : Nat) ({ cls := "java/lang/Object", name := "<init>", desc := "()V" } : MethodName)) ∈ gTbl := lw_memk tk_2 137 rfl rfl
theorem wd_378 : (Cond.fieldLink "CribLine$Ties" (9 : Nat) "CribLine$Ties" "now" "LCribLine$Family;") ∈ gTbl := lw_memk tk_2 138 rfl rfl
theorem wd_382 : (Cond.fieldLink "CribLine" (9 : Nat) "CribLine" "tape" "[I") ∈ gTbl := lw_memk tk_2 142 rfl rfl
theorem wd_383 : (Cond.fieldLink "CribLine" (13 : Nat) "CribLine" "tapeLength" "I") ∈ gTbl := lw_memk tk_2 143 rfl rfl
theorem wd_384 : (Cond.fieldLink "CribLine" (17 : Nat) "CribLine" "wrongByte" "I") ∈ gTbl := lw_memk tk_2 144 rfl rfl
theorem wd_385 : (Cond.fieldLink "CribLine" (23 : Nat) "CribLine" "now" "LCribLine$Family;") ∈ gTbl := lw_memk tk_2 145 rfl rfl
theorem wd_386 : (Cond.fieldLink "CribLine" (27 : Nat) "CribLine" "draft" "LCribLine$Family;") ∈ gTbl := lw_memk tk_2 146 rfl rfl
theorem wd_387 : (Cond.fieldLink "CribLine" (33 : Nat) "CribLine" "rules" "LCribLine$Law;") ∈ gTbl := lw_memk tk_2 147 rfl rfl
theorem wd_388 : (Cond.fieldLink "CribLine" (37 : Nat) "CribLine" "draftRules" "LCribLine$Law;") ∈ gTbl := lw_memk tk_2 148 rfl rfl
theorem wd_389 : (Cond.fieldLink "CribLine" (45 : Nat) "CribLine" "familyReader" "LCribLine$FamilyReader;") ∈ gTbl := lw_memk tk_2 149 rfl rfl
theorem wd_390 : (Cond.fieldLink "CribLine" (54 : Nat) "CribLine" "lawReader" "LCribLine$LawReader;") ∈ gTbl := lw_memk tk_2 150 rfl rfl
theorem wd_391 : (Cond.fieldLink "CribLine" (58 : Nat) "CribLine" "past" "[LCribLine$Family;") ∈ gTbl := lw_memk tk_2 151 rfl rfl
theorem wd_392 : (Cond.fieldLink "CribLine" (62 : Nat) "CribLine" "pastSize" "I") ∈ gTbl := lw_memk tk_2 152 rfl rfl
theorem wd_393 : (Cond.fieldLink "CribLine" (65 : Nat) "CribLine" "kept" "LCribLine$Family;") ∈ gTbl := lw_memk tk_2 153 rfl rfl
theorem wd_394 : (Cond.fieldLink "CribLine" (68 : Nat) "CribLine" "keptRules" "LCribLine$Law;") ∈ gTbl := lw_memk tk_2 154 rfl rfl
theorem wd_395 : (Cond.fieldLink "CribLine" (71 : Nat) "CribLine" "isKept" "Z") ∈ gTbl := lw_memk tk_2 155 rfl rfl
theorem wd_396 : (Cond.fieldLink "CribLine" (80 : Nat) "CribLine" "course" "LCribLine$Days;") ∈ gTbl := lw_memk tk_2 156 rfl rfl
theorem wd_397 : (Cond.fieldLink "CribLine" (87 : Nat) "CribLine" "ages" "LCribLine$Ages;") ∈ gTbl := lw_memk tk_2 157 rfl rfl
theorem wd_398 : (Cond.fieldLink "CribLine" (94 : Nat) "CribLine" "pairs" "LCribLine$Pairs;") ∈ gTbl := lw_memk tk_2 158 rfl rfl
theorem wd_399 : (Cond.fieldLink "CribLine" (101 : Nat) "CribLine" "ties" "LCribLine$Ties;") ∈ gTbl := lw_memk tk_2 159 rfl rfl
theorem wd_437 : (Cond.methodLink "CribLineLaw" (151 : Nat) ({ cls := "CribLine", name := "feed", desc := "(IIIII)I" } : MethodName)) ∈ gTbl := lw_memk tk_2 197 rfl rfl
theorem wd_438 : (Cond.instanceMethod ({ cls := "CribLine", name := "feed", desc := "(IIIII)I" } : MethodName)) ∈ gTbl := lw_memk tk_2 198 rfl rfl
theorem wd_439 : (Cond.selects "CribLine" ({ cls := "CribLine", name := "feed", desc := "(IIIII)I" } : MethodName) ({ cls := "CribLine", name := "feed", desc := "(IIIII)I" } : MethodName)) ∈ gTbl := lw_memk tk_2 199 rfl rfl
theorem wd_440 : (Cond.code ({ cls := "CribLine", name := "feed", desc := "(IIIII)I" } : MethodName) prog_1_method_2_code (6 : Nat) (Option.some ClassFile.FieldType.int)) ∈ gTbl := lw_memk tk_2 200 rfl rfl
theorem wd_441 : (Cond.methodLink "CribLine" (105 : Nat) ({ cls := "CribLine", name := "putOnTape", desc := "(I)V" } : MethodName)) ∈ gTbl := lw_memk tk_2 201 rfl rfl
theorem wd_443 : (Cond.instanceMethod ({ cls := "CribLine", name := "putOnTape", desc := "(I)V" } : MethodName)) ∈ gTbl := lw_memk tk_2 203 rfl rfl
theorem wd_444 : (Cond.code ({ cls := "CribLine", name := "putOnTape", desc := "(I)V" } : MethodName) prog_1_method_3_code (3 : Nat) (Option.none : Option ClassFile.FieldType)) ∈ gTbl := lw_memk tk_2 204 rfl rfl
theorem wd_445 : (Cond.methodLink "CribLineLaw" (156 : Nat) ({ cls := "CribLine", name := "end", desc := "(I)Z" } : MethodName)) ∈ gTbl := lw_memk tk_2 205 rfl rfl
theorem wd_446 : (Cond.instanceMethod ({ cls := "CribLine", name := "end", desc := "(I)Z" } : MethodName)) ∈ gTbl := lw_memk tk_2 206 rfl rfl
theorem wd_447 : (Cond.selects "CribLine" ({ cls := "CribLine", name := "end", desc := "(I)Z" } : MethodName) ({ cls := "CribLine", name := "end", desc := "(I)Z" } : MethodName)) ∈ gTbl := lw_memk tk_2 207 rfl rfl
theorem wd_448 : (Cond.code ({ cls := "CribLine", name := "end", desc := "(I)Z" } : MethodName) prog_1_method_5_code (2 : Nat) (Option.some ClassFile.FieldType.boolean)) ∈ gTbl := lw_memk tk_2 208 rfl rfl
theorem wd_449 : (Cond.methodLink "CribLineLaw" (172 : Nat) ({ cls := "CribLine", name := "fault", desc := "()I" } : MethodName)) ∈ gTbl := lw_memk tk_2 209 rfl rfl
theorem wd_450 : (Cond.instanceMethod ({ cls := "CribLine", name := "fault", desc := "()I" } : MethodName)) ∈ gTbl := lw_memk tk_2 210 rfl rfl
theorem wd_451 : (Cond.selects "CribLine" ({ cls := "CribLine", name := "fault", desc := "()I" } : MethodName) ({ cls := "CribLine", name := "fault", desc := "()I" } : MethodName)) ∈ gTbl := lw_memk tk_2 211 rfl rfl
theorem wd_452 : (Cond.code ({ cls := "CribLine", name := "fault", desc := "()I" } : MethodName) prog_1_method_8_code (1 : Nat) (Option.some ClassFile.FieldType.int)) ∈ gTbl := lw_memk tk_2 212 rfl rfl
theorem wd_453 : (Cond.methodLink "CribLineLaw" (237 : Nat) ({ cls := "CribLine", name := "cradle", desc := "(ZZ)I" } : MethodName)) ∈ gTbl := lw_memk tk_2 213 rfl rfl
theorem wd_454 : (Cond.instanceMethod ({ cls := "CribLine", name := "cradle", desc := "(ZZ)I" } : MethodName)) ∈ gTbl := lw_memk tk_2 214 rfl rfl
theorem wd_455 : (Cond.selects "CribLine" ({ cls := "CribLine", name := "cradle", desc := "(ZZ)I" } : MethodName) ({ cls := "CribLine", name := "cradle", desc := "(ZZ)I" } : MethodName)) ∈ gTbl := lw_memk tk_2 215 rfl rfl
theorem wd_456 : (Cond.code ({ cls := "CribLine", name := "cradle", desc := "(ZZ)I" } : MethodName) prog_1_method_33_code (3 : Nat) (Option.some ClassFile.FieldType.int)) ∈ gTbl := lw_memk tk_2 216 rfl rfl
theorem wd_457 : (Cond.methodLink "CribLine" (300 : Nat) ({ cls := "CribLine$Days", name := "firstInCrib", desc := "(ZZ)I" } : MethodName)) ∈ gTbl := lw_memk tk_2 217 rfl rfl
theorem wd_458 : (Cond.instanceMethod ({ cls := "CribLine$Days", name := "firstInCrib", desc := "(ZZ)I" } : MethodName)) ∈ gTbl := lw_memk tk_2 218 rfl rfl
theorem wd_459 : (Cond.selects "CribLine$Days" ({ cls := "CribLine$Days", name := "firstInCrib", desc := "(ZZ)I" } : MethodName) ({ cls := "CribLine$Days", name := "firstInCrib", desc := "(ZZ)I" } : MethodName)) ∈ gTbl := lw_memk tk_2 219 rfl rfl
theorem wd_460 : (Cond.code ({ cls := "CribLine$Days", name := "firstInCrib", desc := "(ZZ)I" } : MethodName) prog_3_method_6_code (5 : Nat) (Option.some ClassFile.FieldType.int)) ∈ gTbl := lw_memk tk_2 220 rfl rfl
theorem wd_461 : (Cond.methodLink "CribLine$Days" (75 : Nat) ({ cls := "CribLine$Family", name := "take", desc := "(LCribLine$Family;)V" } : MethodName)) ∈ gTbl := lw_memk tk_2 221 rfl rfl
theorem wd_462 : (Cond.instanceMethod ({ cls := "CribLine$Family", name := "take", desc := "(LCribLine$Family;)V" } : MethodName)) ∈ gTbl := lw_memk tk_2 222 rfl rfl
theorem wd_463 : (Cond.selects "CribLine$Family" ({ cls := "CribLine$Family", name := "take", desc := "(LCribLine$Family;)V" } : MethodName) ({ cls := "CribLine$Family", name := "take", desc := "(LCribLine$Family;)V" } : MethodName)) ∈ gTbl := lw_memk tk_2 223 rfl rfl
theorem wd_464 : (Cond.code ({ cls := "CribLine$Family", name := "take", desc := "(LCribLine$Family;)V" } : MethodName) prog_4_method_2_code (3 : Nat) (Option.none : Option ClassFile.FieldType)) ∈ gTbl := lw_memk tk_2 224 rfl rfl
theorem wd_465 : (Cond.methodLink "CribLine$Family" (55 : Nat) ({ cls := "CribLine$Family", name := "at", desc := "(I)LCribLine$Person;" } : MethodName)) ∈ gTbl := lw_memk tk_2 225 rfl rfl
theorem wd_466 : (Cond.instanceMethod ({ cls := "CribLine$Family", name := "at", desc := "(I)LCribLine$Person;" } : MethodName)) ∈ gTbl := lw_memk tk_2 226 rfl rfl
theorem wd_467 : (Cond.selects "CribLine$Family" ({ cls := "CribLine$Family", name := "at", desc := "(I)LCribLine$Person;" } : MethodName) ({ cls := "CribLine$Family", name := "at", desc := "(I)LCribLine$Person;" } : MethodName)) ∈ gTbl := lw_memk tk_2 227 rfl rfl
theorem wd_468 : (Cond.code ({ cls := "CribLine$Family", name := "at", desc := "(I)LCribLine$Person;" } : MethodName) prog_4_method_4_code (2 : Nat) (Option.some (ClassFile.FieldType.object "CribLine$Person"))) ∈ gTbl := lw_memk tk_2 228 rfl rfl
theorem wd_469 : (Cond.methodLink "CribLine$Family" (59 : Nat) ({ cls := "CribLine$Person", name := "take", desc := "(LCribLine$Person;)V" } : MethodName)) ∈ gTbl := lw_memk tk_2 229 rfl rfl
theorem wd_470 : (Cond.instanceMethod ({ cls := "CribLine$Person", name := "take", desc := "(LCribLine$Person;)V" } : MethodName)) ∈ gTbl := lw_memk tk_2 230 rfl rfl
theorem wd_471 : (Cond.selects "CribLine$Person" ({ cls := "CribLine$Person", name := "take", desc := "(LCribLine$Person;)V" } : MethodName) ({ cls := "CribLine$Person", name := "take", desc := "(LCribLine$Person;)V" } : MethodName)) ∈ gTbl := lw_memk tk_2 231 rfl rfl
theorem wd_472 : (Cond.code ({ cls := "CribLine$Person", name := "take", desc := "(LCribLine$Person;)V" } : MethodName) prog_10_method_2_code (2 : Nat) (Option.none : Option ClassFile.FieldType)) ∈ gTbl := lw_memk tk_2 232 rfl rfl
theorem wd_473 : (Cond.methodLink "CribLine$Family" (63 : Nat) ({ cls := "java/lang/System", name := "arraycopy", desc := "(Ljava/lang/Object;ILjava/lang/Object;II)V" } : MethodName)) ∈ gTbl := lw_memk tk_2 233 rfl rfl
theorem wd_474 : (Cond.static ({ cls := "java/lang/System", name := "arraycopy", desc := "(Ljava/lang/Object;ILjava/lang/Object;II)V" } : MethodName)) ∈ gTbl := lw_memk tk_2 234 rfl rfl
theorem wd_475 : (Cond.native ({ cls := "java/lang/System", name := "arraycopy", desc := "(Ljava/lang/Object;ILjava/lang/Object;II)V" } : MethodName)) ∈ gTbl := lw_memk tk_2 235 rfl rfl
theorem wd_476 : (Cond.methodLink "CribLine$Family" (69 : Nat) ({ cls := "CribLine$Log", name := "take", desc := "(LCribLine$Log;)V" } : MethodName)) ∈ gTbl := lw_memk tk_2 236 rfl rfl
theorem wd_477 : (Cond.instanceMethod ({ cls := "CribLine$Log", name := "take", desc := "(LCribLine$Log;)V" } : MethodName)) ∈ gTbl := lw_memk tk_2 237 rfl rfl
theorem wd_478 : (Cond.selects "CribLine$Log" ({ cls := "CribLine$Log", name := "take", desc := "(LCribLine$Log;)V" } : MethodName) ({ cls := "CribLine$Log", name := "take", desc := "(LCribLine$Log;)V" } : MethodName)) ∈ gTbl := lw_memk tk_2 238 rfl rfl
theorem wd_479 : (Cond.code ({ cls := "CribLine$Log", name := "take", desc := "(LCribLine$Log;)V" } : MethodName) prog_8_method_2_code (2 : Nat) (Option.none : Option ClassFile.FieldType)) ∈ gTbl := lw_memk tk_2 239 rfl rfl
theorem wd_480 : (Cond.methodLink "CribLine$Log" (22 : Nat) ({ cls := "java/lang/System", name := "arraycopy", desc := "(Ljava/lang/Object;ILjava/lang/Object;II)V" } : MethodName)) ∈ gTbl := lw_memk tk_3 0 rfl rfl
theorem wd_481 : (Cond.methodLink "CribLine$Days" (86 : Nat) ({ cls := "CribLine$Family", name := "inCrib", desc := "()I" } : MethodName)) ∈ gTbl := lw_memk tk_3 1 rfl rfl
theorem wd_482 : (Cond.instanceMethod ({ cls := "CribLine$Family", name := "inCrib", desc := "()I" } : MethodName)) ∈ gTbl := lw_memk tk_3 2 rfl rfl
theorem wd_483 : (Cond.selects "CribLine$Family" ({ cls := "CribLine$Family", name := "inCrib", desc := "()I" } : MethodName) ({ cls := "CribLine$Family", name := "inCrib", desc := "()I" } : MethodName)) ∈ gTbl := lw_memk tk_3 3 rfl rfl
theorem wd_484 : (Cond.code ({ cls := "CribLine$Family", name := "inCrib", desc := "()I" } : MethodName) prog_4_method_23_code (3 : Nat) (Option.some ClassFile.FieldType.int)) ∈ gTbl := lw_memk tk_3 4 rfl rfl
theorem wd_485 : (Cond.methodLink "CribLine$Days" (89 : Nat) ({ cls := "java/lang/Integer", name := "numberOfTrailingZeros", desc := "(I)I" } : MethodName)) ∈ gTbl := lw_memk tk_3 5 rfl rfl
theorem wd_486 : (Cond.static ({ cls := "java/lang/Integer", name := "numberOfTrailingZeros", desc := "(I)I" } : MethodName)) ∈ gTbl := lw_memk tk_3 6 rfl rfl
theorem wd_487 : (Cond.code ({ cls := "java/lang/Integer", name := "numberOfTrailingZeros", desc := "(I)I" } : MethodName) prog_22_method_48_code (2 : Nat) (Option.some ClassFile.FieldType.int)) ∈ gTbl := lw_memk tk_3 7 rfl rfl
theorem wd_488 : (Cond.constant "java/lang/Integer" (264 : Nat) (65536 : Int32)) ∈ gTbl := lw_memk tk_3 8 rfl rfl
theorem wd_489 : (Cond.methodLink "CribLine$Days" (79 : Nat) ({ cls := "CribLine$Days", name := "passAhead", desc := "(LCribLine$Family;Z)V" } : MethodName)) ∈ gTbl := lw_memk tk_3 9 rfl rfl
theorem wd_491 : (Cond.instanceMethod ({ cls := "CribLine$Days", name := "passAhead", desc := "(LCribLine$Family;Z)V" } : MethodName)) ∈ gTbl := lw_memk tk_3 11 rfl rfl
theorem wd_492 : (Cond.code ({ cls := "CribLine$Days", name := "passAhead", desc := "(LCribLine$Family;Z)V" } : MethodName) prog_3_method_4_code (5 : Nat) (Option.none : Option ClassFile.FieldType)) ∈ gTbl := lw_memk tk_3 12 rfl rfl
theorem wd_493 : (Cond.methodLink "CribLine$Days" (33 : Nat) ({ cls := "CribLine$Family", name := "at", desc := "(I)LCribLine$Person;" } : MethodName)) ∈ gTbl := lw_memk tk_3 13 rfl rfl
theorem wd_494 : (Cond.methodLink "CribLine$Days" (55 : Nat) ({ cls := "CribLine$Family", name := "governorAt", desc := "(II)I" } : MethodName)) ∈ gTbl := lw_memk tk_3 14 rfl rfl
theorem wd_495 : (Cond.instanceMethod ({ cls := "CribLine$Family", name := "governorAt", desc := "(II)I" } : MethodName)) ∈ gTbl := lw_memk tk_3 15 rfl rfl
theorem wd_496 : (Cond.selects "CribLine$Family" ({ cls := "CribLine$Family", name := "governorAt", desc := "(II)I" } : MethodName) ({ cls := "CribLine$Family", name := "governorAt", desc := "(II)I" } : MethodName)) ∈ gTbl := lw_memk tk_3 16 rfl rfl
theorem wd_497 : (Cond.code ({ cls := "CribLine$Family", name := "governorAt", desc := "(II)I" } : MethodName) prog_4_method_15_code (5 : Nat) (Option.some ClassFile.FieldType.int)) ∈ gTbl := lw_memk tk_3 17 rfl rfl
theorem wd_498 : (Cond.methodLink "CribLine$Family" (109 : Nat) ({ cls := "CribLine$Family", name := "governs", desc := "(II)Z" } : MethodName)) ∈ gTbl := lw_memk tk_3 18 rfl rfl
theorem wd_499 : (Cond.instanceMethod ({ cls := "CribLine$Family", name := "governs", desc := "(II)Z" } : MethodName)) ∈ gTbl := lw_memk tk_3 19 rfl rfl
theorem wd_500 : (Cond.selects "CribLine$Family" ({ cls := "CribLine$Family", name := "governs", desc := "(II)Z" } : MethodName) ({ cls := "CribLine$Family", name := "governs", desc := "(II)Z" } : MethodName)) ∈ gTbl := lw_memk tk_3 20 rfl rfl
theorem wd_501 : (Cond.code ({ cls := "CribLine$Family", name := "governs", desc := "(II)Z" } : MethodName) prog_4_method_12_code (3 : Nat) (Option.some ClassFile.FieldType.boolean)) ∈ gTbl := lw_memk tk_3 21 rfl rfl
theorem wd_502 : (Cond.methodLink "CribLine$Family" (102 : Nat) ({ cls := "CribLine$Family", name := "has", desc := "(I)Z" } : MethodName)) ∈ gTbl := lw_memk tk_3 22 rfl rfl
theorem wd_503 : (Cond.instanceMethod ({ cls := "CribLine$Family", name := "has", desc := "(I)Z" } : MethodName)) ∈ gTbl := lw_memk tk_3 23 rfl rfl
theorem wd_504 : (Cond.selects "CribLine$Family" ({ cls := "CribLine$Family", name := "has", desc := "(I)Z" } : MethodName) ({ cls := "CribLine$Family", name := "has", desc := "(I)Z" } : MethodName)) ∈ gTbl := lw_memk tk_3 24 rfl rfl
theorem wd_505 : (Cond.code ({ cls := "CribLine$Family", name := "has", desc := "(I)Z" } : MethodName) prog_4_method_3_code (2 : Nat) (Option.some ClassFile.FieldType.boolean)) ∈ gTbl := lw_memk tk_3 25 rfl rfl
theorem wd_506 : (Cond.methodLink "CribLine$Days" (62 : Nat) ({ cls := "CribLine$Law", name := "weight", desc := "(LCribLine$Family;IIZ)I" } : MethodName)) ∈ gTbl := lw_memk tk_3 26 rfl rfl
theorem wd_507 : (Cond.instanceMethod ({ cls := "CribLine$Law", name := "weight", desc := "(LCribLine$Family;IIZ)I" } : MethodName)) ∈ gTbl := lw_memk tk_3 27 rfl rfl
theorem wd_508 : (Cond.selects "CribLine$Law" ({ cls := "CribLine$Law", name := "weight", desc := "(LCribLine$Family;IIZ)I" } : MethodName) ({ cls := "CribLine$Law", name := "weight", desc := "(LCribLine$Family;IIZ)I" } : MethodName)) ∈ gTbl := lw_memk tk_3 28 rfl rfl
theorem wd_509 : (Cond.code ({ cls := "CribLine$Law", name := "weight", desc := "(LCribLine$Family;IIZ)I" } : MethodName) prog_6_method_6_code (8 : Nat) (Option.some ClassFile.FieldType.int)) ∈ gTbl := lw_memk tk_3 29 rfl rfl
theorem wd_510 : (Cond.methodLink "CribLine$Law" (56 : Nat) ({ cls := "CribLine$Law", name := "gatherFacts", desc := "(LCribLine$Family;II)V" } : MethodName)) ∈ gTbl := lw_memk tk_3 30 rfl rfl
theorem wd_512 : (Cond.instanceMethod ({ cls := "CribLine$Law", name := "gatherFacts", desc := "(LCribLine$Family;II)V" } : MethodName)) ∈ gTbl := lw_memk tk_3 32 rfl rfl
theorem wd_513 : (Cond.code ({ cls := "CribLine$Law", name := "gatherFacts", desc := "(LCribLine$Family;II)V" } : MethodName) prog_6_method_7_code (5 : Nat) (Option.none : Option ClassFile.FieldType)) ∈ gTbl := lw_memk tk_3 33 rfl rfl
theorem wd_514 : (Cond.methodLink "CribLine$Law" (68 : Nat) ({ cls := "CribLine$Family", name := "at", desc := "(I)LCribLine$Person;" } : MethodName)) ∈ gTbl := lw_memk tk_3 34 rfl rfl
theorem wd_515 : (Cond.methodLink "CribLine$Law" (80 : Nat) ({ cls := "java/lang/Math", name := "max", desc := "(II)I" } : MethodName)) ∈ gTbl := lw_memk tk_3 35 rfl rfl
theorem wd_516 : (Cond.static ({ cls := "java/lang/Math", name := "max", desc := "(II)I" } : MethodName)) ∈ gTbl := lw_memk tk_3 36 rfl rfl
theorem wd_517 : (Cond.code ({ cls := "java/lang/Math", name := "max", desc := "(II)I" } : MethodName) prog_23_method_65_code (2 : Nat) (Option.some ClassFile.FieldType.int)) ∈ gTbl := lw_memk tk_3 37 rfl rfl
theorem wd_518 : (Cond.methodLink "CribLine$Law" (60 : Nat) ({ cls := "CribLine$Law", name := "holds", desc := "(II)Z" } : MethodName)) ∈ gTbl := lw_memk tk_3 38 rfl rfl
theorem wd_520 : (Cond.instanceMethod ({ cls := "CribLine$Law", name := "holds", desc := "(II)Z" } : MethodName)) ∈ gTbl := lw_memk tk_3 40 rfl rfl
theorem wd_521 : (Cond.code ({ cls := "CribLine$Law", name := "holds", desc := "(II)Z" } : MethodName) prog_6_method_8_code (6 : Nat) (Option.some ClassFile.FieldType.boolean)) ∈ gTbl := lw_memk tk_3 41 rfl rfl
theorem wd_522 : (Cond.methodLink "CribLine$Law" (98 : Nat) ({ cls := "CribLine$Law", name := "joins", desc := "(I)Z" } : MethodName)) ∈ gTbl := lw_memk tk_3 42 rfl rfl
theorem wd_523 : (Cond.static ({ cls := "CribLine$Law", name := "joins", desc := "(I)Z" } : MethodName)) ∈ gTbl := lw_memk tk_3 43 rfl rfl
theorem wd_524 : (Cond.code ({ cls := "CribLine$Law", name := "joins", desc := "(I)Z" } : MethodName) prog_6_method_9_code (1 : Nat) (Option.some ClassFile.FieldType.boolean)) ∈ gTbl := lw_memk tk_3 44 rfl rfl
theorem wd_525 : (Cond.methodLink "CribLine$Law" (102 : Nat) ({ cls := "CribLine$Law", name := "joined", desc := "(III)I" } : MethodName)) ∈ gTbl := lw_memk tk_3 45 rfl rfl
theorem wd_526 : (Cond.static ({ cls := "CribLine$Law", name := "joined", desc := "(III)I" } : MethodName)) ∈ gTbl := lw_memk tk_3 46 rfl rfl
theorem wd_527 : (Cond.code ({ cls := "CribLine$Law", name := "joined", desc := "(III)I" } : MethodName) prog_6_method_10_code (3 : Nat) (Option.some ClassFile.FieldType.int)) ∈ gTbl := lw_memk tk_3 47 rfl rfl
theorem wd_528 : (Cond.methodLink "CribLine$Law" (64 : Nat) ({ cls := "CribLine$Family", name := "leftByRound", desc := "(I)I" } : MethodName)) ∈ gTbl := lw_memk tk_3 48 rfl rfl
theorem wd_529 : (Cond.instanceMethod ({ cls := "CribLine$Family", name := "leftByRound", desc := "(I)I" } : MethodName)) ∈ gTbl := lw_memk tk_3 49 rfl rfl
theorem wd_530 : (Cond.selects "CribLine$Family" ({ cls := "CribLine$Family", name := "leftByRound", desc := "(I)I" } : MethodName) ({ cls := "CribLine$Family", name := "leftByRound", desc := "(I)I" } : MethodName)) ∈ gTbl := lw_memk tk_3 50 rfl rfl
theorem wd_531 : (Cond.code ({ cls := "CribLine$Family", name := "leftByRound", desc := "(I)I" } : MethodName) prog_4_method_7_code (2 : Nat) (Option.some ClassFile.FieldType.int)) ∈ gTbl := lw_memk tk_3 51 rfl rfl
theorem wd_532 : (Cond.methodLink "CribLine$Days" (68 : Nat) ({ cls := "CribLine$Family", name := "tell", desc := "(IIZI)I" } : MethodName)) ∈ gTbl := lw_memk tk_3 52 rfl rfl
theorem wd_533 : (Cond.instanceMethod ({ cls := "CribLine$Family", name := "tell", desc := "(IIZI)I" } : MethodName)) ∈ gTbl := lw_memk tk_3 53 rfl rfl
theorem wd_534 : (Cond.selects "CribLine$Family" ({ cls := "CribLine$Family", name := "tell", desc := "(IIZI)I" } : MethodName) ({ cls := "CribLine$Family", name := "tell", desc := "(IIZI)I" } : MethodName)) ∈ gTbl := lw_memk tk_3 54 rfl rfl
theorem wd_535 : (Cond.code ({ cls := "CribLine$Family", name := "tell", desc := "(IIZI)I" } : MethodName) prog_4_method_9_code (6 : Nat) (Option.some ClassFile.FieldType.int)) ∈ gTbl := lw_memk tk_3 55 rfl rfl
theorem wd_536 : (Cond.methodLink "CribLine$Family" (90 : Nat) ({ cls := "java/lang/Math", name := "max", desc := "(II)I" } : MethodName)) ∈ gTbl := lw_memk tk_3 56 rfl rfl
theorem wd_537 : (Cond.methodLink "CribLine$Family" (81 : Nat) ({ cls := "java/lang/Math", name := "min", desc := "(II)I" } : MethodName)) ∈ gTbl := lw_memk tk_3 57 rfl rfl
theorem wd_538 : (Cond.static ({ cls := "java/lang/Math", name := "min", desc := "(II)I" } : MethodName)) ∈ gTbl := lw_memk tk_3 58 rfl rfl
theorem wd_539 : (Cond.code ({ cls := "java/lang/Math", name := "min", desc := "(II)I" } : MethodName) prog_23_method_69_code (2 : Nat) (Option.some ClassFile.FieldType.int)) ∈ gTbl := lw_memk tk_3 59 rfl rfl
theorem wd_540 : (Cond.methodLink "CribLine$Family" (93 : Nat) ({ cls := "CribLine$Family", name := "moved", desc := "(IIZ)I" } : MethodName)) ∈ gTbl := lw_memk tk_3 60 rfl rfl
theorem wd_541 : (Cond.instanceMethod ({ cls := "CribLine$Family", name := "moved", desc := "(IIZ)I" } : MethodName)) ∈ gTbl := lw_memk tk_3 61 rfl rfl
theorem wd_542 : (Cond.selects "CribLine$Family" ({ cls := "CribLine$Family", name := "moved", desc := "(IIZ)I" } : MethodName) ({ cls := "CribLine$Family", name := "moved", desc := "(IIZ)I" } : MethodName)) ∈ gTbl := lw_memk tk_3 62 rfl rfl
theorem wd_543 : (Cond.code ({ cls := "CribLine$Family", name := "moved", desc := "(IIZ)I" } : MethodName) prog_4_method_8_code (5 : Nat) (Option.some ClassFile.FieldType.int)) ∈ gTbl := lw_memk tk_3 63 rfl rfl
theorem wd_544 : (Cond.methodLink "CribLine$Family" (97 : Nat) ({ cls := "CribLine$Log", name := "add", desc := "(IIIZI)V" } : MethodName)) ∈ gTbl := lw_memk tk_3 64 rfl rfl
theorem wd_545 : (Cond.instanceMethod ({ cls := "CribLine$Log", name := "add", desc := "(IIIZI)V" } : MethodName)) ∈ gTbl := lw_memk tk_3 65 rfl rfl
theorem wd_546 : (Cond.selects "CribLine$Log" ({ cls := "CribLine$Log", name := "add", desc := "(IIIZI)V" } : MethodName) ({ cls := "CribLine$Log", name := "add", desc := "(IIIZI)V" } : MethodName)) ∈ gTbl := lw_memk tk_3 66 rfl rfl
theorem wd_547 : (Cond.code ({ cls := "CribLine$Log", name := "add", desc := "(IIIZI)V" } : MethodName) prog_8_method_3_code (7 : Nat) (Option.none : Option ClassFile.FieldType)) ∈ gTbl := lw_memk tk_3 67 rfl rfl
theorem wd_548 : (Cond.methodLink "CribLine$Log" (28 : Nat) ({ cls := "java/lang/Math", name := "min", desc := "(II)I" } : MethodName)) ∈ gTbl := lw_memk tk_3 68 rfl rfl
theorem wd_549 : (Cond.methodLink "CribLine$Days" (72 : Nat) ({ cls := "CribLine$Family", name := "endDay", desc := "()V" } : MethodName)) ∈ gTbl := lw_memk tk_3 69 rfl rfl
theorem wd_550 : (Cond.instanceMethod ({ cls := "CribLine$Family", name := "endDay", desc := "()V" } : MethodName)) ∈ gTbl := lw_memk tk_3 70 rfl rfl
theorem wd_551 : (Cond.selects "CribLine$Family" ({ cls := "CribLine$Family", name := "endDay", desc := "()V" } : MethodName) ({ cls := "CribLine$Family", name := "endDay", desc := "()V" } : MethodName)) ∈ gTbl := lw_memk tk_3 71 rfl rfl
theorem wd_552 : (Cond.code ({ cls := "CribLine$Family", name := "endDay", desc := "()V" } : MethodName) prog_4_method_10_code (1 : Nat) (Option.none : Option ClassFile.FieldType)) ∈ gTbl := lw_memk tk_3 72 rfl rfl
theorem wd_553 : (Cond.methodLink "CribLineLaw" (242 : Nat) ({ cls := "CribLine", name := "again", desc := "(Z)I" } : MethodName)) ∈ gTbl := lw_memk tk_3 73 rfl rfl
theorem wd_554 : (Cond.instanceMethod ({ cls := "CribLine", name := "again", desc := "(Z)I" } : MethodName)) ∈ gTbl := lw_memk tk_3 74 rfl rfl
theorem wd_555 : (Cond.selects "CribLine" ({ cls := "CribLine", name := "again", desc := "(Z)I" } : MethodName) ({ cls := "CribLine", name := "again", desc := "(Z)I" } : MethodName)) ∈ gTbl := lw_memk tk_3 75 rfl rfl
theorem wd_556 : (Cond.code ({ cls := "CribLine", name := "again", desc := "(Z)I" } : MethodName) prog_1_method_34_code (2 : Nat) (Option.some ClassFile.FieldType.int)) ∈ gTbl := lw_memk tk_3 76 rfl rfl
theorem wd_557 : (Cond.methodLink "CribLine" (304 : Nat) ({ cls := "CribLine$Days", name := "firstAsNow", desc := "(Z)I" } : MethodName)) ∈ gTbl := lw_memk tk_3 77 rfl rfl
theorem wd_558 : (Cond.instanceMethod ({ cls := "CribLine$Days", name := "firstAsNow", desc := "(Z)I" } : MethodName)) ∈ gTbl := lw_memk tk_3 78 rfl rfl
theorem wd_559 : (Cond.selects "CribLine$Days" ({ cls := "CribLine$Days", name := "firstAsNow", desc := "(Z)I" } : MethodName) ({ cls := "CribLine$Days", name := "firstAsNow", desc := "(Z)I" } : MethodName)) ∈ gTbl := lw_memk tk_3 79 rfl rfl
theorem wd_560 : (Cond.code ({ cls := "CribLine$Days", name := "firstAsNow", desc := "(Z)I" } : MethodName) prog_3_method_7_code (3 : Nat) (Option.some ClassFile.FieldType.int)) ∈ gTbl := lw_memk tk_3 80 rfl rfl
theorem wd_561 : (Cond.methodLink "CribLine$Days" (92 : Nat) ({ cls := "CribLine$Days", name := "areAsNow", desc := "(LCribLine$Family;)Z" } : MethodName)) ∈ gTbl := lw_memk tk_3 81 rfl rfl
theorem wd_563 : (Cond.instanceMethod ({ cls := "CribLine$Days", name := "areAsNow", desc := "(LCribLine$Family;)Z" } : MethodName)) ∈ gTbl := lw_memk tk_3 83 rfl rfl
theorem wd_564 : (Cond.code ({ cls := "CribLine$Days", name := "areAsNow", desc := "(LCribLine$Family;)Z" } : MethodName) prog_3_method_8_code (3 : Nat) (Option.some ClassFile.FieldType.boolean)) ∈ gTbl := lw_memk tk_3 84 rfl rfl
theorem wd_565 : (Cond.methodLink "CribLineLaw" (256 : Nat) ({ cls := "CribLine", name := "match", desc := "(Z)I" } : MethodName)) ∈ gTbl := lw_memk tk_3 85 rfl rfl
theorem wd_566 : (Cond.instanceMethod ({ cls := "CribLine", name := "match", desc := "(Z)I" } : MethodName)) ∈ gTbl := lw_memk tk_3 86 rfl rfl
theorem wd_567 : (Cond.selects "CribLine" ({ cls := "CribLine", name := "match", desc := "(Z)I" } : MethodName) ({ cls := "CribLine", name := "match", desc := "(Z)I" } : MethodName)) ∈ gTbl := lw_memk tk_3 87 rfl rfl
theorem wd_568 : (Cond.code ({ cls := "CribLine", name := "match", desc := "(Z)I" } : MethodName) prog_1_method_39_code (2 : Nat) (Option.some ClassFile.FieldType.int)) ∈ gTbl := lw_memk tk_3 88 rfl rfl
theorem wd_569 : (Cond.methodLink "CribLine" (323 : Nat) ({ cls := "CribLine$Pairs", name := "bestMatching", desc := "()V" } : MethodName)) ∈ gTbl := lw_memk tk_3 89 rfl rfl
theorem wd_570 : (Cond.instanceMethod ({ cls := "CribLine$Pairs", name := "bestMatching", desc := "()V" } : MethodName)) ∈ gTbl := lw_memk tk_3 90 rfl rfl
theorem wd_571 : (Cond.selects "CribLine$Pairs" ({ cls := "CribLine$Pairs", name := "bestMatching", desc := "()V" } : MethodName) ({ cls := "CribLine$Pairs", name := "bestMatching", desc := "()V" } : MethodName)) ∈ gTbl := lw_memk tk_3 91 rfl rfl
theorem wd_572 : (Cond.code ({ cls := "CribLine$Pairs", name := "bestMatching", desc := "()V" } : MethodName) prog_9_method_3_code (1 : Nat) (Option.none : Option ClassFile.FieldType)) ∈ gTbl := lw_memk tk_3 92 rfl rfl
theorem wd_573 : (Cond.methodLink "CribLine$Pairs" (50 : Nat) ({ cls := "java/util/Arrays", name := "fill", desc := "([II)V" } : MethodName)) ∈ gTbl := lw_memk tk_3 93 rfl rfl
theorem wd_574 : (Cond.static ({ cls := "java/util/Arrays", name := "fill", desc := "([II)V" } : MethodName)) ∈ gTbl := lw_memk tk_3 94 rfl rfl
theorem wd_575 : (Cond.code ({ cls := "java/util/Arrays", name := "fill", desc := "([II)V" } : MethodName) prog_33_method_103_code (4 : Nat) (Option.none : Option ClassFile.FieldType)) ∈ gTbl := lw_memk tk_3 95 rfl rfl
theorem wd_576 : (Cond.methodLink "CribLine$Pairs" (56 : Nat) ({ cls := "CribLine$Pairs", name := "matchFrom", desc := "(III)V" } : MethodName)) ∈ gTbl := lw_memk tk_3 96 rfl rfl
theorem wd_578 : (Cond.instanceMethod ({ cls := "CribLine$Pairs", name := "matchFrom", desc := "(III)V" } : MethodName)) ∈ gTbl := lw_memk tk_3 98 rfl rfl
theorem wd_579 : (Cond.code ({ cls := "CribLine$Pairs", name := "matchFrom", desc := "(III)V" } : MethodName) prog_9_method_4_code (5 : Nat) (Option.none : Option ClassFile.FieldType)) ∈ gTbl := lw_memk tk_3 99 rfl rfl
theorem wd_580 : (Cond.methodLink "CribLine$Pairs" (63 : Nat) ({ cls := "java/lang/System", name := "arraycopy", desc := "(Ljava/lang/Object;ILjava/lang/Object;II)V" } : MethodName)) ∈ gTbl := lw_memk tk_3 100 rfl rfl
theorem wd_581 : (Cond.methodLink "CribLine$Pairs" (69 : Nat) ({ cls := "CribLine$Pairs", name := "isSingle", desc := "(II)Z" } : MethodName)) ∈ gTbl := lw_memk tk_3 101 rfl rfl
theorem wd_583 : (Cond.instanceMethod ({ cls := "CribLine$Pairs", name := "isSingle", desc := "(II)Z" } : MethodName)) ∈ gTbl := lw_memk tk_3 103 rfl rfl
theorem wd_584 : (Cond.code ({ cls := "CribLine$Pairs", name := "isSingle", desc := "(II)Z" } : MethodName) prog_9_method_2_code (3 : Nat) (Option.some ClassFile.FieldType.boolean)) ∈ gTbl := lw_memk tk_3 104 rfl rfl
theorem wd_585 : (Cond.methodLink "CribLine$Pairs" (34 : Nat) ({ cls := "CribLine$Family", name := "has", desc := "(I)Z" } : MethodName)) ∈ gTbl := lw_memk tk_3 105 rfl rfl
theorem wd_586 : (Cond.methodLink "CribLine$Pairs" (38 : Nat) ({ cls := "CribLine$Family", name := "at", desc := "(I)LCribLine$Person;" } : MethodName)) ∈ gTbl := lw_memk tk_3 106 rfl rfl
theorem wd_587 : (Cond.methodLink "CribLine$Pairs" (73 : Nat) ({ cls := "CribLine$Family", name := "mayWed", desc := "(II)Z" } : MethodName)) ∈ gTbl := lw_memk tk_3 107 rfl rfl
theorem wd_588 : (Cond.instanceMethod ({ cls := "CribLine$Family", name := "mayWed", desc := "(II)Z" } : MethodName)) ∈ gTbl := lw_memk tk_3 108 rfl rfl
theorem wd_589 : (Cond.selects "CribLine$Family" ({ cls := "CribLine$Family", name := "mayWed", desc := "(II)Z" } : MethodName) ({ cls := "CribLine$Family", name := "mayWed", desc := "(II)Z" } : MethodName)) ∈ gTbl := lw_memk tk_3 109 rfl rfl
theorem wd_590 : (Cond.code ({ cls := "CribLine$Family", name := "mayWed", desc := "(II)Z" } : MethodName) prog_4_method_17_code (3 : Nat) (Option.some ClassFile.FieldType.boolean)) ∈ gTbl := lw_memk tk_3 110 rfl rfl
theorem wd_591 : (Cond.methodLink "CribLine$Family" (116 : Nat) ({ cls := "CribLine$Family", name := "areParentAndChild", desc := "(II)Z" } : MethodName)) ∈ gTbl := lw_memk tk_3 111 rfl rfl
theorem wd_592 : (Cond.instanceMethod ({ cls := "CribLine$Family", name := "areParentAndChild", desc := "(II)Z" } : MethodName)) ∈ gTbl := lw_memk tk_3 112 rfl rfl
theorem wd_593 : (Cond.selects "CribLine$Family" ({ cls := "CribLine$Family", name := "areParentAndChild", desc := "(II)Z" } : MethodName) ({ cls := "CribLine$Family", name := "areParentAndChild", desc := "(II)Z" } : MethodName)) ∈ gTbl := lw_memk tk_3 113 rfl rfl
theorem wd_594 : (Cond.code ({ cls := "CribLine$Family", name := "areParentAndChild", desc := "(II)Z" } : MethodName) prog_4_method_16_code (3 : Nat) (Option.some ClassFile.FieldType.boolean)) ∈ gTbl := lw_memk tk_3 114 rfl rfl
theorem wd_595 : (Cond.methodLink "CribLine$Pairs" (76 : Nat) ({ cls := "CribLine$Family", name := "gapOf", desc := "(II)I" } : MethodName)) ∈ gTbl := lw_memk tk_3 115 rfl rfl
theorem wd_596 : (Cond.instanceMethod ({ cls := "CribLine$Family", name := "gapOf", desc := "(II)I" } : MethodName)) ∈ gTbl := lw_memk tk_3 116 rfl rfl
theorem wd_597 : (Cond.selects "CribLine$Family" ({ cls := "CribLine$Family", name := "gapOf", desc := "(II)I" } : MethodName) ({ cls := "CribLine$Family", name := "gapOf", desc := "(II)I" } : MethodName)) ∈ gTbl := lw_memk tk_3 117 rfl rfl
theorem wd_598 : (Cond.code ({ cls := "CribLine$Family", name := "gapOf", desc := "(II)I" } : MethodName) prog_4_method_6_code (4 : Nat) (Option.some ClassFile.FieldType.int)) ∈ gTbl := lw_memk tk_3 118 rfl rfl
theorem wd_599 : (Cond.methodLink "CribLineLaw" (266 : Nat) ({ cls := "CribLine", name := "runs", desc := "()I" } : MethodName)) ∈ gTbl := lw_memk tk_3 119 rfl rfl
theorem wd_600 : (Cond.instanceMethod ({ cls := "CribLine", name := "runs", desc := "()I" } : MethodName)) ∈ gTbl := lw_memk tk_3 120 rfl rfl
theorem wd_601 : (Cond.selects "CribLine" ({ cls := "CribLine", name := "runs", desc := "()I" } : MethodName) ({ cls := "CribLine", name := "runs", desc := "()I" } : MethodName)) ∈ gTbl := lw_memk tk_3 121 rfl rfl
theorem wd_602 : (Cond.code ({ cls := "CribLine", name := "runs", desc := "()I" } : MethodName) prog_1_method_42_code (1 : Nat) (Option.some ClassFile.FieldType.int)) ∈ gTbl := lw_memk tk_3 122 rfl rfl
theorem wd_603 : (Cond.methodLink "CribLine" (338 : Nat) ({ cls := "CribLine$Pairs", name := "runaways", desc := "()I" } : MethodName)) ∈ gTbl := lw_memk tk_3 123 rfl rfl
theorem wd_604 : (Cond.instanceMethod ({ cls := "CribLine$Pairs", name := "runaways", desc := "()I" } : MethodName)) ∈ gTbl := lw_memk tk_3 124 rfl rfl
theorem wd_605 : (Cond.selects "CribLine$Pairs" ({ cls := "CribLine$Pairs", name := "runaways", desc := "()I" } : MethodName) ({ cls := "CribLine$Pairs", name := "runaways", desc := "()I" } : MethodName)) ∈ gTbl := lw_memk tk_3 125 rfl rfl
theorem wd_606 : (Cond.code ({ cls := "CribLine$Pairs", name := "runaways", desc := "()I" } : MethodName) prog_9_method_11_code (4 : Nat) (Option.some ClassFile.FieldType.int)) ∈ gTbl := lw_memk tk_3 126 rfl rfl
theorem wd_607 : (Cond.methodLink "CribLine$Pairs" (96 : Nat) ({ cls := "CribLine$Family", name := "areParentAndChild", desc := "(II)Z" } : MethodName)) ∈ gTbl := lw_memk tk_3 127 rfl rfl
theorem wd_608 : (Cond.methodLink "CribLine$Pairs" (99 : Nat) ({ cls := "CribLine$Pairs", name := "wouldRather", desc := "(II)Z" } : MethodName)) ∈ gTbl := lw_memk tk_3 128 rfl rfl
theorem wd_610 : (Cond.instanceMethod ({ cls := "CribLine$Pairs", name := "wouldRather", desc := "(II)Z" } : MethodName)) ∈ gTbl := lw_memk tk_3 130 rfl rfl
theorem wd_611 : (Cond.code ({ cls := "CribLine$Pairs", name := "wouldRather", desc := "(II)Z" } : MethodName) prog_9_method_12_code (4 : Nat) (Option.some ClassFile.FieldType.boolean)) ∈ gTbl := lw_memk tk_3 131 rfl rfl
theorem wd_612 : (Cond.methodLink "CribLineLaw" (273 : Nat) ({ cls := "CribLine", name := "net", desc := "()I" } : MethodName)) ∈ gTbl := lw_memk tk_3 132 rfl rfl
theorem wd_613 : (Cond.instanceMethod ({ cls := "CribLine", name := "net", desc := "()I" } : MethodName)) ∈ gTbl := lw_memk tk_3 133 rfl rfl
theorem wd_614 : (Cond.selects "CribLine" ({ cls := "CribLine", name := "net", desc := "()I" } : MethodName) ({ cls := "CribLine", name := "net", desc := "()I" } : MethodName)) ∈ gTbl := lw_memk tk_3 134 rfl rfl
theorem wd_615 : (Cond.code ({ cls := "CribLine", name := "net", desc := "()I" } : MethodName) prog_1_method_44_code (1 : Nat) (Option.some ClassFile.FieldType.int)) ∈ gTbl := lw_memk tk_3 135 rfl rfl
theorem wd_616 : (Cond.methodLink "CribLine" (346 : Nat) ({ cls := "CribLine$Ties", name := "netDebts", desc := "()I" } : MethodName)) ∈ gTbl := lw_memk tk_3 136 rfl rfl
theorem wd_617 : (Cond.instanceMethod ({ cls := "CribLine$Ties", name := "netDebts", desc := "()I" } : MethodName)) ∈ gTbl := lw_memk tk_3 137 rfl rfl
theorem wd_618 : (Cond.selects "CribLine$Ties" ({ cls := "CribLine$Ties", name := "netDebts", desc := "()I" } : MethodName) ({ cls := "CribLine$Ties", name := "netDebts", desc := "()I" } : MethodName)) ∈ gTbl := lw_memk tk_3 138 rfl rfl
theorem wd_619 : (Cond.code ({ cls := "CribLine$Ties", name := "netDebts", desc := "()I" } : MethodName) prog_12_method_2_code (5 : Nat) (Option.some ClassFile.FieldType.int)) ∈ gTbl := lw_memk tk_3 139 rfl rfl
theorem wd_620 : (Cond.methodLink "CribLine$Ties" (21 : Nat) ({ cls := "CribLine$Family", name := "lentBy", desc := "(II)I" } : MethodName)) ∈ gTbl := lw_memk tk_3 140 rfl rfl
theorem wd_621 : (Cond.instanceMethod ({ cls := "CribLine$Family", name := "lentBy", desc := "(II)I" } : MethodName)) ∈ gTbl := lw_memk tk_3 141 rfl rfl
theorem wd_622 : (Cond.selects "CribLine$Family" ({ cls := "CribLine$Family", name := "lentBy", desc := "(II)I" } : MethodName) ({ cls := "CribLine$Family", name := "lentBy", desc := "(II)I" } : MethodName)) ∈ gTbl := lw_memk tk_3 142 rfl rfl
theorem wd_623 : (Cond.code ({ cls := "CribLine$Family", name := "lentBy", desc := "(II)I" } : MethodName) prog_4_method_19_code (3 : Nat) (Option.some ClassFile.FieldType.int)) ∈ gTbl := lw_memk tk_3 143 rfl rfl
theorem wd_624 : (Cond.methodLink "CribLine$Ties" (25 : Nat) ({ cls := "java/lang/Math", name := "max", desc := "(II)I" } : MethodName)) ∈ gTbl := lw_memk tk_3 144 rfl rfl
theorem wd_625 : (Cond.methodLink "CribLineLaw" (280 : Nat) ({ cls := "CribLine", name := "rich", desc := "()I" } : MethodName)) ∈ gTbl := lw_memk tk_3 145 rfl rfl
theorem wd_626 : (Cond.instanceMethod ({ cls := "CribLine", name := "rich", desc := "()I" } : MethodName)) ∈ gTbl := lw_memk tk_3 146 rfl rfl
theorem wd_627 : (Cond.selects "CribLine" ({ cls := "CribLine", name := "rich", desc := "()I" } : MethodName) ({ cls := "CribLine", name := "rich", desc := "()I" } : MethodName)) ∈ gTbl := lw_memk tk_3 147 rfl rfl
theorem wd_628 : (Cond.code ({ cls := "CribLine", name := "rich", desc := "()I" } : MethodName) prog_1_method_46_code (3 : Nat) (Option.some ClassFile.FieldType.int)) ∈ gTbl := lw_memk tk_3 148 rfl rfl
theorem wd_629 : (Cond.methodLink "CribLine" (165 : Nat) ({ cls := "CribLine$Family", name := "at", desc := "(I)LCribLine$Person;" } : MethodName)) ∈ gTbl := lw_memk tk_3 149 rfl rfl
theorem wd_630 : (Cond.methodLink "CribLineLaw" (293 : Nat) ({ cls := "CribLine", name := "senior", desc := "()I" } : MethodName)) ∈ gTbl := lw_memk tk_3 150 rfl rfl
theorem wd_631 : (Cond.instanceMethod ({ cls := "CribLine", name := "senior", desc := "()I" } : MethodName)) ∈ gTbl := lw_memk tk_3 151 rfl rfl
theorem wd_632 : (Cond.selects "CribLine" ({ cls := "CribLine", name := "senior", desc := "()I" } : MethodName) ({ cls := "CribLine", name := "senior", desc := "()I" } : MethodName)) ∈ gTbl := lw_memk tk_3 152 rfl rfl
theorem wd_633 : (Cond.code ({ cls := "CribLine", name := "senior", desc := "()I" } : MethodName) prog_1_method_50_code (1 : Nat) (Option.some ClassFile.FieldType.int)) ∈ gTbl := lw_memk tk_3 153 rfl rfl
theorem wd_634 : (Cond.methodLink "CribLine" (361 : Nat) ({ cls := "CribLine$Ties", name := "youngestBranch", desc := "()I" } : MethodName)) ∈ gTbl := lw_memk tk_3 154 rfl rfl
theorem wd_635 : (Cond.instanceMethod ({ cls := "CribLine$Ties", name := "youngestBranch", desc := "()I" } : MethodName)) ∈ gTbl := lw_memk tk_3 155 rfl rfl
theorem wd_636 : (Cond.selects "CribLine$Ties" ({ cls := "CribLine$Ties", name := "youngestBranch", desc := "()I" } : MethodName) ({ cls := "CribLine$Ties", name := "youngestBranch", desc := "()I" } : MethodName)) ∈ gTbl := lw_memk tk_3 156 rfl rfl
theorem wd_637 : (Cond.code ({ cls := "CribLine$Ties", name := "youngestBranch", desc := "()I" } : MethodName) prog_12_method_6_code (5 : Nat) (Option.some ClassFile.FieldType.int)) ∈ gTbl := lw_memk tk_3 157 rfl rfl
theorem wd_638 : (Cond.methodLink "CribLine$Ties" (38 : Nat) ({ cls := "CribLine$Family", name := "at", desc := "(I)LCribLine$Person;" } : MethodName)) ∈ gTbl := lw_memk tk_3 158 rfl rfl
theorem wd_639 : (Cond.methodLink "CribLine$Ties" (47 : Nat) ({ cls := "CribLine$Ties", name := "branchOf", desc := "(I)I" } : MethodName)) ∈ gTbl := lw_memk tk_3 159 rfl rfl
theorem wd_640 : (Cond.instanceMethod ({ cls := "CribLine$Ties", name := "branchOf", desc := "(I)I" } : MethodName)) ∈ gTbl := lw_memk tk_3 160 rfl rfl
theorem wd_641 : (Cond.selects "CribLine$Ties" ({ cls := "CribLine$Ties", name := "branchOf", desc := "(I)I" } : MethodName) ({ cls := "CribLine$Ties", name := "branchOf", desc := "(I)I" } : MethodName)) ∈ gTbl := lw_memk tk_3 161 rfl rfl
theorem wd_642 : (Cond.code ({ cls := "CribLine$Ties", name := "branchOf", desc := "(I)I" } : MethodName) prog_12_method_5_code (5 : Nat) (Option.some ClassFile.FieldType.int)) ∈ gTbl := lw_memk tk_3 162 rfl rfl
theorem wd_643 : (Cond.methodLink "CribLine$Ties" (51 : Nat) ({ cls := "CribLine$Ties", name := "agesOf", desc := "(I)I" } : MethodName)) ∈ gTbl := lw_memk tk_3 163 rfl rfl
theorem wd_645 : (Cond.instanceMethod ({ cls := "CribLine$Ties", name := "agesOf", desc := "(I)I" } : MethodName)) ∈ gTbl := lw_memk tk_3 165 rfl rfl
theorem wd_646 : (Cond.code ({ cls := "CribLine$Ties", name := "agesOf", desc := "(I)I" } : MethodName) prog_12_method_7_code (4 : Nat) (Option.some ClassFile.FieldType.int)) ∈ gTbl := lw_memk tk_3 166 rfl rfl
theorem wd_647 : (Cond.methodLink "CribLineLaw" (306 : Nat) ({ cls := "CribLine", name := "free", desc := "()I" } : MethodName)) ∈ gTbl := lw_memk tk_3 167 rfl rfl
theorem wd_648 : (Cond.instanceMethod ({ cls := "CribLine", name := "free", desc := "()I" } : MethodName)) ∈ gTbl := lw_memk tk_3 168 rfl rfl
theorem wd_649 : (Cond.selects "CribLine" ({ cls := "CribLine", name := "free", desc := "()I" } : MethodName) ({ cls := "CribLine", name := "free", desc := "()I" } : MethodName)) ∈ gTbl := lw_memk tk_3 169 rfl rfl
theorem wd_650 : (Cond.code ({ cls := "CribLine", name := "free", desc := "()I" } : MethodName) prog_1_method_54_code (3 : Nat) (Option.some ClassFile.FieldType.int)) ∈ gTbl := lw_memk tk_3 170 rfl rfl
theorem wd_651 : (Cond.methodLink "CribLineLaw" (314 : Nat) ({ cls := "CribLine", name := "twins", desc := "()I" } : MethodName)) ∈ gTbl := lw_memk tk_3 171 rfl rfl
theorem wd_652 : (Cond.instanceMethod ({ cls := "CribLine", name := "twins", desc := "()I" } : MethodName)) ∈ gTbl := lw_memk tk_3 172 rfl rfl
theorem wd_653 : (Cond.selects "CribLine" ({ cls := "CribLine", name := "twins", desc := "()I" } : MethodName) ({ cls := "CribLine", name := "twins", desc := "()I" } : MethodName)) ∈ gTbl := lw_memk tk_3 173 rfl rfl
theorem wd_654 : (Cond.code ({ cls := "CribLine", name := "twins", desc := "()I" } : MethodName) prog_1_method_56_code (4 : Nat) (Option.some ClassFile.FieldType.int)) ∈ gTbl := lw_memk tk_3 174 rfl rfl
theorem wd_655 : (Cond.methodLink "CribLineLaw" (318 : Nat) ({ cls := "CribLine", name := "mean", desc := "()I" } : MethodName)) ∈ gTbl := lw_memk tk_3 175 rfl rfl
theorem wd_656 : (Cond.instanceMethod ({ cls := "CribLine", name := "mean", desc := "()I" } : MethodName)) ∈ gTbl := lw_memk tk_3 176 rfl rfl
theorem wd_657 : (Cond.selects "CribLine" ({ cls := "CribLine", name := "mean", desc := "()I" } : MethodName) ({ cls := "CribLine", name := "mean", desc := "()I" } : MethodName)) ∈ gTbl := lw_memk tk_3 177 rfl rfl
theorem wd_658 : (Cond.code ({ cls := "CribLine", name := "mean", desc := "()I" } : MethodName) prog_1_method_57_code (1 : Nat) (Option.some ClassFile.FieldType.int)) ∈ gTbl := lw_memk tk_3 178 rfl rfl
theorem wd_659 : (Cond.methodLink "CribLine" (373 : Nat) ({ cls := "CribLine$Family", name := "agesTogether", desc := "()I" } : MethodName)) ∈ gTbl := lw_memk tk_3 179 rfl rfl
theorem wd_660 : (Cond.instanceMethod ({ cls := "CribLine$Family", name := "agesTogether", desc := "()I" } : MethodName)) ∈ gTbl := lw_memk tk_3 180 rfl rfl
theorem wd_661 : (Cond.selects "CribLine$Family" ({ cls := "CribLine$Family", name := "agesTogether", desc := "()I" } : MethodName) ({ cls := "CribLine$Family", name := "agesTogether", desc := "()I" } : MethodName)) ∈ gTbl := lw_memk tk_3 181 rfl rfl
theorem wd_662 : (Cond.code ({ cls := "CribLine$Family", name := "agesTogether", desc := "()I" } : MethodName) prog_4_method_21_code (3 : Nat) (Option.some ClassFile.FieldType.int)) ∈ gTbl := lw_memk tk_3 182 rfl rfl
theorem wd_663 : (Cond.methodLink "CribLineLaw" (322 : Nat) ({ cls := "CribLine", name := "oldest", desc := "()I" } : MethodName)) ∈ gTbl := lw_memk tk_3 183 rfl rfl
theorem wd_664 : (Cond.instanceMethod ({ cls := "CribLine", name := "oldest", desc := "()I" } : MethodName)) ∈ gTbl := lw_memk tk_3 184 rfl rfl
theorem wd_665 : (Cond.selects "CribLine" ({ cls := "CribLine", name := "oldest", desc := "()I" } : MethodName) ({ cls := "CribLine", name := "oldest", desc := "()I" } : MethodName)) ∈ gTbl := lw_memk tk_3 185 rfl rfl
theorem wd_666 : (Cond.code ({ cls := "CribLine", name := "oldest", desc := "()I" } : MethodName) prog_1_method_58_code (1 : Nat) (Option.some ClassFile.FieldType.int)) ∈ gTbl := lw_memk tk_3 186 rfl rfl
theorem wd_667 : (Cond.methodLink "CribLine" (376 : Nat) ({ cls := "CribLine", name := "furthest", desc := "(I)I" } : MethodName)) ∈ gTbl := lw_memk tk_3 187 rfl rfl
theorem wd_669 : (Cond.instanceMethod ({ cls := "CribLine", name := "furthest", desc := "(I)I" } : MethodName)) ∈ gTbl := lw_memk tk_3 189 rfl rfl
theorem wd_670 : (Cond.code ({ cls := "CribLine", name := "furthest", desc := "(I)I" } : MethodName) prog_1_method_60_code (4 : Nat) (Option.some ClassFile.FieldType.int)) ∈ gTbl := lw_memk tk_3 190 rfl rfl
theorem wd_671 : (Cond.methodLink "CribLineLaw" (326 : Nat) ({ cls := "CribLine", name := "youngest", desc := "()I" } : MethodName)) ∈ gTbl := lw_memk tk_3 191 rfl rfl
theorem wd_672 : (Cond.instanceMethod ({ cls := "CribLine", name := "youngest", desc := "()I" } : MethodName)) ∈ gTbl := lw_memk tk_3 192 rfl rfl
theorem wd_673 : (Cond.selects "CribLine" ({ cls := "CribLine", name := "youngest", desc := "()I" } : MethodName) ({ cls := "CribLine", name := "youngest", desc := "()I" } : MethodName)) ∈ gTbl := lw_memk tk_3 193 rfl rfl
theorem wd_674 : (Cond.code ({ cls := "CribLine", name := "youngest", desc := "()I" } : MethodName) prog_1_method_59_code (1 : Nat) (Option.some ClassFile.FieldType.int)) ∈ gTbl := lw_memk tk_3 194 rfl rfl
theorem wd_675 : (Cond.methodLink "CribLineLaw" (330 : Nat) ({ cls := "CribLine", name := "crib", desc := "()I" } : MethodName)) ∈ gTbl := lw_memk tk_3 195 rfl rfl
theorem wd_676 : (Cond.instanceMethod ({ cls := "CribLine", name := "crib", desc := "()I" } : MethodName)) ∈ gTbl := lw_memk tk_3 196 rfl rfl
theorem wd_677 : (Cond.selects "CribLine" ({ cls := "CribLine", name := "crib", desc := "()I" } : MethodName) ({ cls := "CribLine", name := "crib", desc := "()I" } : MethodName)) ∈ gTbl := lw_memk tk_3 197 rfl rfl
theorem wd_678 : (Cond.code ({ cls := "CribLine", name := "crib", desc := "()I" } : MethodName) prog_1_method_61_code (1 : Nat) (Option.some ClassFile.FieldType.int)) ∈ gTbl := lw_memk tk_3 198 rfl rfl
theorem wd_679 : (Cond.methodLink "CribLine" (379 : Nat) ({ cls := "CribLine$Family", name := "inCrib", desc := "()I" } : MethodName)) ∈ gTbl := lw_memk tk_3 199 rfl rfl
theorem wd_680 : (Cond.methodLink "CribLineLaw" (334 : Nat) ({ cls := "CribLine", name := "spread", desc := "()I" } : MethodName)) ∈ gTbl := lw_memk tk_3 200 rfl rfl
theorem wd_681 : (Cond.instanceMethod ({ cls := "CribLine", name := "spread", desc := "()I" } : MethodName)) ∈ gTbl := lw_memk tk_3 201 rfl rfl
theorem wd_682 : (Cond.selects "CribLine" ({ cls := "CribLine", name := "spread", desc := "()I" } : MethodName) ({ cls := "CribLine", name := "spread", desc := "()I" } : MethodName)) ∈ gTbl := lw_memk tk_3 202 rfl rfl
theorem wd_683 : (Cond.code ({ cls := "CribLine", name := "spread", desc := "()I" } : MethodName) prog_1_method_62_code (6 : Nat) (Option.some ClassFile.FieldType.int)) ∈ gTbl := lw_memk tk_3 203 rfl rfl
theorem wd_684 : (Cond.methodLink "CribLine" (341 : Nat) ({ cls := "java/lang/Math", name := "max", desc := "(II)I" } : MethodName)) ∈ gTbl := lw_memk tk_3 204 rfl rfl
theorem wd_685 : (Cond.methodLink "CribLineLaw" (353 : Nat) ({ cls := "CribLine", name := "seed", desc := "(I)I" } : MethodName)) ∈ gTbl := lw_memk tk_3 205 rfl rfl
theorem wd_686 : (Cond.instanceMethod ({ cls := "CribLine", name := "seed", desc := "(I)I" } : MethodName)) ∈ gTbl := lw_memk tk_3 206 rfl rfl
theorem wd_687 : (Cond.selects "CribLine" ({ cls := "CribLine", name := "seed", desc := "(I)I" } : MethodName) ({ cls := "CribLine", name := "seed", desc := "(I)I" } : MethodName)) ∈ gTbl := lw_memk tk_3 207 rfl rfl
theorem wd_688 : (Cond.code ({ cls := "CribLine", name := "seed", desc := "(I)I" } : MethodName) prog_1_method_68_code (3 : Nat) (Option.some ClassFile.FieldType.int)) ∈ gTbl := lw_memk tk_3 208 rfl rfl
theorem wd_689 : (Cond.methodLink "CribLineLaw" (357 : Nat) ({ cls := "CribLine", name := "undo", desc := "()Z" } : MethodName)) ∈ gTbl := lw_memk tk_3 209 rfl rfl
theorem wd_690 : (Cond.instanceMethod ({ cls := "CribLine", name := "undo", desc := "()Z" } : MethodName)) ∈ gTbl := lw_memk tk_3 210 rfl rfl
theorem wd_691 : (Cond.selects "CribLine" ({ cls := "CribLine", name := "undo", desc := "()Z" } : MethodName) ({ cls := "CribLine", name := "undo", desc := "()Z" } : MethodName)) ∈ gTbl := lw_memk tk_3 211 rfl rfl
theorem wd_692 : (Cond.code ({ cls := "CribLine", name := "undo", desc := "()Z" } : MethodName) prog_1_method_69_code (1 : Nat) (Option.some ClassFile.FieldType.boolean)) ∈ gTbl := lw_memk tk_3 212 rfl rfl
theorem wd_693 : (Cond.methodLink "CribLine" (109 : Nat) ({ cls := "CribLine$Family", name := "take", desc := "(LCribLine$Family;)V" } : MethodName)) ∈ gTbl := lw_memk tk_3 213 rfl rfl
theorem wd_694 : (Cond.methodLink "CribLineLaw" (362 : Nat) ({ cls := "CribLine", name := "image", desc := "()V" } : MethodName)) ∈ gTbl := lw_memk tk_3 214 rfl rfl
theorem wd_695 : (Cond.instanceMethod ({ cls := "CribLine", name := "image", desc := "()V" } : MethodName)) ∈ gTbl := lw_memk tk_3 215 rfl rfl
theorem wd_696 : (Cond.selects "CribLine" ({ cls := "CribLine", name := "image", desc := "()V" } : MethodName) ({ cls := "CribLine", name := "image", desc := "()V" } : MethodName)) ∈ gTbl := lw_memk tk_3 216 rfl rfl
theorem wd_697 : (Cond.code ({ cls := "CribLine", name := "image", desc := "()V" } : MethodName) prog_1_method_70_code (1 : Nat) (Option.none : Option ClassFile.FieldType)) ∈ gTbl := lw_memk tk_3 217 rfl rfl
theorem wd_698 : (Cond.methodLink "CribLine" (139 : Nat) ({ cls := "CribLine$Law", name := "take", desc := "(LCribLine$Law;)V" } : MethodName)) ∈ gTbl := lw_memk tk_3 218 rfl rfl
theorem wd_699 : (Cond.instanceMethod ({ cls := "CribLine$Law", name := "take", desc := "(LCribLine$Law;)V" } : MethodName)) ∈ gTbl := lw_memk tk_3 219 rfl rfl
theorem wd_700 : (Cond.selects "CribLine$Law" ({ cls := "CribLine$Law", name := "take", desc := "(LCribLine$Law;)V" } : MethodName) ({ cls := "CribLine$Law", name := "take", desc := "(LCribLine$Law;)V" } : MethodName)) ∈ gTbl := lw_memk tk_3 220 rfl rfl
theorem wd_701 : (Cond.code ({ cls := "CribLine$Law", name := "take", desc := "(LCribLine$Law;)V" } : MethodName) prog_6_method_3_code (2 : Nat) (Option.none : Option ClassFile.FieldType)) ∈ gTbl := lw_memk tk_3 221 rfl rfl
theorem wd_702 : (Cond.methodLink "CribLine$Law" (45 : Nat) ({ cls := "java/lang/System", name := "arraycopy", desc := "(Ljava/lang/Object;ILjava/lang/Object;II)V" } : MethodName)) ∈ gTbl := lw_memk tk_3 222 rfl rfl
theorem wd_703 : (Cond.methodLink "CribLineLaw" (366 : Nat) ({ cls := "CribLine", name := "back", desc := "()Z" } : MethodName)) ∈ gTbl := lw_memk tk_3 223 rfl rfl
theorem wd_704 : (Cond.instanceMethod ({ cls := "CribLine", name := "back", desc := "()Z" } : MethodName)) ∈ gTbl := lw_memk tk_3 224 rfl rfl
theorem wd_705 : (Cond.selects "CribLine" ({ cls := "CribLine", name := "back", desc := "()Z" } : MethodName) ({ cls := "CribLine", name := "back", desc := "()Z" } : MethodName)) ∈ gTbl := lw_memk tk_3 225 rfl rfl
theorem wd_706 : (Cond.code ({ cls := "CribLine", name := "back", desc := "()Z" } : MethodName) prog_1_method_71_code (1 : Nat) (Option.some ClassFile.FieldType.boolean)) ∈ gTbl := lw_memk tk_3 226 rfl rfl
theorem wd_707 : (Cond.methodLink "CribLineLaw" (370 : Nat) ({ cls := "CribLine", name := "count", desc := "(I)I" } : MethodName)) ∈ gTbl := lw_memk tk_3 227 rfl rfl
theorem wd_708 : (Cond.instanceMethod ({ cls := "CribLine", name := "count", desc := "(I)I" } : MethodName)) ∈ gTbl := lw_memk tk_3 228 rfl rfl
theorem wd_709 : (Cond.selects "CribLine" ({ cls := "CribLine", name := "count", desc := "(I)I" } : MethodName) ({ cls := "CribLine", name := "count", desc := "(I)I" } : MethodName)) ∈ gTbl := lw_memk tk_3 229 rfl rfl
theorem wd_710 : (Cond.code ({ cls := "CribLine", name := "count", desc := "(I)I" } : MethodName) prog_1_method_72_code (2 : Nat) (Option.some ClassFile.FieldType.int)) ∈ gTbl := lw_memk tk_3 230 rfl rfl
theorem wd_711 : (Cond.methodLink "CribLine" (409 : Nat) ({ cls := "CribLine$Family", name := "turnsTogether", desc := "()I" } : MethodName)) ∈ gTbl := lw_memk tk_3 231 rfl rfl
theorem wd_712 : (Cond.instanceMethod ({ cls := "CribLine$Family", name := "turnsTogether", desc := "()I" } : MethodName)) ∈ gTbl := lw_memk tk_3 232 rfl rfl
theorem wd_713 : (Cond.selects "CribLine$Family" ({ cls := "CribLine$Family", name := "turnsTogether", desc := "()I" } : MethodName) ({ cls := "CribLine$Family", name := "turnsTogether", desc := "()I" } : MethodName)) ∈ gTbl := lw_memk tk_3 233 rfl rfl
theorem wd_714 : (Cond.code ({ cls := "CribLine$Family", name := "turnsTogether", desc := "()I" } : MethodName) prog_4_method_22_code (3 : Nat) (Option.some ClassFile.FieldType.int)) ∈ gTbl := lw_memk tk_3 234 rfl rfl
theorem wd_715 : (Cond.methodLink "CribLine" (412 : Nat) ({ cls := "CribLine$Family", name := "boys", desc := "()I" } : MethodName)) ∈ gTbl := lw_memk tk_3 235 rfl rfl
theorem wd_716 : (Cond.instanceMethod ({ cls := "CribLine$Family", name := "boys", desc := "()I" } : MethodName)) ∈ gTbl := lw_memk tk_3 236 rfl rfl
theorem wd_717 : (Cond.selects "CribLine$Family" ({ cls := "CribLine$Family", name := "boys", desc := "()I" } : MethodName) ({ cls := "CribLine$Family", name := "boys", desc := "()I" } : MethodName)) ∈ gTbl := lw_memk tk_3 237 rfl rfl
theorem wd_718 : (Cond.code ({ cls := "CribLine$Family", name := "boys", desc := "()I" } : MethodName) prog_4_method_24_code (3 : Nat) (Option.some ClassFile.FieldType.int)) ∈ gTbl := lw_memk tk_3 238 rfl rfl
theorem wd_719 : (Cond.methodLink "CribLine" (415 : Nat) ({ cls := "CribLine$Family", name := "wedded", desc := "()I" } : MethodName)) ∈ gTbl := lw_memk tk_3 239 rfl rfl
theorem wd_720 : (Cond.instanceMethod ({ cls := "CribLine$Family", name := "wedded", desc := "()I" } : MethodName)) ∈ gTbl := lw_memk tk_4 0 rfl rfl
theorem wd_721 : (Cond.selects "CribLine$Family" ({ cls := "CribLine$Family", name := "wedded", desc := "()I" } : MethodName) ({ cls := "CribLine$Family", name := "wedded", desc := "()I" } : MethodName)) ∈ gTbl := lw_memk tk_4 1 rfl rfl
theorem wd_722 : (Cond.code ({ cls := "CribLine$Family", name := "wedded", desc := "()I" } : MethodName) prog_4_method_25_code (3 : Nat) (Option.some ClassFile.FieldType.int)) ∈ gTbl := lw_memk tk_4 2 rfl rfl
theorem wd_723 : (Cond.methodLink "CribLineLaw" (160 : Nat) ({ cls := "CribLineLaw", name := "family", desc := "(LCribLine;[J)I" } : MethodName)) ∈ gTbl := lw_memk tk_4 3 rfl rfl
theorem wd_724 : (Cond.static ({ cls := "CribLineLaw", name := "family", desc := "(LCribLine;[J)I" } : MethodName)) ∈ gTbl := lw_memk tk_4 4 rfl rfl
theorem wd_725 : (Cond.codeWith ({ cls := "CribLineLaw", name := "family", desc := "(LCribLine;[J)I" } : MethodName) method_3_code (3 : Nat) (Option.some ClassFile.FieldType.int) [((0 : Nat), (8 : Nat), (11 : Nat), (13 : Nat)), ((0 : Nat), (8 : Nat), (14 : Nat), (15 : Nat))]) ∈ gTbl := lw_memk tk_4 5 rfl rfl
theorem wd_726 : (Cond.classLink "CribLineLaw" (13 : Nat) "java/lang/IllegalArgumentException") ∈ gTbl := lw_memk tk_4 6 rfl rfl
theorem wd_727 : (Cond.classLink "CribLineLaw" (15 : Nat) "java/lang/UnsupportedOperationException") ∈ gTbl := lw_memk tk_4 7 rfl rfl
theorem wd_728 : (Cond.methodLink "CribLineLaw" (7 : Nat) ({ cls := "CribLine", name := "family", desc := "()I" } : MethodName)) ∈ gTbl := lw_memk tk_4 8 rfl rfl
theorem wd_729 : (Cond.instanceMethod ({ cls := "CribLine", name := "family", desc := "()I" } : MethodName)) ∈ gTbl := lw_memk tk_4 9 rfl rfl
theorem wd_730 : (Cond.selects "CribLine" ({ cls := "CribLine", name := "family", desc := "()I" } : MethodName) ({ cls := "CribLine", name := "family", desc := "()I" } : MethodName)) ∈ gTbl := lw_memk tk_4 10 rfl rfl
theorem wd_731 : (Cond.code ({ cls := "CribLine", name := "family", desc := "()I" } : MethodName) prog_1_method_6_code (1 : Nat) (Option.some ClassFile.FieldType.int)) ∈ gTbl := lw_memk tk_4 11 rfl rfl
theorem wd_732 : (Cond.methodLink "CribLine" (112 : Nat) ({ cls := "CribLine", name := "usedTape", desc := "()I" } : MethodName)) ∈ gTbl := lw_memk tk_4 12 rfl rfl
theorem wd_734 : (Cond.instanceMethod ({ cls := "CribLine", name := "usedTape", desc := "()I" } : MethodName)) ∈ gTbl := lw_memk tk_4 14 rfl rfl
theorem wd_735 : (Cond.code ({ cls := "CribLine", name := "usedTape", desc := "()I" } : MethodName) prog_1_method_4_code (2 : Nat) (Option.some ClassFile.FieldType.int)) ∈ gTbl := lw_memk tk_4 15 rfl rfl
theorem wd_736 : (Cond.methodLink "CribLine" (116 : Nat) ({ cls := "CribLine$FamilyReader", name := "readText", desc := "([II)I" } : MethodName)) ∈ gTbl := lw_memk tk_4 16 rfl rfl
theorem wd_737 : (Cond.sameMethod "CribLine$FamilyReader" "CribLine$Reader" "readText" "([II)I") ∈ gTbl := lw_memk tk_4 17 rfl rfl
theorem wd_739 : (Cond.selects "CribLine$FamilyReader" ({ cls := "CribLine$FamilyReader", name := "readText", desc := "([II)I" } : MethodName) ({ cls := "CribLine$Reader", name := "readText", desc := "([II)I" } : MethodName)) ∈ gTbl := lw_memk tk_4 19 rfl rfl
theorem wd_740 : (Cond.instanceMethod ({ cls := "CribLine$Reader", name := "readText", desc := "([II)I" } : MethodName)) ∈ gTbl := lw_memk tk_4 20 rfl rfl
theorem wd_741 : (Cond.code ({ cls := "CribLine$Reader", name := "readText", desc := "([II)I" } : MethodName) prog_11_method_3_code (4 : Nat) (Option.some ClassFile.FieldType.int)) ∈ gTbl := lw_memk tk_4 21 rfl rfl
theorem wd_742 : (Cond.methodLink "CribLine$Reader" (37 : Nat) ({ cls := "java/lang/Math", name := "min", desc := "(II)I" } : MethodName)) ∈ gTbl := lw_memk tk_4 22 rfl rfl
theorem wd_743 : (Cond.methodLink "CribLine$Reader" (43 : Nat) ({ cls := "CribLine$Reader", name := "partText", desc := "([II)V" } : MethodName)) ∈ gTbl := lw_memk tk_4 23 rfl rfl
theorem wd_745 : (Cond.instanceMethod ({ cls := "CribLine$Reader", name := "partText", desc := "([II)V" } : MethodName)) ∈ gTbl := lw_memk tk_4 25 rfl rfl
theorem wd_746 : (Cond.code ({ cls := "CribLine$Reader", name := "partText", desc := "([II)V" } : MethodName) prog_11_method_9_code (5 : Nat) (Option.none : Option ClassFile.FieldType)) ∈ gTbl := lw_memk tk_4 26 rfl rfl
theorem wd_747 : (Cond.methodLink "CribLine$Reader" (65 : Nat) ({ cls := "CribLine$Reader", name := "endOfThing", desc := "([II)I" } : MethodName)) ∈ gTbl := lw_memk tk_4 27 rfl rfl
theorem wd_749 : (Cond.instanceMethod ({ cls := "CribLine$Reader", name := "endOfThing", desc := "([II)I" } : MethodName)) ∈ gTbl := lw_memk tk_4 29 rfl rfl
theorem wd_750 : (Cond.code ({ cls := "CribLine$Reader", name := "endOfThing", desc := "([II)I" } : MethodName) prog_11_method_12_code (5 : Nat) (Option.some ClassFile.FieldType.int)) ∈ gTbl := lw_memk tk_4 30 rfl rfl
theorem wd_751 : (Cond.methodLink "CribLine$Reader" (76 : Nat) ({ cls := "CribLine$Reader", name := "isLetter", desc := "(I)Z" } : MethodName)) ∈ gTbl := lw_memk tk_4 31 rfl rfl
theorem wd_752 : (Cond.static ({ cls := "CribLine$Reader", name := "isLetter", desc := "(I)Z" } : MethodName)) ∈ gTbl := lw_memk tk_4 32 rfl rfl
theorem wd_753 : (Cond.code ({ cls := "CribLine$Reader", name := "isLetter", desc := "(I)Z" } : MethodName) prog_11_method_10_code (1 : Nat) (Option.some ClassFile.FieldType.boolean)) ∈ gTbl := lw_memk tk_4 33 rfl rfl
theorem wd_754 : (Cond.methodLink "CribLine$Reader" (79 : Nat) ({ cls := "CribLine$Reader", name := "isDigit", desc := "(I)Z" } : MethodName)) ∈ gTbl := lw_memk tk_4 34 rfl rfl
theorem wd_755 : (Cond.static ({ cls := "CribLine$Reader", name := "isDigit", desc := "(I)Z" } : MethodName)) ∈ gTbl := lw_memk tk_4 35 rfl rfl
theorem wd_756 : (Cond.code ({ cls := "CribLine$Reader", name := "isDigit", desc := "(I)Z" } : MethodName) prog_11_method_11_code (1 : Nat) (Option.some ClassFile.FieldType.boolean)) ∈ gTbl := lw_memk tk_4 36 rfl rfl
theorem wd_757 : (Cond.methodLink "CribLine$Reader" (69 : Nat) ({ cls := "java/lang/Math", name := "max", desc := "(II)I" } : MethodName)) ∈ gTbl := lw_memk tk_4 37 rfl rfl
theorem wd_758 : (Cond.methodLink "CribLine$Reader" (72 : Nat) ({ cls := "CribLine$Reader", name := "addThing", desc := "([III)V" } : MethodName)) ∈ gTbl := lw_memk tk_4 38 rfl rfl
theorem wd_760 : (Cond.instanceMethod ({ cls := "CribLine$Reader", name := "addThing", desc := "([III)V" } : MethodName)) ∈ gTbl := lw_memk tk_4 40 rfl rfl
theorem wd_761 : (Cond.code ({ cls := "CribLine$Reader", name := "addThing", desc := "([III)V" } : MethodName) prog_11_method_13_code (4 : Nat) (Option.none : Option ClassFile.FieldType)) ∈ gTbl := lw_memk tk_4 41 rfl rfl
theorem wd_762 : (Cond.methodLink "CribLine$Reader" (82 : Nat) ({ cls := "CribLine$Reader", name := "wordOf", desc := "([III)I" } : MethodName)) ∈ gTbl := lw_memk tk_4 42 rfl rfl
theorem wd_763 : (Cond.static ({ cls := "CribLine$Reader", name := "wordOf", desc := "([III)I" } : MethodName)) ∈ gTbl := lw_memk tk_4 43 rfl rfl
theorem wd_764 : (Cond.code ({ cls := "CribLine$Reader", name := "wordOf", desc := "([III)I" } : MethodName) prog_11_method_17_code (3 : Nat) (Option.some ClassFile.FieldType.int)) ∈ gTbl := lw_memk tk_4 44 rfl rfl
theorem wd_766 : (Cond.methodLink "CribLine$Reader" (102 : Nat) ({ cls := "CribLine$Reader", name := "reads", desc := "([IIILjava/lang/String;)Z" } : MethodName)) ∈ gTbl := lw_memk tk_4 46 rfl rfl
theorem wd_767 : (Cond.static ({ cls := "CribLine$Reader", name := "reads", desc := "([IIILjava/lang/String;)Z" } : MethodName)) ∈ gTbl := lw_memk tk_4 47 rfl rfl
theorem wd_768 : (Cond.code ({ cls := "CribLine$Reader", name := "reads", desc := "([IIILjava/lang/String;)Z" } : MethodName) prog_11_method_16_code (5 : Nat) (Option.some ClassFile.FieldType.boolean)) ∈ gTbl := lw_memk tk_4 48 rfl rfl
theorem wd_769 : (Cond.methodLink "CribLine$Reader" (92 : Nat) ({ cls := "java/lang/String", name := "length", desc := "()I" } : MethodName)) ∈ gTbl := lw_memk tk_4 49 rfl rfl
theorem wd_770 : (Cond.instanceMethod ({ cls := "java/lang/String", name := "length", desc := "()I" } : MethodName)) ∈ gTbl := lw_memk tk_4 50 rfl rfl
theorem wd_771 : (Cond.selects "java/lang/String" ({ cls := "java/lang/String", name := "length", desc := "()I" } : MethodName) ({ cls := "java/lang/String", name := "length", desc := "()I" } : MethodName)) ∈ gTbl := lw_memk tk_4 51 rfl rfl
theorem wd_772 : (Cond.code ({ cls := "java/lang/String", name := "length", desc := "()I" } : MethodName) prog_25_method_54_code (1 : Nat) (Option.some ClassFile.FieldType.int)) ∈ gTbl := lw_memk tk_4 52 rfl rfl
theorem wd_773 : (Cond.methodLink "java/lang/String" (335 : Nat) ({ cls := "java/lang/String", name := "coder", desc := "()B" } : MethodName)) ∈ gTbl := lw_memk tk_4 53 rfl rfl
theorem wd_774 : (Cond.instanceMethod ({ cls := "java/lang/String", name := "coder", desc := "()B" } : MethodName)) ∈ gTbl := lw_memk tk_4 54 rfl rfl
theorem wd_775 : (Cond.selects "java/lang/String" ({ cls := "java/lang/String", name := "coder", desc := "()B" } : MethodName) ({ cls := "java/lang/String", name := "coder", desc := "()B" } : MethodName)) ∈ gTbl := lw_memk tk_4 55 rfl rfl
theorem wd_776 : (Cond.code ({ cls := "java/lang/String", name := "coder", desc := "()B" } : MethodName) prog_25_method_152_code (1 : Nat) (Option.some ClassFile.FieldType.byte)) ∈ gTbl := lw_memk tk_4 56 rfl rfl
theorem wd_777 : (Cond.fieldLink "java/lang/String" (38 : Nat) "java/lang/String" "COMPACT_STRINGS" "Z") ∈ gTbl := lw_memk tk_4 57 rfl rfl
theorem wd_779 : (Cond.methodLink "CribLine$Reader" (96 : Nat) ({ cls := "java/lang/String", name := "charAt", desc := "(I)C" } : MethodName)) ∈ gTbl := lw_memk tk_4 59 rfl rfl
theorem wd_780 : (Cond.instanceMethod ({ cls := "java/lang/String", name := "charAt", desc := "(I)C" } : MethodName)) ∈ gTbl := lw_memk tk_4 60 rfl rfl
theorem wd_781 : (Cond.selects "java/lang/String" ({ cls := "java/lang/String", name := "charAt", desc := "(I)C" } : MethodName) ({ cls := "java/lang/String", name := "charAt", desc := "(I)C" } : MethodName)) ∈ gTbl := lw_memk tk_4 61 rfl rfl
theorem wd_782 : (Cond.code ({ cls := "java/lang/String", name := "charAt", desc := "(I)C" } : MethodName) prog_25_method_56_code (2 : Nat) (Option.some ClassFile.FieldType.char)) ∈ gTbl := lw_memk tk_4 62 rfl rfl
theorem wd_783 : (Cond.methodLink "java/lang/String" (492 : Nat) ({ cls := "java/lang/String", name := "isLatin1", desc := "()Z" } : MethodName)) ∈ gTbl := lw_memk tk_4 63 rfl rfl
theorem wd_784 : (Cond.instanceMethod ({ cls := "java/lang/String", name := "isLatin1", desc := "()Z" } : MethodName)) ∈ gTbl := lw_memk tk_4 64 rfl rfl
theorem wd_785 : (Cond.selects "java/lang/String" ({ cls := "java/lang/String", name := "isLatin1", desc := "()Z" } : MethodName) ({ cls := "java/lang/String", name := "isLatin1", desc := "()Z" } : MethodName)) ∈ gTbl := lw_memk tk_4 65 rfl rfl
theorem wd_786 : (Cond.code ({ cls := "java/lang/String", name := "isLatin1", desc := "()Z" } : MethodName) prog_25_method_154_code (1 : Nat) (Option.some ClassFile.FieldType.boolean)) ∈ gTbl := lw_memk tk_4 66 rfl rfl
theorem wd_787 : (Cond.methodLink "java/lang/String" (495 : Nat) ({ cls := "java/lang/StringLatin1", name := "charAt", desc := "([BI)C" } : MethodName)) ∈ gTbl := lw_memk tk_4 67 rfl rfl
theorem wd_788 : (Cond.static ({ cls := "java/lang/StringLatin1", name := "charAt", desc := "([BI)C" } : MethodName)) ∈ gTbl := lw_memk tk_4 68 rfl rfl
theorem wd_789 : (Cond.code ({ cls := "java/lang/StringLatin1", name := "charAt", desc := "([BI)C" } : MethodName) prog_26_method_2_code (2 : Nat) (Option.some ClassFile.FieldType.char)) ∈ gTbl := lw_memk tk_4 69 rfl rfl
theorem wd_790 : (Cond.methodLink "java/lang/StringLatin1" (9 : Nat) ({ cls := "java/lang/String", name := "checkIndex", desc := "(II)V" } : MethodName)) ∈ gTbl := lw_memk tk_4 70 rfl rfl
theorem wd_791 : (Cond.static ({ cls := "java/lang/String", name := "checkIndex", desc := "(II)V" } : MethodName)) ∈ gTbl := lw_memk tk_4 71 rfl rfl
theorem wd_792 : (Cond.code ({ cls := "java/lang/String", name := "checkIndex", desc := "(II)V" } : MethodName) prog_25_method_155_code (2 : Nat) (Option.none : Option ClassFile.FieldType)) ∈ gTbl := lw_memk tk_4 72 rfl rfl
theorem wd_793 : (Cond.fieldLink "java/lang/String" (1053 : Nat) "jdk/internal/util/Preconditions" "SIOOBE_FORMATTER" "Ljava/util/function/BiFunction;") ∈ gTbl := lw_memk tk_4 73 rfl rfl
theorem wd_795 : (Cond.methodLink "java/lang/String" (1059 : Nat) ({ cls := "jdk/internal/util/Preconditions", name := "checkIndex", desc := "(IILjava/util/function/BiFunction;)I" } : MethodName)) ∈ gTbl := lw_memk tk_4 75 rfl rfl
theorem wd_796 : (Cond.static ({ cls := "jdk/internal/util/Preconditions", name := "checkIndex", desc := "(IILjava/util/function/BiFunction;)I" } : MethodName)) ∈ gTbl := lw_memk tk_4 76 rfl rfl
theorem wd_797 : (Cond.code ({ cls := "jdk/internal/util/Preconditions", name := "checkIndex", desc := "(IILjava/util/function/BiFunction;)I" } : MethodName) prog_35_method_11_code (3 : Nat) (Option.some ClassFile.FieldType.int)) ∈ gTbl := lw_memk tk_4 77 rfl rfl
theorem wd_798 : (Cond.methodLink "java/lang/String" (498 : Nat) ({ cls := "java/lang/StringUTF16", name := "charAt", desc := "([BI)C" } : MethodName)) ∈ gTbl := lw_memk tk_4 78 rfl rfl
theorem wd_799 : (Cond.static ({ cls := "java/lang/StringUTF16", name := "charAt", desc := "([BI)C" } : MethodName)) ∈ gTbl := lw_memk tk_4 79 rfl rfl
theorem wd_800 : (Cond.code ({ cls := "java/lang/StringUTF16", name := "charAt", desc := "([BI)C" } : MethodName) prog_27_method_83_code (2 : Nat) (Option.some ClassFile.FieldType.char)) ∈ gTbl := lw_memk tk_4 80 rfl rfl
theorem wd_801 : (Cond.methodLink "java/lang/StringUTF16" (67 : Nat) ({ cls := "java/lang/StringUTF16", name := "checkIndex", desc := "(I[B)V" } : MethodName)) ∈ gTbl := lw_memk tk_4 81 rfl rfl
theorem wd_802 : (Cond.static ({ cls := "java/lang/StringUTF16", name := "checkIndex", desc := "(I[B)V" } : MethodName)) ∈ gTbl := lw_memk tk_4 82 rfl rfl
theorem wd_803 : (Cond.code ({ cls := "java/lang/StringUTF16", name := "checkIndex", desc := "(I[B)V" } : MethodName) prog_27_method_91_code (2 : Nat) (Option.none : Option ClassFile.FieldType)) ∈ gTbl := lw_memk tk_4 83 rfl rfl
theorem wd_804 : (Cond.methodLink "java/lang/StringUTF16" (48 : Nat) ({ cls := "java/lang/StringUTF16", name := "length", desc := "([B)I" } : MethodName)) ∈ gTbl := lw_memk tk_4 84 rfl rfl
theorem wd_805 : (Cond.static ({ cls := "java/lang/StringUTF16", name := "length", desc := "([B)I" } : MethodName)) ∈ gTbl := lw_memk tk_4 85 rfl rfl
theorem wd_806 : (Cond.code ({ cls := "java/lang/StringUTF16", name := "length", desc := "([B)I" } : MethodName) prog_27_method_6_code (1 : Nat) (Option.some ClassFile.FieldType.int)) ∈ gTbl := lw_memk tk_4 86 rfl rfl
theorem wd_807 : (Cond.methodLink "java/lang/StringUTF16" (414 : Nat) ({ cls := "java/lang/String", name := "checkIndex", desc := "(II)V" } : MethodName)) ∈ gTbl := lw_memk tk_4 87 rfl rfl
theorem wd_808 : (Cond.methodLink "java/lang/StringUTF16" (71 : Nat) ({ cls := "java/lang/StringUTF16", name := "getChar", desc := "([BI)C" } : MethodName)) ∈ gTbl := lw_memk tk_4 88 rfl rfl
theorem wd_809 : (Cond.static ({ cls := "java/lang/StringUTF16", name := "getChar", desc := "([BI)C" } : MethodName)) ∈ gTbl := lw_memk tk_4 89 rfl rfl
theorem wd_810 : (Cond.code ({ cls := "java/lang/StringUTF16", name := "getChar", desc := "([BI)C" } : MethodName) prog_27_method_5_code (2 : Nat) (Option.some ClassFile.FieldType.char)) ∈ gTbl := lw_memk tk_4 90 rfl rfl
theorem wd_811 : (Cond.fieldLink "java/lang/StringUTF16" (44 : Nat) "java/lang/StringUTF16" "$assertionsDisabled" "Z") ∈ gTbl := lw_memk tk_4 91 rfl rfl
theorem wd_813 : (Cond.fieldLink "java/lang/StringUTF16" (59 : Nat) "java/lang/StringUTF16" "HI_BYTE_SHIFT" "I") ∈ gTbl := lw_memk tk_4 93 rfl rfl
theorem wd_815 : (Cond.fieldLink "java/lang/StringUTF16" (63 : Nat) "java/lang/StringUTF16" "LO_BYTE_SHIFT" "I") ∈ gTbl := lw_memk tk_4 95 rfl rfl
theorem wd_843 : (Cond.methodLink "CribLine$Reader" (86 : Nat) ({ cls := "CribLine$Reader", name := "numberOf", desc := "([III)I" } : MethodName)) ∈ gTbl := lw_memk tk_4 123 rfl rfl
theorem wd_844 : (Cond.static ({ cls := "CribLine$Reader", name := "numberOf", desc := "([III)I" } : MethodName)) ∈ gTbl := lw_memk tk_4 124 rfl rfl
theorem wd_845 : (Cond.code ({ cls := "CribLine$Reader", name := "numberOf", desc := "([III)I" } : MethodName) prog_11_method_15_code (5 : Nat) (Option.some ClassFile.FieldType.int)) ∈ gTbl := lw_memk tk_4 125 rfl rfl
theorem wd_846 : (Cond.methodLink "CribLine$Reader" (89 : Nat) ({ cls := "CribLine$Reader", name := "isSign", desc := "(I)Z" } : MethodName)) ∈ gTbl := lw_memk tk_4 126 rfl rfl
theorem wd_847 : (Cond.static ({ cls := "CribLine$Reader", name := "isSign", desc := "(I)Z" } : MethodName)) ∈ gTbl := lw_memk tk_4 127 rfl rfl
theorem wd_848 : (Cond.code ({ cls := "CribLine$Reader", name := "isSign", desc := "(I)Z" } : MethodName) prog_11_method_14_code (1 : Nat) (Option.some ClassFile.FieldType.boolean)) ∈ gTbl := lw_memk tk_4 128 rfl rfl
theorem wd_849 : (Cond.methodLink "CribLine$Reader" (47 : Nat) ({ cls := "CribLine$Reader", name := "next", desc := "()I" } : MethodName)) ∈ gTbl := lw_memk tk_4 129 rfl rfl
theorem wd_850 : (Cond.instanceMethod ({ cls := "CribLine$Reader", name := "next", desc := "()I" } : MethodName)) ∈ gTbl := lw_memk tk_4 130 rfl rfl
theorem wd_851 : (Cond.sameMethod "CribLine$Reader" "CribLine$Reader" "next" "()I") ∈ gTbl := lw_memk tk_4 131 rfl rfl
theorem wd_852 : (Cond.selects "CribLine$FamilyReader" ({ cls := "CribLine$Reader", name := "next", desc := "()I" } : MethodName) ({ cls := "CribLine$Reader", name := "next", desc := "()I" } : MethodName)) ∈ gTbl := lw_memk tk_4 132 rfl rfl
theorem wd_853 : (Cond.selects "CribLine$LawReader" ({ cls := "CribLine$Reader", name := "next", desc := "()I" } : MethodName) ({ cls := "CribLine$Reader", name := "next", desc := "()I" } : MethodName)) ∈ gTbl := lw_memk tk_4 133 rfl rfl
theorem wd_854 : (Cond.code ({ cls := "CribLine$Reader", name := "next", desc := "()I" } : MethodName) prog_11_method_4_code (1 : Nat) (Option.some ClassFile.FieldType.int)) ∈ gTbl := lw_memk tk_4 134 rfl rfl
theorem wd_855 : (Cond.methodLink "CribLine$Reader" (51 : Nat) ({ cls := "CribLine$Reader", name := "readLine", desc := "()Z" } : MethodName)) ∈ gTbl := lw_memk tk_4 135 rfl rfl
theorem wd_857 : (Cond.sameMethod "CribLine$Reader" "CribLine$Reader" "readLine" "()Z") ∈ gTbl := lw_memk tk_4 137 rfl rfl
theorem wd_858 : (Cond.selects "CribLine$FamilyReader" ({ cls := "CribLine$Reader", name := "readLine", desc := "()Z" } : MethodName) ({ cls := "CribLine$FamilyReader", name := "readLine", desc := "()Z" } : MethodName)) ∈ gTbl := lw_memk tk_4 138 rfl rfl
theorem wd_859 : (Cond.instanceMethod ({ cls := "CribLine$FamilyReader", name := "readLine", desc := "()Z" } : MethodName)) ∈ gTbl := lw_memk tk_4 139 rfl rfl
theorem wd_860 : (Cond.code ({ cls := "CribLine$FamilyReader", name := "readLine", desc := "()Z" } : MethodName) prog_5_method_2_code (1 : Nat) (Option.some ClassFile.FieldType.boolean)) ∈ gTbl := lw_memk tk_4 140 rfl rfl
theorem wd_861 : (Cond.methodLink "CribLine$FamilyReader" (15 : Nat) ({ cls := "CribLine$FamilyReader", name := "next", desc := "()I" } : MethodName)) ∈ gTbl := lw_memk tk_4 141 rfl rfl
theorem wd_862 : (Cond.sameMethod "CribLine$FamilyReader" "CribLine$Reader" "next" "()I") ∈ gTbl := lw_memk tk_4 142 rfl rfl
theorem wd_864 : (Cond.selects "CribLine$FamilyReader" ({ cls := "CribLine$FamilyReader", name := "next", desc := "()I" } : MethodName) ({ cls := "CribLine$Reader", name := "next", desc := "()I" } : MethodName)) ∈ gTbl := lw_memk tk_4 144 rfl rfl
theorem wd_865 : (Cond.methodLink "CribLine$FamilyReader" (19 : Nat) ({ cls := "CribLine$FamilyReader", name := "readPerson", desc := "()Z" } : MethodName)) ∈ gTbl := lw_memk tk_4 145 rfl rfl
theorem wd_867 : (Cond.instanceMethod ({ cls := "CribLine$FamilyReader", name := "readPerson", desc := "()Z" } : MethodName)) ∈ gTbl := lw_memk tk_4 147 rfl rfl
theorem wd_868 : (Cond.code ({ cls := "CribLine$FamilyReader", name := "readPerson", desc := "()Z" } : MethodName) prog_5_method_3_code (4 : Nat) (Option.some ClassFile.FieldType.boolean)) ∈ gTbl := lw_memk tk_4 148 rfl rfl
theorem wd_869 : (Cond.methodLink "CribLine$FamilyReader" (57 : Nat) ({ cls := "CribLine$FamilyReader", name := "took", desc := "(I)Z" } : MethodName)) ∈ gTbl := lw_memk tk_4 149 rfl rfl
theorem wd_870 : (Cond.sameMethod "CribLine$FamilyReader" "CribLine$Reader" "took" "(I)Z") ∈ gTbl := lw_memk tk_4 150 rfl rfl
theorem wd_872 : (Cond.selects "CribLine$FamilyReader" ({ cls := "CribLine$FamilyReader", name := "took", desc := "(I)Z" } : MethodName) ({ cls := "CribLine$Reader", name := "took", desc := "(I)Z" } : MethodName)) ∈ gTbl := lw_memk tk_4 152 rfl rfl
theorem wd_873 : (Cond.instanceMethod ({ cls := "CribLine$Reader", name := "took", desc := "(I)Z" } : MethodName)) ∈ gTbl := lw_memk tk_4 153 rfl rfl
theorem wd_874 : (Cond.code ({ cls := "CribLine$Reader", name := "took", desc := "(I)Z" } : MethodName) prog_11_method_7_code (2 : Nat) (Option.some ClassFile.FieldType.boolean)) ∈ gTbl := lw_memk tk_4 154 rfl rfl
theorem wd_875 : (Cond.methodLink "CribLine$FamilyReader" (36 : Nat) ({ cls := "CribLine$FamilyReader", name := "tookNumber", desc := "(II)Z" } : MethodName)) ∈ gTbl := lw_memk tk_4 155 rfl rfl
theorem wd_876 : (Cond.sameMethod "CribLine$FamilyReader" "CribLine$Reader" "tookNumber" "(II)Z") ∈ gTbl := lw_memk tk_4 156 rfl rfl
theorem wd_878 : (Cond.selects "CribLine$FamilyReader" ({ cls := "CribLine$FamilyReader", name := "tookNumber", desc := "(II)Z" } : MethodName) ({ cls := "CribLine$Reader", name := "tookNumber", desc := "(II)Z" } : MethodName)) ∈ gTbl := lw_memk tk_4 158 rfl rfl
theorem wd_879 : (Cond.instanceMethod ({ cls := "CribLine$Reader", name := "tookNumber", desc := "(II)Z" } : MethodName)) ∈ gTbl := lw_memk tk_4 159 rfl rfl
theorem wd_880 : (Cond.code ({ cls := "CribLine$Reader", name := "tookNumber", desc := "(II)Z" } : MethodName) prog_11_method_8_code (4 : Nat) (Option.some ClassFile.FieldType.boolean)) ∈ gTbl := lw_memk tk_4 160 rfl rfl
theorem wd_881 : (Cond.methodLink "CribLine$Reader" (62 : Nat) ({ cls := "CribLine$Reader", name := "numberOfNext", desc := "()I" } : MethodName)) ∈ gTbl := lw_memk tk_4 161 rfl rfl
theorem wd_882 : (Cond.instanceMethod ({ cls := "CribLine$Reader", name := "numberOfNext", desc := "()I" } : MethodName)) ∈ gTbl := lw_memk tk_4 162 rfl rfl
theorem wd_883 : (Cond.sameMethod "CribLine$Reader" "CribLine$Reader" "numberOfNext" "()I") ∈ gTbl := lw_memk tk_4 163 rfl rfl
theorem wd_884 : (Cond.selects "CribLine$FamilyReader" ({ cls := "CribLine$Reader", name := "numberOfNext", desc := "()I" } : MethodName) ({ cls := "CribLine$Reader", name := "numberOfNext", desc := "()I" } : MethodName)) ∈ gTbl := lw_memk tk_4 164 rfl rfl
theorem wd_885 : (Cond.selects "CribLine$LawReader" ({ cls := "CribLine$Reader", name := "numberOfNext", desc := "()I" } : MethodName) ({ cls := "CribLine$Reader", name := "numberOfNext", desc := "()I" } : MethodName)) ∈ gTbl := lw_memk tk_4 165 rfl rfl
theorem wd_886 : (Cond.code ({ cls := "CribLine$Reader", name := "numberOfNext", desc := "()I" } : MethodName) prog_11_method_6_code (1 : Nat) (Option.some ClassFile.FieldType.int)) ∈ gTbl := lw_memk tk_4 166 rfl rfl
theorem wd_887 : (Cond.methodLink "CribLine$FamilyReader" (64 : Nat) ({ cls := "CribLine$FamilyReader", name := "tookPerson", desc := "()Z" } : MethodName)) ∈ gTbl := lw_memk tk_4 167 rfl rfl
theorem wd_889 : (Cond.instanceMethod ({ cls := "CribLine$FamilyReader", name := "tookPerson", desc := "()Z" } : MethodName)) ∈ gTbl := lw_memk tk_4 169 rfl rfl
theorem wd_890 : (Cond.code ({ cls := "CribLine$FamilyReader", name := "tookPerson", desc := "()Z" } : MethodName) prog_5_method_5_code (1 : Nat) (Option.some ClassFile.FieldType.boolean)) ∈ gTbl := lw_memk tk_4 170 rfl rfl
theorem wd_891 : (Cond.methodLink "CribLine$FamilyReader" (69 : Nat) ({ cls := "CribLine$Family", name := "add", desc := "(III)I" } : MethodName)) ∈ gTbl := lw_memk tk_4 171 rfl rfl
theorem wd_892 : (Cond.instanceMethod ({ cls := "CribLine$Family", name := "add", desc := "(III)I" } : MethodName)) ∈ gTbl := lw_memk tk_4 172 rfl rfl
theorem wd_893 : (Cond.selects "CribLine$Family" ({ cls := "CribLine$Family", name := "add", desc := "(III)I" } : MethodName) ({ cls := "CribLine$Family", name := "add", desc := "(III)I" } : MethodName)) ∈ gTbl := lw_memk tk_4 173 rfl rfl
theorem wd_894 : (Cond.code ({ cls := "CribLine$Family", name := "add", desc := "(III)I" } : MethodName) prog_4_method_5_code (5 : Nat) (Option.some ClassFile.FieldType.int)) ∈ gTbl := lw_memk tk_4 174 rfl rfl
theorem wd_895 : (Cond.methodLink "CribLine$FamilyReader" (73 : Nat) ({ cls := "CribLine$Family", name := "at", desc := "(I)LCribLine$Person;" } : MethodName)) ∈ gTbl := lw_memk tk_4 175 rfl rfl
theorem wd_896 : (Cond.methodLink "CribLine$FamilyReader" (76 : Nat) ({ cls := "CribLine$FamilyReader", name := "readRest", desc := "(LCribLine$Person;)Z" } : MethodName)) ∈ gTbl := lw_memk tk_4 176 rfl rfl
theorem wd_898 : (Cond.instanceMethod ({ cls := "CribLine$FamilyReader", name := "readRest", desc := "(LCribLine$Person;)Z" } : MethodName)) ∈ gTbl := lw_memk tk_4 178 rfl rfl
theorem wd_899 : (Cond.code ({ cls := "CribLine$FamilyReader", name := "readRest", desc := "(LCribLine$Person;)Z" } : MethodName) prog_5_method_4_code (2 : Nat) (Option.some ClassFile.FieldType.boolean)) ∈ gTbl := lw_memk tk_4 179 rfl rfl
theorem wd_900 : (Cond.methodLink "CribLine$FamilyReader" (23 : Nat) ({ cls := "CribLine$FamilyReader", name := "readGoverns", desc := "()Z" } : MethodName)) ∈ gTbl := lw_memk tk_4 180 rfl rfl
theorem wd_902 : (Cond.instanceMethod ({ cls := "CribLine$FamilyReader", name := "readGoverns", desc := "()Z" } : MethodName)) ∈ gTbl := lw_memk tk_4 182 rfl rfl
theorem wd_903 : (Cond.code ({ cls := "CribLine$FamilyReader", name := "readGoverns", desc := "()Z" } : MethodName) prog_5_method_6_code (2 : Nat) (Option.some ClassFile.FieldType.boolean)) ∈ gTbl := lw_memk tk_4 183 rfl rfl
theorem wd_904 : (Cond.methodLink "CribLine$FamilyReader" (89 : Nat) ({ cls := "CribLine$Family", name := "setGoverns", desc := "(IIZ)V" } : MethodName)) ∈ gTbl := lw_memk tk_4 184 rfl rfl
theorem wd_905 : (Cond.instanceMethod ({ cls := "CribLine$Family", name := "setGoverns", desc := "(IIZ)V" } : MethodName)) ∈ gTbl := lw_memk tk_4 185 rfl rfl
theorem wd_906 : (Cond.selects "CribLine$Family" ({ cls := "CribLine$Family", name := "setGoverns", desc := "(IIZ)V" } : MethodName) ({ cls := "CribLine$Family", name := "setGoverns", desc := "(IIZ)V" } : MethodName)) ∈ gTbl := lw_memk tk_4 186 rfl rfl
theorem wd_907 : (Cond.code ({ cls := "CribLine$Family", name := "setGoverns", desc := "(IIZ)V" } : MethodName) prog_4_method_13_code (5 : Nat) (Option.none : Option ClassFile.FieldType)) ∈ gTbl := lw_memk tk_4 187 rfl rfl
theorem wd_908 : (Cond.methodLink "CribLine$FamilyReader" (26 : Nat) ({ cls := "CribLine$FamilyReader", name := "readWed", desc := "()Z" } : MethodName)) ∈ gTbl := lw_memk tk_4 188 rfl rfl
theorem wd_910 : (Cond.instanceMethod ({ cls := "CribLine$FamilyReader", name := "readWed", desc := "()Z" } : MethodName)) ∈ gTbl := lw_memk tk_4 190 rfl rfl
theorem wd_911 : (Cond.code ({ cls := "CribLine$FamilyReader", name := "readWed", desc := "()Z" } : MethodName) prog_5_method_7_code (2 : Nat) (Option.some ClassFile.FieldType.boolean)) ∈ gTbl := lw_memk tk_4 191 rfl rfl
theorem wd_912 : (Cond.methodLink "CribLine$FamilyReader" (93 : Nat) ({ cls := "CribLine$Family", name := "mayWed", desc := "(II)Z" } : MethodName)) ∈ gTbl := lw_memk tk_4 192 rfl rfl
theorem wd_913 : (Cond.methodLink "CribLine$FamilyReader" (96 : Nat) ({ cls := "CribLine$Family", name := "join", desc := "(II)V" } : MethodName)) ∈ gTbl := lw_memk tk_4 193 rfl rfl
theorem wd_914 : (Cond.instanceMethod ({ cls := "CribLine$Family", name := "join", desc := "(II)V" } : MethodName)) ∈ gTbl := lw_memk tk_4 194 rfl rfl
theorem wd_915 : (Cond.selects "CribLine$Family" ({ cls := "CribLine$Family", name := "join", desc := "(II)V" } : MethodName) ({ cls := "CribLine$Family", name := "join", desc := "(II)V" } : MethodName)) ∈ gTbl := lw_memk tk_4 195 rfl rfl
theorem wd_916 : (Cond.code ({ cls := "CribLine$Family", name := "join", desc := "(II)V" } : MethodName) prog_4_method_18_code (3 : Nat) (Option.none : Option ClassFile.FieldType)) ∈ gTbl := lw_memk tk_4 196 rfl rfl
theorem wd_917 : (Cond.methodLink "CribLine$FamilyReader" (29 : Nat) ({ cls := "CribLine$FamilyReader", name := "readRound", desc := "()Z" } : MethodName)) ∈ gTbl := lw_memk tk_4 197 rfl rfl
theorem wd_919 : (Cond.instanceMethod ({ cls := "CribLine$FamilyReader", name := "readRound", desc := "()Z" } : MethodName)) ∈ gTbl := lw_memk tk_4 199 rfl rfl
theorem wd_920 : (Cond.code ({ cls := "CribLine$FamilyReader", name := "readRound", desc := "()Z" } : MethodName) prog_5_method_8_code (3 : Nat) (Option.some ClassFile.FieldType.boolean)) ∈ gTbl := lw_memk tk_4 200 rfl rfl
theorem wd_921 : (Cond.methodLink "CribLine$FamilyReader" (103 : Nat) ({ cls := "java/lang/Math", name := "max", desc := "(II)I" } : MethodName)) ∈ gTbl := lw_memk tk_4 201 rfl rfl
theorem wd_922 : (Cond.selects "CribLine$LawReader" ({ cls := "CribLine$Reader", name := "readLine", desc := "()Z" } : MethodName) ({ cls := "CribLine$LawReader", name := "readLine", desc := "()Z" } : MethodName)) ∈ gTbl := lw_memk tk_4 202 rfl rfl
theorem wd_923 : (Cond.instanceMethod ({ cls := "CribLine$LawReader", name := "readLine", desc := "()Z" } : MethodName)) ∈ gTbl := lw_memk tk_4 203 rfl rfl
theorem wd_924 : (Cond.code ({ cls := "CribLine$LawReader", name := "readLine", desc := "()Z" } : MethodName) prog_7_method_2_code (4 : Nat) (Option.some ClassFile.FieldType.boolean)) ∈ gTbl := lw_memk tk_4 204 rfl rfl
theorem wd_925 : (Cond.methodLink "CribLine$LawReader" (17 : Nat) ({ cls := "CribLine$LawReader", name := "next", desc := "()I" } : MethodName)) ∈ gTbl := lw_memk tk_4 205 rfl rfl
theorem wd_926 : (Cond.sameMethod "CribLine$LawReader" "CribLine$Reader" "next" "()I") ∈ gTbl := lw_memk tk_4 206 rfl rfl
theorem wd_927 : (Cond.selects "CribLine$LawReader" ({ cls := "CribLine$LawReader", name := "next", desc := "()I" } : MethodName) ({ cls := "CribLine$Reader", name := "next", desc := "()I" } : MethodName)) ∈ gTbl := lw_memk tk_4 207 rfl rfl
theorem wd_928 : (Cond.methodLink "CribLine$LawReader" (25 : Nat) ({ cls := "CribLine$LawReader", name := "tookNumber", desc := "(II)Z" } : MethodName)) ∈ gTbl := lw_memk tk_4 208 rfl rfl
theorem wd_929 : (Cond.sameMethod "CribLine$LawReader" "CribLine$Reader" "tookNumber" "(II)Z") ∈ gTbl := lw_memk tk_4 209 rfl rfl
theorem wd_930 : (Cond.selects "CribLine$LawReader" ({ cls := "CribLine$LawReader", name := "tookNumber", desc := "(II)Z" } : MethodName) ({ cls := "CribLine$Reader", name := "tookNumber", desc := "(II)Z" } : MethodName)) ∈ gTbl := lw_memk tk_4 210 rfl rfl
theorem wd_931 : (Cond.methodLink "CribLine$LawReader" (35 : Nat) ({ cls := "CribLine$LawReader", name := "took", desc := "(I)Z" } : MethodName)) ∈ gTbl := lw_memk tk_4 211 rfl rfl
theorem wd_932 : (Cond.sameMethod "CribLine$LawReader" "CribLine$Reader" "took" "(I)Z") ∈ gTbl := lw_memk tk_4 212 rfl rfl
theorem wd_933 : (Cond.selects "CribLine$LawReader" ({ cls := "CribLine$LawReader", name := "took", desc := "(I)Z" } : MethodName) ({ cls := "CribLine$Reader", name := "took", desc := "(I)Z" } : MethodName)) ∈ gTbl := lw_memk tk_4 213 rfl rfl
theorem wd_934 : (Cond.methodLink "CribLine$LawReader" (39 : Nat) ({ cls := "CribLine$LawReader", name := "readAny", desc := "(I)Z" } : MethodName)) ∈ gTbl := lw_memk tk_4 214 rfl rfl
theorem wd_936 : (Cond.instanceMethod ({ cls := "CribLine$LawReader", name := "readAny", desc := "(I)Z" } : MethodName)) ∈ gTbl := lw_memk tk_4 216 rfl rfl
theorem wd_937 : (Cond.code ({ cls := "CribLine$LawReader", name := "readAny", desc := "(I)Z" } : MethodName) prog_7_method_3_code (3 : Nat) (Option.some ClassFile.FieldType.boolean)) ∈ gTbl := lw_memk tk_4 217 rfl rfl
theorem wd_938 : (Cond.methodLink "CribLine$LawReader" (46 : Nat) ({ cls := "CribLine$LawReader", name := "readAll", desc := "(I)Z" } : MethodName)) ∈ gTbl := lw_memk tk_4 218 rfl rfl
theorem wd_940 : (Cond.instanceMethod ({ cls := "CribLine$LawReader", name := "readAll", desc := "(I)Z" } : MethodName)) ∈ gTbl := lw_memk tk_4 220 rfl rfl
theorem wd_941 : (Cond.code ({ cls := "CribLine$LawReader", name := "readAll", desc := "(I)Z" } : MethodName) prog_7_method_4_code (3 : Nat) (Option.some ClassFile.FieldType.boolean)) ∈ gTbl := lw_memk tk_4 221 rfl rfl
theorem wd_942 : (Cond.methodLink "CribLine$LawReader" (53 : Nat) ({ cls := "CribLine$LawReader", name := "readAtom", desc := "(I)Z" } : MethodName)) ∈ gTbl := lw_memk tk_4 222 rfl rfl
theorem wd_944 : (Cond.instanceMethod ({ cls := "CribLine$LawReader", name := "readAtom", desc := "(I)Z" } : MethodName)) ∈ gTbl := lw_memk tk_4 224 rfl rfl
theorem wd_945 : (Cond.code ({ cls := "CribLine$LawReader", name := "readAtom", desc := "(I)Z" } : MethodName) prog_7_method_5_code (3 : Nat) (Option.some ClassFile.FieldType.boolean)) ∈ gTbl := lw_memk tk_4 225 rfl rfl
theorem wd_946 : (Cond.methodLink "CribLine$LawReader" (49 : Nat) ({ cls := "CribLine$Law", name := "put", desc := "(II)V" } : MethodName)) ∈ gTbl := lw_memk tk_4 226 rfl rfl
theorem wd_947 : (Cond.instanceMethod ({ cls := "CribLine$Law", name := "put", desc := "(II)V" } : MethodName)) ∈ gTbl := lw_memk tk_4 227 rfl rfl
theorem wd_948 : (Cond.selects "CribLine$Law" ({ cls := "CribLine$Law", name := "put", desc := "(II)V" } : MethodName) ({ cls := "CribLine$Law", name := "put", desc := "(II)V" } : MethodName)) ∈ gTbl := lw_memk tk_4 228 rfl rfl
theorem wd_949 : (Cond.code ({ cls := "CribLine$Law", name := "put", desc := "(II)V" } : MethodName) prog_6_method_4_code (3 : Nat) (Option.none : Option ClassFile.FieldType)) ∈ gTbl := lw_memk tk_4 229 rfl rfl
theorem wd_950 : (Cond.methodLink "CribLine$LawReader" (56 : Nat) ({ cls := "CribLine$LawReader", name := "readComparison", desc := "()Z" } : MethodName)) ∈ gTbl := lw_memk tk_4 230 rfl rfl
theorem wd_952 : (Cond.instanceMethod ({ cls := "CribLine$LawReader", name := "readComparison", desc := "()Z" } : MethodName)) ∈ gTbl := lw_memk tk_4 232 rfl rfl
theorem wd_953 : (Cond.code ({ cls := "CribLine$LawReader", name := "readComparison", desc := "()Z" } : MethodName) prog_7_method_6_code (2 : Nat) (Option.some ClassFile.FieldType.boolean)) ∈ gTbl := lw_memk tk_4 233 rfl rfl
theorem wd_954 : (Cond.methodLink "CribLine$LawReader" (60 : Nat) ({ cls := "CribLine$LawReader", name := "readSum", desc := "()Z" } : MethodName)) ∈ gTbl := lw_memk tk_4 234 rfl rfl
theorem wd_956 : (Cond.instanceMethod ({ cls := "CribLine$LawReader", name := "readSum", desc := "()Z" } : MethodName)) ∈ gTbl := lw_memk tk_4 236 rfl rfl
theorem wd_957 : (Cond.code ({ cls := "CribLine$LawReader", name := "readSum", desc := "()Z" } : MethodName) prog_7_method_7_code (3 : Nat) (Option.some ClassFile.FieldType.boolean)) ∈ gTbl := lw_memk tk_4 237 rfl rfl
theorem wd_958 : (Cond.methodLink "CribLine$LawReader" (63 : Nat) ({ cls := "CribLine$LawReader", name := "isPart", desc := "(I)Z" } : MethodName)) ∈ gTbl := lw_memk tk_4 238 rfl rfl
theorem wd_959 : (Cond.static ({ cls := "CribLine$LawReader", name := "isPart", desc := "(I)Z" } : MethodName)) ∈ gTbl := lw_memk tk_4 239 rfl rfl
theorem wd_960 : (Cond.code ({ cls := "CribLine$LawReader", name := "isPart", desc := "(I)Z" } : MethodName) prog_7_method_8_code (1 : Nat) (Option.some ClassFile.FieldType.boolean)) ∈ gTbl := lw_memk tk_5 0 rfl rfl
theorem wd_961 : (Cond.methodLink "CribLine$LawReader" (66 : Nat) ({ cls := "CribLine$LawReader", name := "numberOfNext", desc := "()I" } : MethodName)) ∈ gTbl := lw_memk tk_5 1 rfl rfl
theorem wd_962 : (Cond.sameMethod "CribLine$LawReader" "CribLine$Reader" "numberOfNext" "()I") ∈ gTbl := lw_memk tk_5 2 rfl rfl
theorem wd_964 : (Cond.selects "CribLine$LawReader" ({ cls := "CribLine$LawReader", name := "numberOfNext", desc := "()I" } : MethodName) ({ cls := "CribLine$Reader", name := "numberOfNext", desc := "()I" } : MethodName)) ∈ gTbl := lw_memk tk_5 4 rfl rfl
theorem wd_965 : (Cond.methodLink "CribLine$LawReader" (42 : Nat) ({ cls := "CribLine$Law", name := "addLine", desc := "(III)V" } : MethodName)) ∈ gTbl := lw_memk tk_5 5 rfl rfl
theorem wd_966 : (Cond.instanceMethod ({ cls := "CribLine$Law", name := "addLine", desc := "(III)V" } : MethodName)) ∈ gTbl := lw_memk tk_5 6 rfl rfl
theorem wd_967 : (Cond.selects "CribLine$Law" ({ cls := "CribLine$Law", name := "addLine", desc := "(III)V" } : MethodName) ({ cls := "CribLine$Law", name := "addLine", desc := "(III)V" } : MethodName)) ∈ gTbl := lw_memk tk_5 7 rfl rfl
theorem wd_968 : (Cond.code ({ cls := "CribLine$Law", name := "addLine", desc := "(III)V" } : MethodName) prog_6_method_5_code (4 : Nat) (Option.none : Option ClassFile.FieldType)) ∈ gTbl := lw_memk tk_5 8 rfl rfl
theorem wd_969 : (Cond.methodLink "CribLine$Reader" (55 : Nat) ({ cls := "CribLine$Reader", name := "beginOfNext", desc := "()I" } : MethodName)) ∈ gTbl := lw_memk tk_5 9 rfl rfl
theorem wd_971 : (Cond.instanceMethod ({ cls := "CribLine$Reader", name := "beginOfNext", desc := "()I" } : MethodName)) ∈ gTbl := lw_memk tk_5 11 rfl rfl
theorem wd_972 : (Cond.code ({ cls := "CribLine$Reader", name := "beginOfNext", desc := "()I" } : MethodName) prog_11_method_5_code (1 : Nat) (Option.some ClassFile.FieldType.int)) ∈ gTbl := lw_memk tk_5 12 rfl rfl
theorem wd_973 : (Cond.methodLink "CribLine$Reader" (58 : Nat) ({ cls := "CribLine$Reader", name := "took", desc := "(I)Z" } : MethodName)) ∈ gTbl := lw_memk tk_5 13 rfl rfl
theorem wd_974 : (Cond.classLink "CribLine" (120 : Nat) "java/lang/IllegalArgumentException") ∈ gTbl := lw_memk tk_5 14 rfl rfl
theorem wd_975 : (Cond.instantiable "java/lang/IllegalArgumentException" (6 : Nat)) ∈ gTbl := lw_memk tk_5 15 rfl rfl
theorem wd_983 : (Cond.selects "java/lang/IllegalArgumentException" ({ cls := "java/lang/Throwable", name := "fillInStackTrace", desc := "(I)Ljava/lang/Throwable;" } : MethodName) ({ cls := "java/lang/Throwable", name := "fillInStackTrace", desc := "(I)Ljava/lang/Throwable;" } : MethodName)) ∈ gTbl := lw_memk tk_5 23 rfl rfl
theorem wd_984 : (Cond.selects "java/lang/IllegalArgumentException" ({ cls := "java/lang/Throwable", name := "fillInStackTrace", desc := "()Ljava/lang/Throwable;" } : MethodName) ({ cls := "java/lang/Throwable", name := "fillInStackTrace", desc := "()Ljava/lang/Throwable;" } : MethodName)) ∈ gTbl := lw_memk tk_5 24 rfl rfl
theorem wd_995 : (Cond.fieldLink "java/lang/Throwable" (198 : Nat) "java/lang/Throwable" "backtrace" "Ljava/lang/Object;") ∈ gTbl := lw_memk tk_5 35 rfl rfl
theorem wd_997 : (Cond.instanceMethod ({ cls := "java/lang/Throwable", name := "<init>", desc := "()V" } : MethodName)) ∈ gTbl := lw_memk tk_5 37 rfl rfl
theorem wd_998 : (Cond.code ({ cls := "java/lang/Throwable", name := "<init>", desc := "()V" } : MethodName) prog_29_method_1_code (1 : Nat) (Option.none : Option ClassFile.FieldType)) ∈ gTbl := lw_memk tk_5 38 rfl rfl
theorem wd_999 : (Cond.methodLink "java/lang/Throwable" (1 : Nat) ({ cls := "java/lang/Object", name := "<init>", desc := "()V" } : MethodName)) ∈ gTbl := lw_memk tk_5 39 rfl rfl
theorem wd_1000 : (Cond.fieldLink "java/lang/Throwable" (13 : Nat) "java/lang/Throwable" "UNASSIGNED_STACK" "[Ljava/lang/StackTraceElement;") ∈ gTbl := lw_memk tk_5 40 rfl rfl
theorem wd_1002 : (Cond.fieldLink "java/lang/Throwable" (20 : Nat) "java/lang/Throwable" "SUPPRESSED_SENTINEL" "Ljava/util/List;") ∈ gTbl := lw_memk tk_5 42 rfl rfl
theorem wd_1004 : (Cond.methodLink "java/lang/Throwable" (27 : Nat) ({ cls := "java/lang/Throwable", name := "fillInStackTrace", desc := "()Ljava/lang/Throwable;" } : MethodName)) ∈ gTbl := lw_memk tk_5 44 rfl rfl
theorem wd_1005 : (Cond.instanceMethod ({ cls := "java/lang/Throwable", name := "fillInStackTrace", desc := "()Ljava/lang/Throwable;" } : MethodName)) ∈ gTbl := lw_memk tk_5 45 rfl rfl
theorem wd_1006 : (Cond.sameMethod "java/lang/Throwable" "java/lang/Throwable" "fillInStackTrace" "()Ljava/lang/Throwable;") ∈ gTbl := lw_memk tk_5 46 rfl rfl
theorem wd_1007 : (Cond.selects "java/lang/IllegalStateException" ({ cls := "java/lang/Throwable", name := "fillInStackTrace", desc := "()Ljava/lang/Throwable;" } : MethodName) ({ cls := "java/lang/Throwable", name := "fillInStackTrace", desc := "()Ljava/lang/Throwable;" } : MethodName)) ∈ gTbl := lw_memk tk_5 47 rfl rfl
theorem wd_1008 : (Cond.selects "java/lang/IndexOutOfBoundsException" ({ cls := "java/lang/Throwable", name := "fillInStackTrace", desc := "()Ljava/lang/Throwable;" } : MethodName) ({ cls := "java/lang/Throwable", name := "fillInStackTrace", desc := "()Ljava/lang/Throwable;" } : MethodName)) ∈ gTbl := lw_memk tk_5 48 rfl rfl
theorem wd_1009 : (Cond.selects "java/lang/UnsupportedOperationException" ({ cls := "java/lang/Throwable", name := "fillInStackTrace", desc := "()Ljava/lang/Throwable;" } : MethodName) ({ cls := "java/lang/Throwable", name := "fillInStackTrace", desc := "()Ljava/lang/Throwable;" } : MethodName)) ∈ gTbl := lw_memk tk_5 49 rfl rfl
theorem wd_1010 : (Cond.selects "java/util/NoSuchElementException" ({ cls := "java/lang/Throwable", name := "fillInStackTrace", desc := "()Ljava/lang/Throwable;" } : MethodName) ({ cls := "java/lang/Throwable", name := "fillInStackTrace", desc := "()Ljava/lang/Throwable;" } : MethodName)) ∈ gTbl := lw_memk tk_5 50 rfl rfl
theorem wd_1012 : (Cond.methodLink "java/lang/Throwable" (202 : Nat) ({ cls := "java/lang/Throwable", name := "fillInStackTrace", desc := "(I)Ljava/lang/Throwable;" } : MethodName)) ∈ gTbl := lw_memk tk_5 52 rfl rfl
theorem wd_1014 : (Cond.instanceMethod ({ cls := "java/lang/Throwable", name := "fillInStackTrace", desc := "(I)Ljava/lang/Throwable;" } : MethodName)) ∈ gTbl := lw_memk tk_5 54 rfl rfl
theorem wd_1015 : (Cond.instantiable "java/lang/Throwable" (6 : Nat)) ∈ gTbl := lw_memk tk_5 55 rfl rfl
theorem wd_1016 : (Cond.native ({ cls := "java/lang/Throwable", name := "fillInStackTrace", desc := "(I)Ljava/lang/Throwable;" } : MethodName)) ∈ gTbl := lw_memk tk_5 56 rfl rfl
theorem wd_1018 : (Cond.methodLink "CribLine" (124 : Nat) ({ cls := "java/lang/IllegalArgumentException", name := "<init>", desc := "(Ljava/lang/String;)V" } : MethodName)) ∈ gTbl := lw_memk tk_5 58 rfl rfl
theorem wd_1019 : (Cond.instanceMethod ({ cls := "java/lang/IllegalArgumentException", name := "<init>", desc := "(Ljava/lang/String;)V" } : MethodName)) ∈ gTbl := lw_memk tk_5 59 rfl rfl
theorem wd_1020 : (Cond.code ({ cls := "java/lang/IllegalArgumentException", name := "<init>", desc := "(Ljava/lang/String;)V" } : MethodName) prog_19_method_2_code (2 : Nat) (Option.none : Option ClassFile.FieldType)) ∈ gTbl := lw_memk tk_5 60 rfl rfl
theorem wd_1021 : (Cond.methodLink "java/lang/IllegalArgumentException" (7 : Nat) ({ cls := "java/lang/RuntimeException", name := "<init>", desc := "(Ljava/lang/String;)V" } : MethodName)) ∈ gTbl := lw_memk tk_5 61 rfl rfl
theorem wd_1022 : (Cond.instanceMethod ({ cls := "java/lang/RuntimeException", name := "<init>", desc := "(Ljava/lang/String;)V" } : MethodName)) ∈ gTbl := lw_memk tk_5 62 rfl rfl
theorem wd_1023 : (Cond.code ({ cls := "java/lang/RuntimeException", name := "<init>", desc := "(Ljava/lang/String;)V" } : MethodName) prog_24_method_2_code (2 : Nat) (Option.none : Option ClassFile.FieldType)) ∈ gTbl := lw_memk tk_5 63 rfl rfl
theorem wd_1024 : (Cond.methodLink "java/lang/RuntimeException" (7 : Nat) ({ cls := "java/lang/Exception", name := "<init>", desc := "(Ljava/lang/String;)V" } : MethodName)) ∈ gTbl := lw_memk tk_5 64 rfl rfl
theorem wd_1025 : (Cond.instanceMethod ({ cls := "java/lang/Exception", name := "<init>", desc := "(Ljava/lang/String;)V" } : MethodName)) ∈ gTbl := lw_memk tk_5 65 rfl rfl
theorem wd_1026 : (Cond.code ({ cls := "java/lang/Exception", name := "<init>", desc := "(Ljava/lang/String;)V" } : MethodName) prog_18_method_2_code (2 : Nat) (Option.none : Option ClassFile.FieldType)) ∈ gTbl := lw_memk tk_5 66 rfl rfl
theorem wd_1027 : (Cond.methodLink "java/lang/Exception" (7 : Nat) ({ cls := "java/lang/Throwable", name := "<init>", desc := "(Ljava/lang/String;)V" } : MethodName)) ∈ gTbl := lw_memk tk_5 67 rfl rfl
theorem wd_1028 : (Cond.instanceMethod ({ cls := "java/lang/Throwable", name := "<init>", desc := "(Ljava/lang/String;)V" } : MethodName)) ∈ gTbl := lw_memk tk_5 68 rfl rfl
theorem wd_1029 : (Cond.code ({ cls := "java/lang/Throwable", name := "<init>", desc := "(Ljava/lang/String;)V" } : MethodName) prog_29_method_2_code (2 : Nat) (Option.none : Option ClassFile.FieldType)) ∈ gTbl := lw_memk tk_5 69 rfl rfl
theorem wd_1030 : (Cond.fieldLink "java/lang/Throwable" (198 : Nat) "java/lang/Throwable" "backtrace" "Ljava/lang/Object;") ∈ gTbl := lw_memk tk_5 70 rfl rfl
theorem wd_1031 : (Cond.fieldLink "java/lang/Throwable" (31 : Nat) "java/lang/Throwable" "detailMessage" "Ljava/lang/String;") ∈ gTbl := lw_memk tk_5 71 rfl rfl
theorem wd_1032 : (Cond.fieldLink "java/lang/Throwable" (7 : Nat) "java/lang/Throwable" "cause" "Ljava/lang/Throwable;") ∈ gTbl := lw_memk tk_5 72 rfl rfl
theorem wd_1033 : (Cond.fieldLink "java/lang/Throwable" (17 : Nat) "java/lang/Throwable" "stackTrace" "[Ljava/lang/StackTraceElement;") ∈ gTbl := lw_memk tk_5 73 rfl rfl
theorem wd_1034 : (Cond.fieldLink "java/lang/Throwable" (24 : Nat) "java/lang/Throwable" "suppressedExceptions" "Ljava/util/List;") ∈ gTbl := lw_memk tk_5 74 rfl rfl
theorem wd_1043 : (Cond.arrayClass ClassFile.FieldType.byte) ∈ gTbl := lw_memk tk_5 83 rfl rfl
theorem wd_1044 : (Cond.classLink "CribLine" (130 : Nat) "java/lang/UnsupportedOperationException") ∈ gTbl := lw_memk tk_5 84 rfl rfl
theorem wd_1045 : (Cond.instantiable "java/lang/UnsupportedOperationException" (6 : Nat)) ∈ gTbl := lw_memk tk_5 85 rfl rfl
theorem wd_1047 : (Cond.selects "java/lang/UnsupportedOperationException" ({ cls := "java/lang/Throwable", name := "fillInStackTrace", desc := "(I)Ljava/lang/Throwable;" } : MethodName) ({ cls := "java/lang/Throwable", name := "fillInStackTrace", desc := "(I)Ljava/lang/Throwable;" } : MethodName)) ∈ gTbl := lw_memk tk_5 87 rfl rfl
theorem wd_1054 : (Cond.methodLink "CribLine" (134 : Nat) ({ cls := "java/lang/UnsupportedOperationException", name := "<init>", desc := "(Ljava/lang/String;)V" } : MethodName)) ∈ gTbl := lw_memk tk_5 94 rfl rfl
theorem wd_1055 : (Cond.instanceMethod ({ cls := "java/lang/UnsupportedOperationException", name := "<init>", desc := "(Ljava/lang/String;)V" } : MethodName)) ∈ gTbl := lw_memk tk_5 95 rfl rfl
theorem wd_1056 : (Cond.code ({ cls := "java/lang/UnsupportedOperationException", name := "<init>", desc := "(Ljava/lang/String;)V" } : MethodName) prog_30_method_2_code (2 : Nat) (Option.none : Option ClassFile.FieldType)) ∈ gTbl := lw_memk tk_5 96 rfl rfl
theorem wd_1057 : (Cond.methodLink "java/lang/UnsupportedOperationException" (7 : Nat) ({ cls := "java/lang/RuntimeException", name := "<init>", desc := "(Ljava/lang/String;)V" } : MethodName)) ∈ gTbl := lw_memk tk_5 97 rfl rfl
theorem wd_1060 : (Cond.methodLink "CribLineLaw" (169 : Nat) ({ cls := "CribLineLaw", name := "law", desc := "(LCribLine;[J)I" } : MethodName)) ∈ gTbl := lw_memk tk_5 100 rfl rfl
theorem wd_1061 : (Cond.static ({ cls := "CribLineLaw", name := "law", desc := "(LCribLine;[J)I" } : MethodName)) ∈ gTbl := lw_memk tk_5 101 rfl rfl
theorem wd_1062 : (Cond.codeWith ({ cls := "CribLineLaw", name := "law", desc := "(LCribLine;[J)I" } : MethodName) method_4_code (3 : Nat) (Option.some ClassFile.FieldType.int) [((0 : Nat), (8 : Nat), (11 : Nat), (13 : Nat))]) ∈ gTbl := lw_memk tk_5 102 rfl rfl
theorem wd_1063 : (Cond.methodLink "CribLineLaw" (17 : Nat) ({ cls := "CribLine", name := "law", desc := "()I" } : MethodName)) ∈ gTbl := lw_memk tk_5 103 rfl rfl
theorem wd_1064 : (Cond.instanceMethod ({ cls := "CribLine", name := "law", desc := "()I" } : MethodName)) ∈ gTbl := lw_memk tk_5 104 rfl rfl
theorem wd_1065 : (Cond.selects "CribLine" ({ cls := "CribLine", name := "law", desc := "()I" } : MethodName) ({ cls := "CribLine", name := "law", desc := "()I" } : MethodName)) ∈ gTbl := lw_memk tk_5 105 rfl rfl
theorem wd_1066 : (Cond.code ({ cls := "CribLine", name := "law", desc := "()I" } : MethodName) prog_1_method_7_code (1 : Nat) (Option.some ClassFile.FieldType.int)) ∈ gTbl := lw_memk tk_5 106 rfl rfl
theorem wd_1067 : (Cond.methodLink "CribLine" (135 : Nat) ({ cls := "CribLine$Law", name := "begin", desc := "()V" } : MethodName)) ∈ gTbl := lw_memk tk_5 107 rfl rfl
theorem wd_1068 : (Cond.instanceMethod ({ cls := "CribLine$Law", name := "begin", desc := "()V" } : MethodName)) ∈ gTbl := lw_memk tk_5 108 rfl rfl
theorem wd_1069 : (Cond.selects "CribLine$Law" ({ cls := "CribLine$Law", name := "begin", desc := "()V" } : MethodName) ({ cls := "CribLine$Law", name := "begin", desc := "()V" } : MethodName)) ∈ gTbl := lw_memk tk_5 109 rfl rfl
theorem wd_1070 : (Cond.code ({ cls := "CribLine$Law", name := "begin", desc := "()V" } : MethodName) prog_6_method_2_code (1 : Nat) (Option.none : Option ClassFile.FieldType)) ∈ gTbl := lw_memk tk_5 110 rfl rfl
theorem wd_1071 : (Cond.methodLink "CribLine" (138 : Nat) ({ cls := "CribLine$LawReader", name := "readText", desc := "([II)I" } : MethodName)) ∈ gTbl := lw_memk tk_5 111 rfl rfl
theorem wd_1072 : (Cond.sameMethod "CribLine$LawReader" "CribLine$Reader" "readText" "([II)I") ∈ gTbl := lw_memk tk_5 112 rfl rfl
theorem wd_1073 : (Cond.selects "CribLine$LawReader" ({ cls := "CribLine$LawReader", name := "readText", desc := "([II)I" } : MethodName) ({ cls := "CribLine$Reader", name := "readText", desc := "([II)I" } : MethodName)) ∈ gTbl := lw_memk tk_5 113 rfl rfl
theorem wd_1074 : (Cond.methodLink "CribLineLaw" (176 : Nat) ({ cls := "CribLineLaw", name := "person", desc := "(LCribLine;II[J)I" } : MethodName)) ∈ gTbl := lw_memk tk_5 114 rfl rfl
theorem wd_1075 : (Cond.static ({ cls := "CribLineLaw", name := "person", desc := "(LCribLine;II[J)I" } : MethodName)) ∈ gTbl := lw_memk tk_5 115 rfl rfl
theorem wd_1076 : (Cond.codeWith ({ cls := "CribLineLaw", name := "person", desc := "(LCribLine;II[J)I" } : MethodName) method_5_code (5 : Nat) (Option.some ClassFile.FieldType.int) [((0 : Nat), (10 : Nat), (13 : Nat), (24 : Nat)), ((0 : Nat), (10 : Nat), (17 : Nat), (26 : Nat))]) ∈ gTbl := lw_memk tk_5 116 rfl rfl
theorem wd_1077 : (Cond.classLink "CribLineLaw" (24 : Nat) "java/lang/IndexOutOfBoundsException") ∈ gTbl := lw_memk tk_5 117 rfl rfl
theorem wd_1078 : (Cond.classLink "CribLineLaw" (26 : Nat) "java/util/NoSuchElementException") ∈ gTbl := lw_memk tk_5 118 rfl rfl
theorem wd_1079 : (Cond.methodLink "CribLineLaw" (20 : Nat) ({ cls := "CribLine", name := "person", desc := "(II)I" } : MethodName)) ∈ gTbl := lw_memk tk_5 119 rfl rfl
theorem wd_1080 : (Cond.instanceMethod ({ cls := "CribLine", name := "person", desc := "(II)I" } : MethodName)) ∈ gTbl := lw_memk tk_5 120 rfl rfl
theorem wd_1081 : (Cond.selects "CribLine" ({ cls := "CribLine", name := "person", desc := "(II)I" } : MethodName) ({ cls := "CribLine", name := "person", desc := "(II)I" } : MethodName)) ∈ gTbl := lw_memk tk_5 121 rfl rfl
theorem wd_1082 : (Cond.code ({ cls := "CribLine", name := "person", desc := "(II)I" } : MethodName) prog_1_method_13_code (4 : Nat) (Option.some ClassFile.FieldType.int)) ∈ gTbl := lw_memk tk_5 122 rfl rfl
theorem wd_1083 : (Cond.methodLink "CribLine" (153 : Nat) ({ cls := "CribLine", name := "mustBe", desc := "(I)V" } : MethodName)) ∈ gTbl := lw_memk tk_5 123 rfl rfl
theorem wd_1085 : (Cond.instanceMethod ({ cls := "CribLine", name := "mustBe", desc := "(I)V" } : MethodName)) ∈ gTbl := lw_memk tk_5 125 rfl rfl
theorem wd_1086 : (Cond.code ({ cls := "CribLine", name := "mustBe", desc := "(I)V" } : MethodName) prog_1_method_9_code (2 : Nat) (Option.none : Option ClassFile.FieldType)) ∈ gTbl := lw_memk tk_5 126 rfl rfl
theorem wd_1087 : (Cond.methodLink "CribLine" (144 : Nat) ({ cls := "CribLine$Family", name := "has", desc := "(I)Z" } : MethodName)) ∈ gTbl := lw_memk tk_5 127 rfl rfl
theorem wd_1088 : (Cond.classLink "CribLine" (148 : Nat) "java/lang/IndexOutOfBoundsException") ∈ gTbl := lw_memk tk_5 128 rfl rfl
theorem wd_1089 : (Cond.instantiable "java/lang/IndexOutOfBoundsException" (6 : Nat)) ∈ gTbl := lw_memk tk_5 129 rfl rfl
theorem wd_1091 : (Cond.selects "java/lang/IndexOutOfBoundsException" ({ cls := "java/lang/Throwable", name := "fillInStackTrace", desc := "(I)Ljava/lang/Throwable;" } : MethodName) ({ cls := "java/lang/Throwable", name := "fillInStackTrace", desc := "(I)Ljava/lang/Throwable;" } : MethodName)) ∈ gTbl := lw_memk tk_5 131 rfl rfl
theorem wd_1098 : (Cond.methodLink "CribLine" (152 : Nat) ({ cls := "java/lang/IndexOutOfBoundsException", name := "<init>", desc := "(Ljava/lang/String;)V" } : MethodName)) ∈ gTbl := lw_memk tk_5 138 rfl rfl
theorem wd_1099 : (Cond.instanceMethod ({ cls := "java/lang/IndexOutOfBoundsException", name := "<init>", desc := "(Ljava/lang/String;)V" } : MethodName)) ∈ gTbl := lw_memk tk_5 139 rfl rfl
theorem wd_1100 : (Cond.code ({ cls := "java/lang/IndexOutOfBoundsException", name := "<init>", desc := "(Ljava/lang/String;)V" } : MethodName) prog_21_method_2_code (2 : Nat) (Option.none : Option ClassFile.FieldType)) ∈ gTbl := lw_memk tk_5 140 rfl rfl
theorem wd_1101 : (Cond.methodLink "java/lang/IndexOutOfBoundsException" (7 : Nat) ({ cls := "java/lang/RuntimeException", name := "<init>", desc := "(Ljava/lang/String;)V" } : MethodName)) ∈ gTbl := lw_memk tk_5 141 rfl rfl
theorem wd_1104 : (Cond.methodLink "CribLine" (198 : Nat) ({ cls := "CribLine$Family", name := "governedBy", desc := "(I)I" } : MethodName)) ∈ gTbl := lw_memk tk_5 144 rfl rfl
theorem wd_1105 : (Cond.instanceMethod ({ cls := "CribLine$Family", name := "governedBy", desc := "(I)I" } : MethodName)) ∈ gTbl := lw_memk tk_5 145 rfl rfl
theorem wd_1106 : (Cond.selects "CribLine$Family" ({ cls := "CribLine$Family", name := "governedBy", desc := "(I)I" } : MethodName) ({ cls := "CribLine$Family", name := "governedBy", desc := "(I)I" } : MethodName)) ∈ gTbl := lw_memk tk_5 146 rfl rfl
theorem wd_1107 : (Cond.code ({ cls := "CribLine$Family", name := "governedBy", desc := "(I)I" } : MethodName) prog_4_method_14_code (4 : Nat) (Option.some ClassFile.FieldType.int)) ∈ gTbl := lw_memk tk_5 147 rfl rfl
theorem wd_1108 : (Cond.methodLink "CribLine" (206 : Nat) ({ cls := "CribLine$Log", name := "shareOf", desc := "(I)I" } : MethodName)) ∈ gTbl := lw_memk tk_5 148 rfl rfl
theorem wd_1109 : (Cond.instanceMethod ({ cls := "CribLine$Log", name := "shareOf", desc := "(I)I" } : MethodName)) ∈ gTbl := lw_memk tk_5 149 rfl rfl
theorem wd_1110 : (Cond.selects "CribLine$Log" ({ cls := "CribLine$Log", name := "shareOf", desc := "(I)I" } : MethodName) ({ cls := "CribLine$Log", name := "shareOf", desc := "(I)I" } : MethodName)) ∈ gTbl := lw_memk tk_5 150 rfl rfl
theorem wd_1111 : (Cond.code ({ cls := "CribLine$Log", name := "shareOf", desc := "(I)I" } : MethodName) prog_8_method_5_code (5 : Nat) (Option.some ClassFile.FieldType.int)) ∈ gTbl := lw_memk tk_5 151 rfl rfl
theorem wd_1112 : (Cond.methodLink "CribLine$Log" (34 : Nat) ({ cls := "CribLine$Log", name := "cell", desc := "(II)I" } : MethodName)) ∈ gTbl := lw_memk tk_5 152 rfl rfl
theorem wd_1113 : (Cond.instanceMethod ({ cls := "CribLine$Log", name := "cell", desc := "(II)I" } : MethodName)) ∈ gTbl := lw_memk tk_5 153 rfl rfl
theorem wd_1114 : (Cond.selects "CribLine$Log" ({ cls := "CribLine$Log", name := "cell", desc := "(II)I" } : MethodName) ({ cls := "CribLine$Log", name := "cell", desc := "(II)I" } : MethodName)) ∈ gTbl := lw_memk tk_5 154 rfl rfl
theorem wd_1115 : (Cond.code ({ cls := "CribLine$Log", name := "cell", desc := "(II)I" } : MethodName) prog_8_method_4_code (5 : Nat) (Option.some ClassFile.FieldType.int)) ∈ gTbl := lw_memk tk_5 155 rfl rfl
theorem wd_1116 : (Cond.classLink "CribLine" (211 : Nat) "java/util/NoSuchElementException") ∈ gTbl := lw_memk tk_5 156 rfl rfl
theorem wd_1117 : (Cond.instantiable "java/util/NoSuchElementException" (6 : Nat)) ∈ gTbl := lw_memk tk_5 157 rfl rfl
theorem wd_1119 : (Cond.selects "java/util/NoSuchElementException" ({ cls := "java/lang/Throwable", name := "fillInStackTrace", desc := "(I)Ljava/lang/Throwable;" } : MethodName) ({ cls := "java/lang/Throwable", name := "fillInStackTrace", desc := "(I)Ljava/lang/Throwable;" } : MethodName)) ∈ gTbl := lw_memk tk_5 159 rfl rfl
theorem wd_1126 : (Cond.methodLink "CribLine" (215 : Nat) ({ cls := "java/util/NoSuchElementException", name := "<init>", desc := "(Ljava/lang/String;)V" } : MethodName)) ∈ gTbl := lw_memk tk_5 166 rfl rfl
theorem wd_1127 : (Cond.instanceMethod ({ cls := "java/util/NoSuchElementException", name := "<init>", desc := "(Ljava/lang/String;)V" } : MethodName)) ∈ gTbl := lw_memk tk_5 167 rfl rfl
theorem wd_1128 : (Cond.code ({ cls := "java/util/NoSuchElementException", name := "<init>", desc := "(Ljava/lang/String;)V" } : MethodName) prog_34_method_4_code (2 : Nat) (Option.none : Option ClassFile.FieldType)) ∈ gTbl := lw_memk tk_5 168 rfl rfl
theorem wd_1129 : (Cond.methodLink "java/util/NoSuchElementException" (13 : Nat) ({ cls := "java/lang/RuntimeException", name := "<init>", desc := "(Ljava/lang/String;)V" } : MethodName)) ∈ gTbl := lw_memk tk_5 169 rfl rfl
theorem wd_1132 : (Cond.methodLink "CribLineLaw" (180 : Nat) ({ cls := "CribLineLaw", name := "lent", desc := "(LCribLine;II[J)I" } : MethodName)) ∈ gTbl := lw_memk tk_5 172 rfl rfl
theorem wd_1133 : (Cond.static ({ cls := "CribLineLaw", name := "lent", desc := "(LCribLine;II[J)I" } : MethodName)) ∈ gTbl := lw_memk tk_5 173 rfl rfl
theorem wd_1134 : (Cond.codeWith ({ cls := "CribLineLaw", name := "lent", desc := "(LCribLine;II[J)I" } : MethodName) method_6_code (5 : Nat) (Option.some ClassFile.FieldType.int) [((0 : Nat), (10 : Nat), (13 : Nat), (24 : Nat)), ((0 : Nat), (10 : Nat), (17 : Nat), (13 : Nat))]) ∈ gTbl := lw_memk tk_5 174 rfl rfl
theorem wd_1135 : (Cond.methodLink "CribLineLaw" (28 : Nat) ({ cls := "CribLine", name := "lent", desc := "(II)I" } : MethodName)) ∈ gTbl := lw_memk tk_5 175 rfl rfl
theorem wd_1136 : (Cond.instanceMethod ({ cls := "CribLine", name := "lent", desc := "(II)I" } : MethodName)) ∈ gTbl := lw_memk tk_5 176 rfl rfl
theorem wd_1137 : (Cond.selects "CribLine" ({ cls := "CribLine", name := "lent", desc := "(II)I" } : MethodName) ({ cls := "CribLine", name := "lent", desc := "(II)I" } : MethodName)) ∈ gTbl := lw_memk tk_5 177 rfl rfl
theorem wd_1138 : (Cond.code ({ cls := "CribLine", name := "lent", desc := "(II)I" } : MethodName) prog_1_method_14_code (3 : Nat) (Option.some ClassFile.FieldType.int)) ∈ gTbl := lw_memk tk_5 178 rfl rfl
theorem wd_1139 : (Cond.methodLink "CribLine" (216 : Nat) ({ cls := "CribLine", name := "mustBeTwo", desc := "(II)V" } : MethodName)) ∈ gTbl := lw_memk tk_5 179 rfl rfl
theorem wd_1141 : (Cond.instanceMethod ({ cls := "CribLine", name := "mustBeTwo", desc := "(II)V" } : MethodName)) ∈ gTbl := lw_memk tk_5 181 rfl rfl
theorem wd_1142 : (Cond.code ({ cls := "CribLine", name := "mustBeTwo", desc := "(II)V" } : MethodName) prog_1_method_10_code (3 : Nat) (Option.none : Option ClassFile.FieldType)) ∈ gTbl := lw_memk tk_5 182 rfl rfl
theorem wd_1144 : (Cond.methodLink "CribLine" (220 : Nat) ({ cls := "CribLine$Family", name := "lentBy", desc := "(II)I" } : MethodName)) ∈ gTbl := lw_memk tk_5 184 rfl rfl
theorem wd_1145 : (Cond.methodLink "CribLineLaw" (183 : Nat) ({ cls := "CribLineLaw", name := "weighs", desc := "(LCribLine;IIZ[J)I" } : MethodName)) ∈ gTbl := lw_memk tk_5 185 rfl rfl
theorem wd_1146 : (Cond.static ({ cls := "CribLineLaw", name := "weighs", desc := "(LCribLine;IIZ[J)I" } : MethodName)) ∈ gTbl := lw_memk tk_5 186 rfl rfl
theorem wd_1147 : (Cond.codeWith ({ cls := "CribLineLaw", name := "weighs", desc := "(LCribLine;IIZ[J)I" } : MethodName) method_7_code (6 : Nat) (Option.some ClassFile.FieldType.int) [((0 : Nat), (12 : Nat), (15 : Nat), (24 : Nat)), ((0 : Nat), (12 : Nat), (19 : Nat), (13 : Nat))]) ∈ gTbl := lw_memk tk_5 187 rfl rfl
theorem wd_1148 : (Cond.methodLink "CribLineLaw" (31 : Nat) ({ cls := "CribLine", name := "weighs", desc := "(IIZ)I" } : MethodName)) ∈ gTbl := lw_memk tk_5 188 rfl rfl
theorem wd_1149 : (Cond.instanceMethod ({ cls := "CribLine", name := "weighs", desc := "(IIZ)I" } : MethodName)) ∈ gTbl := lw_memk tk_5 189 rfl rfl
theorem wd_1150 : (Cond.selects "CribLine" ({ cls := "CribLine", name := "weighs", desc := "(IIZ)I" } : MethodName) ({ cls := "CribLine", name := "weighs", desc := "(IIZ)I" } : MethodName)) ∈ gTbl := lw_memk tk_5 190 rfl rfl
theorem wd_1151 : (Cond.code ({ cls := "CribLine", name := "weighs", desc := "(IIZ)I" } : MethodName) prog_1_method_15_code (4 : Nat) (Option.some ClassFile.FieldType.int)) ∈ gTbl := lw_memk tk_5 191 rfl rfl
theorem wd_1152 : (Cond.methodLink "CribLine" (224 : Nat) ({ cls := "CribLine$Law", name := "weight", desc := "(LCribLine$Family;IIZ)I" } : MethodName)) ∈ gTbl := lw_memk tk_5 192 rfl rfl
theorem wd_1153 : (Cond.methodLink "CribLineLaw" (187 : Nat) ({ cls := "CribLineLaw", name := "gap", desc := "(LCribLine;II[J)I" } : MethodName)) ∈ gTbl := lw_memk tk_5 193 rfl rfl
theorem wd_1154 : (Cond.static ({ cls := "CribLineLaw", name := "gap", desc := "(LCribLine;II[J)I" } : MethodName)) ∈ gTbl := lw_memk tk_5 194 rfl rfl
theorem wd_1155 : (Cond.codeWith ({ cls := "CribLineLaw", name := "gap", desc := "(LCribLine;II[J)I" } : MethodName) method_8_code (5 : Nat) (Option.some ClassFile.FieldType.int) [((0 : Nat), (10 : Nat), (13 : Nat), (24 : Nat)), ((0 : Nat), (10 : Nat), (17 : Nat), (13 : Nat))]) ∈ gTbl := lw_memk tk_5 195 rfl rfl
theorem wd_1156 : (Cond.methodLink "CribLineLaw" (35 : Nat) ({ cls := "CribLine", name := "gap", desc := "(II)I" } : MethodName)) ∈ gTbl := lw_memk tk_5 196 rfl rfl
theorem wd_1157 : (Cond.instanceMethod ({ cls := "CribLine", name := "gap", desc := "(II)I" } : MethodName)) ∈ gTbl := lw_memk tk_5 197 rfl rfl
theorem wd_1158 : (Cond.selects "CribLine" ({ cls := "CribLine", name := "gap", desc := "(II)I" } : MethodName) ({ cls := "CribLine", name := "gap", desc := "(II)I" } : MethodName)) ∈ gTbl := lw_memk tk_5 198 rfl rfl
theorem wd_1159 : (Cond.code ({ cls := "CribLine", name := "gap", desc := "(II)I" } : MethodName) prog_1_method_16_code (3 : Nat) (Option.some ClassFile.FieldType.int)) ∈ gTbl := lw_memk tk_5 199 rfl rfl
theorem wd_1160 : (Cond.methodLink "CribLine" (228 : Nat) ({ cls := "CribLine$Family", name := "gapOf", desc := "(II)I" } : MethodName)) ∈ gTbl := lw_memk tk_5 200 rfl rfl
theorem wd_1161 : (Cond.methodLink "CribLineLaw" (190 : Nat) ({ cls := "CribLineLaw", name := "say", desc := "(LCribLine;IIZ[J)I" } : MethodName)) ∈ gTbl := lw_memk tk_5 201 rfl rfl
theorem wd_1162 : (Cond.static ({ cls := "CribLineLaw", name := "say", desc := "(LCribLine;IIZ[J)I" } : MethodName)) ∈ gTbl := lw_memk tk_5 202 rfl rfl
theorem wd_1163 : (Cond.codeWith ({ cls := "CribLineLaw", name := "say", desc := "(LCribLine;IIZ[J)I" } : MethodName) method_9_code (6 : Nat) (Option.some ClassFile.FieldType.int) [((0 : Nat), (12 : Nat), (15 : Nat), (24 : Nat)), ((0 : Nat), (12 : Nat), (19 : Nat), (41 : Nat))]) ∈ gTbl := lw_memk tk_5 203 rfl rfl
theorem wd_1164 : (Cond.classLink "CribLineLaw" (41 : Nat) "java/lang/IllegalStateException") ∈ gTbl := lw_memk tk_5 204 rfl rfl
theorem wd_1165 : (Cond.methodLink "CribLineLaw" (38 : Nat) ({ cls := "CribLine", name := "say", desc := "(IIZ)I" } : MethodName)) ∈ gTbl := lw_memk tk_5 205 rfl rfl
theorem wd_1166 : (Cond.instanceMethod ({ cls := "CribLine", name := "say", desc := "(IIZ)I" } : MethodName)) ∈ gTbl := lw_memk tk_5 206 rfl rfl
theorem wd_1167 : (Cond.selects "CribLine" ({ cls := "CribLine", name := "say", desc := "(IIZ)I" } : MethodName) ({ cls := "CribLine", name := "say", desc := "(IIZ)I" } : MethodName)) ∈ gTbl := lw_memk tk_5 207 rfl rfl
theorem wd_1168 : (Cond.code ({ cls := "CribLine", name := "say", desc := "(IIZ)I" } : MethodName) prog_1_method_18_code (4 : Nat) (Option.some ClassFile.FieldType.int)) ∈ gTbl := lw_memk tk_5 208 rfl rfl
theorem wd_1169 : (Cond.methodLink "CribLine" (231 : Nat) ({ cls := "CribLine$Family", name := "governs", desc := "(II)Z" } : MethodName)) ∈ gTbl := lw_memk tk_5 209 rfl rfl
theorem wd_1170 : (Cond.methodLink "CribLine" (235 : Nat) ({ cls := "CribLine", name := "mustHold", desc := "(Z)V" } : MethodName)) ∈ gTbl := lw_memk tk_5 210 rfl rfl
theorem wd_1171 : (Cond.static ({ cls := "CribLine", name := "mustHold", desc := "(Z)V" } : MethodName)) ∈ gTbl := lw_memk tk_5 211 rfl rfl
theorem wd_1172 : (Cond.code ({ cls := "CribLine", name := "mustHold", desc := "(Z)V" } : MethodName) prog_1_method_12_code (1 : Nat) (Option.none : Option ClassFile.FieldType)) ∈ gTbl := lw_memk tk_5 212 rfl rfl
theorem wd_1173 : (Cond.classLink "CribLine" (160 : Nat) "java/lang/IllegalStateException") ∈ gTbl := lw_memk tk_5 213 rfl rfl
theorem wd_1174 : (Cond.instantiable "java/lang/IllegalStateException" (6 : Nat)) ∈ gTbl := lw_memk tk_5 214 rfl rfl
theorem wd_1176 : (Cond.selects "java/lang/IllegalStateException" ({ cls := "java/lang/Throwable", name := "fillInStackTrace", desc := "(I)Ljava/lang/Throwable;" } : MethodName) ({ cls := "java/lang/Throwable", name := "fillInStackTrace", desc := "(I)Ljava/lang/Throwable;" } : MethodName)) ∈ gTbl := lw_memk tk_5 216 rfl rfl
theorem wd_1183 : (Cond.methodLink "CribLine" (164 : Nat) ({ cls := "java/lang/IllegalStateException", name := "<init>", desc := "(Ljava/lang/String;)V" } : MethodName)) ∈ gTbl := lw_memk tk_5 223 rfl rfl
theorem wd_1184 : (Cond.instanceMethod ({ cls := "java/lang/IllegalStateException", name := "<init>", desc := "(Ljava/lang/String;)V" } : MethodName)) ∈ gTbl := lw_memk tk_5 224 rfl rfl
theorem wd_1185 : (Cond.code ({ cls := "java/lang/IllegalStateException", name := "<init>", desc := "(Ljava/lang/String;)V" } : MethodName) prog_20_method_2_code (2 : Nat) (Option.none : Option ClassFile.FieldType)) ∈ gTbl := lw_memk tk_5 225 rfl rfl
theorem wd_1186 : (Cond.methodLink "java/lang/IllegalStateException" (7 : Nat) ({ cls := "java/lang/RuntimeException", name := "<init>", desc := "(Ljava/lang/String;)V" } : MethodName)) ∈ gTbl := lw_memk tk_5 226 rfl rfl
theorem wd_1189 : (Cond.methodLink "CribLine" (239 : Nat) ({ cls := "CribLine", name := "remember", desc := "()V" } : MethodName)) ∈ gTbl := lw_memk tk_5 229 rfl rfl
theorem wd_1191 : (Cond.instanceMethod ({ cls := "CribLine", name := "remember", desc := "()V" } : MethodName)) ∈ gTbl := lw_memk tk_5 231 rfl rfl
theorem wd_1192 : (Cond.code ({ cls := "CribLine", name := "remember", desc := "()V" } : MethodName) prog_1_method_17_code (3 : Nat) (Option.none : Option ClassFile.FieldType)) ∈ gTbl := lw_memk tk_5 232 rfl rfl
theorem wd_1193 : (Cond.methodLink "CribLine" (242 : Nat) ({ cls := "CribLine$Family", name := "tell", desc := "(IIZI)I" } : MethodName)) ∈ gTbl := lw_memk tk_5 233 rfl rfl
theorem wd_1194 : (Cond.methodLink "CribLineLaw" (193 : Nat) ({ cls := "CribLineLaw", name := "bear", desc := "(LCribLine;IZ[J)I" } : MethodName)) ∈ gTbl := lw_memk tk_5 234 rfl rfl
theorem wd_1195 : (Cond.static ({ cls := "CribLineLaw", name := "bear", desc := "(LCribLine;IZ[J)I" } : MethodName)) ∈ gTbl := lw_memk tk_5 235 rfl rfl
theorem wd_1196 : (Cond.codeWith ({ cls := "CribLineLaw", name := "bear", desc := "(LCribLine;IZ[J)I" } : MethodName) method_10_code (5 : Nat) (Option.some ClassFile.FieldType.int) [((0 : Nat), (10 : Nat), (13 : Nat), (24 : Nat)), ((0 : Nat), (10 : Nat), (17 : Nat), (41 : Nat))]) ∈ gTbl := lw_memk tk_5 236 rfl rfl
theorem wd_1197 : (Cond.methodLink "CribLineLaw" (43 : Nat) ({ cls := "CribLine", name := "bear", desc := "(IZ)I" } : MethodName)) ∈ gTbl := lw_memk tk_5 237 rfl rfl
theorem wd_1198 : (Cond.instanceMethod ({ cls := "CribLine", name := "bear", desc := "(IZ)I" } : MethodName)) ∈ gTbl := lw_memk tk_5 238 rfl rfl
theorem wd_1199 : (Cond.selects "CribLine" ({ cls := "CribLine", name := "bear", desc := "(IZ)I" } : MethodName) ({ cls := "CribLine", name := "bear", desc := "(IZ)I" } : MethodName)) ∈ gTbl := lw_memk tk_5 239 rfl rfl
theorem wd_1200 : (Cond.code ({ cls := "CribLine", name := "bear", desc := "(IZ)I" } : MethodName) prog_1_method_19_code (4 : Nat) (Option.some ClassFile.FieldType.int)) ∈ gTbl := lw_memk tk_6 0 rfl rfl
theorem wd_1201 : (Cond.methodLink "CribLine" (252 : Nat) ({ cls := "CribLine$Family", name := "add", desc := "(III)I" } : MethodName)) ∈ gTbl := lw_memk tk_6 1 rfl rfl
theorem wd_1202 : (Cond.methodLink "CribLine" (256 : Nat) ({ cls := "CribLine$Family", name := "setGoverns", desc := "(IIZ)V" } : MethodName)) ∈ gTbl := lw_memk tk_6 2 rfl rfl
theorem wd_1203 : (Cond.methodLink "CribLineLaw" (197 : Nat) ({ cls := "CribLineLaw", name := "wed", desc := "(LCribLine;II[J)I" } : MethodName)) ∈ gTbl := lw_memk tk_6 3 rfl rfl
theorem wd_1204 : (Cond.static ({ cls := "CribLineLaw", name := "wed", desc := "(LCribLine;II[J)I" } : MethodName)) ∈ gTbl := lw_memk tk_6 4 rfl rfl
theorem wd_1205 : (Cond.codeWith ({ cls := "CribLineLaw", name := "wed", desc := "(LCribLine;II[J)I" } : MethodName) method_11_code (5 : Nat) (Option.some ClassFile.FieldType.int) [((0 : Nat), (10 : Nat), (13 : Nat), (24 : Nat)), ((0 : Nat), (10 : Nat), (17 : Nat), (13 : Nat)), ((0 : Nat), (10 : Nat), (21 : Nat), (41 : Nat))]) ∈ gTbl := lw_memk tk_6 5 rfl rfl
theorem wd_1206 : (Cond.methodLink "CribLineLaw" (47 : Nat) ({ cls := "CribLine", name := "wed", desc := "(II)I" } : MethodName)) ∈ gTbl := lw_memk tk_6 6 rfl rfl
theorem wd_1207 : (Cond.instanceMethod ({ cls := "CribLine", name := "wed", desc := "(II)I" } : MethodName)) ∈ gTbl := lw_memk tk_6 7 rfl rfl
theorem wd_1208 : (Cond.selects "CribLine" ({ cls := "CribLine", name := "wed", desc := "(II)I" } : MethodName) ({ cls := "CribLine", name := "wed", desc := "(II)I" } : MethodName)) ∈ gTbl := lw_memk tk_6 8 rfl rfl
theorem wd_1209 : (Cond.code ({ cls := "CribLine", name := "wed", desc := "(II)I" } : MethodName) prog_1_method_20_code (3 : Nat) (Option.some ClassFile.FieldType.int)) ∈ gTbl := lw_memk tk_6 9 rfl rfl
theorem wd_1210 : (Cond.methodLink "CribLine" (260 : Nat) ({ cls := "CribLine$Family", name := "mayWed", desc := "(II)Z" } : MethodName)) ∈ gTbl := lw_memk tk_6 10 rfl rfl
theorem wd_1211 : (Cond.methodLink "CribLine" (263 : Nat) ({ cls := "CribLine$Family", name := "join", desc := "(II)V" } : MethodName)) ∈ gTbl := lw_memk tk_6 11 rfl rfl
theorem wd_1212 : (Cond.methodLink "CribLineLaw" (200 : Nat) ({ cls := "CribLineLaw", name := "part", desc := "(LCribLine;I[J)I" } : MethodName)) ∈ gTbl := lw_memk tk_6 12 rfl rfl
theorem wd_1213 : (Cond.static ({ cls := "CribLineLaw", name := "part", desc := "(LCribLine;I[J)I" } : MethodName)) ∈ gTbl := lw_memk tk_6 13 rfl rfl
theorem wd_1214 : (Cond.codeWith ({ cls := "CribLineLaw", name := "part", desc := "(LCribLine;I[J)I" } : MethodName) method_12_code (4 : Nat) (Option.some ClassFile.FieldType.int) [((0 : Nat), (9 : Nat), (12 : Nat), (24 : Nat)), ((0 : Nat), (9 : Nat), (15 : Nat), (41 : Nat))]) ∈ gTbl := lw_memk tk_6 14 rfl rfl
theorem wd_1215 : (Cond.methodLink "CribLineLaw" (50 : Nat) ({ cls := "CribLine", name := "part", desc := "(I)I" } : MethodName)) ∈ gTbl := lw_memk tk_6 15 rfl rfl
theorem wd_1216 : (Cond.instanceMethod ({ cls := "CribLine", name := "part", desc := "(I)I" } : MethodName)) ∈ gTbl := lw_memk tk_6 16 rfl rfl
theorem wd_1217 : (Cond.selects "CribLine" ({ cls := "CribLine", name := "part", desc := "(I)I" } : MethodName) ({ cls := "CribLine", name := "part", desc := "(I)I" } : MethodName)) ∈ gTbl := lw_memk tk_6 17 rfl rfl
theorem wd_1218 : (Cond.code ({ cls := "CribLine", name := "part", desc := "(I)I" } : MethodName) prog_1_method_21_code (3 : Nat) (Option.some ClassFile.FieldType.int)) ∈ gTbl := lw_memk tk_6 18 rfl rfl
theorem wd_1219 : (Cond.methodLink "CribLineLaw" (204 : Nat) ({ cls := "CribLineLaw", name := "lend", desc := "(LCribLine;II[J)I" } : MethodName)) ∈ gTbl := lw_memk tk_6 19 rfl rfl
theorem wd_1220 : (Cond.static ({ cls := "CribLineLaw", name := "lend", desc := "(LCribLine;II[J)I" } : MethodName)) ∈ gTbl := lw_memk tk_6 20 rfl rfl
theorem wd_1221 : (Cond.codeWith ({ cls := "CribLineLaw", name := "lend", desc := "(LCribLine;II[J)I" } : MethodName) method_13_code (5 : Nat) (Option.some ClassFile.FieldType.int) [((0 : Nat), (10 : Nat), (13 : Nat), (24 : Nat)), ((0 : Nat), (10 : Nat), (17 : Nat), (13 : Nat)), ((0 : Nat), (10 : Nat), (21 : Nat), (41 : Nat))]) ∈ gTbl := lw_memk tk_6 21 rfl rfl
theorem wd_1222 : (Cond.methodLink "CribLineLaw" (54 : Nat) ({ cls := "CribLine", name := "lend", desc := "(II)I" } : MethodName)) ∈ gTbl := lw_memk tk_6 22 rfl rfl
theorem wd_1223 : (Cond.instanceMethod ({ cls := "CribLine", name := "lend", desc := "(II)I" } : MethodName)) ∈ gTbl := lw_memk tk_6 23 rfl rfl
theorem wd_1224 : (Cond.selects "CribLine" ({ cls := "CribLine", name := "lend", desc := "(II)I" } : MethodName) ({ cls := "CribLine", name := "lend", desc := "(II)I" } : MethodName)) ∈ gTbl := lw_memk tk_6 24 rfl rfl
theorem wd_1225 : (Cond.code ({ cls := "CribLine", name := "lend", desc := "(II)I" } : MethodName) prog_1_method_22_code (5 : Nat) (Option.some ClassFile.FieldType.int)) ∈ gTbl := lw_memk tk_6 25 rfl rfl
theorem wd_1226 : (Cond.methodLink "CribLine" (266 : Nat) ({ cls := "CribLine$Family", name := "lendOne", desc := "(II)V" } : MethodName)) ∈ gTbl := lw_memk tk_6 26 rfl rfl
theorem wd_1227 : (Cond.instanceMethod ({ cls := "CribLine$Family", name := "lendOne", desc := "(II)V" } : MethodName)) ∈ gTbl := lw_memk tk_6 27 rfl rfl
theorem wd_1228 : (Cond.selects "CribLine$Family" ({ cls := "CribLine$Family", name := "lendOne", desc := "(II)V" } : MethodName) ({ cls := "CribLine$Family", name := "lendOne", desc := "(II)V" } : MethodName)) ∈ gTbl := lw_memk tk_6 28 rfl rfl
theorem wd_1229 : (Cond.code ({ cls := "CribLine$Family", name := "lendOne", desc := "(II)V" } : MethodName) prog_4_method_20_code (3 : Nat) (Option.none : Option ClassFile.FieldType)) ∈ gTbl := lw_memk tk_6 29 rfl rfl
theorem wd_1230 : (Cond.methodLink "CribLineLaw" (207 : Nat) ({ cls := "CribLineLaw", name := "use", desc := "(LCribLine;I[J)I" } : MethodName)) ∈ gTbl := lw_memk tk_6 30 rfl rfl
theorem wd_1231 : (Cond.static ({ cls := "CribLineLaw", name := "use", desc := "(LCribLine;I[J)I" } : MethodName)) ∈ gTbl := lw_memk tk_6 31 rfl rfl
theorem wd_1232 : (Cond.codeWith ({ cls := "CribLineLaw", name := "use", desc := "(LCribLine;I[J)I" } : MethodName) method_14_code (4 : Nat) (Option.some ClassFile.FieldType.int) [((0 : Nat), (9 : Nat), (12 : Nat), (24 : Nat)), ((0 : Nat), (9 : Nat), (15 : Nat), (41 : Nat))]) ∈ gTbl := lw_memk tk_6 32 rfl rfl
theorem wd_1233 : (Cond.methodLink "CribLineLaw" (57 : Nat) ({ cls := "CribLine", name := "use", desc := "(I)I" } : MethodName)) ∈ gTbl := lw_memk tk_6 33 rfl rfl
theorem wd_1234 : (Cond.instanceMethod ({ cls := "CribLine", name := "use", desc := "(I)I" } : MethodName)) ∈ gTbl := lw_memk tk_6 34 rfl rfl
theorem wd_1235 : (Cond.selects "CribLine" ({ cls := "CribLine", name := "use", desc := "(I)I" } : MethodName) ({ cls := "CribLine", name := "use", desc := "(I)I" } : MethodName)) ∈ gTbl := lw_memk tk_6 35 rfl rfl
theorem wd_1236 : (Cond.code ({ cls := "CribLine", name := "use", desc := "(I)I" } : MethodName) prog_1_method_23_code (2 : Nat) (Option.some ClassFile.FieldType.int)) ∈ gTbl := lw_memk tk_6 36 rfl rfl
theorem wd_1237 : (Cond.methodLink "CribLine" (272 : Nat) ({ cls := "CribLine$Family", name := "leftByRound", desc := "(I)I" } : MethodName)) ∈ gTbl := lw_memk tk_6 37 rfl rfl
theorem wd_1238 : (Cond.methodLink "CribLineLaw" (210 : Nat) ({ cls := "CribLineLaw", name := "govern", desc := "(LCribLine;IIZ[J)I" } : MethodName)) ∈ gTbl := lw_memk tk_6 38 rfl rfl
theorem wd_1239 : (Cond.static ({ cls := "CribLineLaw", name := "govern", desc := "(LCribLine;IIZ[J)I" } : MethodName)) ∈ gTbl := lw_memk tk_6 39 rfl rfl
theorem wd_1240 : (Cond.codeWith ({ cls := "CribLineLaw", name := "govern", desc := "(LCribLine;IIZ[J)I" } : MethodName) method_15_code (6 : Nat) (Option.some ClassFile.FieldType.int) [((0 : Nat), (19 : Nat), (22 : Nat), (24 : Nat)), ((0 : Nat), (19 : Nat), (26 : Nat), (13 : Nat))]) ∈ gTbl := lw_memk tk_6 40 rfl rfl
theorem wd_1241 : (Cond.methodLink "CribLineLaw" (60 : Nat) ({ cls := "CribLine", name := "govern", desc := "(IIZ)Z" } : MethodName)) ∈ gTbl := lw_memk tk_6 41 rfl rfl
theorem wd_1242 : (Cond.instanceMethod ({ cls := "CribLine", name := "govern", desc := "(IIZ)Z" } : MethodName)) ∈ gTbl := lw_memk tk_6 42 rfl rfl
theorem wd_1243 : (Cond.selects "CribLine" ({ cls := "CribLine", name := "govern", desc := "(IIZ)Z" } : MethodName) ({ cls := "CribLine", name := "govern", desc := "(IIZ)Z" } : MethodName)) ∈ gTbl := lw_memk tk_6 43 rfl rfl
theorem wd_1244 : (Cond.code ({ cls := "CribLine", name := "govern", desc := "(IIZ)Z" } : MethodName) prog_1_method_24_code (5 : Nat) (Option.some ClassFile.FieldType.boolean)) ∈ gTbl := lw_memk tk_6 44 rfl rfl
theorem wd_1245 : (Cond.methodLink "CribLineLaw" (213 : Nat) ({ cls := "CribLineLaw", name := "stern", desc := "(LCribLine;II[J)I" } : MethodName)) ∈ gTbl := lw_memk tk_6 45 rfl rfl
theorem wd_1246 : (Cond.static ({ cls := "CribLineLaw", name := "stern", desc := "(LCribLine;II[J)I" } : MethodName)) ∈ gTbl := lw_memk tk_6 46 rfl rfl
theorem wd_1247 : (Cond.codeWith ({ cls := "CribLineLaw", name := "stern", desc := "(LCribLine;II[J)I" } : MethodName) method_16_code (5 : Nat) (Option.some ClassFile.FieldType.int) [((0 : Nat), (10 : Nat), (13 : Nat), (24 : Nat)), ((0 : Nat), (10 : Nat), (17 : Nat), (13 : Nat))]) ∈ gTbl := lw_memk tk_6 47 rfl rfl
theorem wd_1248 : (Cond.methodLink "CribLineLaw" (64 : Nat) ({ cls := "CribLine", name := "stern", desc := "(II)I" } : MethodName)) ∈ gTbl := lw_memk tk_6 48 rfl rfl
theorem wd_1249 : (Cond.instanceMethod ({ cls := "CribLine", name := "stern", desc := "(II)I" } : MethodName)) ∈ gTbl := lw_memk tk_6 49 rfl rfl
theorem wd_1250 : (Cond.selects "CribLine" ({ cls := "CribLine", name := "stern", desc := "(II)I" } : MethodName) ({ cls := "CribLine", name := "stern", desc := "(II)I" } : MethodName)) ∈ gTbl := lw_memk tk_6 50 rfl rfl
theorem wd_1251 : (Cond.code ({ cls := "CribLine", name := "stern", desc := "(II)I" } : MethodName) prog_1_method_25_code (4 : Nat) (Option.some ClassFile.FieldType.int)) ∈ gTbl := lw_memk tk_6 51 rfl rfl
theorem wd_1252 : (Cond.methodLink "CribLine" (275 : Nat) ({ cls := "CribLine", name := "mustLie", desc := "(III)V" } : MethodName)) ∈ gTbl := lw_memk tk_6 52 rfl rfl
theorem wd_1253 : (Cond.static ({ cls := "CribLine", name := "mustLie", desc := "(III)V" } : MethodName)) ∈ gTbl := lw_memk tk_6 53 rfl rfl
theorem wd_1254 : (Cond.code ({ cls := "CribLine", name := "mustLie", desc := "(III)V" } : MethodName) prog_1_method_11_code (3 : Nat) (Option.none : Option ClassFile.FieldType)) ∈ gTbl := lw_memk tk_6 54 rfl rfl
theorem wd_1256 : (Cond.methodLink "CribLineLaw" (216 : Nat) ({ cls := "CribLineLaw", name := "days", desc := "(LCribLine;I[J)I" } : MethodName)) ∈ gTbl := lw_memk tk_6 56 rfl rfl
theorem wd_1257 : (Cond.static ({ cls := "CribLineLaw", name := "days", desc := "(LCribLine;I[J)I" } : MethodName)) ∈ gTbl := lw_memk tk_6 57 rfl rfl
theorem wd_1258 : (Cond.codeWith ({ cls := "CribLineLaw", name := "days", desc := "(LCribLine;I[J)I" } : MethodName) method_17_code (4 : Nat) (Option.some ClassFile.FieldType.int) [((0 : Nat), (9 : Nat), (12 : Nat), (13 : Nat))]) ∈ gTbl := lw_memk tk_6 58 rfl rfl
theorem wd_1259 : (Cond.methodLink "CribLineLaw" (67 : Nat) ({ cls := "CribLine", name := "days", desc := "(I)I" } : MethodName)) ∈ gTbl := lw_memk tk_6 59 rfl rfl
theorem wd_1260 : (Cond.instanceMethod ({ cls := "CribLine", name := "days", desc := "(I)I" } : MethodName)) ∈ gTbl := lw_memk tk_6 60 rfl rfl
theorem wd_1261 : (Cond.selects "CribLine" ({ cls := "CribLine", name := "days", desc := "(I)I" } : MethodName) ({ cls := "CribLine", name := "days", desc := "(I)I" } : MethodName)) ∈ gTbl := lw_memk tk_6 61 rfl rfl
theorem wd_1262 : (Cond.code ({ cls := "CribLine", name := "days", desc := "(I)I" } : MethodName) prog_1_method_26_code (2 : Nat) (Option.some ClassFile.FieldType.int)) ∈ gTbl := lw_memk tk_6 62 rfl rfl
theorem wd_1263 : (Cond.methodLink "CribLine" (279 : Nat) ({ cls := "CribLine$Days", name := "pass", desc := "(LCribLine$Family;I)I" } : MethodName)) ∈ gTbl := lw_memk tk_6 63 rfl rfl
theorem wd_1264 : (Cond.instanceMethod ({ cls := "CribLine$Days", name := "pass", desc := "(LCribLine$Family;I)I" } : MethodName)) ∈ gTbl := lw_memk tk_6 64 rfl rfl
theorem wd_1265 : (Cond.selects "CribLine$Days" ({ cls := "CribLine$Days", name := "pass", desc := "(LCribLine$Family;I)I" } : MethodName) ({ cls := "CribLine$Days", name := "pass", desc := "(LCribLine$Family;I)I" } : MethodName)) ∈ gTbl := lw_memk tk_6 65 rfl rfl
theorem wd_1266 : (Cond.code ({ cls := "CribLine$Days", name := "pass", desc := "(LCribLine$Family;I)I" } : MethodName) prog_3_method_2_code (5 : Nat) (Option.some ClassFile.FieldType.int)) ∈ gTbl := lw_memk tk_6 66 rfl rfl
theorem wd_1267 : (Cond.methodLink "CribLine$Days" (25 : Nat) ({ cls := "CribLine$Days", name := "passDay", desc := "(LCribLine$Family;)I" } : MethodName)) ∈ gTbl := lw_memk tk_6 67 rfl rfl
theorem wd_1269 : (Cond.instanceMethod ({ cls := "CribLine$Days", name := "passDay", desc := "(LCribLine$Family;)I" } : MethodName)) ∈ gTbl := lw_memk tk_6 69 rfl rfl
theorem wd_1270 : (Cond.code ({ cls := "CribLine$Days", name := "passDay", desc := "(LCribLine$Family;)I" } : MethodName) prog_3_method_3_code (7 : Nat) (Option.some ClassFile.FieldType.int)) ∈ gTbl := lw_memk tk_6 70 rfl rfl
theorem wd_1271 : (Cond.methodLink "CribLine$Days" (42 : Nat) ({ cls := "java/lang/Integer", name := "bitCount", desc := "(I)I" } : MethodName)) ∈ gTbl := lw_memk tk_6 71 rfl rfl
theorem wd_1272 : (Cond.static ({ cls := "java/lang/Integer", name := "bitCount", desc := "(I)I" } : MethodName)) ∈ gTbl := lw_memk tk_6 72 rfl rfl
theorem wd_1273 : (Cond.code ({ cls := "java/lang/Integer", name := "bitCount", desc := "(I)I" } : MethodName) prog_22_method_49_code (1 : Nat) (Option.some ClassFile.FieldType.int)) ∈ gTbl := lw_memk tk_6 73 rfl rfl
theorem wd_1274 : (Cond.constant "java/lang/Integer" (265 : Nat) (1431655765 : Int32)) ∈ gTbl := lw_memk tk_6 74 rfl rfl
theorem wd_1275 : (Cond.constant "java/lang/Integer" (266 : Nat) (858993459 : Int32)) ∈ gTbl := lw_memk tk_6 75 rfl rfl
theorem wd_1276 : (Cond.constant "java/lang/Integer" (267 : Nat) (252645135 : Int32)) ∈ gTbl := lw_memk tk_6 76 rfl rfl
theorem wd_1277 : (Cond.methodLink "CribLine$Days" (48 : Nat) ({ cls := "CribLine$Family", name := "draw", desc := "()I" } : MethodName)) ∈ gTbl := lw_memk tk_6 77 rfl rfl
theorem wd_1278 : (Cond.instanceMethod ({ cls := "CribLine$Family", name := "draw", desc := "()I" } : MethodName)) ∈ gTbl := lw_memk tk_6 78 rfl rfl
theorem wd_1279 : (Cond.selects "CribLine$Family" ({ cls := "CribLine$Family", name := "draw", desc := "()I" } : MethodName) ({ cls := "CribLine$Family", name := "draw", desc := "()I" } : MethodName)) ∈ gTbl := lw_memk tk_6 79 rfl rfl
theorem wd_1280 : (Cond.code ({ cls := "CribLine$Family", name := "draw", desc := "()I" } : MethodName) prog_4_method_11_code (1 : Nat) (Option.some ClassFile.FieldType.int)) ∈ gTbl := lw_memk tk_6 80 rfl rfl
theorem wd_1281 : (Cond.constant "CribLine$Family" (101 : Nat) (1103515245 : Int32)) ∈ gTbl := lw_memk tk_6 81 rfl rfl
theorem wd_1282 : (Cond.methodLink "CribLineLaw" (219 : Nat) ({ cls := "CribLineLaw", name := "would", desc := "(LCribLine;IIZ[J)I" } : MethodName)) ∈ gTbl := lw_memk tk_6 82 rfl rfl
theorem wd_1283 : (Cond.static ({ cls := "CribLineLaw", name := "would", desc := "(LCribLine;IIZ[J)I" } : MethodName)) ∈ gTbl := lw_memk tk_6 83 rfl rfl
theorem wd_1284 : (Cond.codeWith ({ cls := "CribLineLaw", name := "would", desc := "(LCribLine;IIZ[J)I" } : MethodName) method_18_code (6 : Nat) (Option.some ClassFile.FieldType.int) [((0 : Nat), (12 : Nat), (15 : Nat), (24 : Nat)), ((0 : Nat), (12 : Nat), (19 : Nat), (13 : Nat))]) ∈ gTbl := lw_memk tk_6 84 rfl rfl
theorem wd_1285 : (Cond.methodLink "CribLineLaw" (70 : Nat) ({ cls := "CribLine", name := "would", desc := "(IIZ)I" } : MethodName)) ∈ gTbl := lw_memk tk_6 85 rfl rfl
theorem wd_1286 : (Cond.instanceMethod ({ cls := "CribLine", name := "would", desc := "(IIZ)I" } : MethodName)) ∈ gTbl := lw_memk tk_6 86 rfl rfl
theorem wd_1287 : (Cond.selects "CribLine" ({ cls := "CribLine", name := "would", desc := "(IIZ)I" } : MethodName) ({ cls := "CribLine", name := "would", desc := "(IIZ)I" } : MethodName)) ∈ gTbl := lw_memk tk_6 87 rfl rfl
theorem wd_1288 : (Cond.code ({ cls := "CribLine", name := "would", desc := "(IIZ)I" } : MethodName) prog_1_method_27_code (4 : Nat) (Option.some ClassFile.FieldType.int)) ∈ gTbl := lw_memk tk_6 88 rfl rfl
theorem wd_1289 : (Cond.methodLink "CribLine" (283 : Nat) ({ cls := "CribLine$Family", name := "moved", desc := "(IIZ)I" } : MethodName)) ∈ gTbl := lw_memk tk_6 89 rfl rfl
theorem wd_1290 : (Cond.methodLink "CribLineLaw" (222 : Nat) ({ cls := "CribLineLaw", name := "fewest", desc := "(LCribLine;II[J)I" } : MethodName)) ∈ gTbl := lw_memk tk_6 90 rfl rfl
theorem wd_1291 : (Cond.static ({ cls := "CribLineLaw", name := "fewest", desc := "(LCribLine;II[J)I" } : MethodName)) ∈ gTbl := lw_memk tk_6 91 rfl rfl
theorem wd_1292 : (Cond.codeWith ({ cls := "CribLineLaw", name := "fewest", desc := "(LCribLine;II[J)I" } : MethodName) method_19_code (5 : Nat) (Option.some ClassFile.FieldType.int) [((0 : Nat), (10 : Nat), (13 : Nat), (24 : Nat)), ((0 : Nat), (10 : Nat), (17 : Nat), (13 : Nat))]) ∈ gTbl := lw_memk tk_6 92 rfl rfl
theorem wd_1293 : (Cond.methodLink "CribLineLaw" (73 : Nat) ({ cls := "CribLine", name := "fewest", desc := "(II)I" } : MethodName)) ∈ gTbl := lw_memk tk_6 93 rfl rfl
theorem wd_1294 : (Cond.instanceMethod ({ cls := "CribLine", name := "fewest", desc := "(II)I" } : MethodName)) ∈ gTbl := lw_memk tk_6 94 rfl rfl
theorem wd_1295 : (Cond.selects "CribLine" ({ cls := "CribLine", name := "fewest", desc := "(II)I" } : MethodName) ({ cls := "CribLine", name := "fewest", desc := "(II)I" } : MethodName)) ∈ gTbl := lw_memk tk_6 95 rfl rfl
theorem wd_1296 : (Cond.code ({ cls := "CribLine", name := "fewest", desc := "(II)I" } : MethodName) prog_1_method_28_code (3 : Nat) (Option.some ClassFile.FieldType.int)) ∈ gTbl := lw_memk tk_6 96 rfl rfl
theorem wd_1297 : (Cond.methodLink "CribLine" (287 : Nat) ({ cls := "CribLine$Ages", name := "stepsTo", desc := "(II)I" } : MethodName)) ∈ gTbl := lw_memk tk_6 97 rfl rfl
theorem wd_1298 : (Cond.instanceMethod ({ cls := "CribLine$Ages", name := "stepsTo", desc := "(II)I" } : MethodName)) ∈ gTbl := lw_memk tk_6 98 rfl rfl
theorem wd_1299 : (Cond.selects "CribLine$Ages" ({ cls := "CribLine$Ages", name := "stepsTo", desc := "(II)I" } : MethodName) ({ cls := "CribLine$Ages", name := "stepsTo", desc := "(II)I" } : MethodName)) ∈ gTbl := lw_memk tk_6 99 rfl rfl
theorem wd_1300 : (Cond.code ({ cls := "CribLine$Ages", name := "stepsTo", desc := "(II)I" } : MethodName) prog_2_method_7_code (3 : Nat) (Option.some ClassFile.FieldType.int)) ∈ gTbl := lw_memk tk_6 100 rfl rfl
theorem wd_1301 : (Cond.methodLink "CribLine$Ages" (96 : Nat) ({ cls := "CribLine$Ages", name := "reachFrom", desc := "(I)V" } : MethodName)) ∈ gTbl := lw_memk tk_6 101 rfl rfl
theorem wd_1303 : (Cond.instanceMethod ({ cls := "CribLine$Ages", name := "reachFrom", desc := "(I)V" } : MethodName)) ∈ gTbl := lw_memk tk_6 103 rfl rfl
theorem wd_1304 : (Cond.code ({ cls := "CribLine$Ages", name := "reachFrom", desc := "(I)V" } : MethodName) prog_2_method_5_code (5 : Nat) (Option.none : Option ClassFile.FieldType)) ∈ gTbl := lw_memk tk_6 104 rfl rfl
theorem wd_1305 : (Cond.methodLink "CribLine$Ages" (65 : Nat) ({ cls := "CribLine$Family", name := "take", desc := "(LCribLine$Family;)V" } : MethodName)) ∈ gTbl := lw_memk tk_6 105 rfl rfl
theorem wd_1306 : (Cond.methodLink "CribLine$Ages" (69 : Nat) ({ cls := "java/util/Arrays", name := "fill", desc := "([II)V" } : MethodName)) ∈ gTbl := lw_memk tk_6 106 rfl rfl
theorem wd_1307 : (Cond.methodLink "CribLine$Ages" (46 : Nat) ({ cls := "CribLine$Family", name := "at", desc := "(I)LCribLine$Person;" } : MethodName)) ∈ gTbl := lw_memk tk_6 107 rfl rfl
theorem wd_1308 : (Cond.methodLink "CribLine$Ages" (75 : Nat) ({ cls := "CribLine$Ages", name := "reach", desc := "(III)V" } : MethodName)) ∈ gTbl := lw_memk tk_6 108 rfl rfl
theorem wd_1310 : (Cond.instanceMethod ({ cls := "CribLine$Ages", name := "reach", desc := "(III)V" } : MethodName)) ∈ gTbl := lw_memk tk_6 110 rfl rfl
theorem wd_1311 : (Cond.code ({ cls := "CribLine$Ages", name := "reach", desc := "(III)V" } : MethodName) prog_2_method_6_code (4 : Nat) (Option.none : Option ClassFile.FieldType)) ∈ gTbl := lw_memk tk_6 111 rfl rfl
theorem wd_1312 : (Cond.methodLink "CribLine$Ages" (79 : Nat) ({ cls := "CribLine$Ages", name := "isPlace", desc := "(I)Z" } : MethodName)) ∈ gTbl := lw_memk tk_6 112 rfl rfl
theorem wd_1313 : (Cond.static ({ cls := "CribLine$Ages", name := "isPlace", desc := "(I)Z" } : MethodName)) ∈ gTbl := lw_memk tk_6 113 rfl rfl
theorem wd_1314 : (Cond.code ({ cls := "CribLine$Ages", name := "isPlace", desc := "(I)Z" } : MethodName) prog_2_method_4_code (1 : Nat) (Option.some ClassFile.FieldType.boolean)) ∈ gTbl := lw_memk tk_6 114 rfl rfl
theorem wd_1315 : (Cond.methodLink "CribLine$Ages" (90 : Nat) ({ cls := "java/lang/Math", name := "min", desc := "(II)I" } : MethodName)) ∈ gTbl := lw_memk tk_6 115 rfl rfl
theorem wd_1316 : (Cond.methodLink "CribLine$Ages" (83 : Nat) ({ cls := "CribLine$Ages", name := "canBeSaid", desc := "(II)Z" } : MethodName)) ∈ gTbl := lw_memk tk_6 116 rfl rfl
theorem wd_1318 : (Cond.instanceMethod ({ cls := "CribLine$Ages", name := "canBeSaid", desc := "(II)Z" } : MethodName)) ∈ gTbl := lw_memk tk_6 118 rfl rfl
theorem wd_1319 : (Cond.code ({ cls := "CribLine$Ages", name := "canBeSaid", desc := "(II)Z" } : MethodName) prog_2_method_2_code (3 : Nat) (Option.some ClassFile.FieldType.boolean)) ∈ gTbl := lw_memk tk_6 119 rfl rfl
theorem wd_1320 : (Cond.methodLink "CribLine$Ages" (42 : Nat) ({ cls := "CribLine$Family", name := "governs", desc := "(II)Z" } : MethodName)) ∈ gTbl := lw_memk tk_6 120 rfl rfl
theorem wd_1321 : (Cond.methodLink "CribLine$Ages" (86 : Nat) ({ cls := "CribLine$Ages", name := "ageBehind", desc := "(III)I" } : MethodName)) ∈ gTbl := lw_memk tk_6 121 rfl rfl
theorem wd_1323 : (Cond.instanceMethod ({ cls := "CribLine$Ages", name := "ageBehind", desc := "(III)I" } : MethodName)) ∈ gTbl := lw_memk tk_6 123 rfl rfl
theorem wd_1324 : (Cond.code ({ cls := "CribLine$Ages", name := "ageBehind", desc := "(III)I" } : MethodName) prog_2_method_3_code (5 : Nat) (Option.some ClassFile.FieldType.int)) ∈ gTbl := lw_memk tk_6 124 rfl rfl
theorem wd_1325 : (Cond.methodLink "CribLine$Ages" (55 : Nat) ({ cls := "CribLine$Law", name := "weight", desc := "(LCribLine$Family;IIZ)I" } : MethodName)) ∈ gTbl := lw_memk tk_6 125 rfl rfl
theorem wd_1326 : (Cond.methodLink "CribLine$Ages" (61 : Nat) ({ cls := "CribLine$Family", name := "moved", desc := "(IIZ)I" } : MethodName)) ∈ gTbl := lw_memk tk_6 126 rfl rfl
theorem wd_1327 : (Cond.methodLink "CribLineLaw" (225 : Nat) ({ cls := "CribLineLaw", name := "first", desc := "(LCribLine;II[J)I" } : MethodName)) ∈ gTbl := lw_memk tk_6 127 rfl rfl
theorem wd_1328 : (Cond.static ({ cls := "CribLineLaw", name := "first", desc := "(LCribLine;II[J)I" } : MethodName)) ∈ gTbl := lw_memk tk_6 128 rfl rfl
theorem wd_1329 : (Cond.codeWith ({ cls := "CribLineLaw", name := "first", desc := "(LCribLine;II[J)I" } : MethodName) method_20_code (5 : Nat) (Option.some ClassFile.FieldType.int) [((0 : Nat), (10 : Nat), (13 : Nat), (24 : Nat)), ((0 : Nat), (10 : Nat), (17 : Nat), (13 : Nat))]) ∈ gTbl := lw_memk tk_6 129 rfl rfl
theorem wd_1330 : (Cond.methodLink "CribLineLaw" (76 : Nat) ({ cls := "CribLine", name := "first", desc := "(II)I" } : MethodName)) ∈ gTbl := lw_memk tk_6 130 rfl rfl
theorem wd_1331 : (Cond.instanceMethod ({ cls := "CribLine", name := "first", desc := "(II)I" } : MethodName)) ∈ gTbl := lw_memk tk_6 131 rfl rfl
theorem wd_1332 : (Cond.selects "CribLine" ({ cls := "CribLine", name := "first", desc := "(II)I" } : MethodName) ({ cls := "CribLine", name := "first", desc := "(II)I" } : MethodName)) ∈ gTbl := lw_memk tk_6 132 rfl rfl
theorem wd_1333 : (Cond.code ({ cls := "CribLine", name := "first", desc := "(II)I" } : MethodName) prog_1_method_29_code (3 : Nat) (Option.some ClassFile.FieldType.int)) ∈ gTbl := lw_memk tk_6 133 rfl rfl
theorem wd_1334 : (Cond.methodLink "CribLine" (290 : Nat) ({ cls := "CribLine$Ages", name := "firstTo", desc := "(II)I" } : MethodName)) ∈ gTbl := lw_memk tk_6 134 rfl rfl
theorem wd_1335 : (Cond.instanceMethod ({ cls := "CribLine$Ages", name := "firstTo", desc := "(II)I" } : MethodName)) ∈ gTbl := lw_memk tk_6 135 rfl rfl
theorem wd_1336 : (Cond.selects "CribLine$Ages" ({ cls := "CribLine$Ages", name := "firstTo", desc := "(II)I" } : MethodName) ({ cls := "CribLine$Ages", name := "firstTo", desc := "(II)I" } : MethodName)) ∈ gTbl := lw_memk tk_6 136 rfl rfl
theorem wd_1337 : (Cond.code ({ cls := "CribLine$Ages", name := "firstTo", desc := "(II)I" } : MethodName) prog_2_method_8_code (3 : Nat) (Option.some ClassFile.FieldType.int)) ∈ gTbl := lw_memk tk_6 137 rfl rfl
theorem wd_1338 : (Cond.methodLink "CribLineLaw" (228 : Nat) ({ cls := "CribLineLaw", name := "can", desc := "(LCribLine;II[J)I" } : MethodName)) ∈ gTbl := lw_memk tk_6 138 rfl rfl
theorem wd_1339 : (Cond.static ({ cls := "CribLineLaw", name := "can", desc := "(LCribLine;II[J)I" } : MethodName)) ∈ gTbl := lw_memk tk_6 139 rfl rfl
theorem wd_1340 : (Cond.codeWith ({ cls := "CribLineLaw", name := "can", desc := "(LCribLine;II[J)I" } : MethodName) method_21_code (5 : Nat) (Option.some ClassFile.FieldType.int) [((0 : Nat), (10 : Nat), (13 : Nat), (24 : Nat)), ((0 : Nat), (10 : Nat), (17 : Nat), (13 : Nat))]) ∈ gTbl := lw_memk tk_6 140 rfl rfl
theorem wd_1341 : (Cond.methodLink "CribLineLaw" (79 : Nat) ({ cls := "CribLine", name := "can", desc := "(II)I" } : MethodName)) ∈ gTbl := lw_memk tk_6 141 rfl rfl
theorem wd_1342 : (Cond.instanceMethod ({ cls := "CribLine", name := "can", desc := "(II)I" } : MethodName)) ∈ gTbl := lw_memk tk_6 142 rfl rfl
theorem wd_1343 : (Cond.selects "CribLine" ({ cls := "CribLine", name := "can", desc := "(II)I" } : MethodName) ({ cls := "CribLine", name := "can", desc := "(II)I" } : MethodName)) ∈ gTbl := lw_memk tk_6 143 rfl rfl
theorem wd_1344 : (Cond.code ({ cls := "CribLine", name := "can", desc := "(II)I" } : MethodName) prog_1_method_30_code (3 : Nat) (Option.some ClassFile.FieldType.int)) ∈ gTbl := lw_memk tk_6 144 rfl rfl
theorem wd_1345 : (Cond.methodLink "CribLine" (293 : Nat) ({ cls := "CribLine$Ages", name := "within", desc := "(II)I" } : MethodName)) ∈ gTbl := lw_memk tk_6 145 rfl rfl
theorem wd_1346 : (Cond.instanceMethod ({ cls := "CribLine$Ages", name := "within", desc := "(II)I" } : MethodName)) ∈ gTbl := lw_memk tk_6 146 rfl rfl
theorem wd_1347 : (Cond.selects "CribLine$Ages" ({ cls := "CribLine$Ages", name := "within", desc := "(II)I" } : MethodName) ({ cls := "CribLine$Ages", name := "within", desc := "(II)I" } : MethodName)) ∈ gTbl := lw_memk tk_6 147 rfl rfl
theorem wd_1348 : (Cond.code ({ cls := "CribLine$Ages", name := "within", desc := "(II)I" } : MethodName) prog_2_method_9_code (5 : Nat) (Option.some ClassFile.FieldType.int)) ∈ gTbl := lw_memk tk_6 148 rfl rfl
theorem wd_1349 : (Cond.methodLink "CribLineLaw" (231 : Nat) ({ cls := "CribLineLaw", name := "harsh", desc := "(LCribLine;I[J)I" } : MethodName)) ∈ gTbl := lw_memk tk_6 149 rfl rfl
theorem wd_1350 : (Cond.static ({ cls := "CribLineLaw", name := "harsh", desc := "(LCribLine;I[J)I" } : MethodName)) ∈ gTbl := lw_memk tk_6 150 rfl rfl
theorem wd_1351 : (Cond.codeWith ({ cls := "CribLineLaw", name := "harsh", desc := "(LCribLine;I[J)I" } : MethodName) method_22_code (4 : Nat) (Option.some ClassFile.FieldType.int) [((0 : Nat), (9 : Nat), (12 : Nat), (24 : Nat))]) ∈ gTbl := lw_memk tk_6 151 rfl rfl
theorem wd_1352 : (Cond.methodLink "CribLineLaw" (82 : Nat) ({ cls := "CribLine", name := "harsh", desc := "(I)I" } : MethodName)) ∈ gTbl := lw_memk tk_6 152 rfl rfl
theorem wd_1353 : (Cond.instanceMethod ({ cls := "CribLine", name := "harsh", desc := "(I)I" } : MethodName)) ∈ gTbl := lw_memk tk_6 153 rfl rfl
theorem wd_1354 : (Cond.selects "CribLine" ({ cls := "CribLine", name := "harsh", desc := "(I)I" } : MethodName) ({ cls := "CribLine", name := "harsh", desc := "(I)I" } : MethodName)) ∈ gTbl := lw_memk tk_6 154 rfl rfl
theorem wd_1355 : (Cond.code ({ cls := "CribLine", name := "harsh", desc := "(I)I" } : MethodName) prog_1_method_31_code (2 : Nat) (Option.some ClassFile.FieldType.int)) ∈ gTbl := lw_memk tk_6 155 rfl rfl
theorem wd_1356 : (Cond.methodLink "CribLine" (296 : Nat) ({ cls := "CribLine$Ages", name := "heaviest", desc := "(IZ)I" } : MethodName)) ∈ gTbl := lw_memk tk_6 156 rfl rfl
theorem wd_1357 : (Cond.instanceMethod ({ cls := "CribLine$Ages", name := "heaviest", desc := "(IZ)I" } : MethodName)) ∈ gTbl := lw_memk tk_6 157 rfl rfl
theorem wd_1358 : (Cond.selects "CribLine$Ages" ({ cls := "CribLine$Ages", name := "heaviest", desc := "(IZ)I" } : MethodName) ({ cls := "CribLine$Ages", name := "heaviest", desc := "(IZ)I" } : MethodName)) ∈ gTbl := lw_memk tk_6 158 rfl rfl
theorem wd_1359 : (Cond.code ({ cls := "CribLine$Ages", name := "heaviest", desc := "(IZ)I" } : MethodName) prog_2_method_10_code (7 : Nat) (Option.some ClassFile.FieldType.int)) ∈ gTbl := lw_memk tk_6 159 rfl rfl
theorem wd_1360 : (Cond.methodLink "CribLineLaw" (234 : Nat) ({ cls := "CribLineLaw", name := "kind", desc := "(LCribLine;I[J)I" } : MethodName)) ∈ gTbl := lw_memk tk_6 160 rfl rfl
theorem wd_1361 : (Cond.static ({ cls := "CribLineLaw", name := "kind", desc := "(LCribLine;I[J)I" } : MethodName)) ∈ gTbl := lw_memk tk_6 161 rfl rfl
theorem wd_1362 : (Cond.codeWith ({ cls := "CribLineLaw", name := "kind", desc := "(LCribLine;I[J)I" } : MethodName) method_23_code (4 : Nat) (Option.some ClassFile.FieldType.int) [((0 : Nat), (9 : Nat), (12 : Nat), (24 : Nat))]) ∈ gTbl := lw_memk tk_6 162 rfl rfl
theorem wd_1363 : (Cond.methodLink "CribLineLaw" (85 : Nat) ({ cls := "CribLine", name := "kind", desc := "(I)I" } : MethodName)) ∈ gTbl := lw_memk tk_6 163 rfl rfl
theorem wd_1364 : (Cond.instanceMethod ({ cls := "CribLine", name := "kind", desc := "(I)I" } : MethodName)) ∈ gTbl := lw_memk tk_6 164 rfl rfl
theorem wd_1365 : (Cond.selects "CribLine" ({ cls := "CribLine", name := "kind", desc := "(I)I" } : MethodName) ({ cls := "CribLine", name := "kind", desc := "(I)I" } : MethodName)) ∈ gTbl := lw_memk tk_6 165 rfl rfl
theorem wd_1366 : (Cond.code ({ cls := "CribLine", name := "kind", desc := "(I)I" } : MethodName) prog_1_method_32_code (2 : Nat) (Option.some ClassFile.FieldType.int)) ∈ gTbl := lw_memk tk_6 166 rfl rfl
theorem wd_1367 : (Cond.methodLink "CribLineLaw" (247 : Nat) ({ cls := "CribLineLaw", name := "over", desc := "(LCribLine;I[J)I" } : MethodName)) ∈ gTbl := lw_memk tk_6 167 rfl rfl
theorem wd_1368 : (Cond.static ({ cls := "CribLineLaw", name := "over", desc := "(LCribLine;I[J)I" } : MethodName)) ∈ gTbl := lw_memk tk_6 168 rfl rfl
theorem wd_1369 : (Cond.codeWith ({ cls := "CribLineLaw", name := "over", desc := "(LCribLine;I[J)I" } : MethodName) method_24_code (4 : Nat) (Option.some ClassFile.FieldType.int) [((0 : Nat), (9 : Nat), (12 : Nat), (24 : Nat))]) ∈ gTbl := lw_memk tk_6 169 rfl rfl
theorem wd_1370 : (Cond.methodLink "CribLineLaw" (88 : Nat) ({ cls := "CribLine", name := "over", desc := "(I)I" } : MethodName)) ∈ gTbl := lw_memk tk_6 170 rfl rfl
theorem wd_1371 : (Cond.instanceMethod ({ cls := "CribLine", name := "over", desc := "(I)I" } : MethodName)) ∈ gTbl := lw_memk tk_6 171 rfl rfl
theorem wd_1372 : (Cond.selects "CribLine" ({ cls := "CribLine", name := "over", desc := "(I)I" } : MethodName) ({ cls := "CribLine", name := "over", desc := "(I)I" } : MethodName)) ∈ gTbl := lw_memk tk_6 172 rfl rfl
theorem wd_1373 : (Cond.code ({ cls := "CribLine", name := "over", desc := "(I)I" } : MethodName) prog_1_method_35_code (2 : Nat) (Option.some ClassFile.FieldType.int)) ∈ gTbl := lw_memk tk_6 173 rfl rfl
theorem wd_1374 : (Cond.methodLink "CribLine" (308 : Nat) ({ cls := "CribLine$Days", name := "firstTurn", desc := "(I)I" } : MethodName)) ∈ gTbl := lw_memk tk_6 174 rfl rfl
theorem wd_1375 : (Cond.instanceMethod ({ cls := "CribLine$Days", name := "firstTurn", desc := "(I)I" } : MethodName)) ∈ gTbl := lw_memk tk_6 175 rfl rfl
theorem wd_1376 : (Cond.selects "CribLine$Days" ({ cls := "CribLine$Days", name := "firstTurn", desc := "(I)I" } : MethodName) ({ cls := "CribLine$Days", name := "firstTurn", desc := "(I)I" } : MethodName)) ∈ gTbl := lw_memk tk_6 176 rfl rfl
theorem wd_1377 : (Cond.code ({ cls := "CribLine$Days", name := "firstTurn", desc := "(I)I" } : MethodName) prog_3_method_9_code (3 : Nat) (Option.some ClassFile.FieldType.int)) ∈ gTbl := lw_memk tk_6 177 rfl rfl
theorem wd_1378 : (Cond.methodLink "CribLineLaw" (250 : Nat) ({ cls := "CribLineLaw", name := "said", desc := "(LCribLine;I[J)I" } : MethodName)) ∈ gTbl := lw_memk tk_6 178 rfl rfl
theorem wd_1379 : (Cond.static ({ cls := "CribLineLaw", name := "said", desc := "(LCribLine;I[J)I" } : MethodName)) ∈ gTbl := lw_memk tk_6 179 rfl rfl
theorem wd_1380 : (Cond.codeWith ({ cls := "CribLineLaw", name := "said", desc := "(LCribLine;I[J)I" } : MethodName) method_25_code (4 : Nat) (Option.some ClassFile.FieldType.int) [((0 : Nat), (9 : Nat), (12 : Nat), (24 : Nat)), ((0 : Nat), (9 : Nat), (15 : Nat), (13 : Nat))]) ∈ gTbl := lw_memk tk_6 180 rfl rfl
theorem wd_1381 : (Cond.methodLink "CribLineLaw" (91 : Nat) ({ cls := "CribLine", name := "said", desc := "(I)I" } : MethodName)) ∈ gTbl := lw_memk tk_6 181 rfl rfl
theorem wd_1382 : (Cond.instanceMethod ({ cls := "CribLine", name := "said", desc := "(I)I" } : MethodName)) ∈ gTbl := lw_memk tk_6 182 rfl rfl
theorem wd_1383 : (Cond.selects "CribLine" ({ cls := "CribLine", name := "said", desc := "(I)I" } : MethodName) ({ cls := "CribLine", name := "said", desc := "(I)I" } : MethodName)) ∈ gTbl := lw_memk tk_6 183 rfl rfl
theorem wd_1384 : (Cond.code ({ cls := "CribLine", name := "said", desc := "(I)I" } : MethodName) prog_1_method_36_code (3 : Nat) (Option.some ClassFile.FieldType.int)) ∈ gTbl := lw_memk tk_6 184 rfl rfl
theorem wd_1385 : (Cond.methodLink "CribLine" (311 : Nat) ({ cls := "CribLine", name := "mustBeSightings", desc := "(I)V" } : MethodName)) ∈ gTbl := lw_memk tk_6 185 rfl rfl
theorem wd_1387 : (Cond.instanceMethod ({ cls := "CribLine", name := "mustBeSightings", desc := "(I)V" } : MethodName)) ∈ gTbl := lw_memk tk_6 187 rfl rfl
theorem wd_1388 : (Cond.code ({ cls := "CribLine", name := "mustBeSightings", desc := "(I)V" } : MethodName) prog_1_method_38_code (4 : Nat) (Option.none : Option ClassFile.FieldType)) ∈ gTbl := lw_memk tk_6 188 rfl rfl
theorem wd_1390 : (Cond.methodLink "CribLine" (314 : Nat) ({ cls := "CribLine$Ages", name := "fitting", desc := "(I[II)I" } : MethodName)) ∈ gTbl := lw_memk tk_6 190 rfl rfl
theorem wd_1391 : (Cond.instanceMethod ({ cls := "CribLine$Ages", name := "fitting", desc := "(I[II)I" } : MethodName)) ∈ gTbl := lw_memk tk_6 191 rfl rfl
theorem wd_1392 : (Cond.selects "CribLine$Ages" ({ cls := "CribLine$Ages", name := "fitting", desc := "(I[II)I" } : MethodName) ({ cls := "CribLine$Ages", name := "fitting", desc := "(I[II)I" } : MethodName)) ∈ gTbl := lw_memk tk_6 192 rfl rfl
theorem wd_1393 : (Cond.code ({ cls := "CribLine$Ages", name := "fitting", desc := "(I[II)I" } : MethodName) prog_2_method_11_code (6 : Nat) (Option.some ClassFile.FieldType.int)) ∈ gTbl := lw_memk tk_6 193 rfl rfl
theorem wd_1394 : (Cond.methodLink "CribLine$Ages" (103 : Nat) ({ cls := "CribLine$Ages", name := "fits", desc := "(II[II)Z" } : MethodName)) ∈ gTbl := lw_memk tk_6 194 rfl rfl
theorem wd_1396 : (Cond.instanceMethod ({ cls := "CribLine$Ages", name := "fits", desc := "(II[II)Z" } : MethodName)) ∈ gTbl := lw_memk tk_6 196 rfl rfl
theorem wd_1397 : (Cond.code ({ cls := "CribLine$Ages", name := "fits", desc := "(II[II)Z" } : MethodName) prog_2_method_12_code (6 : Nat) (Option.some ClassFile.FieldType.boolean)) ∈ gTbl := lw_memk tk_6 197 rfl rfl
theorem wd_1398 : (Cond.methodLink "CribLineLaw" (253 : Nat) ({ cls := "CribLineLaw", name := "ask", desc := "(LCribLine;I[J)I" } : MethodName)) ∈ gTbl := lw_memk tk_6 198 rfl rfl
theorem wd_1399 : (Cond.static ({ cls := "CribLineLaw", name := "ask", desc := "(LCribLine;I[J)I" } : MethodName)) ∈ gTbl := lw_memk tk_6 199 rfl rfl
theorem wd_1400 : (Cond.codeWith ({ cls := "CribLineLaw", name := "ask", desc := "(LCribLine;I[J)I" } : MethodName) method_26_code (4 : Nat) (Option.some ClassFile.FieldType.int) [((0 : Nat), (9 : Nat), (12 : Nat), (24 : Nat)), ((0 : Nat), (9 : Nat), (15 : Nat), (13 : Nat))]) ∈ gTbl := lw_memk tk_6 200 rfl rfl
theorem wd_1401 : (Cond.methodLink "CribLineLaw" (94 : Nat) ({ cls := "CribLine", name := "ask", desc := "(I)I" } : MethodName)) ∈ gTbl := lw_memk tk_6 201 rfl rfl
theorem wd_1402 : (Cond.instanceMethod ({ cls := "CribLine", name := "ask", desc := "(I)I" } : MethodName)) ∈ gTbl := lw_memk tk_6 202 rfl rfl
theorem wd_1403 : (Cond.selects "CribLine" ({ cls := "CribLine", name := "ask", desc := "(I)I" } : MethodName) ({ cls := "CribLine", name := "ask", desc := "(I)I" } : MethodName)) ∈ gTbl := lw_memk tk_6 203 rfl rfl
theorem wd_1404 : (Cond.code ({ cls := "CribLine", name := "ask", desc := "(I)I" } : MethodName) prog_1_method_37_code (3 : Nat) (Option.some ClassFile.FieldType.int)) ∈ gTbl := lw_memk tk_6 204 rfl rfl
theorem wd_1405 : (Cond.methodLink "CribLine" (318 : Nat) ({ cls := "CribLine$Ages", name := "bestToAsk", desc := "(I[II)I" } : MethodName)) ∈ gTbl := lw_memk tk_6 205 rfl rfl
theorem wd_1406 : (Cond.instanceMethod ({ cls := "CribLine$Ages", name := "bestToAsk", desc := "(I[II)I" } : MethodName)) ∈ gTbl := lw_memk tk_6 206 rfl rfl
theorem wd_1407 : (Cond.selects "CribLine$Ages" ({ cls := "CribLine$Ages", name := "bestToAsk", desc := "(I[II)I" } : MethodName) ({ cls := "CribLine$Ages", name := "bestToAsk", desc := "(I[II)I" } : MethodName)) ∈ gTbl := lw_memk tk_6 207 rfl rfl
theorem wd_1408 : (Cond.code ({ cls := "CribLine$Ages", name := "bestToAsk", desc := "(I[II)I" } : MethodName) prog_2_method_13_code (9 : Nat) (Option.some ClassFile.FieldType.int)) ∈ gTbl := lw_memk tk_6 208 rfl rfl
theorem wd_1409 : (Cond.methodLink "CribLine$Ages" (107 : Nat) ({ cls := "CribLine$Ages", name := "fitting", desc := "(I[II)I" } : MethodName)) ∈ gTbl := lw_memk tk_6 209 rfl rfl
theorem wd_1410 : (Cond.methodLink "CribLine$Ages" (111 : Nat) ({ cls := "java/lang/Integer", name := "bitCount", desc := "(I)I" } : MethodName)) ∈ gTbl := lw_memk tk_6 210 rfl rfl
theorem wd_1411 : (Cond.methodLink "CribLine$Ages" (120 : Nat) ({ cls := "CribLine$Ages", name := "greatestPart", desc := "(III)I" } : MethodName)) ∈ gTbl := lw_memk tk_6 211 rfl rfl
theorem wd_1413 : (Cond.instanceMethod ({ cls := "CribLine$Ages", name := "greatestPart", desc := "(III)I" } : MethodName)) ∈ gTbl := lw_memk tk_6 213 rfl rfl
theorem wd_1414 : (Cond.code ({ cls := "CribLine$Ages", name := "greatestPart", desc := "(III)I" } : MethodName) prog_2_method_14_code (7 : Nat) (Option.some ClassFile.FieldType.int)) ∈ gTbl := lw_memk tk_6 214 rfl rfl
theorem wd_1415 : (Cond.methodLink "CribLine$Ages" (123 : Nat) ({ cls := "java/lang/Math", name := "max", desc := "(II)I" } : MethodName)) ∈ gTbl := lw_memk tk_6 215 rfl rfl
theorem wd_1416 : (Cond.methodLink "CribLineLaw" (260 : Nat) ({ cls := "CribLineLaw", name := "mate", desc := "(LCribLine;I[J)I" } : MethodName)) ∈ gTbl := lw_memk tk_6 216 rfl rfl
theorem wd_1417 : (Cond.static ({ cls := "CribLineLaw", name := "mate", desc := "(LCribLine;I[J)I" } : MethodName)) ∈ gTbl := lw_memk tk_6 217 rfl rfl
theorem wd_1418 : (Cond.codeWith ({ cls := "CribLineLaw", name := "mate", desc := "(LCribLine;I[J)I" } : MethodName) method_27_code (4 : Nat) (Option.some ClassFile.FieldType.int) [((0 : Nat), (9 : Nat), (12 : Nat), (24 : Nat))]) ∈ gTbl := lw_memk tk_6 218 rfl rfl
theorem wd_1419 : (Cond.methodLink "CribLineLaw" (97 : Nat) ({ cls := "CribLine", name := "mate", desc := "(I)I" } : MethodName)) ∈ gTbl := lw_memk tk_6 219 rfl rfl
theorem wd_1420 : (Cond.instanceMethod ({ cls := "CribLine", name := "mate", desc := "(I)I" } : MethodName)) ∈ gTbl := lw_memk tk_6 220 rfl rfl
theorem wd_1421 : (Cond.selects "CribLine" ({ cls := "CribLine", name := "mate", desc := "(I)I" } : MethodName) ({ cls := "CribLine", name := "mate", desc := "(I)I" } : MethodName)) ∈ gTbl := lw_memk tk_6 221 rfl rfl
theorem wd_1422 : (Cond.code ({ cls := "CribLine", name := "mate", desc := "(I)I" } : MethodName) prog_1_method_40_code (2 : Nat) (Option.some ClassFile.FieldType.int)) ∈ gTbl := lw_memk tk_6 222 rfl rfl
theorem wd_1423 : (Cond.methodLink "CribLine" (332 : Nat) ({ cls := "CribLine$Pairs", name := "bestOf", desc := "(I)I" } : MethodName)) ∈ gTbl := lw_memk tk_6 223 rfl rfl
theorem wd_1424 : (Cond.instanceMethod ({ cls := "CribLine$Pairs", name := "bestOf", desc := "(I)I" } : MethodName)) ∈ gTbl := lw_memk tk_6 224 rfl rfl
theorem wd_1425 : (Cond.selects "CribLine$Pairs" ({ cls := "CribLine$Pairs", name := "bestOf", desc := "(I)I" } : MethodName) ({ cls := "CribLine$Pairs", name := "bestOf", desc := "(I)I" } : MethodName)) ∈ gTbl := lw_memk tk_6 225 rfl rfl
theorem wd_1426 : (Cond.code ({ cls := "CribLine$Pairs", name := "bestOf", desc := "(I)I" } : MethodName) prog_9_method_5_code (2 : Nat) (Option.some ClassFile.FieldType.int)) ∈ gTbl := lw_memk tk_6 226 rfl rfl
theorem wd_1427 : (Cond.methodLink "CribLineLaw" (263 : Nat) ({ cls := "CribLineLaw", name := "stable", desc := "(LCribLine;I[J)I" } : MethodName)) ∈ gTbl := lw_memk tk_6 227 rfl rfl
theorem wd_1428 : (Cond.static ({ cls := "CribLineLaw", name := "stable", desc := "(LCribLine;I[J)I" } : MethodName)) ∈ gTbl := lw_memk tk_6 228 rfl rfl
theorem wd_1429 : (Cond.codeWith ({ cls := "CribLineLaw", name := "stable", desc := "(LCribLine;I[J)I" } : MethodName) method_28_code (4 : Nat) (Option.some ClassFile.FieldType.int) [((0 : Nat), (9 : Nat), (12 : Nat), (24 : Nat))]) ∈ gTbl := lw_memk tk_6 229 rfl rfl
theorem wd_1430 : (Cond.methodLink "CribLineLaw" (100 : Nat) ({ cls := "CribLine", name := "stable", desc := "(I)I" } : MethodName)) ∈ gTbl := lw_memk tk_6 230 rfl rfl
theorem wd_1431 : (Cond.instanceMethod ({ cls := "CribLine", name := "stable", desc := "(I)I" } : MethodName)) ∈ gTbl := lw_memk tk_6 231 rfl rfl
theorem wd_1432 : (Cond.selects "CribLine" ({ cls := "CribLine", name := "stable", desc := "(I)I" } : MethodName) ({ cls := "CribLine", name := "stable", desc := "(I)I" } : MethodName)) ∈ gTbl := lw_memk tk_6 232 rfl rfl
theorem wd_1433 : (Cond.code ({ cls := "CribLine", name := "stable", desc := "(I)I" } : MethodName) prog_1_method_41_code (2 : Nat) (Option.some ClassFile.FieldType.int)) ∈ gTbl := lw_memk tk_6 233 rfl rfl
theorem wd_1434 : (Cond.methodLink "CribLine" (335 : Nat) ({ cls := "CribLine$Pairs", name := "stableOf", desc := "(I)I" } : MethodName)) ∈ gTbl := lw_memk tk_6 234 rfl rfl
theorem wd_1435 : (Cond.instanceMethod ({ cls := "CribLine$Pairs", name := "stableOf", desc := "(I)I" } : MethodName)) ∈ gTbl := lw_memk tk_6 235 rfl rfl
theorem wd_1436 : (Cond.selects "CribLine$Pairs" ({ cls := "CribLine$Pairs", name := "stableOf", desc := "(I)I" } : MethodName) ({ cls := "CribLine$Pairs", name := "stableOf", desc := "(I)I" } : MethodName)) ∈ gTbl := lw_memk tk_6 236 rfl rfl
theorem wd_1437 : (Cond.code ({ cls := "CribLine$Pairs", name := "stableOf", desc := "(I)I" } : MethodName) prog_9_method_6_code (3 : Nat) (Option.some ClassFile.FieldType.int)) ∈ gTbl := lw_memk tk_6 237 rfl rfl
theorem wd_1438 : (Cond.methodLink "CribLine$Pairs" (80 : Nat) ({ cls := "CribLine$Pairs", name := "someoneAsks", desc := "()Z" } : MethodName)) ∈ gTbl := lw_memk tk_6 238 rfl rfl
theorem wd_1440 : (Cond.instanceMethod ({ cls := "CribLine$Pairs", name := "someoneAsks", desc := "()Z" } : MethodName)) ∈ gTbl := lw_memk tk_7 0 rfl rfl
theorem wd_1441 : (Cond.code ({ cls := "CribLine$Pairs", name := "someoneAsks", desc := "()Z" } : MethodName) prog_9_method_7_code (3 : Nat) (Option.some ClassFile.FieldType.boolean)) ∈ gTbl := lw_memk tk_7 1 rfl rfl
theorem wd_1442 : (Cond.methodLink "CribLine$Pairs" (84 : Nat) ({ cls := "CribLine$Pairs", name := "nearestNotAsked", desc := "(I)I" } : MethodName)) ∈ gTbl := lw_memk tk_7 2 rfl rfl
theorem wd_1444 : (Cond.instanceMethod ({ cls := "CribLine$Pairs", name := "nearestNotAsked", desc := "(I)I" } : MethodName)) ∈ gTbl := lw_memk tk_7 4 rfl rfl
theorem wd_1445 : (Cond.code ({ cls := "CribLine$Pairs", name := "nearestNotAsked", desc := "(I)I" } : MethodName) prog_9_method_8_code (4 : Nat) (Option.some ClassFile.FieldType.int)) ∈ gTbl := lw_memk tk_7 5 rfl rfl
theorem wd_1446 : (Cond.methodLink "CribLine$Pairs" (88 : Nat) ({ cls := "CribLine$Pairs", name := "askOne", desc := "(II)V" } : MethodName)) ∈ gTbl := lw_memk tk_7 6 rfl rfl
theorem wd_1448 : (Cond.instanceMethod ({ cls := "CribLine$Pairs", name := "askOne", desc := "(II)V" } : MethodName)) ∈ gTbl := lw_memk tk_7 8 rfl rfl
theorem wd_1449 : (Cond.code ({ cls := "CribLine$Pairs", name := "askOne", desc := "(II)V" } : MethodName) prog_9_method_9_code (4 : Nat) (Option.none : Option ClassFile.FieldType)) ∈ gTbl := lw_memk tk_7 9 rfl rfl
theorem wd_1450 : (Cond.methodLink "CribLine$Pairs" (92 : Nat) ({ cls := "CribLine$Pairs", name := "isNearer", desc := "(III)Z" } : MethodName)) ∈ gTbl := lw_memk tk_7 10 rfl rfl
theorem wd_1452 : (Cond.instanceMethod ({ cls := "CribLine$Pairs", name := "isNearer", desc := "(III)Z" } : MethodName)) ∈ gTbl := lw_memk tk_7 12 rfl rfl
theorem wd_1453 : (Cond.code ({ cls := "CribLine$Pairs", name := "isNearer", desc := "(III)Z" } : MethodName) prog_9_method_10_code (6 : Nat) (Option.some ClassFile.FieldType.boolean)) ∈ gTbl := lw_memk tk_7 13 rfl rfl
theorem wd_1454 : (Cond.methodLink "CribLineLaw" (270 : Nat) ({ cls := "CribLineLaw", name := "owes", desc := "(LCribLine;II[J)I" } : MethodName)) ∈ gTbl := lw_memk tk_7 14 rfl rfl
theorem wd_1455 : (Cond.static ({ cls := "CribLineLaw", name := "owes", desc := "(LCribLine;II[J)I" } : MethodName)) ∈ gTbl := lw_memk tk_7 15 rfl rfl
theorem wd_1456 : (Cond.codeWith ({ cls := "CribLineLaw", name := "owes", desc := "(LCribLine;II[J)I" } : MethodName) method_29_code (5 : Nat) (Option.some ClassFile.FieldType.int) [((0 : Nat), (10 : Nat), (13 : Nat), (24 : Nat)), ((0 : Nat), (10 : Nat), (17 : Nat), (13 : Nat))]) ∈ gTbl := lw_memk tk_7 16 rfl rfl
theorem wd_1457 : (Cond.methodLink "CribLineLaw" (103 : Nat) ({ cls := "CribLine", name := "owes", desc := "(II)I" } : MethodName)) ∈ gTbl := lw_memk tk_7 17 rfl rfl
theorem wd_1458 : (Cond.instanceMethod ({ cls := "CribLine", name := "owes", desc := "(II)I" } : MethodName)) ∈ gTbl := lw_memk tk_7 18 rfl rfl
theorem wd_1459 : (Cond.selects "CribLine" ({ cls := "CribLine", name := "owes", desc := "(II)I" } : MethodName) ({ cls := "CribLine", name := "owes", desc := "(II)I" } : MethodName)) ∈ gTbl := lw_memk tk_7 19 rfl rfl
theorem wd_1460 : (Cond.code ({ cls := "CribLine", name := "owes", desc := "(II)I" } : MethodName) prog_1_method_43_code (3 : Nat) (Option.some ClassFile.FieldType.int)) ∈ gTbl := lw_memk tk_7 20 rfl rfl
theorem wd_1461 : (Cond.methodLink "CribLineLaw" (277 : Nat) ({ cls := "CribLineLaw", name := "ring", desc := "(LCribLine;I[J)I" } : MethodName)) ∈ gTbl := lw_memk tk_7 21 rfl rfl
theorem wd_1462 : (Cond.static ({ cls := "CribLineLaw", name := "ring", desc := "(LCribLine;I[J)I" } : MethodName)) ∈ gTbl := lw_memk tk_7 22 rfl rfl
theorem wd_1463 : (Cond.codeWith ({ cls := "CribLineLaw", name := "ring", desc := "(LCribLine;I[J)I" } : MethodName) method_30_code (4 : Nat) (Option.some ClassFile.FieldType.int) [((0 : Nat), (16 : Nat), (19 : Nat), (24 : Nat))]) ∈ gTbl := lw_memk tk_7 23 rfl rfl
theorem wd_1464 : (Cond.methodLink "CribLineLaw" (106 : Nat) ({ cls := "CribLine", name := "ring", desc := "(I)Z" } : MethodName)) ∈ gTbl := lw_memk tk_7 24 rfl rfl
theorem wd_1465 : (Cond.instanceMethod ({ cls := "CribLine", name := "ring", desc := "(I)Z" } : MethodName)) ∈ gTbl := lw_memk tk_7 25 rfl rfl
theorem wd_1466 : (Cond.selects "CribLine" ({ cls := "CribLine", name := "ring", desc := "(I)Z" } : MethodName) ({ cls := "CribLine", name := "ring", desc := "(I)Z" } : MethodName)) ∈ gTbl := lw_memk tk_7 26 rfl rfl
theorem wd_1467 : (Cond.code ({ cls := "CribLine", name := "ring", desc := "(I)Z" } : MethodName) prog_1_method_45_code (2 : Nat) (Option.some ClassFile.FieldType.boolean)) ∈ gTbl := lw_memk tk_7 27 rfl rfl
theorem wd_1468 : (Cond.methodLink "CribLine" (349 : Nat) ({ cls := "CribLine$Ties", name := "reached", desc := "(IZ)I" } : MethodName)) ∈ gTbl := lw_memk tk_7 28 rfl rfl
theorem wd_1469 : (Cond.instanceMethod ({ cls := "CribLine$Ties", name := "reached", desc := "(IZ)I" } : MethodName)) ∈ gTbl := lw_memk tk_7 29 rfl rfl
theorem wd_1470 : (Cond.selects "CribLine$Ties" ({ cls := "CribLine$Ties", name := "reached", desc := "(IZ)I" } : MethodName) ({ cls := "CribLine$Ties", name := "reached", desc := "(IZ)I" } : MethodName)) ∈ gTbl := lw_memk tk_7 30 rfl rfl
theorem wd_1471 : (Cond.code ({ cls := "CribLine$Ties", name := "reached", desc := "(IZ)I" } : MethodName) prog_12_method_4_code (6 : Nat) (Option.some ClassFile.FieldType.int)) ∈ gTbl := lw_memk tk_7 31 rfl rfl
theorem wd_1472 : (Cond.methodLink "CribLine$Ties" (34 : Nat) ({ cls := "CribLine$Ties", name := "nextOf", desc := "(IZ)I" } : MethodName)) ∈ gTbl := lw_memk tk_7 32 rfl rfl
theorem wd_1474 : (Cond.instanceMethod ({ cls := "CribLine$Ties", name := "nextOf", desc := "(IZ)I" } : MethodName)) ∈ gTbl := lw_memk tk_7 34 rfl rfl
theorem wd_1475 : (Cond.code ({ cls := "CribLine$Ties", name := "nextOf", desc := "(IZ)I" } : MethodName) prog_12_method_3_code (5 : Nat) (Option.some ClassFile.FieldType.int)) ∈ gTbl := lw_memk tk_7 35 rfl rfl
theorem wd_1476 : (Cond.methodLink "CribLine$Ties" (30 : Nat) ({ cls := "CribLine$Family", name := "governs", desc := "(II)Z" } : MethodName)) ∈ gTbl := lw_memk tk_7 36 rfl rfl
theorem wd_1477 : (Cond.methodLink "CribLineLaw" (284 : Nat) ({ cls := "CribLineLaw", name := "rests", desc := "(LCribLine;II[J)I" } : MethodName)) ∈ gTbl := lw_memk tk_7 37 rfl rfl
theorem wd_1478 : (Cond.static ({ cls := "CribLineLaw", name := "rests", desc := "(LCribLine;II[J)I" } : MethodName)) ∈ gTbl := lw_memk tk_7 38 rfl rfl
theorem wd_1479 : (Cond.codeWith ({ cls := "CribLineLaw", name := "rests", desc := "(LCribLine;II[J)I" } : MethodName) method_31_code (5 : Nat) (Option.some ClassFile.FieldType.int) [((0 : Nat), (10 : Nat), (13 : Nat), (24 : Nat)), ((0 : Nat), (10 : Nat), (17 : Nat), (13 : Nat)), ((0 : Nat), (10 : Nat), (21 : Nat), (41 : Nat))]) ∈ gTbl := lw_memk tk_7 39 rfl rfl
theorem wd_1480 : (Cond.methodLink "CribLineLaw" (110 : Nat) ({ cls := "CribLine", name := "rests", desc := "(II)I" } : MethodName)) ∈ gTbl := lw_memk tk_7 40 rfl rfl
theorem wd_1481 : (Cond.instanceMethod ({ cls := "CribLine", name := "rests", desc := "(II)I" } : MethodName)) ∈ gTbl := lw_memk tk_7 41 rfl rfl
theorem wd_1482 : (Cond.selects "CribLine" ({ cls := "CribLine", name := "rests", desc := "(II)I" } : MethodName) ({ cls := "CribLine", name := "rests", desc := "(II)I" } : MethodName)) ∈ gTbl := lw_memk tk_7 42 rfl rfl
theorem wd_1483 : (Cond.code ({ cls := "CribLine", name := "rests", desc := "(II)I" } : MethodName) prog_1_method_47_code (5 : Nat) (Option.some ClassFile.FieldType.int)) ∈ gTbl := lw_memk tk_7 43 rfl rfl
theorem wd_1484 : (Cond.methodLink "CribLine" (352 : Nat) ({ cls := "CribLine$Ties", name := "restingChoices", desc := "(III)I" } : MethodName)) ∈ gTbl := lw_memk tk_7 44 rfl rfl
theorem wd_1485 : (Cond.instanceMethod ({ cls := "CribLine$Ties", name := "restingChoices", desc := "(III)I" } : MethodName)) ∈ gTbl := lw_memk tk_7 45 rfl rfl
theorem wd_1486 : (Cond.selects "CribLine$Ties" ({ cls := "CribLine$Ties", name := "restingChoices", desc := "(III)I" } : MethodName) ({ cls := "CribLine$Ties", name := "restingChoices", desc := "(III)I" } : MethodName)) ∈ gTbl := lw_memk tk_7 46 rfl rfl
theorem wd_1487 : (Cond.code ({ cls := "CribLine$Ties", name := "restingChoices", desc := "(III)I" } : MethodName) prog_12_method_12_code (7 : Nat) (Option.some ClassFile.FieldType.int)) ∈ gTbl := lw_memk tk_7 47 rfl rfl
theorem wd_1488 : (Cond.methodLink "CribLine$Ties" (63 : Nat) ({ cls := "CribLine$Ties", name := "gainOfOne", desc := "(III)I" } : MethodName)) ∈ gTbl := lw_memk tk_7 48 rfl rfl
theorem wd_1489 : (Cond.static ({ cls := "CribLine$Ties", name := "gainOfOne", desc := "(III)I" } : MethodName)) ∈ gTbl := lw_memk tk_7 49 rfl rfl
theorem wd_1490 : (Cond.code ({ cls := "CribLine$Ties", name := "gainOfOne", desc := "(III)I" } : MethodName) prog_12_method_13_code (3 : Nat) (Option.some ClassFile.FieldType.int)) ∈ gTbl := lw_memk tk_7 50 rfl rfl
theorem wd_1491 : (Cond.methodLink "CribLine$Ties" (67 : Nat) ({ cls := "CribLine$Ties", name := "gainOfOther", desc := "(IIII)I" } : MethodName)) ∈ gTbl := lw_memk tk_7 51 rfl rfl
theorem wd_1492 : (Cond.static ({ cls := "CribLine$Ties", name := "gainOfOther", desc := "(IIII)I" } : MethodName)) ∈ gTbl := lw_memk tk_7 52 rfl rfl
theorem wd_1493 : (Cond.code ({ cls := "CribLine$Ties", name := "gainOfOther", desc := "(IIII)I" } : MethodName) prog_12_method_14_code (4 : Nat) (Option.some ClassFile.FieldType.int)) ∈ gTbl := lw_memk tk_7 53 rfl rfl
theorem wd_1494 : (Cond.methodLink "CribLineLaw" (287 : Nat) ({ cls := "CribLineLaw", name := "mild", desc := "(LCribLine;I[J)I" } : MethodName)) ∈ gTbl := lw_memk tk_7 54 rfl rfl
theorem wd_1495 : (Cond.static ({ cls := "CribLineLaw", name := "mild", desc := "(LCribLine;I[J)I" } : MethodName)) ∈ gTbl := lw_memk tk_7 55 rfl rfl
theorem wd_1496 : (Cond.codeWith ({ cls := "CribLineLaw", name := "mild", desc := "(LCribLine;I[J)I" } : MethodName) method_32_code (4 : Nat) (Option.some ClassFile.FieldType.int) [((0 : Nat), (9 : Nat), (12 : Nat), (13 : Nat))]) ∈ gTbl := lw_memk tk_7 56 rfl rfl
theorem wd_1497 : (Cond.methodLink "CribLineLaw" (113 : Nat) ({ cls := "CribLine", name := "mild", desc := "(I)I" } : MethodName)) ∈ gTbl := lw_memk tk_7 57 rfl rfl
theorem wd_1498 : (Cond.instanceMethod ({ cls := "CribLine", name := "mild", desc := "(I)I" } : MethodName)) ∈ gTbl := lw_memk tk_7 58 rfl rfl
theorem wd_1499 : (Cond.selects "CribLine" ({ cls := "CribLine", name := "mild", desc := "(I)I" } : MethodName) ({ cls := "CribLine", name := "mild", desc := "(I)I" } : MethodName)) ∈ gTbl := lw_memk tk_7 59 rfl rfl
theorem wd_1500 : (Cond.code ({ cls := "CribLine", name := "mild", desc := "(I)I" } : MethodName) prog_1_method_48_code (2 : Nat) (Option.some ClassFile.FieldType.int)) ∈ gTbl := lw_memk tk_7 60 rfl rfl
theorem wd_1501 : (Cond.methodLink "CribLine" (355 : Nat) ({ cls := "CribLine$Days", name := "mildest", desc := "(I)I" } : MethodName)) ∈ gTbl := lw_memk tk_7 61 rfl rfl
theorem wd_1502 : (Cond.instanceMethod ({ cls := "CribLine$Days", name := "mildest", desc := "(I)I" } : MethodName)) ∈ gTbl := lw_memk tk_7 62 rfl rfl
theorem wd_1503 : (Cond.selects "CribLine$Days" ({ cls := "CribLine$Days", name := "mildest", desc := "(I)I" } : MethodName) ({ cls := "CribLine$Days", name := "mildest", desc := "(I)I" } : MethodName)) ∈ gTbl := lw_memk tk_7 63 rfl rfl
theorem wd_1504 : (Cond.code ({ cls := "CribLine$Days", name := "mildest", desc := "(I)I" } : MethodName) prog_3_method_10_code (3 : Nat) (Option.some ClassFile.FieldType.int)) ∈ gTbl := lw_memk tk_7 64 rfl rfl
theorem wd_1505 : (Cond.methodLink "CribLine$Days" (99 : Nat) ({ cls := "CribLine$Days", name := "isMild", desc := "(II)Z" } : MethodName)) ∈ gTbl := lw_memk tk_7 65 rfl rfl
theorem wd_1507 : (Cond.instanceMethod ({ cls := "CribLine$Days", name := "isMild", desc := "(II)Z" } : MethodName)) ∈ gTbl := lw_memk tk_7 67 rfl rfl
theorem wd_1508 : (Cond.code ({ cls := "CribLine$Days", name := "isMild", desc := "(II)Z" } : MethodName) prog_3_method_11_code (4 : Nat) (Option.some ClassFile.FieldType.boolean)) ∈ gTbl := lw_memk tk_7 68 rfl rfl
theorem wd_1509 : (Cond.methodLink "CribLineLaw" (290 : Nat) ({ cls := "CribLineLaw", name := "branch", desc := "(LCribLine;I[J)I" } : MethodName)) ∈ gTbl := lw_memk tk_7 69 rfl rfl
theorem wd_1510 : (Cond.static ({ cls := "CribLineLaw", name := "branch", desc := "(LCribLine;I[J)I" } : MethodName)) ∈ gTbl := lw_memk tk_7 70 rfl rfl
theorem wd_1511 : (Cond.codeWith ({ cls := "CribLineLaw", name := "branch", desc := "(LCribLine;I[J)I" } : MethodName) method_33_code (4 : Nat) (Option.some ClassFile.FieldType.int) [((0 : Nat), (9 : Nat), (12 : Nat), (24 : Nat))]) ∈ gTbl := lw_memk tk_7 71 rfl rfl
theorem wd_1512 : (Cond.methodLink "CribLineLaw" (116 : Nat) ({ cls := "CribLine", name := "branch", desc := "(I)I" } : MethodName)) ∈ gTbl := lw_memk tk_7 72 rfl rfl
theorem wd_1513 : (Cond.instanceMethod ({ cls := "CribLine", name := "branch", desc := "(I)I" } : MethodName)) ∈ gTbl := lw_memk tk_7 73 rfl rfl
theorem wd_1514 : (Cond.selects "CribLine" ({ cls := "CribLine", name := "branch", desc := "(I)I" } : MethodName) ({ cls := "CribLine", name := "branch", desc := "(I)I" } : MethodName)) ∈ gTbl := lw_memk tk_7 74 rfl rfl
theorem wd_1515 : (Cond.code ({ cls := "CribLine", name := "branch", desc := "(I)I" } : MethodName) prog_1_method_49_code (2 : Nat) (Option.some ClassFile.FieldType.int)) ∈ gTbl := lw_memk tk_7 75 rfl rfl
theorem wd_1516 : (Cond.methodLink "CribLine" (358 : Nat) ({ cls := "CribLine$Ties", name := "branchOf", desc := "(I)I" } : MethodName)) ∈ gTbl := lw_memk tk_7 76 rfl rfl
theorem wd_1517 : (Cond.methodLink "CribLineLaw" (297 : Nat) ({ cls := "CribLineLaw", name := "kin", desc := "(LCribLine;II[J)I" } : MethodName)) ∈ gTbl := lw_memk tk_7 77 rfl rfl
theorem wd_1518 : (Cond.static ({ cls := "CribLineLaw", name := "kin", desc := "(LCribLine;II[J)I" } : MethodName)) ∈ gTbl := lw_memk tk_7 78 rfl rfl
theorem wd_1519 : (Cond.codeWith ({ cls := "CribLineLaw", name := "kin", desc := "(LCribLine;II[J)I" } : MethodName) method_34_code (5 : Nat) (Option.some ClassFile.FieldType.int) [((0 : Nat), (10 : Nat), (13 : Nat), (24 : Nat)), ((0 : Nat), (10 : Nat), (17 : Nat), (13 : Nat))]) ∈ gTbl := lw_memk tk_7 79 rfl rfl
theorem wd_1520 : (Cond.methodLink "CribLineLaw" (119 : Nat) ({ cls := "CribLine", name := "kin", desc := "(II)I" } : MethodName)) ∈ gTbl := lw_memk tk_7 80 rfl rfl
theorem wd_1521 : (Cond.instanceMethod ({ cls := "CribLine", name := "kin", desc := "(II)I" } : MethodName)) ∈ gTbl := lw_memk tk_7 81 rfl rfl
theorem wd_1522 : (Cond.selects "CribLine" ({ cls := "CribLine", name := "kin", desc := "(II)I" } : MethodName) ({ cls := "CribLine", name := "kin", desc := "(II)I" } : MethodName)) ∈ gTbl := lw_memk tk_7 82 rfl rfl
theorem wd_1523 : (Cond.code ({ cls := "CribLine", name := "kin", desc := "(II)I" } : MethodName) prog_1_method_51_code (3 : Nat) (Option.some ClassFile.FieldType.int)) ∈ gTbl := lw_memk tk_7 83 rfl rfl
theorem wd_1524 : (Cond.methodLink "CribLine" (364 : Nat) ({ cls := "CribLine$Ties", name := "stepsBetween", desc := "(II)I" } : MethodName)) ∈ gTbl := lw_memk tk_7 84 rfl rfl
theorem wd_1525 : (Cond.instanceMethod ({ cls := "CribLine$Ties", name := "stepsBetween", desc := "(II)I" } : MethodName)) ∈ gTbl := lw_memk tk_7 85 rfl rfl
theorem wd_1526 : (Cond.selects "CribLine$Ties" ({ cls := "CribLine$Ties", name := "stepsBetween", desc := "(II)I" } : MethodName) ({ cls := "CribLine$Ties", name := "stepsBetween", desc := "(II)I" } : MethodName)) ∈ gTbl := lw_memk tk_7 86 rfl rfl
theorem wd_1527 : (Cond.code ({ cls := "CribLine$Ties", name := "stepsBetween", desc := "(II)I" } : MethodName) prog_12_method_8_code (6 : Nat) (Option.some ClassFile.FieldType.int)) ∈ gTbl := lw_memk tk_7 87 rfl rfl
theorem wd_1528 : (Cond.methodLink "CribLine$Ties" (57 : Nat) ({ cls := "CribLine$Ties", name := "stepsUp", desc := "(II)I" } : MethodName)) ∈ gTbl := lw_memk tk_7 88 rfl rfl
theorem wd_1530 : (Cond.instanceMethod ({ cls := "CribLine$Ties", name := "stepsUp", desc := "(II)I" } : MethodName)) ∈ gTbl := lw_memk tk_7 90 rfl rfl
theorem wd_1531 : (Cond.code ({ cls := "CribLine$Ties", name := "stepsUp", desc := "(II)I" } : MethodName) prog_12_method_9_code (5 : Nat) (Option.some ClassFile.FieldType.int)) ∈ gTbl := lw_memk tk_7 91 rfl rfl
theorem wd_1532 : (Cond.methodLink "CribLineLaw" (300 : Nat) ({ cls := "CribLineLaw", name := "cousins", desc := "(LCribLine;I[J)I" } : MethodName)) ∈ gTbl := lw_memk tk_7 92 rfl rfl
theorem wd_1533 : (Cond.static ({ cls := "CribLineLaw", name := "cousins", desc := "(LCribLine;I[J)I" } : MethodName)) ∈ gTbl := lw_memk tk_7 93 rfl rfl
theorem wd_1534 : (Cond.codeWith ({ cls := "CribLineLaw", name := "cousins", desc := "(LCribLine;I[J)I" } : MethodName) method_35_code (4 : Nat) (Option.some ClassFile.FieldType.int) [((0 : Nat), (9 : Nat), (12 : Nat), (24 : Nat))]) ∈ gTbl := lw_memk tk_7 94 rfl rfl
theorem wd_1535 : (Cond.methodLink "CribLineLaw" (122 : Nat) ({ cls := "CribLine", name := "cousins", desc := "(I)I" } : MethodName)) ∈ gTbl := lw_memk tk_7 95 rfl rfl
theorem wd_1536 : (Cond.instanceMethod ({ cls := "CribLine", name := "cousins", desc := "(I)I" } : MethodName)) ∈ gTbl := lw_memk tk_7 96 rfl rfl
theorem wd_1537 : (Cond.selects "CribLine" ({ cls := "CribLine", name := "cousins", desc := "(I)I" } : MethodName) ({ cls := "CribLine", name := "cousins", desc := "(I)I" } : MethodName)) ∈ gTbl := lw_memk tk_7 97 rfl rfl
theorem wd_1538 : (Cond.code ({ cls := "CribLine", name := "cousins", desc := "(I)I" } : MethodName) prog_1_method_52_code (2 : Nat) (Option.some ClassFile.FieldType.int)) ∈ gTbl := lw_memk tk_7 98 rfl rfl
theorem wd_1539 : (Cond.methodLink "CribLine" (367 : Nat) ({ cls := "CribLine$Ties", name := "cousinsOf", desc := "(I)I" } : MethodName)) ∈ gTbl := lw_memk tk_7 99 rfl rfl
theorem wd_1540 : (Cond.instanceMethod ({ cls := "CribLine$Ties", name := "cousinsOf", desc := "(I)I" } : MethodName)) ∈ gTbl := lw_memk tk_7 100 rfl rfl
theorem wd_1541 : (Cond.selects "CribLine$Ties" ({ cls := "CribLine$Ties", name := "cousinsOf", desc := "(I)I" } : MethodName) ({ cls := "CribLine$Ties", name := "cousinsOf", desc := "(I)I" } : MethodName)) ∈ gTbl := lw_memk tk_7 101 rfl rfl
theorem wd_1542 : (Cond.code ({ cls := "CribLine$Ties", name := "cousinsOf", desc := "(I)I" } : MethodName) prog_12_method_10_code (6 : Nat) (Option.some ClassFile.FieldType.int)) ∈ gTbl := lw_memk tk_7 102 rfl rfl
theorem wd_1543 : (Cond.methodLink "CribLine$Ties" (60 : Nat) ({ cls := "CribLine$Ties", name := "grandparentOf", desc := "(I)I" } : MethodName)) ∈ gTbl := lw_memk tk_7 103 rfl rfl
theorem wd_1545 : (Cond.instanceMethod ({ cls := "CribLine$Ties", name := "grandparentOf", desc := "(I)I" } : MethodName)) ∈ gTbl := lw_memk tk_7 105 rfl rfl
theorem wd_1546 : (Cond.code ({ cls := "CribLine$Ties", name := "grandparentOf", desc := "(I)I" } : MethodName) prog_12_method_11_code (3 : Nat) (Option.some ClassFile.FieldType.int)) ∈ gTbl := lw_memk tk_7 106 rfl rfl
theorem wd_1547 : (Cond.methodLink "CribLineLaw" (303 : Nat) ({ cls := "CribLineLaw", name := "under", desc := "(LCribLine;I[J)I" } : MethodName)) ∈ gTbl := lw_memk tk_7 107 rfl rfl
theorem wd_1548 : (Cond.static ({ cls := "CribLineLaw", name := "under", desc := "(LCribLine;I[J)I" } : MethodName)) ∈ gTbl := lw_memk tk_7 108 rfl rfl
theorem wd_1549 : (Cond.codeWith ({ cls := "CribLineLaw", name := "under", desc := "(LCribLine;I[J)I" } : MethodName) method_36_code (4 : Nat) (Option.some ClassFile.FieldType.int) [((0 : Nat), (9 : Nat), (12 : Nat), (24 : Nat))]) ∈ gTbl := lw_memk tk_7 109 rfl rfl
theorem wd_1550 : (Cond.methodLink "CribLineLaw" (125 : Nat) ({ cls := "CribLine", name := "under", desc := "(I)I" } : MethodName)) ∈ gTbl := lw_memk tk_7 110 rfl rfl
theorem wd_1551 : (Cond.instanceMethod ({ cls := "CribLine", name := "under", desc := "(I)I" } : MethodName)) ∈ gTbl := lw_memk tk_7 111 rfl rfl
theorem wd_1552 : (Cond.selects "CribLine" ({ cls := "CribLine", name := "under", desc := "(I)I" } : MethodName) ({ cls := "CribLine", name := "under", desc := "(I)I" } : MethodName)) ∈ gTbl := lw_memk tk_7 112 rfl rfl
theorem wd_1553 : (Cond.code ({ cls := "CribLine", name := "under", desc := "(I)I" } : MethodName) prog_1_method_53_code (2 : Nat) (Option.some ClassFile.FieldType.int)) ∈ gTbl := lw_memk tk_7 113 rfl rfl
theorem wd_1554 : (Cond.methodLink "CribLineLaw" (310 : Nat) ({ cls := "CribLineLaw", name := "odds", desc := "(LCribLine;III[J)I" } : MethodName)) ∈ gTbl := lw_memk tk_7 114 rfl rfl
theorem wd_1555 : (Cond.static ({ cls := "CribLineLaw", name := "odds", desc := "(LCribLine;III[J)I" } : MethodName)) ∈ gTbl := lw_memk tk_7 115 rfl rfl
theorem wd_1556 : (Cond.codeWith ({ cls := "CribLineLaw", name := "odds", desc := "(LCribLine;III[J)I" } : MethodName) method_37_code (6 : Nat) (Option.some ClassFile.FieldType.int) [((0 : Nat), (12 : Nat), (15 : Nat), (24 : Nat)), ((0 : Nat), (12 : Nat), (19 : Nat), (13 : Nat))]) ∈ gTbl := lw_memk tk_7 116 rfl rfl
theorem wd_1557 : (Cond.methodLink "CribLineLaw" (128 : Nat) ({ cls := "CribLine", name := "odds", desc := "(III)I" } : MethodName)) ∈ gTbl := lw_memk tk_7 117 rfl rfl
theorem wd_1558 : (Cond.instanceMethod ({ cls := "CribLine", name := "odds", desc := "(III)I" } : MethodName)) ∈ gTbl := lw_memk tk_7 118 rfl rfl
theorem wd_1559 : (Cond.selects "CribLine" ({ cls := "CribLine", name := "odds", desc := "(III)I" } : MethodName) ({ cls := "CribLine", name := "odds", desc := "(III)I" } : MethodName)) ∈ gTbl := lw_memk tk_7 119 rfl rfl
theorem wd_1560 : (Cond.code ({ cls := "CribLine", name := "odds", desc := "(III)I" } : MethodName) prog_1_method_55_code (4 : Nat) (Option.some ClassFile.FieldType.int)) ∈ gTbl := lw_memk tk_7 120 rfl rfl
theorem wd_1561 : (Cond.methodLink "CribLine" (370 : Nat) ({ cls := "CribLine$Ties", name := "chanceOfNo", desc := "(III)I" } : MethodName)) ∈ gTbl := lw_memk tk_7 121 rfl rfl
theorem wd_1562 : (Cond.instanceMethod ({ cls := "CribLine$Ties", name := "chanceOfNo", desc := "(III)I" } : MethodName)) ∈ gTbl := lw_memk tk_7 122 rfl rfl
theorem wd_1563 : (Cond.selects "CribLine$Ties" ({ cls := "CribLine$Ties", name := "chanceOfNo", desc := "(III)I" } : MethodName) ({ cls := "CribLine$Ties", name := "chanceOfNo", desc := "(III)I" } : MethodName)) ∈ gTbl := lw_memk tk_7 123 rfl rfl
theorem wd_1564 : (Cond.code ({ cls := "CribLine$Ties", name := "chanceOfNo", desc := "(III)I" } : MethodName) prog_12_method_15_code (16 : Nat) (Option.some ClassFile.FieldType.int)) ∈ gTbl := lw_memk tk_7 124 rfl rfl
theorem wd_1565 : (Cond.methodLink "CribLine$Ties" (74 : Nat) ({ cls := "java/lang/Integer", name := "bitCount", desc := "(I)I" } : MethodName)) ∈ gTbl := lw_memk tk_7 125 rfl rfl
theorem wd_1566 : (Cond.constantLong "CribLine$Ties" (82 : Nat) (10000 : Int64)) ∈ gTbl := lw_memk tk_7 126 rfl rfl
theorem wd_1567 : (Cond.methodLink "CribLine$Ties" (87 : Nat) ({ cls := "CribLine$Ties", name := "ways", desc := "(II)J" } : MethodName)) ∈ gTbl := lw_memk tk_7 127 rfl rfl
theorem wd_1568 : (Cond.static ({ cls := "CribLine$Ties", name := "ways", desc := "(II)J" } : MethodName)) ∈ gTbl := lw_memk tk_7 128 rfl rfl
theorem wd_1569 : (Cond.code ({ cls := "CribLine$Ties", name := "ways", desc := "(II)J" } : MethodName) prog_12_method_16_code (2 : Nat) (Option.some ClassFile.FieldType.long)) ∈ gTbl := lw_memk tk_7 129 rfl rfl
theorem wd_1570 : (Cond.methodLink "CribLine$Ties" (91 : Nat) ({ cls := "CribLine$Ties", name := "power", desc := "(JI)J" } : MethodName)) ∈ gTbl := lw_memk tk_7 130 rfl rfl
theorem wd_1571 : (Cond.static ({ cls := "CribLine$Ties", name := "power", desc := "(JI)J" } : MethodName)) ∈ gTbl := lw_memk tk_7 131 rfl rfl
theorem wd_1572 : (Cond.code ({ cls := "CribLine$Ties", name := "power", desc := "(JI)J" } : MethodName) prog_12_method_17_code (6 : Nat) (Option.some ClassFile.FieldType.long)) ∈ gTbl := lw_memk tk_7 132 rfl rfl
theorem wd_1573 : (Cond.methodLink "CribLineLaw" (338 : Nat) ({ cls := "CribLineLaw", name := "ahead", desc := "(LCribLine;IIZ[J)I" } : MethodName)) ∈ gTbl := lw_memk tk_7 133 rfl rfl
theorem wd_1574 : (Cond.static ({ cls := "CribLineLaw", name := "ahead", desc := "(LCribLine;IIZ[J)I" } : MethodName)) ∈ gTbl := lw_memk tk_7 134 rfl rfl
theorem wd_1575 : (Cond.codeWith ({ cls := "CribLineLaw", name := "ahead", desc := "(LCribLine;IIZ[J)I" } : MethodName) method_38_code (6 : Nat) (Option.some ClassFile.FieldType.int) [((0 : Nat), (12 : Nat), (15 : Nat), (24 : Nat)), ((0 : Nat), (12 : Nat), (19 : Nat), (13 : Nat))]) ∈ gTbl := lw_memk tk_7 135 rfl rfl
theorem wd_1576 : (Cond.methodLink "CribLineLaw" (132 : Nat) ({ cls := "CribLine", name := "ahead", desc := "(IIZ)I" } : MethodName)) ∈ gTbl := lw_memk tk_7 136 rfl rfl
theorem wd_1577 : (Cond.instanceMethod ({ cls := "CribLine", name := "ahead", desc := "(IIZ)I" } : MethodName)) ∈ gTbl := lw_memk tk_7 137 rfl rfl
theorem wd_1578 : (Cond.selects "CribLine" ({ cls := "CribLine", name := "ahead", desc := "(IIZ)I" } : MethodName) ({ cls := "CribLine", name := "ahead", desc := "(IIZ)I" } : MethodName)) ∈ gTbl := lw_memk tk_7 138 rfl rfl
theorem wd_1579 : (Cond.code ({ cls := "CribLine", name := "ahead", desc := "(IIZ)I" } : MethodName) prog_1_method_63_code (4 : Nat) (Option.some ClassFile.FieldType.int)) ∈ gTbl := lw_memk tk_7 139 rfl rfl
theorem wd_1580 : (Cond.methodLink "CribLine" (382 : Nat) ({ cls := "CribLine$Days", name := "ageAhead", desc := "(IIZ)I" } : MethodName)) ∈ gTbl := lw_memk tk_7 140 rfl rfl
theorem wd_1581 : (Cond.instanceMethod ({ cls := "CribLine$Days", name := "ageAhead", desc := "(IIZ)I" } : MethodName)) ∈ gTbl := lw_memk tk_7 141 rfl rfl
theorem wd_1582 : (Cond.selects "CribLine$Days" ({ cls := "CribLine$Days", name := "ageAhead", desc := "(IIZ)I" } : MethodName) ({ cls := "CribLine$Days", name := "ageAhead", desc := "(IIZ)I" } : MethodName)) ∈ gTbl := lw_memk tk_7 142 rfl rfl
theorem wd_1583 : (Cond.code ({ cls := "CribLine$Days", name := "ageAhead", desc := "(IIZ)I" } : MethodName) prog_3_method_5_code (5 : Nat) (Option.some ClassFile.FieldType.int)) ∈ gTbl := lw_memk tk_7 143 rfl rfl
theorem wd_1584 : (Cond.methodLink "CribLineLaw" (341 : Nat) ({ cls := "CribLineLaw", name := "trial", desc := "(LCribLine;IZ[J)I" } : MethodName)) ∈ gTbl := lw_memk tk_7 144 rfl rfl
theorem wd_1585 : (Cond.static ({ cls := "CribLineLaw", name := "trial", desc := "(LCribLine;IZ[J)I" } : MethodName)) ∈ gTbl := lw_memk tk_7 145 rfl rfl
theorem wd_1586 : (Cond.codeWith ({ cls := "CribLineLaw", name := "trial", desc := "(LCribLine;IZ[J)I" } : MethodName) method_39_code (5 : Nat) (Option.some ClassFile.FieldType.int) [((0 : Nat), (10 : Nat), (13 : Nat), (13 : Nat))]) ∈ gTbl := lw_memk tk_7 146 rfl rfl
theorem wd_1587 : (Cond.methodLink "CribLineLaw" (135 : Nat) ({ cls := "CribLine", name := "trial", desc := "(IZ)I" } : MethodName)) ∈ gTbl := lw_memk tk_7 147 rfl rfl
theorem wd_1588 : (Cond.instanceMethod ({ cls := "CribLine", name := "trial", desc := "(IZ)I" } : MethodName)) ∈ gTbl := lw_memk tk_7 148 rfl rfl
theorem wd_1589 : (Cond.selects "CribLine" ({ cls := "CribLine", name := "trial", desc := "(IZ)I" } : MethodName) ({ cls := "CribLine", name := "trial", desc := "(IZ)I" } : MethodName)) ∈ gTbl := lw_memk tk_7 149 rfl rfl
theorem wd_1590 : (Cond.code ({ cls := "CribLine", name := "trial", desc := "(IZ)I" } : MethodName) prog_1_method_64_code (3 : Nat) (Option.some ClassFile.FieldType.int)) ∈ gTbl := lw_memk tk_7 150 rfl rfl
theorem wd_1591 : (Cond.methodLink "CribLine" (385 : Nat) ({ cls := "CribLine$Days", name := "tried", desc := "(IZ)I" } : MethodName)) ∈ gTbl := lw_memk tk_7 151 rfl rfl
theorem wd_1592 : (Cond.instanceMethod ({ cls := "CribLine$Days", name := "tried", desc := "(IZ)I" } : MethodName)) ∈ gTbl := lw_memk tk_7 152 rfl rfl
theorem wd_1593 : (Cond.selects "CribLine$Days" ({ cls := "CribLine$Days", name := "tried", desc := "(IZ)I" } : MethodName) ({ cls := "CribLine$Days", name := "tried", desc := "(IZ)I" } : MethodName)) ∈ gTbl := lw_memk tk_7 153 rfl rfl
theorem wd_1594 : (Cond.code ({ cls := "CribLine$Days", name := "tried", desc := "(IZ)I" } : MethodName) prog_3_method_12_code (3 : Nat) (Option.some ClassFile.FieldType.int)) ∈ gTbl := lw_memk tk_7 154 rfl rfl
theorem wd_1595 : (Cond.methodLink "CribLine$Days" (106 : Nat) ({ cls := "CribLine$Days", name := "pass", desc := "(LCribLine$Family;I)I" } : MethodName)) ∈ gTbl := lw_memk tk_7 155 rfl rfl
theorem wd_1596 : (Cond.methodLink "CribLine$Days" (110 : Nat) ({ cls := "CribLine$Family", name := "agesTogether", desc := "()I" } : MethodName)) ∈ gTbl := lw_memk tk_7 156 rfl rfl
theorem wd_1597 : (Cond.methodLink "CribLineLaw" (344 : Nat) ({ cls := "CribLineLaw", name := "span", desc := "(LCribLine;IZ[J)I" } : MethodName)) ∈ gTbl := lw_memk tk_7 157 rfl rfl
theorem wd_1598 : (Cond.static ({ cls := "CribLineLaw", name := "span", desc := "(LCribLine;IZ[J)I" } : MethodName)) ∈ gTbl := lw_memk tk_7 158 rfl rfl
theorem wd_1599 : (Cond.codeWith ({ cls := "CribLineLaw", name := "span", desc := "(LCribLine;IZ[J)I" } : MethodName) method_40_code (5 : Nat) (Option.some ClassFile.FieldType.int) [((0 : Nat), (10 : Nat), (13 : Nat), (13 : Nat))]) ∈ gTbl := lw_memk tk_7 159 rfl rfl
theorem wd_1600 : (Cond.methodLink "CribLineLaw" (138 : Nat) ({ cls := "CribLine", name := "span", desc := "(IZ)I" } : MethodName)) ∈ gTbl := lw_memk tk_7 160 rfl rfl
theorem wd_1601 : (Cond.instanceMethod ({ cls := "CribLine", name := "span", desc := "(IZ)I" } : MethodName)) ∈ gTbl := lw_memk tk_7 161 rfl rfl
theorem wd_1602 : (Cond.selects "CribLine" ({ cls := "CribLine", name := "span", desc := "(IZ)I" } : MethodName) ({ cls := "CribLine", name := "span", desc := "(IZ)I" } : MethodName)) ∈ gTbl := lw_memk tk_7 162 rfl rfl
theorem wd_1603 : (Cond.code ({ cls := "CribLine", name := "span", desc := "(IZ)I" } : MethodName) prog_1_method_65_code (3 : Nat) (Option.some ClassFile.FieldType.int)) ∈ gTbl := lw_memk tk_7 163 rfl rfl
theorem wd_1604 : (Cond.methodLink "CribLine" (388 : Nat) ({ cls := "CribLine$Days", name := "spanned", desc := "(IZ)I" } : MethodName)) ∈ gTbl := lw_memk tk_7 164 rfl rfl
theorem wd_1605 : (Cond.instanceMethod ({ cls := "CribLine$Days", name := "spanned", desc := "(IZ)I" } : MethodName)) ∈ gTbl := lw_memk tk_7 165 rfl rfl
theorem wd_1606 : (Cond.selects "CribLine$Days" ({ cls := "CribLine$Days", name := "spanned", desc := "(IZ)I" } : MethodName) ({ cls := "CribLine$Days", name := "spanned", desc := "(IZ)I" } : MethodName)) ∈ gTbl := lw_memk tk_7 166 rfl rfl
theorem wd_1607 : (Cond.code ({ cls := "CribLine$Days", name := "spanned", desc := "(IZ)I" } : MethodName) prog_3_method_13_code (6 : Nat) (Option.some ClassFile.FieldType.int)) ∈ gTbl := lw_memk tk_7 167 rfl rfl
theorem wd_1608 : (Cond.methodLink "CribLineLaw" (347 : Nat) ({ cls := "CribLineLaw", name := "led", desc := "(LCribLine;IZ[J)I" } : MethodName)) ∈ gTbl := lw_memk tk_7 168 rfl rfl
theorem wd_1609 : (Cond.static ({ cls := "CribLineLaw", name := "led", desc := "(LCribLine;IZ[J)I" } : MethodName)) ∈ gTbl := lw_memk tk_7 169 rfl rfl
theorem wd_1610 : (Cond.codeWith ({ cls := "CribLineLaw", name := "led", desc := "(LCribLine;IZ[J)I" } : MethodName) method_41_code (5 : Nat) (Option.some ClassFile.FieldType.int) [((0 : Nat), (10 : Nat), (13 : Nat), (24 : Nat))]) ∈ gTbl := lw_memk tk_7 170 rfl rfl
theorem wd_1611 : (Cond.methodLink "CribLineLaw" (141 : Nat) ({ cls := "CribLine", name := "led", desc := "(IZ)I" } : MethodName)) ∈ gTbl := lw_memk tk_7 171 rfl rfl
theorem wd_1612 : (Cond.instanceMethod ({ cls := "CribLine", name := "led", desc := "(IZ)I" } : MethodName)) ∈ gTbl := lw_memk tk_7 172 rfl rfl
theorem wd_1613 : (Cond.selects "CribLine" ({ cls := "CribLine", name := "led", desc := "(IZ)I" } : MethodName) ({ cls := "CribLine", name := "led", desc := "(IZ)I" } : MethodName)) ∈ gTbl := lw_memk tk_7 173 rfl rfl
theorem wd_1614 : (Cond.code ({ cls := "CribLine", name := "led", desc := "(IZ)I" } : MethodName) prog_1_method_66_code (3 : Nat) (Option.some ClassFile.FieldType.int)) ∈ gTbl := lw_memk tk_7 174 rfl rfl
theorem wd_1615 : (Cond.methodLink "CribLine" (391 : Nat) ({ cls := "CribLine$Log", name := "latestDayTo", desc := "(I)I" } : MethodName)) ∈ gTbl := lw_memk tk_7 175 rfl rfl
theorem wd_1616 : (Cond.instanceMethod ({ cls := "CribLine$Log", name := "latestDayTo", desc := "(I)I" } : MethodName)) ∈ gTbl := lw_memk tk_7 176 rfl rfl
theorem wd_1617 : (Cond.selects "CribLine$Log" ({ cls := "CribLine$Log", name := "latestDayTo", desc := "(I)I" } : MethodName) ({ cls := "CribLine$Log", name := "latestDayTo", desc := "(I)I" } : MethodName)) ∈ gTbl := lw_memk tk_7 177 rfl rfl
theorem wd_1618 : (Cond.code ({ cls := "CribLine$Log", name := "latestDayTo", desc := "(I)I" } : MethodName) prog_8_method_7_code (3 : Nat) (Option.some ClassFile.FieldType.int)) ∈ gTbl := lw_memk tk_7 178 rfl rfl
theorem wd_1619 : (Cond.methodLink "CribLine" (394 : Nat) ({ cls := "CribLine$Log", name := "rowsTo", desc := "(I)I" } : MethodName)) ∈ gTbl := lw_memk tk_7 179 rfl rfl
theorem wd_1620 : (Cond.instanceMethod ({ cls := "CribLine$Log", name := "rowsTo", desc := "(I)I" } : MethodName)) ∈ gTbl := lw_memk tk_7 180 rfl rfl
theorem wd_1621 : (Cond.selects "CribLine$Log" ({ cls := "CribLine$Log", name := "rowsTo", desc := "(I)I" } : MethodName) ({ cls := "CribLine$Log", name := "rowsTo", desc := "(I)I" } : MethodName)) ∈ gTbl := lw_memk tk_7 181 rfl rfl
theorem wd_1622 : (Cond.code ({ cls := "CribLine$Log", name := "rowsTo", desc := "(I)I" } : MethodName) prog_8_method_6_code (4 : Nat) (Option.some ClassFile.FieldType.int)) ∈ gTbl := lw_memk tk_7 182 rfl rfl
theorem wd_1623 : (Cond.methodLink "CribLineLaw" (350 : Nat) ({ cls := "CribLineLaw", name := "log", desc := "(LCribLine;II[J)I" } : MethodName)) ∈ gTbl := lw_memk tk_7 183 rfl rfl
theorem wd_1624 : (Cond.static ({ cls := "CribLineLaw", name := "log", desc := "(LCribLine;II[J)I" } : MethodName)) ∈ gTbl := lw_memk tk_7 184 rfl rfl
theorem wd_1625 : (Cond.codeWith ({ cls := "CribLineLaw", name := "log", desc := "(LCribLine;II[J)I" } : MethodName) method_42_code (5 : Nat) (Option.some ClassFile.FieldType.int) [((0 : Nat), (10 : Nat), (13 : Nat), (26 : Nat))]) ∈ gTbl := lw_memk tk_7 185 rfl rfl
theorem wd_1626 : (Cond.methodLink "CribLineLaw" (144 : Nat) ({ cls := "CribLine", name := "log", desc := "(II)I" } : MethodName)) ∈ gTbl := lw_memk tk_7 186 rfl rfl
theorem wd_1627 : (Cond.instanceMethod ({ cls := "CribLine", name := "log", desc := "(II)I" } : MethodName)) ∈ gTbl := lw_memk tk_7 187 rfl rfl
theorem wd_1628 : (Cond.selects "CribLine" ({ cls := "CribLine", name := "log", desc := "(II)I" } : MethodName) ({ cls := "CribLine", name := "log", desc := "(II)I" } : MethodName)) ∈ gTbl := lw_memk tk_7 188 rfl rfl
theorem wd_1629 : (Cond.code ({ cls := "CribLine", name := "log", desc := "(II)I" } : MethodName) prog_1_method_67_code (3 : Nat) (Option.some ClassFile.FieldType.int)) ∈ gTbl := lw_memk tk_7 189 rfl rfl
theorem wd_1630 : (Cond.methodLink "CribLine" (397 : Nat) ({ cls := "CribLine$Log", name := "cell", desc := "(II)I" } : MethodName)) ∈ gTbl := lw_memk tk_7 190 rfl rfl
theorem wd_1631 : (Cond.methodLink "CribLineLaw" (166 : Nat) ({ cls := "CribLineModel", name := "thrown", desc := "()I" } : MethodName)) ∈ gTbl := lw_memk tk_7 191 rfl rfl
theorem wd_1632 : (Cond.instanceMethod ({ cls := "CribLineModel", name := "thrown", desc := "()I" } : MethodName)) ∈ gTbl := lw_memk tk_7 192 rfl rfl
theorem wd_1633 : (Cond.selects "CribLineModel" ({ cls := "CribLineModel", name := "thrown", desc := "()I" } : MethodName) ({ cls := "CribLineModel", name := "thrown", desc := "()I" } : MethodName)) ∈ gTbl := lw_memk tk_7 193 rfl rfl
theorem wd_1634 : (Cond.code ({ cls := "CribLineModel", name := "thrown", desc := "()I" } : MethodName) prog_14_method_1_code (1 : Nat) (Option.some ClassFile.FieldType.int)) ∈ gTbl := lw_memk tk_7 194 rfl rfl
theorem wd_1635 : (Cond.classLink "CribLineLaw" (148 : Nat) "CribLineModel") ∈ gTbl := lw_memk tk_7 195 rfl rfl
theorem wd_1636 : (Cond.instantiable "CribLineModel" (27 : Nat)) ∈ gTbl := lw_memk tk_7 196 rfl rfl
theorem wd_1637 : (Cond.methodLink "CribLineLaw" (150 : Nat) ({ cls := "CribLineModel", name := "<init>", desc := "()V" } : MethodName)) ∈ gTbl := lw_memk tk_7 197 rfl rfl
theorem wd_1638 : (Cond.instanceMethod ({ cls := "CribLineModel", name := "<init>", desc := "()V" } : MethodName)) ∈ gTbl := lw_memk tk_7 198 rfl rfl
theorem wd_1639 : (Cond.code ({ cls := "CribLineModel", name := "<init>", desc := "()V" } : MethodName) prog_14_method_5_code (1 : Nat) (Option.none : Option ClassFile.FieldType)) ∈ gTbl := lw_memk tk_7 199 rfl rfl
theorem wd_1640 : (Cond.methodLink "CribLineModel" (7 : Nat) ({ cls := "java/lang/Object", name := "<init>", desc := "()V" } : MethodName)) ∈ gTbl := lw_memk tk_7 200 rfl rfl
theorem wd_1641 : (Cond.fieldLink "CribLineModel" (3 : Nat) "CribLineModel" "thrown" "I") ∈ gTbl := lw_memk tk_7 201 rfl rfl
theorem wd_1642 : (Cond.fieldLink "CribLineModel" (13 : Nat) "CribLineModel" "world" "[I") ∈ gTbl := lw_memk tk_7 202 rfl rfl
theorem wd_1643 : (Cond.fieldLink "CribLineModel" (17 : Nat) "CribLineModel" "image" "[I") ∈ gTbl := lw_memk tk_7 203 rfl rfl
theorem wd_1644 : (Cond.fieldLink "CribLineModel" (20 : Nat) "CribLineModel" "earlier" "[I") ∈ gTbl := lw_memk tk_7 204 rfl rfl
theorem wd_1645 : (Cond.fieldLink "CribLineModel" (23 : Nat) "CribLineModel" "trial" "[I") ∈ gTbl := lw_memk tk_7 205 rfl rfl
theorem wd_1646 : (Cond.fieldLink "CribLineModel" (26 : Nat) "CribLineModel" "acts" "[I") ∈ gTbl := lw_memk tk_7 206 rfl rfl
theorem wd_1647 : (Cond.fieldLink "CribLineModel" (67 : Nat) "CribLineModel" "hasImage" "Z") ∈ gTbl := lw_memk tk_7 207 rfl rfl
theorem wd_1648 : (Cond.fieldLink "CribLineModel" (71 : Nat) "CribLineModel" "remembered" "I") ∈ gTbl := lw_memk tk_7 208 rfl rfl
theorem wd_1649 : (Cond.fieldLink "CribLineModel" (29 : Nat) "CribLineModel" "tape" "[B") ∈ gTbl := lw_memk tk_7 209 rfl rfl
theorem wd_1650 : (Cond.fieldLink "CribLineModel" (97 : Nat) "CribLineModel" "taped" "I") ∈ gTbl := lw_memk tk_7 210 rfl rfl
theorem wd_1651 : (Cond.fieldLink "CribLineModel" (100 : Nat) "CribLineModel" "point" "I") ∈ gTbl := lw_memk tk_7 211 rfl rfl
theorem wd_1652 : (Cond.fieldLink "CribLineModel" (103 : Nat) "CribLineModel" "end" "I") ∈ gTbl := lw_memk tk_7 212 rfl rfl
theorem wd_1653 : (Cond.fieldLink "CribLineModel" (109 : Nat) "CribLineModel" "begin" "I") ∈ gTbl := lw_memk tk_7 213 rfl rfl
theorem wd_1654 : (Cond.fieldLink "CribLineModel" (242 : Nat) "CribLineModel" "deep" "I") ∈ gTbl := lw_memk tk_7 214 rfl rfl
theorem wd_1655 : (Cond.fieldLink "CribLineModel" (33 : Nat) "CribLineModel" "faultAt" "I") ∈ gTbl := lw_memk tk_7 215 rfl rfl
theorem wd_1656 : (Cond.fieldLink "CribLineModel" (36 : Nat) "CribLineModel" "five" "[I") ∈ gTbl := lw_memk tk_7 216 rfl rfl
theorem wd_1657 : (Cond.fieldLink "CribLineModel" (215 : Nat) "CribLineModel" "steps" "I") ∈ gTbl := lw_memk tk_7 217 rfl rfl
theorem wd_1658 : (Cond.fieldLink "CribLineModel" (39 : Nat) "CribLineModel" "value" "[I") ∈ gTbl := lw_memk tk_7 218 rfl rfl
theorem wd_1659 : (Cond.fieldLink "CribLineModel" (42 : Nat) "CribLineModel" "words" "[I") ∈ gTbl := lw_memk tk_7 219 rfl rfl
theorem wd_1660 : (Cond.fieldLink "CribLineModel" (45 : Nat) "CribLineModel" "firsts" "[I") ∈ gTbl := lw_memk tk_7 220 rfl rfl
theorem wd_1661 : (Cond.fieldLink "CribLineModel" (48 : Nat) "CribLineModel" "found" "[I") ∈ gTbl := lw_memk tk_7 221 rfl rfl
theorem wd_1662 : (Cond.fieldLink "CribLineModel" (391 : Nat) "CribLineModel" "finding" "I") ∈ gTbl := lw_memk tk_7 222 rfl rfl
theorem wd_1663 : (Cond.fieldLink "CribLineModel" (51 : Nat) "CribLineModel" "seen" "[I") ∈ gTbl := lw_memk tk_7 223 rfl rfl
theorem wd_1664 : (Cond.fieldLink "CribLineModel" (54 : Nat) "CribLineModel" "worth" "[I") ∈ gTbl := lw_memk tk_7 224 rfl rfl
theorem wd_1665 : (Cond.fieldLink "CribLineModel" (57 : Nat) "CribLineModel" "mate" "[I") ∈ gTbl := lw_memk tk_7 225 rfl rfl
theorem wd_1666 : (Cond.fieldLink "CribLineModel" (60 : Nat) "CribLineModel" "refused" "[I") ∈ gTbl := lw_memk tk_7 226 rfl rfl
theorem wd_1667 : (Cond.fieldLink "CribLineModel" (63 : Nat) "CribLineModel" "ways" "[J") ∈ gTbl := lw_memk tk_7 227 rfl rfl
theorem wd_1723 : (Cond.arrayClass ClassFile.FieldType.long) ∈ gTbl := lw_memk tk_8 43 rfl rfl
theorem wd_1724 : (Cond.methodLink "CribLineLaw" (365 : Nat) ({ cls := "CribLineModel", name := "image", desc := "()V" } : MethodName)) ∈ gTbl := lw_memk tk_8 44 rfl rfl
theorem wd_1725 : (Cond.instanceMethod ({ cls := "CribLineModel", name := "image", desc := "()V" } : MethodName)) ∈ gTbl := lw_memk tk_8 45 rfl rfl
theorem wd_1726 : (Cond.selects "CribLineModel" ({ cls := "CribLineModel", name := "image", desc := "()V" } : MethodName) ({ cls := "CribLineModel", name := "image", desc := "()V" } : MethodName)) ∈ gTbl := lw_memk tk_8 46 rfl rfl
theorem wd_1727 : (Cond.code ({ cls := "CribLineModel", name := "image", desc := "()V" } : MethodName) prog_14_method_6_code (2 : Nat) (Option.none : Option ClassFile.FieldType)) ∈ gTbl := lw_memk tk_8 47 rfl rfl
theorem wd_1728 : (Cond.methodLink "CribLineLaw" (369 : Nat) ({ cls := "CribLineModel", name := "back", desc := "()Z" } : MethodName)) ∈ gTbl := lw_memk tk_8 48 rfl rfl
theorem wd_1729 : (Cond.instanceMethod ({ cls := "CribLineModel", name := "back", desc := "()Z" } : MethodName)) ∈ gTbl := lw_memk tk_8 49 rfl rfl
theorem wd_1730 : (Cond.selects "CribLineModel" ({ cls := "CribLineModel", name := "back", desc := "()Z" } : MethodName) ({ cls := "CribLineModel", name := "back", desc := "()Z" } : MethodName)) ∈ gTbl := lw_memk tk_8 50 rfl rfl
theorem wd_1731 : (Cond.code ({ cls := "CribLineModel", name := "back", desc := "()Z" } : MethodName) prog_14_method_7_code (2 : Nat) (Option.some ClassFile.FieldType.boolean)) ∈ gTbl := lw_memk tk_8 51 rfl rfl
theorem wd_1732 : (Cond.methodLink "CribLineLaw" (361 : Nat) ({ cls := "CribLineModel", name := "undo", desc := "()Z" } : MethodName)) ∈ gTbl := lw_memk tk_8 52 rfl rfl
theorem wd_1733 : (Cond.instanceMethod ({ cls := "CribLineModel", name := "undo", desc := "()Z" } : MethodName)) ∈ gTbl := lw_memk tk_8 53 rfl rfl
theorem wd_1734 : (Cond.selects "CribLineModel" ({ cls := "CribLineModel", name := "undo", desc := "()Z" } : MethodName) ({ cls := "CribLineModel", name := "undo", desc := "()Z" } : MethodName)) ∈ gTbl := lw_memk tk_8 54 rfl rfl
theorem wd_1735 : (Cond.code ({ cls := "CribLineModel", name := "undo", desc := "()Z" } : MethodName) prog_14_method_9_code (2 : Nat) (Option.some ClassFile.FieldType.boolean)) ∈ gTbl := lw_memk tk_8 55 rfl rfl
theorem wd_1736 : (Cond.methodLink "CribLineLaw" (155 : Nat) ({ cls := "CribLineModel", name := "feed", desc := "(IIIII)I" } : MethodName)) ∈ gTbl := lw_memk tk_8 56 rfl rfl
theorem wd_1737 : (Cond.instanceMethod ({ cls := "CribLineModel", name := "feed", desc := "(IIIII)I" } : MethodName)) ∈ gTbl := lw_memk tk_8 57 rfl rfl
theorem wd_1738 : (Cond.selects "CribLineModel" ({ cls := "CribLineModel", name := "feed", desc := "(IIIII)I" } : MethodName) ({ cls := "CribLineModel", name := "feed", desc := "(IIIII)I" } : MethodName)) ∈ gTbl := lw_memk tk_8 58 rfl rfl
theorem wd_1739 : (Cond.code ({ cls := "CribLineModel", name := "feed", desc := "(IIIII)I" } : MethodName) prog_14_method_20_code (7 : Nat) (Option.some ClassFile.FieldType.int)) ∈ gTbl := lw_memk tk_8 59 rfl rfl
theorem wd_1740 : (Cond.methodLink "CribLineLaw" (159 : Nat) ({ cls := "CribLineModel", name := "end", desc := "(I)Z" } : MethodName)) ∈ gTbl := lw_memk tk_8 60 rfl rfl
theorem wd_1741 : (Cond.instanceMethod ({ cls := "CribLineModel", name := "end", desc := "(I)Z" } : MethodName)) ∈ gTbl := lw_memk tk_8 61 rfl rfl
theorem wd_1742 : (Cond.selects "CribLineModel" ({ cls := "CribLineModel", name := "end", desc := "(I)Z" } : MethodName) ({ cls := "CribLineModel", name := "end", desc := "(I)Z" } : MethodName)) ∈ gTbl := lw_memk tk_8 62 rfl rfl
theorem wd_1743 : (Cond.code ({ cls := "CribLineModel", name := "end", desc := "(I)Z" } : MethodName) prog_14_method_21_code (2 : Nat) (Option.some ClassFile.FieldType.boolean)) ∈ gTbl := lw_memk tk_8 63 rfl rfl
theorem wd_1744 : (Cond.methodLink "CribLineLaw" (175 : Nat) ({ cls := "CribLineModel", name := "fault", desc := "()I" } : MethodName)) ∈ gTbl := lw_memk tk_8 64 rfl rfl
theorem wd_1745 : (Cond.instanceMethod ({ cls := "CribLineModel", name := "fault", desc := "()I" } : MethodName)) ∈ gTbl := lw_memk tk_8 65 rfl rfl
theorem wd_1746 : (Cond.selects "CribLineModel" ({ cls := "CribLineModel", name := "fault", desc := "()I" } : MethodName) ({ cls := "CribLineModel", name := "fault", desc := "()I" } : MethodName)) ∈ gTbl := lw_memk tk_8 66 rfl rfl
theorem wd_1747 : (Cond.code ({ cls := "CribLineModel", name := "fault", desc := "()I" } : MethodName) prog_14_method_30_code (1 : Nat) (Option.some ClassFile.FieldType.int)) ∈ gTbl := lw_memk tk_8 67 rfl rfl
theorem wd_1748 : (Cond.methodLink "CribLineLaw" (165 : Nat) ({ cls := "CribLineModel", name := "family", desc := "()I" } : MethodName)) ∈ gTbl := lw_memk tk_8 68 rfl rfl
theorem wd_1749 : (Cond.instanceMethod ({ cls := "CribLineModel", name := "family", desc := "()I" } : MethodName)) ∈ gTbl := lw_memk tk_8 69 rfl rfl
theorem wd_1750 : (Cond.selects "CribLineModel" ({ cls := "CribLineModel", name := "family", desc := "()I" } : MethodName) ({ cls := "CribLineModel", name := "family", desc := "()I" } : MethodName)) ∈ gTbl := lw_memk tk_8 70 rfl rfl
theorem wd_1751 : (Cond.code ({ cls := "CribLineModel", name := "family", desc := "()I" } : MethodName) prog_14_method_54_code (3 : Nat) (Option.some ClassFile.FieldType.int)) ∈ gTbl := lw_memk tk_8 71 rfl rfl
theorem wd_1752 : (Cond.methodLink "CribLineModel" (287 : Nat) ({ cls := "CribLineModel", name := "readAll", desc := "(Z)I" } : MethodName)) ∈ gTbl := lw_memk tk_8 72 rfl rfl
theorem wd_1754 : (Cond.instanceMethod ({ cls := "CribLineModel", name := "readAll", desc := "(Z)I" } : MethodName)) ∈ gTbl := lw_memk tk_8 74 rfl rfl
theorem wd_1755 : (Cond.code ({ cls := "CribLineModel", name := "readAll", desc := "(Z)I" } : MethodName) prog_14_method_53_code (3 : Nat) (Option.some ClassFile.FieldType.int)) ∈ gTbl := lw_memk tk_8 75 rfl rfl
theorem wd_1756 : (Cond.methodLink "CribLineModel" (280 : Nat) ({ cls := "CribLineModel", name := "uses", desc := "()V" } : MethodName)) ∈ gTbl := lw_memk tk_8 76 rfl rfl
theorem wd_1758 : (Cond.instanceMethod ({ cls := "CribLineModel", name := "uses", desc := "()V" } : MethodName)) ∈ gTbl := lw_memk tk_8 78 rfl rfl
theorem wd_1759 : (Cond.code ({ cls := "CribLineModel", name := "uses", desc := "()V" } : MethodName) prog_14_method_31_code (1 : Nat) (Option.none : Option ClassFile.FieldType)) ∈ gTbl := lw_memk tk_8 79 rfl rfl
theorem wd_1760 : (Cond.methodLink "CribLineModel" (112 : Nat) ({ cls := "CribLineModel", name := "blanks", desc := "()V" } : MethodName)) ∈ gTbl := lw_memk tk_8 80 rfl rfl
theorem wd_1762 : (Cond.instanceMethod ({ cls := "CribLineModel", name := "blanks", desc := "()V" } : MethodName)) ∈ gTbl := lw_memk tk_8 82 rfl rfl
theorem wd_1763 : (Cond.code ({ cls := "CribLineModel", name := "blanks", desc := "()V" } : MethodName) prog_14_method_23_code (1 : Nat) (Option.none : Option ClassFile.FieldType)) ∈ gTbl := lw_memk tk_8 83 rfl rfl
theorem wd_1764 : (Cond.methodLink "CribLineModel" (106 : Nat) ({ cls := "CribLineModel", name := "isAt", desc := "(II)Z" } : MethodName)) ∈ gTbl := lw_memk tk_8 84 rfl rfl
theorem wd_1766 : (Cond.instanceMethod ({ cls := "CribLineModel", name := "isAt", desc := "(II)Z" } : MethodName)) ∈ gTbl := lw_memk tk_8 86 rfl rfl
theorem wd_1767 : (Cond.code ({ cls := "CribLineModel", name := "isAt", desc := "(II)Z" } : MethodName) prog_14_method_22_code (3 : Nat) (Option.some ClassFile.FieldType.boolean)) ∈ gTbl := lw_memk tk_8 87 rfl rfl
theorem wd_1768 : (Cond.methodLink "CribLineModel" (283 : Nat) ({ cls := "CribLineModel", name := "readLine", desc := "(ZI)Z" } : MethodName)) ∈ gTbl := lw_memk tk_8 88 rfl rfl
theorem wd_1770 : (Cond.instanceMethod ({ cls := "CribLineModel", name := "readLine", desc := "(ZI)Z" } : MethodName)) ∈ gTbl := lw_memk tk_8 90 rfl rfl
theorem wd_1771 : (Cond.code ({ cls := "CribLineModel", name := "readLine", desc := "(ZI)Z" } : MethodName) prog_14_method_52_code (3 : Nat) (Option.some ClassFile.FieldType.boolean)) ∈ gTbl := lw_memk tk_8 91 rfl rfl
theorem wd_1772 : (Cond.methodLink "CribLineModel" (124 : Nat) ({ cls := "CribLineModel", name := "letters", desc := "()V" } : MethodName)) ∈ gTbl := lw_memk tk_8 92 rfl rfl
theorem wd_1774 : (Cond.instanceMethod ({ cls := "CribLineModel", name := "letters", desc := "()V" } : MethodName)) ∈ gTbl := lw_memk tk_8 94 rfl rfl
theorem wd_1775 : (Cond.code ({ cls := "CribLineModel", name := "letters", desc := "()V" } : MethodName) prog_14_method_24_code (1 : Nat) (Option.none : Option ClassFile.FieldType)) ∈ gTbl := lw_memk tk_8 95 rfl rfl
theorem wd_1776 : (Cond.methodLink "CribLineModel" (274 : Nat) ({ cls := "CribLineModel", name := "readFamilyLine", desc := "()Z" } : MethodName)) ∈ gTbl := lw_memk tk_8 96 rfl rfl
theorem wd_1778 : (Cond.instanceMethod ({ cls := "CribLineModel", name := "readFamilyLine", desc := "()Z" } : MethodName)) ∈ gTbl := lw_memk tk_8 98 rfl rfl
theorem wd_1779 : (Cond.code ({ cls := "CribLineModel", name := "readFamilyLine", desc := "()Z" } : MethodName) prog_14_method_42_code (1 : Nat) (Option.some ClassFile.FieldType.boolean)) ∈ gTbl := lw_memk tk_8 99 rfl rfl
theorem wd_1781 : (Cond.methodLink "CribLineModel" (127 : Nat) ({ cls := "CribLineModel", name := "isWord", desc := "(Ljava/lang/String;)Z" } : MethodName)) ∈ gTbl := lw_memk tk_8 101 rfl rfl
theorem wd_1783 : (Cond.instanceMethod ({ cls := "CribLineModel", name := "isWord", desc := "(Ljava/lang/String;)Z" } : MethodName)) ∈ gTbl := lw_memk tk_8 103 rfl rfl
theorem wd_1784 : (Cond.code ({ cls := "CribLineModel", name := "isWord", desc := "(Ljava/lang/String;)Z" } : MethodName) prog_14_method_25_code (4 : Nat) (Option.some ClassFile.FieldType.boolean)) ∈ gTbl := lw_memk tk_8 104 rfl rfl
theorem wd_1785 : (Cond.methodLink "CribLineModel" (115 : Nat) ({ cls := "java/lang/String", name := "length", desc := "()I" } : MethodName)) ∈ gTbl := lw_memk tk_8 105 rfl rfl
theorem wd_1786 : (Cond.methodLink "CribLineModel" (120 : Nat) ({ cls := "java/lang/String", name := "charAt", desc := "(I)C" } : MethodName)) ∈ gTbl := lw_memk tk_8 106 rfl rfl
theorem wd_1787 : (Cond.methodLink "CribLineModel" (187 : Nat) ({ cls := "CribLineModel", name := "readPerson", desc := "()Z" } : MethodName)) ∈ gTbl := lw_memk tk_8 107 rfl rfl
theorem wd_1789 : (Cond.instanceMethod ({ cls := "CribLineModel", name := "readPerson", desc := "()Z" } : MethodName)) ∈ gTbl := lw_memk tk_8 109 rfl rfl
theorem wd_1790 : (Cond.code ({ cls := "CribLineModel", name := "readPerson", desc := "()Z" } : MethodName) prog_14_method_35_code (8 : Nat) (Option.some ClassFile.FieldType.boolean)) ∈ gTbl := lw_memk tk_8 110 rfl rfl
theorem wd_1791 : (Cond.methodLink "CribLineModel" (78 : Nat) ({ cls := "CribLineModel", name := "people", desc := "()I" } : MethodName)) ∈ gTbl := lw_memk tk_8 111 rfl rfl
theorem wd_1793 : (Cond.instanceMethod ({ cls := "CribLineModel", name := "people", desc := "()I" } : MethodName)) ∈ gTbl := lw_memk tk_8 113 rfl rfl
theorem wd_1794 : (Cond.code ({ cls := "CribLineModel", name := "people", desc := "()I" } : MethodName) prog_14_method_10_code (1 : Nat) (Option.some ClassFile.FieldType.int)) ∈ gTbl := lw_memk tk_8 114 rfl rfl
theorem wd_1798 : (Cond.methodLink "CribLineModel" (144 : Nat) ({ cls := "CribLineModel", name := "after", desc := "(Ljava/lang/String;II)I" } : MethodName)) ∈ gTbl := lw_memk tk_8 118 rfl rfl
theorem wd_1800 : (Cond.instanceMethod ({ cls := "CribLineModel", name := "after", desc := "(Ljava/lang/String;II)I" } : MethodName)) ∈ gTbl := lw_memk tk_8 120 rfl rfl
theorem wd_1801 : (Cond.code ({ cls := "CribLineModel", name := "after", desc := "(Ljava/lang/String;II)I" } : MethodName) prog_14_method_29_code (4 : Nat) (Option.some ClassFile.FieldType.int)) ∈ gTbl := lw_memk tk_8 121 rfl rfl
theorem wd_1802 : (Cond.methodLink "CribLineModel" (131 : Nat) ({ cls := "CribLineModel", name := "number", desc := "(II)I" } : MethodName)) ∈ gTbl := lw_memk tk_8 122 rfl rfl
theorem wd_1804 : (Cond.instanceMethod ({ cls := "CribLineModel", name := "number", desc := "(II)I" } : MethodName)) ∈ gTbl := lw_memk tk_8 124 rfl rfl
theorem wd_1805 : (Cond.code ({ cls := "CribLineModel", name := "number", desc := "(II)I" } : MethodName) prog_14_method_28_code (4 : Nat) (Option.some ClassFile.FieldType.int)) ∈ gTbl := lw_memk tk_8 125 rfl rfl
theorem wd_1807 : (Cond.methodLink "CribLineModel" (149 : Nat) ({ cls := "CribLineModel", name := "told", desc := "(Ljava/lang/String;III)I" } : MethodName)) ∈ gTbl := lw_memk tk_8 127 rfl rfl
theorem wd_1809 : (Cond.instanceMethod ({ cls := "CribLineModel", name := "told", desc := "(Ljava/lang/String;III)I" } : MethodName)) ∈ gTbl := lw_memk tk_8 129 rfl rfl
theorem wd_1810 : (Cond.code ({ cls := "CribLineModel", name := "told", desc := "(Ljava/lang/String;III)I" } : MethodName) prog_14_method_33_code (6 : Nat) (Option.some ClassFile.FieldType.int)) ∈ gTbl := lw_memk tk_8 130 rfl rfl
theorem wd_1811 : (Cond.methodLink "CribLineModel" (134 : Nat) ({ cls := "CribLineModel", name := "passes", desc := "(Ljava/lang/String;)Z" } : MethodName)) ∈ gTbl := lw_memk tk_8 131 rfl rfl
theorem wd_1813 : (Cond.instanceMethod ({ cls := "CribLineModel", name := "passes", desc := "(Ljava/lang/String;)Z" } : MethodName)) ∈ gTbl := lw_memk tk_8 133 rfl rfl
theorem wd_1814 : (Cond.code ({ cls := "CribLineModel", name := "passes", desc := "(Ljava/lang/String;)Z" } : MethodName) prog_14_method_26_code (2 : Nat) (Option.some ClassFile.FieldType.boolean)) ∈ gTbl := lw_memk tk_8 134 rfl rfl
theorem wd_1815 : (Cond.constant "CribLineModel" (137 : Nat) (1000000 : Int32)) ∈ gTbl := lw_memk tk_8 135 rfl rfl
theorem wd_1819 : (Cond.methodLink "CribLineModel" (159 : Nat) ({ cls := "CribLineModel", name := "isBorn", desc := "(IIII)V" } : MethodName)) ∈ gTbl := lw_memk tk_8 139 rfl rfl
theorem wd_1821 : (Cond.instanceMethod ({ cls := "CribLineModel", name := "isBorn", desc := "(IIII)V" } : MethodName)) ∈ gTbl := lw_memk tk_8 141 rfl rfl
theorem wd_1822 : (Cond.code ({ cls := "CribLineModel", name := "isBorn", desc := "(IIII)V" } : MethodName) prog_14_method_34_code (6 : Nat) (Option.none : Option ClassFile.FieldType)) ∈ gTbl := lw_memk tk_8 142 rfl rfl
theorem wd_1823 : (Cond.methodLink "CribLineModel" (74 : Nat) ({ cls := "CribLineModel", name := "at", desc := "(II)I" } : MethodName)) ∈ gTbl := lw_memk tk_8 143 rfl rfl
theorem wd_1824 : (Cond.static ({ cls := "CribLineModel", name := "at", desc := "(II)I" } : MethodName)) ∈ gTbl := lw_memk tk_8 144 rfl rfl
theorem wd_1825 : (Cond.code ({ cls := "CribLineModel", name := "at", desc := "(II)I" } : MethodName) prog_14_method_11_code (2 : Nat) (Option.some ClassFile.FieldType.int)) ∈ gTbl := lw_memk tk_8 145 rfl rfl
theorem wd_1827 : (Cond.methodLink "CribLineModel" (193 : Nat) ({ cls := "CribLineModel", name := "readGoverns", desc := "()Z" } : MethodName)) ∈ gTbl := lw_memk tk_8 147 rfl rfl
theorem wd_1829 : (Cond.instanceMethod ({ cls := "CribLineModel", name := "readGoverns", desc := "()Z" } : MethodName)) ∈ gTbl := lw_memk tk_8 149 rfl rfl
theorem wd_1830 : (Cond.code ({ cls := "CribLineModel", name := "readGoverns", desc := "()Z" } : MethodName) prog_14_method_37_code (3 : Nat) (Option.some ClassFile.FieldType.boolean)) ∈ gTbl := lw_memk tk_8 150 rfl rfl
theorem wd_1831 : (Cond.methodLink "CribLineModel" (163 : Nat) ({ cls := "CribLineModel", name := "personTold", desc := "()I" } : MethodName)) ∈ gTbl := lw_memk tk_8 151 rfl rfl
theorem wd_1833 : (Cond.instanceMethod ({ cls := "CribLineModel", name := "personTold", desc := "()I" } : MethodName)) ∈ gTbl := lw_memk tk_8 153 rfl rfl
theorem wd_1834 : (Cond.code ({ cls := "CribLineModel", name := "personTold", desc := "()I" } : MethodName) prog_14_method_36_code (1 : Nat) (Option.some ClassFile.FieldType.int)) ∈ gTbl := lw_memk tk_8 154 rfl rfl
theorem wd_1836 : (Cond.methodLink "CribLineModel" (198 : Nat) ({ cls := "CribLineModel", name := "readWed", desc := "()Z" } : MethodName)) ∈ gTbl := lw_memk tk_8 156 rfl rfl
theorem wd_1838 : (Cond.instanceMethod ({ cls := "CribLineModel", name := "readWed", desc := "()Z" } : MethodName)) ∈ gTbl := lw_memk tk_8 158 rfl rfl
theorem wd_1839 : (Cond.code ({ cls := "CribLineModel", name := "readWed", desc := "()Z" } : MethodName) prog_14_method_40_code (3 : Nat) (Option.some ClassFile.FieldType.boolean)) ∈ gTbl := lw_memk tk_8 159 rfl rfl
theorem wd_1840 : (Cond.methodLink "CribLineModel" (173 : Nat) ({ cls := "CribLineModel", name := "mayWed", desc := "(II)Z" } : MethodName)) ∈ gTbl := lw_memk tk_8 160 rfl rfl
theorem wd_1842 : (Cond.instanceMethod ({ cls := "CribLineModel", name := "mayWed", desc := "(II)Z" } : MethodName)) ∈ gTbl := lw_memk tk_8 162 rfl rfl
theorem wd_1843 : (Cond.code ({ cls := "CribLineModel", name := "mayWed", desc := "(II)Z" } : MethodName) prog_14_method_38_code (3 : Nat) (Option.some ClassFile.FieldType.boolean)) ∈ gTbl := lw_memk tk_8 163 rfl rfl
theorem wd_1844 : (Cond.methodLink "CribLineModel" (86 : Nat) ({ cls := "CribLineModel", name := "of", desc := "(II)I" } : MethodName)) ∈ gTbl := lw_memk tk_8 164 rfl rfl
theorem wd_1846 : (Cond.instanceMethod ({ cls := "CribLineModel", name := "of", desc := "(II)I" } : MethodName)) ∈ gTbl := lw_memk tk_8 166 rfl rfl
theorem wd_1847 : (Cond.code ({ cls := "CribLineModel", name := "of", desc := "(II)I" } : MethodName) prog_14_method_12_code (3 : Nat) (Option.some ClassFile.FieldType.int)) ∈ gTbl := lw_memk tk_8 167 rfl rfl
theorem wd_1848 : (Cond.methodLink "CribLineModel" (166 : Nat) ({ cls := "CribLineModel", name := "isSingle", desc := "(I)Z" } : MethodName)) ∈ gTbl := lw_memk tk_8 168 rfl rfl
theorem wd_1850 : (Cond.instanceMethod ({ cls := "CribLineModel", name := "isSingle", desc := "(I)Z" } : MethodName)) ∈ gTbl := lw_memk tk_8 170 rfl rfl
theorem wd_1851 : (Cond.code ({ cls := "CribLineModel", name := "isSingle", desc := "(I)Z" } : MethodName) prog_14_method_18_code (2 : Nat) (Option.some ClassFile.FieldType.boolean)) ∈ gTbl := lw_memk tk_8 171 rfl rfl
theorem wd_1852 : (Cond.methodLink "CribLineModel" (170 : Nat) ({ cls := "CribLineModel", name := "areClose", desc := "(II)Z" } : MethodName)) ∈ gTbl := lw_memk tk_8 172 rfl rfl
theorem wd_1854 : (Cond.instanceMethod ({ cls := "CribLineModel", name := "areClose", desc := "(II)Z" } : MethodName)) ∈ gTbl := lw_memk tk_8 174 rfl rfl
theorem wd_1855 : (Cond.code ({ cls := "CribLineModel", name := "areClose", desc := "(II)Z" } : MethodName) prog_14_method_16_code (3 : Nat) (Option.some ClassFile.FieldType.boolean)) ∈ gTbl := lw_memk tk_8 175 rfl rfl
theorem wd_1856 : (Cond.methodLink "CribLineModel" (93 : Nat) ({ cls := "CribLineModel", name := "isParent", desc := "(II)Z" } : MethodName)) ∈ gTbl := lw_memk tk_8 176 rfl rfl
theorem wd_1858 : (Cond.instanceMethod ({ cls := "CribLineModel", name := "isParent", desc := "(II)Z" } : MethodName)) ∈ gTbl := lw_memk tk_8 178 rfl rfl
theorem wd_1859 : (Cond.code ({ cls := "CribLineModel", name := "isParent", desc := "(II)Z" } : MethodName) prog_14_method_15_code (3 : Nat) (Option.some ClassFile.FieldType.boolean)) ∈ gTbl := lw_memk tk_8 179 rfl rfl
theorem wd_1860 : (Cond.methodLink "CribLineModel" (176 : Nat) ({ cls := "CribLineModel", name := "weds", desc := "(II)V" } : MethodName)) ∈ gTbl := lw_memk tk_8 180 rfl rfl
theorem wd_1862 : (Cond.instanceMethod ({ cls := "CribLineModel", name := "weds", desc := "(II)V" } : MethodName)) ∈ gTbl := lw_memk tk_8 182 rfl rfl
theorem wd_1863 : (Cond.code ({ cls := "CribLineModel", name := "weds", desc := "(II)V" } : MethodName) prog_14_method_39_code (3 : Nat) (Option.none : Option ClassFile.FieldType)) ∈ gTbl := lw_memk tk_8 183 rfl rfl
theorem wd_1865 : (Cond.methodLink "CribLineModel" (203 : Nat) ({ cls := "CribLineModel", name := "greatestAge", desc := "()I" } : MethodName)) ∈ gTbl := lw_memk tk_8 185 rfl rfl
theorem wd_1867 : (Cond.instanceMethod ({ cls := "CribLineModel", name := "greatestAge", desc := "()I" } : MethodName)) ∈ gTbl := lw_memk tk_8 187 rfl rfl
theorem wd_1868 : (Cond.code ({ cls := "CribLineModel", name := "greatestAge", desc := "()I" } : MethodName) prog_14_method_41_code (3 : Nat) (Option.some ClassFile.FieldType.int)) ∈ gTbl := lw_memk tk_8 188 rfl rfl
theorem wd_1869 : (Cond.methodLink "CribLineModel" (180 : Nat) ({ cls := "java/lang/Math", name := "max", desc := "(II)I" } : MethodName)) ∈ gTbl := lw_memk tk_8 189 rfl rfl
theorem wd_1870 : (Cond.methodLink "CribLineModel" (206 : Nat) ({ cls := "CribLineModel", name := "readNumber", desc := "(III)Z" } : MethodName)) ∈ gTbl := lw_memk tk_8 190 rfl rfl
theorem wd_1872 : (Cond.instanceMethod ({ cls := "CribLineModel", name := "readNumber", desc := "(III)Z" } : MethodName)) ∈ gTbl := lw_memk tk_8 192 rfl rfl
theorem wd_1873 : (Cond.code ({ cls := "CribLineModel", name := "readNumber", desc := "(III)Z" } : MethodName) prog_14_method_32_code (5 : Nat) (Option.some ClassFile.FieldType.boolean)) ∈ gTbl := lw_memk tk_8 193 rfl rfl
theorem wd_1877 : (Cond.methodLink "CribLineModel" (277 : Nat) ({ cls := "CribLineModel", name := "readLawLine", desc := "(I)Z" } : MethodName)) ∈ gTbl := lw_memk tk_8 197 rfl rfl
theorem wd_1879 : (Cond.instanceMethod ({ cls := "CribLineModel", name := "readLawLine", desc := "(I)Z" } : MethodName)) ∈ gTbl := lw_memk tk_8 199 rfl rfl
theorem wd_1880 : (Cond.code ({ cls := "CribLineModel", name := "readLawLine", desc := "(I)Z" } : MethodName) prog_14_method_51_code (3 : Nat) (Option.some ClassFile.FieldType.boolean)) ∈ gTbl := lw_memk tk_8 200 rfl rfl
theorem wd_1885 : (Cond.methodLink "CribLineModel" (245 : Nat) ({ cls := "CribLineModel", name := "readCond", desc := "()Z" } : MethodName)) ∈ gTbl := lw_memk tk_8 205 rfl rfl
theorem wd_1887 : (Cond.instanceMethod ({ cls := "CribLineModel", name := "readCond", desc := "()Z" } : MethodName)) ∈ gTbl := lw_memk tk_8 207 rfl rfl
theorem wd_1888 : (Cond.code ({ cls := "CribLineModel", name := "readCond", desc := "()Z" } : MethodName) prog_14_method_50_code (1 : Nat) (Option.some ClassFile.FieldType.boolean)) ∈ gTbl := lw_memk tk_8 208 rfl rfl
theorem wd_1889 : (Cond.methodLink "CribLineModel" (261 : Nat) ({ cls := "CribLineModel", name := "readAllOf", desc := "()Z" } : MethodName)) ∈ gTbl := lw_memk tk_8 209 rfl rfl
theorem wd_1891 : (Cond.instanceMethod ({ cls := "CribLineModel", name := "readAllOf", desc := "()Z" } : MethodName)) ∈ gTbl := lw_memk tk_8 211 rfl rfl
theorem wd_1892 : (Cond.code ({ cls := "CribLineModel", name := "readAllOf", desc := "()Z" } : MethodName) prog_14_method_49_code (1 : Nat) (Option.some ClassFile.FieldType.boolean)) ∈ gTbl := lw_memk tk_8 212 rfl rfl
theorem wd_1893 : (Cond.methodLink "CribLineModel" (250 : Nat) ({ cls := "CribLineModel", name := "readAtom", desc := "()Z" } : MethodName)) ∈ gTbl := lw_memk tk_8 213 rfl rfl
theorem wd_1895 : (Cond.instanceMethod ({ cls := "CribLineModel", name := "readAtom", desc := "()Z" } : MethodName)) ∈ gTbl := lw_memk tk_8 215 rfl rfl
theorem wd_1896 : (Cond.code ({ cls := "CribLineModel", name := "readAtom", desc := "()Z" } : MethodName) prog_14_method_48_code (2 : Nat) (Option.some ClassFile.FieldType.boolean)) ∈ gTbl := lw_memk tk_8 216 rfl rfl
theorem wd_1897 : (Cond.methodLink "CribLineModel" (235 : Nat) ({ cls := "CribLineModel", name := "sign", desc := "(I)Z" } : MethodName)) ∈ gTbl := lw_memk tk_8 217 rfl rfl
theorem wd_1899 : (Cond.instanceMethod ({ cls := "CribLineModel", name := "sign", desc := "(I)Z" } : MethodName)) ∈ gTbl := lw_memk tk_8 219 rfl rfl
theorem wd_1900 : (Cond.code ({ cls := "CribLineModel", name := "sign", desc := "(I)Z" } : MethodName) prog_14_method_27_code (2 : Nat) (Option.some ClassFile.FieldType.boolean)) ∈ gTbl := lw_memk tk_8 220 rfl rfl
theorem wd_1902 : (Cond.methodLink "CribLineModel" (229 : Nat) ({ cls := "CribLineModel", name := "emits", desc := "(II)V" } : MethodName)) ∈ gTbl := lw_memk tk_8 222 rfl rfl
theorem wd_1904 : (Cond.instanceMethod ({ cls := "CribLineModel", name := "emits", desc := "(II)V" } : MethodName)) ∈ gTbl := lw_memk tk_8 224 rfl rfl
theorem wd_1905 : (Cond.code ({ cls := "CribLineModel", name := "emits", desc := "(II)V" } : MethodName) prog_14_method_43_code (3 : Nat) (Option.none : Option ClassFile.FieldType)) ∈ gTbl := lw_memk tk_8 225 rfl rfl
theorem wd_1906 : (Cond.methodLink "CribLineModel" (253 : Nat) ({ cls := "CribLineModel", name := "readTag", desc := "()Z" } : MethodName)) ∈ gTbl := lw_memk tk_8 226 rfl rfl
theorem wd_1908 : (Cond.instanceMethod ({ cls := "CribLineModel", name := "readTag", desc := "()Z" } : MethodName)) ∈ gTbl := lw_memk tk_8 228 rfl rfl
theorem wd_1909 : (Cond.code ({ cls := "CribLineModel", name := "readTag", desc := "()Z" } : MethodName) prog_14_method_47_code (2 : Nat) (Option.some ClassFile.FieldType.boolean)) ∈ gTbl := lw_memk tk_8 229 rfl rfl
theorem wd_1912 : (Cond.methodLink "CribLineModel" (256 : Nat) ({ cls := "CribLineModel", name := "readSum", desc := "()Z" } : MethodName)) ∈ gTbl := lw_memk tk_8 232 rfl rfl
theorem wd_1914 : (Cond.instanceMethod ({ cls := "CribLineModel", name := "readSum", desc := "()Z" } : MethodName)) ∈ gTbl := lw_memk tk_8 234 rfl rfl
theorem wd_1915 : (Cond.code ({ cls := "CribLineModel", name := "readSum", desc := "()Z" } : MethodName) prog_14_method_46_code (1 : Nat) (Option.some ClassFile.FieldType.boolean)) ∈ gTbl := lw_memk tk_8 235 rfl rfl
theorem wd_1916 : (Cond.methodLink "CribLineModel" (232 : Nat) ({ cls := "CribLineModel", name := "readPart", desc := "()Z" } : MethodName)) ∈ gTbl := lw_memk tk_8 236 rfl rfl
theorem wd_1918 : (Cond.instanceMethod ({ cls := "CribLineModel", name := "readPart", desc := "()Z" } : MethodName)) ∈ gTbl := lw_memk tk_8 238 rfl rfl
theorem wd_1919 : (Cond.code ({ cls := "CribLineModel", name := "readPart", desc := "()Z" } : MethodName) prog_14_method_45_code (3 : Nat) (Option.some ClassFile.FieldType.boolean)) ∈ gTbl := lw_memk tk_8 239 rfl rfl
theorem wd_1920 : (Cond.methodLink "CribLineModel" (226 : Nat) ({ cls := "CribLineModel", name := "wordOfPart", desc := "()I" } : MethodName)) ∈ gTbl := lw_memk tk_9 0 rfl rfl
theorem wd_1922 : (Cond.instanceMethod ({ cls := "CribLineModel", name := "wordOfPart", desc := "()I" } : MethodName)) ∈ gTbl := lw_memk tk_9 2 rfl rfl
theorem wd_1923 : (Cond.code ({ cls := "CribLineModel", name := "wordOfPart", desc := "()I" } : MethodName) prog_14_method_44_code (1 : Nat) (Option.some ClassFile.FieldType.int)) ∈ gTbl := lw_memk tk_9 3 rfl rfl
theorem wd_1930 : (Cond.methodLink "CribLineModel" (291 : Nat) ({ cls := "CribLineModel", name := "throwsIf", desc := "(ZI)Z" } : MethodName)) ∈ gTbl := lw_memk tk_9 10 rfl rfl
theorem wd_1932 : (Cond.instanceMethod ({ cls := "CribLineModel", name := "throwsIf", desc := "(ZI)Z" } : MethodName)) ∈ gTbl := lw_memk tk_9 12 rfl rfl
theorem wd_1933 : (Cond.code ({ cls := "CribLineModel", name := "throwsIf", desc := "(ZI)Z" } : MethodName) prog_14_method_2_code (3 : Nat) (Option.some ClassFile.FieldType.boolean)) ∈ gTbl := lw_memk tk_9 13 rfl rfl
theorem wd_1934 : (Cond.methodLink "CribLineLaw" (171 : Nat) ({ cls := "CribLineModel", name := "law", desc := "()I" } : MethodName)) ∈ gTbl := lw_memk tk_9 14 rfl rfl
theorem wd_1935 : (Cond.instanceMethod ({ cls := "CribLineModel", name := "law", desc := "()I" } : MethodName)) ∈ gTbl := lw_memk tk_9 15 rfl rfl
theorem wd_1936 : (Cond.selects "CribLineModel" ({ cls := "CribLineModel", name := "law", desc := "()I" } : MethodName) ({ cls := "CribLineModel", name := "law", desc := "()I" } : MethodName)) ∈ gTbl := lw_memk tk_9 16 rfl rfl
theorem wd_1937 : (Cond.code ({ cls := "CribLineModel", name := "law", desc := "()I" } : MethodName) prog_14_method_55_code (3 : Nat) (Option.some ClassFile.FieldType.int)) ∈ gTbl := lw_memk tk_9 17 rfl rfl
theorem wd_1938 : (Cond.methodLink "CribLineLaw" (179 : Nat) ({ cls := "CribLineModel", name := "person", desc := "(II)I" } : MethodName)) ∈ gTbl := lw_memk tk_9 18 rfl rfl
theorem wd_1939 : (Cond.instanceMethod ({ cls := "CribLineModel", name := "person", desc := "(II)I" } : MethodName)) ∈ gTbl := lw_memk tk_9 19 rfl rfl
theorem wd_1940 : (Cond.selects "CribLineModel" ({ cls := "CribLineModel", name := "person", desc := "(II)I" } : MethodName) ({ cls := "CribLineModel", name := "person", desc := "(II)I" } : MethodName)) ∈ gTbl := lw_memk tk_9 20 rfl rfl
theorem wd_1941 : (Cond.code ({ cls := "CribLineModel", name := "person", desc := "(II)I" } : MethodName) prog_14_method_68_code (3 : Nat) (Option.some ClassFile.FieldType.int)) ∈ gTbl := lw_memk tk_9 21 rfl rfl
theorem wd_1942 : (Cond.methodLink "CribLineModel" (331 : Nat) ({ cls := "CribLineModel", name := "nobody", desc := "(I)Z" } : MethodName)) ∈ gTbl := lw_memk tk_9 22 rfl rfl
theorem wd_1944 : (Cond.instanceMethod ({ cls := "CribLineModel", name := "nobody", desc := "(I)Z" } : MethodName)) ∈ gTbl := lw_memk tk_9 24 rfl rfl
theorem wd_1945 : (Cond.code ({ cls := "CribLineModel", name := "nobody", desc := "(I)Z" } : MethodName) prog_14_method_13_code (2 : Nat) (Option.some ClassFile.FieldType.boolean)) ∈ gTbl := lw_memk tk_9 25 rfl rfl
theorem wd_1946 : (Cond.methodLink "CribLineModel" (82 : Nat) ({ cls := "CribLineModel", name := "in", desc := "(III)Z" } : MethodName)) ∈ gTbl := lw_memk tk_9 26 rfl rfl
theorem wd_1947 : (Cond.static ({ cls := "CribLineModel", name := "in", desc := "(III)Z" } : MethodName)) ∈ gTbl := lw_memk tk_9 27 rfl rfl
theorem wd_1948 : (Cond.code ({ cls := "CribLineModel", name := "in", desc := "(III)Z" } : MethodName) prog_14_method_3_code (3 : Nat) (Option.some ClassFile.FieldType.boolean)) ∈ gTbl := lw_memk tk_9 28 rfl rfl
theorem wd_1949 : (Cond.methodLink "CribLineModel" (334 : Nat) ({ cls := "CribLineModel", name := "governedBy", desc := "(I)I" } : MethodName)) ∈ gTbl := lw_memk tk_9 29 rfl rfl
theorem wd_1951 : (Cond.instanceMethod ({ cls := "CribLineModel", name := "governedBy", desc := "(I)I" } : MethodName)) ∈ gTbl := lw_memk tk_9 31 rfl rfl
theorem wd_1952 : (Cond.code ({ cls := "CribLineModel", name := "governedBy", desc := "(I)I" } : MethodName) prog_14_method_65_code (4 : Nat) (Option.some ClassFile.FieldType.int)) ∈ gTbl := lw_memk tk_9 32 rfl rfl
theorem wd_1953 : (Cond.methodLink "CribLineModel" (326 : Nat) ({ cls := "CribLineModel", name := "governs", desc := "(II)Z" } : MethodName)) ∈ gTbl := lw_memk tk_9 33 rfl rfl
theorem wd_1955 : (Cond.instanceMethod ({ cls := "CribLineModel", name := "governs", desc := "(II)Z" } : MethodName)) ∈ gTbl := lw_memk tk_9 35 rfl rfl
theorem wd_1956 : (Cond.code ({ cls := "CribLineModel", name := "governs", desc := "(II)Z" } : MethodName) prog_14_method_14_code (3 : Nat) (Option.some ClassFile.FieldType.boolean)) ∈ gTbl := lw_memk tk_9 36 rfl rfl
theorem wd_1957 : (Cond.methodLink "CribLineModel" (89 : Nat) ({ cls := "CribLineModel", name := "has", desc := "(II)Z" } : MethodName)) ∈ gTbl := lw_memk tk_9 37 rfl rfl
theorem wd_1958 : (Cond.static ({ cls := "CribLineModel", name := "has", desc := "(II)Z" } : MethodName)) ∈ gTbl := lw_memk tk_9 38 rfl rfl
theorem wd_1959 : (Cond.code ({ cls := "CribLineModel", name := "has", desc := "(II)Z" } : MethodName) prog_14_method_4_code (2 : Nat) (Option.some ClassFile.FieldType.boolean)) ∈ gTbl := lw_memk tk_9 39 rfl rfl
theorem wd_1960 : (Cond.methodLink "CribLineModel" (337 : Nat) ({ cls := "CribLineModel", name := "shareOf", desc := "(I)I" } : MethodName)) ∈ gTbl := lw_memk tk_9 40 rfl rfl
theorem wd_1962 : (Cond.instanceMethod ({ cls := "CribLineModel", name := "shareOf", desc := "(I)I" } : MethodName)) ∈ gTbl := lw_memk tk_9 42 rfl rfl
theorem wd_1963 : (Cond.code ({ cls := "CribLineModel", name := "shareOf", desc := "(I)I" } : MethodName) prog_14_method_67_code (5 : Nat) (Option.some ClassFile.FieldType.int)) ∈ gTbl := lw_memk tk_9 43 rfl rfl
theorem wd_1964 : (Cond.methodLink "CribLineModel" (328 : Nat) ({ cls := "CribLineModel", name := "ofLog", desc := "(II)I" } : MethodName)) ∈ gTbl := lw_memk tk_9 44 rfl rfl
theorem wd_1966 : (Cond.instanceMethod ({ cls := "CribLineModel", name := "ofLog", desc := "(II)I" } : MethodName)) ∈ gTbl := lw_memk tk_9 46 rfl rfl
theorem wd_1967 : (Cond.code ({ cls := "CribLineModel", name := "ofLog", desc := "(II)I" } : MethodName) prog_14_method_66_code (3 : Nat) (Option.some ClassFile.FieldType.int)) ∈ gTbl := lw_memk tk_9 47 rfl rfl
theorem wd_1968 : (Cond.methodLink "CribLineLaw" (182 : Nat) ({ cls := "CribLineModel", name := "lent", desc := "(II)I" } : MethodName)) ∈ gTbl := lw_memk tk_9 48 rfl rfl
theorem wd_1969 : (Cond.instanceMethod ({ cls := "CribLineModel", name := "lent", desc := "(II)I" } : MethodName)) ∈ gTbl := lw_memk tk_9 49 rfl rfl
theorem wd_1970 : (Cond.selects "CribLineModel" ({ cls := "CribLineModel", name := "lent", desc := "(II)I" } : MethodName) ({ cls := "CribLineModel", name := "lent", desc := "(II)I" } : MethodName)) ∈ gTbl := lw_memk tk_9 50 rfl rfl
theorem wd_1971 : (Cond.code ({ cls := "CribLineModel", name := "lent", desc := "(II)I" } : MethodName) prog_14_method_70_code (3 : Nat) (Option.some ClassFile.FieldType.int)) ∈ gTbl := lw_memk tk_9 51 rfl rfl
theorem wd_1972 : (Cond.methodLink "CribLineModel" (340 : Nat) ({ cls := "CribLineModel", name := "noTwo", desc := "(II)Z" } : MethodName)) ∈ gTbl := lw_memk tk_9 52 rfl rfl
theorem wd_1974 : (Cond.instanceMethod ({ cls := "CribLineModel", name := "noTwo", desc := "(II)Z" } : MethodName)) ∈ gTbl := lw_memk tk_9 54 rfl rfl
theorem wd_1975 : (Cond.code ({ cls := "CribLineModel", name := "noTwo", desc := "(II)Z" } : MethodName) prog_14_method_69_code (3 : Nat) (Option.some ClassFile.FieldType.boolean)) ∈ gTbl := lw_memk tk_9 55 rfl rfl
theorem wd_1976 : (Cond.methodLink "CribLineLaw" (186 : Nat) ({ cls := "CribLineModel", name := "weighs", desc := "(IIZ)I" } : MethodName)) ∈ gTbl := lw_memk tk_9 56 rfl rfl
theorem wd_1977 : (Cond.instanceMethod ({ cls := "CribLineModel", name := "weighs", desc := "(IIZ)I" } : MethodName)) ∈ gTbl := lw_memk tk_9 57 rfl rfl
theorem wd_1978 : (Cond.selects "CribLineModel" ({ cls := "CribLineModel", name := "weighs", desc := "(IIZ)I" } : MethodName) ({ cls := "CribLineModel", name := "weighs", desc := "(IIZ)I" } : MethodName)) ∈ gTbl := lw_memk tk_9 58 rfl rfl
theorem wd_1979 : (Cond.code ({ cls := "CribLineModel", name := "weighs", desc := "(IIZ)I" } : MethodName) prog_14_method_71_code (4 : Nat) (Option.some ClassFile.FieldType.int)) ∈ gTbl := lw_memk tk_9 59 rfl rfl
theorem wd_1980 : (Cond.methodLink "CribLineModel" (308 : Nat) ({ cls := "CribLineModel", name := "weighsOf", desc := "(IIZ)I" } : MethodName)) ∈ gTbl := lw_memk tk_9 60 rfl rfl
theorem wd_1982 : (Cond.instanceMethod ({ cls := "CribLineModel", name := "weighsOf", desc := "(IIZ)I" } : MethodName)) ∈ gTbl := lw_memk tk_9 62 rfl rfl
theorem wd_1983 : (Cond.code ({ cls := "CribLineModel", name := "weighsOf", desc := "(IIZ)I" } : MethodName) prog_14_method_59_code (4 : Nat) (Option.some ClassFile.FieldType.int)) ∈ gTbl := lw_memk tk_9 63 rfl rfl
theorem wd_1984 : (Cond.methodLink "CribLineModel" (301 : Nat) ({ cls := "CribLineModel", name := "sumOf", desc := "(III)I" } : MethodName)) ∈ gTbl := lw_memk tk_9 64 rfl rfl
theorem wd_1986 : (Cond.instanceMethod ({ cls := "CribLineModel", name := "sumOf", desc := "(III)I" } : MethodName)) ∈ gTbl := lw_memk tk_9 66 rfl rfl
theorem wd_1987 : (Cond.code ({ cls := "CribLineModel", name := "sumOf", desc := "(III)I" } : MethodName) prog_14_method_58_code (6 : Nat) (Option.some ClassFile.FieldType.int)) ∈ gTbl := lw_memk tk_9 67 rfl rfl
theorem wd_1988 : (Cond.methodLink "CribLineModel" (298 : Nat) ({ cls := "CribLineModel", name := "holdsLine", desc := "(III)Z" } : MethodName)) ∈ gTbl := lw_memk tk_9 68 rfl rfl
theorem wd_1990 : (Cond.instanceMethod ({ cls := "CribLineModel", name := "holdsLine", desc := "(III)Z" } : MethodName)) ∈ gTbl := lw_memk tk_9 70 rfl rfl
theorem wd_1991 : (Cond.code ({ cls := "CribLineModel", name := "holdsLine", desc := "(III)Z" } : MethodName) prog_14_method_57_code (11 : Nat) (Option.some ClassFile.FieldType.boolean)) ∈ gTbl := lw_memk tk_9 71 rfl rfl
theorem wd_1992 : (Cond.methodLink "CribLineModel" (294 : Nat) ({ cls := "CribLineModel", name := "factOf", desc := "(IIII)I" } : MethodName)) ∈ gTbl := lw_memk tk_9 72 rfl rfl
theorem wd_1994 : (Cond.instanceMethod ({ cls := "CribLineModel", name := "factOf", desc := "(IIII)I" } : MethodName)) ∈ gTbl := lw_memk tk_9 74 rfl rfl
theorem wd_1995 : (Cond.code ({ cls := "CribLineModel", name := "factOf", desc := "(IIII)I" } : MethodName) prog_14_method_56_code (5 : Nat) (Option.some ClassFile.FieldType.int)) ∈ gTbl := lw_memk tk_9 75 rfl rfl
theorem wd_1996 : (Cond.methodLink "CribLineLaw" (189 : Nat) ({ cls := "CribLineModel", name := "gap", desc := "(II)I" } : MethodName)) ∈ gTbl := lw_memk tk_9 76 rfl rfl
theorem wd_1997 : (Cond.instanceMethod ({ cls := "CribLineModel", name := "gap", desc := "(II)I" } : MethodName)) ∈ gTbl := lw_memk tk_9 77 rfl rfl
theorem wd_1998 : (Cond.selects "CribLineModel" ({ cls := "CribLineModel", name := "gap", desc := "(II)I" } : MethodName) ({ cls := "CribLineModel", name := "gap", desc := "(II)I" } : MethodName)) ∈ gTbl := lw_memk tk_9 78 rfl rfl
theorem wd_1999 : (Cond.code ({ cls := "CribLineModel", name := "gap", desc := "(II)I" } : MethodName) prog_14_method_72_code (3 : Nat) (Option.some ClassFile.FieldType.int)) ∈ gTbl := lw_memk tk_9 79 rfl rfl
theorem wd_2000 : (Cond.methodLink "CribLineModel" (343 : Nat) ({ cls := "CribLineModel", name := "gapOf", desc := "(II)I" } : MethodName)) ∈ gTbl := lw_memk tk_9 80 rfl rfl
theorem wd_2002 : (Cond.instanceMethod ({ cls := "CribLineModel", name := "gapOf", desc := "(II)I" } : MethodName)) ∈ gTbl := lw_memk tk_9 82 rfl rfl
theorem wd_2003 : (Cond.code ({ cls := "CribLineModel", name := "gapOf", desc := "(II)I" } : MethodName) prog_14_method_64_code (4 : Nat) (Option.some ClassFile.FieldType.int)) ∈ gTbl := lw_memk tk_9 83 rfl rfl
theorem wd_2004 : (Cond.methodLink "CribLineModel" (322 : Nat) ({ cls := "java/lang/Math", name := "abs", desc := "(I)I" } : MethodName)) ∈ gTbl := lw_memk tk_9 84 rfl rfl
theorem wd_2005 : (Cond.static ({ cls := "java/lang/Math", name := "abs", desc := "(I)I" } : MethodName)) ∈ gTbl := lw_memk tk_9 85 rfl rfl
theorem wd_2006 : (Cond.code ({ cls := "java/lang/Math", name := "abs", desc := "(I)I" } : MethodName) prog_23_method_59_code (1 : Nat) (Option.some ClassFile.FieldType.int)) ∈ gTbl := lw_memk tk_9 86 rfl rfl
theorem wd_2007 : (Cond.methodLink "CribLineModel" (305 : Nat) ({ cls := "java/lang/Math", name := "min", desc := "(II)I" } : MethodName)) ∈ gTbl := lw_memk tk_9 87 rfl rfl
theorem wd_2008 : (Cond.methodLink "CribLineLaw" (221 : Nat) ({ cls := "CribLineModel", name := "would", desc := "(IIZ)I" } : MethodName)) ∈ gTbl := lw_memk tk_9 88 rfl rfl
theorem wd_2009 : (Cond.instanceMethod ({ cls := "CribLineModel", name := "would", desc := "(IIZ)I" } : MethodName)) ∈ gTbl := lw_memk tk_9 89 rfl rfl
theorem wd_2010 : (Cond.selects "CribLineModel" ({ cls := "CribLineModel", name := "would", desc := "(IIZ)I" } : MethodName) ({ cls := "CribLineModel", name := "would", desc := "(IIZ)I" } : MethodName)) ∈ gTbl := lw_memk tk_9 90 rfl rfl
theorem wd_2011 : (Cond.code ({ cls := "CribLineModel", name := "would", desc := "(IIZ)I" } : MethodName) prog_14_method_75_code (5 : Nat) (Option.some ClassFile.FieldType.int)) ∈ gTbl := lw_memk tk_9 91 rfl rfl
theorem wd_2012 : (Cond.methodLink "CribLineModel" (346 : Nat) ({ cls := "CribLineModel", name := "keepsAll", desc := "()V" } : MethodName)) ∈ gTbl := lw_memk tk_9 92 rfl rfl
theorem wd_2014 : (Cond.instanceMethod ({ cls := "CribLineModel", name := "keepsAll", desc := "()V" } : MethodName)) ∈ gTbl := lw_memk tk_9 94 rfl rfl
theorem wd_2015 : (Cond.code ({ cls := "CribLineModel", name := "keepsAll", desc := "()V" } : MethodName) prog_14_method_73_code (2 : Nat) (Option.none : Option ClassFile.FieldType)) ∈ gTbl := lw_memk tk_9 95 rfl rfl
theorem wd_2016 : (Cond.methodLink "CribLineModel" (316 : Nat) ({ cls := "CribLineModel", name := "hears", desc := "(IIZ)V" } : MethodName)) ∈ gTbl := lw_memk tk_9 96 rfl rfl
theorem wd_2018 : (Cond.instanceMethod ({ cls := "CribLineModel", name := "hears", desc := "(IIZ)V" } : MethodName)) ∈ gTbl := lw_memk tk_9 98 rfl rfl
theorem wd_2019 : (Cond.code ({ cls := "CribLineModel", name := "hears", desc := "(IIZ)V" } : MethodName) prog_14_method_61_code (4 : Nat) (Option.none : Option ClassFile.FieldType)) ∈ gTbl := lw_memk tk_9 99 rfl rfl
theorem wd_2020 : (Cond.methodLink "CribLineModel" (312 : Nat) ({ cls := "CribLineModel", name := "grows", desc := "(IIZ)V" } : MethodName)) ∈ gTbl := lw_memk tk_9 100 rfl rfl
theorem wd_2022 : (Cond.instanceMethod ({ cls := "CribLineModel", name := "grows", desc := "(IIZ)V" } : MethodName)) ∈ gTbl := lw_memk tk_9 102 rfl rfl
theorem wd_2023 : (Cond.code ({ cls := "CribLineModel", name := "grows", desc := "(IIZ)V" } : MethodName) prog_14_method_60_code (5 : Nat) (Option.none : Option ClassFile.FieldType)) ∈ gTbl := lw_memk tk_9 103 rfl rfl
theorem wd_2024 : (Cond.methodLink "CribLineModel" (349 : Nat) ({ cls := "CribLineModel", name := "bringsBack", desc := "()V" } : MethodName)) ∈ gTbl := lw_memk tk_9 104 rfl rfl
theorem wd_2026 : (Cond.instanceMethod ({ cls := "CribLineModel", name := "bringsBack", desc := "()V" } : MethodName)) ∈ gTbl := lw_memk tk_9 106 rfl rfl
theorem wd_2027 : (Cond.code ({ cls := "CribLineModel", name := "bringsBack", desc := "()V" } : MethodName) prog_14_method_74_code (2 : Nat) (Option.none : Option ClassFile.FieldType)) ∈ gTbl := lw_memk tk_9 107 rfl rfl
theorem wd_2028 : (Cond.methodLink "CribLineLaw" (192 : Nat) ({ cls := "CribLineModel", name := "say", desc := "(IIZ)I" } : MethodName)) ∈ gTbl := lw_memk tk_9 108 rfl rfl
theorem wd_2029 : (Cond.instanceMethod ({ cls := "CribLineModel", name := "say", desc := "(IIZ)I" } : MethodName)) ∈ gTbl := lw_memk tk_9 109 rfl rfl
theorem wd_2030 : (Cond.selects "CribLineModel" ({ cls := "CribLineModel", name := "say", desc := "(IIZ)I" } : MethodName) ({ cls := "CribLineModel", name := "say", desc := "(IIZ)I" } : MethodName)) ∈ gTbl := lw_memk tk_9 110 rfl rfl
theorem wd_2031 : (Cond.code ({ cls := "CribLineModel", name := "say", desc := "(IIZ)I" } : MethodName) prog_14_method_76_code (4 : Nat) (Option.some ClassFile.FieldType.int)) ∈ gTbl := lw_memk tk_9 111 rfl rfl
theorem wd_2032 : (Cond.methodLink "CribLineModel" (352 : Nat) ({ cls := "CribLineModel", name := "remembers", desc := "()V" } : MethodName)) ∈ gTbl := lw_memk tk_9 112 rfl rfl
theorem wd_2034 : (Cond.instanceMethod ({ cls := "CribLineModel", name := "remembers", desc := "()V" } : MethodName)) ∈ gTbl := lw_memk tk_9 114 rfl rfl
theorem wd_2035 : (Cond.code ({ cls := "CribLineModel", name := "remembers", desc := "()V" } : MethodName) prog_14_method_8_code (2 : Nat) (Option.none : Option ClassFile.FieldType)) ∈ gTbl := lw_memk tk_9 115 rfl rfl
theorem wd_2036 : (Cond.methodLink "CribLineModel" (355 : Nat) ({ cls := "CribLineModel", name := "says", desc := "(IIZ)V" } : MethodName)) ∈ gTbl := lw_memk tk_9 116 rfl rfl
theorem wd_2038 : (Cond.instanceMethod ({ cls := "CribLineModel", name := "says", desc := "(IIZ)V" } : MethodName)) ∈ gTbl := lw_memk tk_9 118 rfl rfl
theorem wd_2039 : (Cond.code ({ cls := "CribLineModel", name := "says", desc := "(IIZ)V" } : MethodName) prog_14_method_63_code (4 : Nat) (Option.none : Option ClassFile.FieldType)) ∈ gTbl := lw_memk tk_9 119 rfl rfl
theorem wd_2040 : (Cond.methodLink "CribLineModel" (319 : Nat) ({ cls := "CribLineModel", name := "tells", desc := "(IIZ)V" } : MethodName)) ∈ gTbl := lw_memk tk_9 120 rfl rfl
theorem wd_2042 : (Cond.instanceMethod ({ cls := "CribLineModel", name := "tells", desc := "(IIZ)V" } : MethodName)) ∈ gTbl := lw_memk tk_9 122 rfl rfl
theorem wd_2043 : (Cond.code ({ cls := "CribLineModel", name := "tells", desc := "(IIZ)V" } : MethodName) prog_14_method_62_code (5 : Nat) (Option.none : Option ClassFile.FieldType)) ∈ gTbl := lw_memk tk_9 123 rfl rfl
theorem wd_2044 : (Cond.methodLink "CribLineLaw" (196 : Nat) ({ cls := "CribLineModel", name := "bear", desc := "(IZ)I" } : MethodName)) ∈ gTbl := lw_memk tk_9 124 rfl rfl
theorem wd_2045 : (Cond.instanceMethod ({ cls := "CribLineModel", name := "bear", desc := "(IZ)I" } : MethodName)) ∈ gTbl := lw_memk tk_9 125 rfl rfl
theorem wd_2046 : (Cond.selects "CribLineModel" ({ cls := "CribLineModel", name := "bear", desc := "(IZ)I" } : MethodName) ({ cls := "CribLineModel", name := "bear", desc := "(IZ)I" } : MethodName)) ∈ gTbl := lw_memk tk_9 126 rfl rfl
theorem wd_2047 : (Cond.code ({ cls := "CribLineModel", name := "bear", desc := "(IZ)I" } : MethodName) prog_14_method_77_code (4 : Nat) (Option.some ClassFile.FieldType.int)) ∈ gTbl := lw_memk tk_9 127 rfl rfl
theorem wd_2048 : (Cond.methodLink "CribLineModel" (358 : Nat) ({ cls := "CribLineModel", name := "isBoy", desc := "(I)Z" } : MethodName)) ∈ gTbl := lw_memk tk_9 128 rfl rfl
theorem wd_2050 : (Cond.instanceMethod ({ cls := "CribLineModel", name := "isBoy", desc := "(I)Z" } : MethodName)) ∈ gTbl := lw_memk tk_9 130 rfl rfl
theorem wd_2051 : (Cond.code ({ cls := "CribLineModel", name := "isBoy", desc := "(I)Z" } : MethodName) prog_14_method_17_code (2 : Nat) (Option.some ClassFile.FieldType.boolean)) ∈ gTbl := lw_memk tk_9 131 rfl rfl
theorem wd_2052 : (Cond.methodLink "CribLineLaw" (199 : Nat) ({ cls := "CribLineModel", name := "wed", desc := "(II)I" } : MethodName)) ∈ gTbl := lw_memk tk_9 132 rfl rfl
theorem wd_2053 : (Cond.instanceMethod ({ cls := "CribLineModel", name := "wed", desc := "(II)I" } : MethodName)) ∈ gTbl := lw_memk tk_9 133 rfl rfl
theorem wd_2054 : (Cond.selects "CribLineModel" ({ cls := "CribLineModel", name := "wed", desc := "(II)I" } : MethodName) ({ cls := "CribLineModel", name := "wed", desc := "(II)I" } : MethodName)) ∈ gTbl := lw_memk tk_9 134 rfl rfl
theorem wd_2055 : (Cond.code ({ cls := "CribLineModel", name := "wed", desc := "(II)I" } : MethodName) prog_14_method_78_code (3 : Nat) (Option.some ClassFile.FieldType.int)) ∈ gTbl := lw_memk tk_9 135 rfl rfl
theorem wd_2056 : (Cond.methodLink "CribLineLaw" (203 : Nat) ({ cls := "CribLineModel", name := "part", desc := "(I)I" } : MethodName)) ∈ gTbl := lw_memk tk_9 136 rfl rfl
theorem wd_2057 : (Cond.instanceMethod ({ cls := "CribLineModel", name := "part", desc := "(I)I" } : MethodName)) ∈ gTbl := lw_memk tk_9 137 rfl rfl
theorem wd_2058 : (Cond.selects "CribLineModel" ({ cls := "CribLineModel", name := "part", desc := "(I)I" } : MethodName) ({ cls := "CribLineModel", name := "part", desc := "(I)I" } : MethodName)) ∈ gTbl := lw_memk tk_9 138 rfl rfl
theorem wd_2059 : (Cond.code ({ cls := "CribLineModel", name := "part", desc := "(I)I" } : MethodName) prog_14_method_79_code (3 : Nat) (Option.some ClassFile.FieldType.int)) ∈ gTbl := lw_memk tk_9 139 rfl rfl
theorem wd_2060 : (Cond.methodLink "CribLineLaw" (206 : Nat) ({ cls := "CribLineModel", name := "lend", desc := "(II)I" } : MethodName)) ∈ gTbl := lw_memk tk_9 140 rfl rfl
theorem wd_2061 : (Cond.instanceMethod ({ cls := "CribLineModel", name := "lend", desc := "(II)I" } : MethodName)) ∈ gTbl := lw_memk tk_9 141 rfl rfl
theorem wd_2062 : (Cond.selects "CribLineModel" ({ cls := "CribLineModel", name := "lend", desc := "(II)I" } : MethodName) ({ cls := "CribLineModel", name := "lend", desc := "(II)I" } : MethodName)) ∈ gTbl := lw_memk tk_9 142 rfl rfl
theorem wd_2063 : (Cond.code ({ cls := "CribLineModel", name := "lend", desc := "(II)I" } : MethodName) prog_14_method_80_code (3 : Nat) (Option.some ClassFile.FieldType.int)) ∈ gTbl := lw_memk tk_9 143 rfl rfl
theorem wd_2064 : (Cond.methodLink "CribLineLaw" (209 : Nat) ({ cls := "CribLineModel", name := "use", desc := "(I)I" } : MethodName)) ∈ gTbl := lw_memk tk_9 144 rfl rfl
theorem wd_2065 : (Cond.instanceMethod ({ cls := "CribLineModel", name := "use", desc := "(I)I" } : MethodName)) ∈ gTbl := lw_memk tk_9 145 rfl rfl
theorem wd_2066 : (Cond.selects "CribLineModel" ({ cls := "CribLineModel", name := "use", desc := "(I)I" } : MethodName) ({ cls := "CribLineModel", name := "use", desc := "(I)I" } : MethodName)) ∈ gTbl := lw_memk tk_9 146 rfl rfl
theorem wd_2067 : (Cond.code ({ cls := "CribLineModel", name := "use", desc := "(I)I" } : MethodName) prog_14_method_81_code (2 : Nat) (Option.some ClassFile.FieldType.int)) ∈ gTbl := lw_memk tk_9 147 rfl rfl
theorem wd_2068 : (Cond.methodLink "CribLineLaw" (212 : Nat) ({ cls := "CribLineModel", name := "govern", desc := "(IIZ)Z" } : MethodName)) ∈ gTbl := lw_memk tk_9 148 rfl rfl
theorem wd_2069 : (Cond.instanceMethod ({ cls := "CribLineModel", name := "govern", desc := "(IIZ)Z" } : MethodName)) ∈ gTbl := lw_memk tk_9 149 rfl rfl
theorem wd_2070 : (Cond.selects "CribLineModel" ({ cls := "CribLineModel", name := "govern", desc := "(IIZ)Z" } : MethodName) ({ cls := "CribLineModel", name := "govern", desc := "(IIZ)Z" } : MethodName)) ∈ gTbl := lw_memk tk_9 150 rfl rfl
theorem wd_2071 : (Cond.code ({ cls := "CribLineModel", name := "govern", desc := "(IIZ)Z" } : MethodName) prog_14_method_82_code (6 : Nat) (Option.some ClassFile.FieldType.boolean)) ∈ gTbl := lw_memk tk_9 151 rfl rfl
theorem wd_2072 : (Cond.methodLink "CribLineLaw" (215 : Nat) ({ cls := "CribLineModel", name := "stern", desc := "(II)I" } : MethodName)) ∈ gTbl := lw_memk tk_9 152 rfl rfl
theorem wd_2073 : (Cond.instanceMethod ({ cls := "CribLineModel", name := "stern", desc := "(II)I" } : MethodName)) ∈ gTbl := lw_memk tk_9 153 rfl rfl
theorem wd_2074 : (Cond.selects "CribLineModel" ({ cls := "CribLineModel", name := "stern", desc := "(II)I" } : MethodName) ({ cls := "CribLineModel", name := "stern", desc := "(II)I" } : MethodName)) ∈ gTbl := lw_memk tk_9 154 rfl rfl
theorem wd_2075 : (Cond.code ({ cls := "CribLineModel", name := "stern", desc := "(II)I" } : MethodName) prog_14_method_83_code (4 : Nat) (Option.some ClassFile.FieldType.int)) ∈ gTbl := lw_memk tk_9 155 rfl rfl
theorem wd_2076 : (Cond.methodLink "CribLineLaw" (218 : Nat) ({ cls := "CribLineModel", name := "days", desc := "(I)I" } : MethodName)) ∈ gTbl := lw_memk tk_9 156 rfl rfl
theorem wd_2077 : (Cond.instanceMethod ({ cls := "CribLineModel", name := "days", desc := "(I)I" } : MethodName)) ∈ gTbl := lw_memk tk_9 157 rfl rfl
theorem wd_2078 : (Cond.selects "CribLineModel" ({ cls := "CribLineModel", name := "days", desc := "(I)I" } : MethodName) ({ cls := "CribLineModel", name := "days", desc := "(I)I" } : MethodName)) ∈ gTbl := lw_memk tk_9 158 rfl rfl
theorem wd_2079 : (Cond.code ({ cls := "CribLineModel", name := "days", desc := "(I)I" } : MethodName) prog_14_method_89_code (2 : Nat) (Option.some ClassFile.FieldType.int)) ∈ gTbl := lw_memk tk_9 159 rfl rfl
theorem wd_2080 : (Cond.methodLink "CribLineModel" (378 : Nat) ({ cls := "CribLineModel", name := "goesOn", desc := "(I)I" } : MethodName)) ∈ gTbl := lw_memk tk_9 160 rfl rfl
theorem wd_2082 : (Cond.instanceMethod ({ cls := "CribLineModel", name := "goesOn", desc := "(I)I" } : MethodName)) ∈ gTbl := lw_memk tk_9 162 rfl rfl
theorem wd_2083 : (Cond.code ({ cls := "CribLineModel", name := "goesOn", desc := "(I)I" } : MethodName) prog_14_method_87_code (4 : Nat) (Option.some ClassFile.FieldType.int)) ∈ gTbl := lw_memk tk_9 163 rfl rfl
theorem wd_2084 : (Cond.methodLink "CribLineModel" (375 : Nat) ({ cls := "CribLineModel", name := "oneDay", desc := "()I" } : MethodName)) ∈ gTbl := lw_memk tk_9 164 rfl rfl
theorem wd_2086 : (Cond.instanceMethod ({ cls := "CribLineModel", name := "oneDay", desc := "()I" } : MethodName)) ∈ gTbl := lw_memk tk_9 166 rfl rfl
theorem wd_2087 : (Cond.code ({ cls := "CribLineModel", name := "oneDay", desc := "()I" } : MethodName) prog_14_method_86_code (6 : Nat) (Option.some ClassFile.FieldType.int)) ∈ gTbl := lw_memk tk_9 167 rfl rfl
theorem wd_2088 : (Cond.methodLink "CribLineModel" (361 : Nat) ({ cls := "CribLineModel", name := "drawn", desc := "(I)I" } : MethodName)) ∈ gTbl := lw_memk tk_9 168 rfl rfl
theorem wd_2090 : (Cond.instanceMethod ({ cls := "CribLineModel", name := "drawn", desc := "(I)I" } : MethodName)) ∈ gTbl := lw_memk tk_9 170 rfl rfl
theorem wd_2091 : (Cond.code ({ cls := "CribLineModel", name := "drawn", desc := "(I)I" } : MethodName) prog_14_method_19_code (2 : Nat) (Option.some ClassFile.FieldType.int)) ∈ gTbl := lw_memk tk_9 171 rfl rfl
theorem wd_2092 : (Cond.constant "CribLineModel" (96 : Nat) (1103515245 : Int32)) ∈ gTbl := lw_memk tk_9 172 rfl rfl
theorem wd_2093 : (Cond.methodLink "CribLineModel" (364 : Nat) ({ cls := "java/lang/Integer", name := "bitCount", desc := "(I)I" } : MethodName)) ∈ gTbl := lw_memk tk_9 173 rfl rfl
theorem wd_2094 : (Cond.methodLink "CribLineModel" (369 : Nat) ({ cls := "CribLineModel", name := "oneOf", desc := "(II)I" } : MethodName)) ∈ gTbl := lw_memk tk_9 174 rfl rfl
theorem wd_2095 : (Cond.static ({ cls := "CribLineModel", name := "oneOf", desc := "(II)I" } : MethodName)) ∈ gTbl := lw_memk tk_9 175 rfl rfl
theorem wd_2096 : (Cond.code ({ cls := "CribLineModel", name := "oneOf", desc := "(II)I" } : MethodName) prog_14_method_84_code (4 : Nat) (Option.some ClassFile.FieldType.int)) ∈ gTbl := lw_memk tk_9 176 rfl rfl
theorem wd_2097 : (Cond.methodLink "CribLineModel" (372 : Nat) ({ cls := "CribLineModel", name := "dayEnds", desc := "()V" } : MethodName)) ∈ gTbl := lw_memk tk_9 177 rfl rfl
theorem wd_2099 : (Cond.instanceMethod ({ cls := "CribLineModel", name := "dayEnds", desc := "()V" } : MethodName)) ∈ gTbl := lw_memk tk_9 179 rfl rfl
theorem wd_2100 : (Cond.code ({ cls := "CribLineModel", name := "dayEnds", desc := "()V" } : MethodName) prog_14_method_85_code (1 : Nat) (Option.none : Option ClassFile.FieldType)) ∈ gTbl := lw_memk tk_9 180 rfl rfl
theorem wd_2101 : (Cond.methodLink "CribLineLaw" (241 : Nat) ({ cls := "CribLineModel", name := "cradle", desc := "(ZZ)I" } : MethodName)) ∈ gTbl := lw_memk tk_9 181 rfl rfl
theorem wd_2102 : (Cond.instanceMethod ({ cls := "CribLineModel", name := "cradle", desc := "(ZZ)I" } : MethodName)) ∈ gTbl := lw_memk tk_9 182 rfl rfl
theorem wd_2103 : (Cond.selects "CribLineModel" ({ cls := "CribLineModel", name := "cradle", desc := "(ZZ)I" } : MethodName) ({ cls := "CribLineModel", name := "cradle", desc := "(ZZ)I" } : MethodName)) ∈ gTbl := lw_memk tk_9 183 rfl rfl
theorem wd_2104 : (Cond.code ({ cls := "CribLineModel", name := "cradle", desc := "(ZZ)I" } : MethodName) prog_14_method_91_code (6 : Nat) (Option.some ClassFile.FieldType.int)) ∈ gTbl := lw_memk tk_9 184 rfl rfl
theorem wd_2105 : (Cond.methodLink "CribLineModel" (381 : Nat) ({ cls := "CribLineModel", name := "cribOnes", desc := "()I" } : MethodName)) ∈ gTbl := lw_memk tk_9 185 rfl rfl
theorem wd_2107 : (Cond.instanceMethod ({ cls := "CribLineModel", name := "cribOnes", desc := "()I" } : MethodName)) ∈ gTbl := lw_memk tk_9 187 rfl rfl
theorem wd_2108 : (Cond.code ({ cls := "CribLineModel", name := "cribOnes", desc := "()I" } : MethodName) prog_14_method_90_code (3 : Nat) (Option.some ClassFile.FieldType.int)) ∈ gTbl := lw_memk tk_9 188 rfl rfl
theorem wd_2109 : (Cond.methodLink "CribLineModel" (384 : Nat) ({ cls := "CribLineModel", name := "dayOf", desc := "(Z)V" } : MethodName)) ∈ gTbl := lw_memk tk_9 189 rfl rfl
theorem wd_2111 : (Cond.instanceMethod ({ cls := "CribLineModel", name := "dayOf", desc := "(Z)V" } : MethodName)) ∈ gTbl := lw_memk tk_9 191 rfl rfl
theorem wd_2112 : (Cond.code ({ cls := "CribLineModel", name := "dayOf", desc := "(Z)V" } : MethodName) prog_14_method_88_code (3 : Nat) (Option.none : Option ClassFile.FieldType)) ∈ gTbl := lw_memk tk_9 192 rfl rfl
theorem wd_2113 : (Cond.methodLink "CribLineLaw" (246 : Nat) ({ cls := "CribLineModel", name := "again", desc := "(Z)I" } : MethodName)) ∈ gTbl := lw_memk tk_9 193 rfl rfl
theorem wd_2114 : (Cond.instanceMethod ({ cls := "CribLineModel", name := "again", desc := "(Z)I" } : MethodName)) ∈ gTbl := lw_memk tk_9 194 rfl rfl
theorem wd_2115 : (Cond.selects "CribLineModel" ({ cls := "CribLineModel", name := "again", desc := "(Z)I" } : MethodName) ({ cls := "CribLineModel", name := "again", desc := "(Z)I" } : MethodName)) ∈ gTbl := lw_memk tk_9 195 rfl rfl
theorem wd_2116 : (Cond.code ({ cls := "CribLineModel", name := "again", desc := "(Z)I" } : MethodName) prog_14_method_93_code (4 : Nat) (Option.some ClassFile.FieldType.int)) ∈ gTbl := lw_memk tk_9 196 rfl rfl
theorem wd_2117 : (Cond.methodLink "CribLineModel" (388 : Nat) ({ cls := "CribLineModel", name := "agesAsKept", desc := "()Z" } : MethodName)) ∈ gTbl := lw_memk tk_9 197 rfl rfl
theorem wd_2119 : (Cond.instanceMethod ({ cls := "CribLineModel", name := "agesAsKept", desc := "()Z" } : MethodName)) ∈ gTbl := lw_memk tk_9 199 rfl rfl
theorem wd_2120 : (Cond.code ({ cls := "CribLineModel", name := "agesAsKept", desc := "()Z" } : MethodName) prog_14_method_92_code (3 : Nat) (Option.some ClassFile.FieldType.boolean)) ∈ gTbl := lw_memk tk_9 200 rfl rfl
theorem wd_2121 : (Cond.methodLink "CribLineLaw" (249 : Nat) ({ cls := "CribLineModel", name := "over", desc := "(I)I" } : MethodName)) ∈ gTbl := lw_memk tk_9 201 rfl rfl
theorem wd_2122 : (Cond.instanceMethod ({ cls := "CribLineModel", name := "over", desc := "(I)I" } : MethodName)) ∈ gTbl := lw_memk tk_9 202 rfl rfl
theorem wd_2123 : (Cond.selects "CribLineModel" ({ cls := "CribLineModel", name := "over", desc := "(I)I" } : MethodName) ({ cls := "CribLineModel", name := "over", desc := "(I)I" } : MethodName)) ∈ gTbl := lw_memk tk_9 203 rfl rfl
theorem wd_2124 : (Cond.code ({ cls := "CribLineModel", name := "over", desc := "(I)I" } : MethodName) prog_14_method_94_code (4 : Nat) (Option.some ClassFile.FieldType.int)) ∈ gTbl := lw_memk tk_9 204 rfl rfl
theorem wd_2125 : (Cond.methodLink "CribLineLaw" (340 : Nat) ({ cls := "CribLineModel", name := "ahead", desc := "(IIZ)I" } : MethodName)) ∈ gTbl := lw_memk tk_9 205 rfl rfl
theorem wd_2126 : (Cond.instanceMethod ({ cls := "CribLineModel", name := "ahead", desc := "(IIZ)I" } : MethodName)) ∈ gTbl := lw_memk tk_9 206 rfl rfl
theorem wd_2127 : (Cond.selects "CribLineModel" ({ cls := "CribLineModel", name := "ahead", desc := "(IIZ)I" } : MethodName) ({ cls := "CribLineModel", name := "ahead", desc := "(IIZ)I" } : MethodName)) ∈ gTbl := lw_memk tk_9 207 rfl rfl
theorem wd_2128 : (Cond.code ({ cls := "CribLineModel", name := "ahead", desc := "(IIZ)I" } : MethodName) prog_14_method_95_code (5 : Nat) (Option.some ClassFile.FieldType.int)) ∈ gTbl := lw_memk tk_9 208 rfl rfl
theorem wd_2129 : (Cond.methodLink "CribLineLaw" (289 : Nat) ({ cls := "CribLineModel", name := "mild", desc := "(I)I" } : MethodName)) ∈ gTbl := lw_memk tk_9 209 rfl rfl
theorem wd_2130 : (Cond.instanceMethod ({ cls := "CribLineModel", name := "mild", desc := "(I)I" } : MethodName)) ∈ gTbl := lw_memk tk_9 210 rfl rfl
theorem wd_2131 : (Cond.selects "CribLineModel" ({ cls := "CribLineModel", name := "mild", desc := "(I)I" } : MethodName) ({ cls := "CribLineModel", name := "mild", desc := "(I)I" } : MethodName)) ∈ gTbl := lw_memk tk_9 211 rfl rfl
theorem wd_2132 : (Cond.code ({ cls := "CribLineModel", name := "mild", desc := "(I)I" } : MethodName) prog_14_method_96_code (6 : Nat) (Option.some ClassFile.FieldType.int)) ∈ gTbl := lw_memk tk_9 212 rfl rfl
theorem wd_2133 : (Cond.methodLink "CribLineLaw" (224 : Nat) ({ cls := "CribLineModel", name := "fewest", desc := "(II)I" } : MethodName)) ∈ gTbl := lw_memk tk_9 213 rfl rfl
theorem wd_2134 : (Cond.instanceMethod ({ cls := "CribLineModel", name := "fewest", desc := "(II)I" } : MethodName)) ∈ gTbl := lw_memk tk_9 214 rfl rfl
theorem wd_2135 : (Cond.selects "CribLineModel" ({ cls := "CribLineModel", name := "fewest", desc := "(II)I" } : MethodName) ({ cls := "CribLineModel", name := "fewest", desc := "(II)I" } : MethodName)) ∈ gTbl := lw_memk tk_9 215 rfl rfl
theorem wd_2136 : (Cond.code ({ cls := "CribLineModel", name := "fewest", desc := "(II)I" } : MethodName) prog_14_method_101_code (3 : Nat) (Option.some ClassFile.FieldType.int)) ∈ gTbl := lw_memk tk_9 216 rfl rfl
theorem wd_2137 : (Cond.methodLink "CribLineModel" (404 : Nat) ({ cls := "CribLineModel", name := "noAge", desc := "(I)Z" } : MethodName)) ∈ gTbl := lw_memk tk_9 217 rfl rfl
theorem wd_2139 : (Cond.instanceMethod ({ cls := "CribLineModel", name := "noAge", desc := "(I)Z" } : MethodName)) ∈ gTbl := lw_memk tk_9 219 rfl rfl
theorem wd_2140 : (Cond.code ({ cls := "CribLineModel", name := "noAge", desc := "(I)Z" } : MethodName) prog_14_method_99_code (2 : Nat) (Option.some ClassFile.FieldType.boolean)) ∈ gTbl := lw_memk tk_9 220 rfl rfl
theorem wd_2141 : (Cond.methodLink "CribLineModel" (407 : Nat) ({ cls := "CribLineModel", name := "toAge", desc := "(IIZ)I" } : MethodName)) ∈ gTbl := lw_memk tk_9 221 rfl rfl
theorem wd_2143 : (Cond.instanceMethod ({ cls := "CribLineModel", name := "toAge", desc := "(IIZ)I" } : MethodName)) ∈ gTbl := lw_memk tk_9 223 rfl rfl
theorem wd_2144 : (Cond.code ({ cls := "CribLineModel", name := "toAge", desc := "(IIZ)I" } : MethodName) prog_14_method_100_code (4 : Nat) (Option.some ClassFile.FieldType.int)) ∈ gTbl := lw_memk tk_9 224 rfl rfl
theorem wd_2145 : (Cond.methodLink "CribLineModel" (401 : Nat) ({ cls := "CribLineModel", name := "looksRound", desc := "(II)V" } : MethodName)) ∈ gTbl := lw_memk tk_9 225 rfl rfl
theorem wd_2147 : (Cond.instanceMethod ({ cls := "CribLineModel", name := "looksRound", desc := "(II)V" } : MethodName)) ∈ gTbl := lw_memk tk_9 227 rfl rfl
theorem wd_2148 : (Cond.code ({ cls := "CribLineModel", name := "looksRound", desc := "(II)V" } : MethodName) prog_14_method_98_code (6 : Nat) (Option.none : Option ClassFile.FieldType)) ∈ gTbl := lw_memk tk_9 228 rfl rfl
theorem wd_2149 : (Cond.methodLink "CribLineModel" (394 : Nat) ({ cls := "CribLineModel", name := "finds", desc := "(III)V" } : MethodName)) ∈ gTbl := lw_memk tk_9 229 rfl rfl
theorem wd_2151 : (Cond.instanceMethod ({ cls := "CribLineModel", name := "finds", desc := "(III)V" } : MethodName)) ∈ gTbl := lw_memk tk_9 231 rfl rfl
theorem wd_2152 : (Cond.code ({ cls := "CribLineModel", name := "finds", desc := "(III)V" } : MethodName) prog_14_method_97_code (4 : Nat) (Option.none : Option ClassFile.FieldType)) ∈ gTbl := lw_memk tk_9 232 rfl rfl
theorem wd_2153 : (Cond.methodLink "CribLineModel" (398 : Nat) ({ cls := "CribLineModel", name := "fromAge", desc := "(III)I" } : MethodName)) ∈ gTbl := lw_memk tk_9 233 rfl rfl
theorem wd_2155 : (Cond.instanceMethod ({ cls := "CribLineModel", name := "fromAge", desc := "(III)I" } : MethodName)) ∈ gTbl := lw_memk tk_9 235 rfl rfl
theorem wd_2156 : (Cond.code ({ cls := "CribLineModel", name := "fromAge", desc := "(III)I" } : MethodName) prog_14_method_108_code (7 : Nat) (Option.some ClassFile.FieldType.int)) ∈ gTbl := lw_memk tk_9 236 rfl rfl
theorem wd_2157 : (Cond.methodLink "CribLineLaw" (227 : Nat) ({ cls := "CribLineModel", name := "first", desc := "(II)I" } : MethodName)) ∈ gTbl := lw_memk tk_9 237 rfl rfl
theorem wd_2158 : (Cond.instanceMethod ({ cls := "CribLineModel", name := "first", desc := "(II)I" } : MethodName)) ∈ gTbl := lw_memk tk_9 238 rfl rfl
theorem wd_2159 : (Cond.selects "CribLineModel" ({ cls := "CribLineModel", name := "first", desc := "(II)I" } : MethodName) ({ cls := "CribLineModel", name := "first", desc := "(II)I" } : MethodName)) ∈ gTbl := lw_memk tk_9 239 rfl rfl
theorem wd_2160 : (Cond.code ({ cls := "CribLineModel", name := "first", desc := "(II)I" } : MethodName) prog_14_method_102_code (3 : Nat) (Option.some ClassFile.FieldType.int)) ∈ gTbl := lw_memk tk_10 0 rfl rfl
theorem wd_2161 : (Cond.methodLink "CribLineLaw" (230 : Nat) ({ cls := "CribLineModel", name := "can", desc := "(II)I" } : MethodName)) ∈ gTbl := lw_memk tk_10 1 rfl rfl
theorem wd_2162 : (Cond.instanceMethod ({ cls := "CribLineModel", name := "can", desc := "(II)I" } : MethodName)) ∈ gTbl := lw_memk tk_10 2 rfl rfl
theorem wd_2163 : (Cond.selects "CribLineModel" ({ cls := "CribLineModel", name := "can", desc := "(II)I" } : MethodName) ({ cls := "CribLineModel", name := "can", desc := "(II)I" } : MethodName)) ∈ gTbl := lw_memk tk_10 3 rfl rfl
theorem wd_2164 : (Cond.code ({ cls := "CribLineModel", name := "can", desc := "(II)I" } : MethodName) prog_14_method_103_code (3 : Nat) (Option.some ClassFile.FieldType.int)) ∈ gTbl := lw_memk tk_10 4 rfl rfl
theorem wd_2165 : (Cond.methodLink "CribLineLaw" (233 : Nat) ({ cls := "CribLineModel", name := "harsh", desc := "(I)I" } : MethodName)) ∈ gTbl := lw_memk tk_10 5 rfl rfl
theorem wd_2166 : (Cond.instanceMethod ({ cls := "CribLineModel", name := "harsh", desc := "(I)I" } : MethodName)) ∈ gTbl := lw_memk tk_10 6 rfl rfl
theorem wd_2167 : (Cond.selects "CribLineModel" ({ cls := "CribLineModel", name := "harsh", desc := "(I)I" } : MethodName) ({ cls := "CribLineModel", name := "harsh", desc := "(I)I" } : MethodName)) ∈ gTbl := lw_memk tk_10 7 rfl rfl
theorem wd_2168 : (Cond.code ({ cls := "CribLineModel", name := "harsh", desc := "(I)I" } : MethodName) prog_14_method_105_code (2 : Nat) (Option.some ClassFile.FieldType.int)) ∈ gTbl := lw_memk tk_10 8 rfl rfl
theorem wd_2169 : (Cond.methodLink "CribLineModel" (410 : Nat) ({ cls := "CribLineModel", name := "heaviest", desc := "(IZ)I" } : MethodName)) ∈ gTbl := lw_memk tk_10 9 rfl rfl
theorem wd_2171 : (Cond.instanceMethod ({ cls := "CribLineModel", name := "heaviest", desc := "(IZ)I" } : MethodName)) ∈ gTbl := lw_memk tk_10 11 rfl rfl
theorem wd_2172 : (Cond.code ({ cls := "CribLineModel", name := "heaviest", desc := "(IZ)I" } : MethodName) prog_14_method_104_code (5 : Nat) (Option.some ClassFile.FieldType.int)) ∈ gTbl := lw_memk tk_10 12 rfl rfl
theorem wd_2173 : (Cond.methodLink "CribLineLaw" (236 : Nat) ({ cls := "CribLineModel", name := "kind", desc := "(I)I" } : MethodName)) ∈ gTbl := lw_memk tk_10 13 rfl rfl
theorem wd_2174 : (Cond.instanceMethod ({ cls := "CribLineModel", name := "kind", desc := "(I)I" } : MethodName)) ∈ gTbl := lw_memk tk_10 14 rfl rfl
theorem wd_2175 : (Cond.selects "CribLineModel" ({ cls := "CribLineModel", name := "kind", desc := "(I)I" } : MethodName) ({ cls := "CribLineModel", name := "kind", desc := "(I)I" } : MethodName)) ∈ gTbl := lw_memk tk_10 15 rfl rfl
theorem wd_2176 : (Cond.code ({ cls := "CribLineModel", name := "kind", desc := "(I)I" } : MethodName) prog_14_method_106_code (2 : Nat) (Option.some ClassFile.FieldType.int)) ∈ gTbl := lw_memk tk_10 16 rfl rfl
theorem wd_2177 : (Cond.methodLink "CribLineLaw" (252 : Nat) ({ cls := "CribLineModel", name := "said", desc := "(I)I" } : MethodName)) ∈ gTbl := lw_memk tk_10 17 rfl rfl
theorem wd_2178 : (Cond.instanceMethod ({ cls := "CribLineModel", name := "said", desc := "(I)I" } : MethodName)) ∈ gTbl := lw_memk tk_10 18 rfl rfl
theorem wd_2179 : (Cond.selects "CribLineModel" ({ cls := "CribLineModel", name := "said", desc := "(I)I" } : MethodName) ({ cls := "CribLineModel", name := "said", desc := "(I)I" } : MethodName)) ∈ gTbl := lw_memk tk_10 19 rfl rfl
theorem wd_2180 : (Cond.code ({ cls := "CribLineModel", name := "said", desc := "(I)I" } : MethodName) prog_14_method_110_code (2 : Nat) (Option.some ClassFile.FieldType.int)) ∈ gTbl := lw_memk tk_10 20 rfl rfl
theorem wd_2181 : (Cond.methodLink "CribLineModel" (414 : Nat) ({ cls := "CribLineModel", name := "isTold", desc := "()Z" } : MethodName)) ∈ gTbl := lw_memk tk_10 21 rfl rfl
theorem wd_2183 : (Cond.instanceMethod ({ cls := "CribLineModel", name := "isTold", desc := "()Z" } : MethodName)) ∈ gTbl := lw_memk tk_10 23 rfl rfl
theorem wd_2184 : (Cond.code ({ cls := "CribLineModel", name := "isTold", desc := "()Z" } : MethodName) prog_14_method_107_code (3 : Nat) (Option.some ClassFile.FieldType.boolean)) ∈ gTbl := lw_memk tk_10 24 rfl rfl
theorem wd_2185 : (Cond.methodLink "CribLineModel" (417 : Nat) ({ cls := "CribLineModel", name := "allThatFit", desc := "(I)I" } : MethodName)) ∈ gTbl := lw_memk tk_10 25 rfl rfl
theorem wd_2187 : (Cond.instanceMethod ({ cls := "CribLineModel", name := "allThatFit", desc := "(I)I" } : MethodName)) ∈ gTbl := lw_memk tk_10 27 rfl rfl
theorem wd_2188 : (Cond.code ({ cls := "CribLineModel", name := "allThatFit", desc := "(I)I" } : MethodName) prog_14_method_109_code (6 : Nat) (Option.some ClassFile.FieldType.int)) ∈ gTbl := lw_memk tk_10 28 rfl rfl
theorem wd_2189 : (Cond.methodLink "CribLineLaw" (255 : Nat) ({ cls := "CribLineModel", name := "ask", desc := "(I)I" } : MethodName)) ∈ gTbl := lw_memk tk_10 29 rfl rfl
theorem wd_2190 : (Cond.instanceMethod ({ cls := "CribLineModel", name := "ask", desc := "(I)I" } : MethodName)) ∈ gTbl := lw_memk tk_10 30 rfl rfl
theorem wd_2191 : (Cond.selects "CribLineModel" ({ cls := "CribLineModel", name := "ask", desc := "(I)I" } : MethodName) ({ cls := "CribLineModel", name := "ask", desc := "(I)I" } : MethodName)) ∈ gTbl := lw_memk tk_10 31 rfl rfl
theorem wd_2192 : (Cond.code ({ cls := "CribLineModel", name := "ask", desc := "(I)I" } : MethodName) prog_14_method_112_code (7 : Nat) (Option.some ClassFile.FieldType.int)) ∈ gTbl := lw_memk tk_10 32 rfl rfl
theorem wd_2193 : (Cond.methodLink "CribLineModel" (420 : Nat) ({ cls := "CribLineModel", name := "partBy", desc := "(III)I" } : MethodName)) ∈ gTbl := lw_memk tk_10 33 rfl rfl
theorem wd_2195 : (Cond.instanceMethod ({ cls := "CribLineModel", name := "partBy", desc := "(III)I" } : MethodName)) ∈ gTbl := lw_memk tk_10 35 rfl rfl
theorem wd_2196 : (Cond.code ({ cls := "CribLineModel", name := "partBy", desc := "(III)I" } : MethodName) prog_14_method_111_code (7 : Nat) (Option.some ClassFile.FieldType.int)) ∈ gTbl := lw_memk tk_10 36 rfl rfl
theorem wd_2197 : (Cond.methodLink "CribLineLaw" (259 : Nat) ({ cls := "CribLineModel", name := "match", desc := "(Z)I" } : MethodName)) ∈ gTbl := lw_memk tk_10 37 rfl rfl
theorem wd_2198 : (Cond.instanceMethod ({ cls := "CribLineModel", name := "match", desc := "(Z)I" } : MethodName)) ∈ gTbl := lw_memk tk_10 38 rfl rfl
theorem wd_2199 : (Cond.selects "CribLineModel" ({ cls := "CribLineModel", name := "match", desc := "(Z)I" } : MethodName) ({ cls := "CribLineModel", name := "match", desc := "(Z)I" } : MethodName)) ∈ gTbl := lw_memk tk_10 39 rfl rfl
theorem wd_2200 : (Cond.code ({ cls := "CribLineModel", name := "match", desc := "(Z)I" } : MethodName) prog_14_method_119_code (4 : Nat) (Option.some ClassFile.FieldType.int)) ∈ gTbl := lw_memk tk_10 40 rfl rfl
theorem wd_2201 : (Cond.methodLink "CribLineModel" (439 : Nat) ({ cls := "CribLineModel", name := "matches", desc := "()V" } : MethodName)) ∈ gTbl := lw_memk tk_10 41 rfl rfl
theorem wd_2203 : (Cond.instanceMethod ({ cls := "CribLineModel", name := "matches", desc := "()V" } : MethodName)) ∈ gTbl := lw_memk tk_10 43 rfl rfl
theorem wd_2204 : (Cond.code ({ cls := "CribLineModel", name := "matches", desc := "()V" } : MethodName) prog_14_method_118_code (4 : Nat) (Option.none : Option ClassFile.FieldType)) ∈ gTbl := lw_memk tk_10 44 rfl rfl
theorem wd_2205 : (Cond.methodLink "CribLineModel" (433 : Nat) ({ cls := "CribLineModel", name := "laysWorth", desc := "()V" } : MethodName)) ∈ gTbl := lw_memk tk_10 45 rfl rfl
theorem wd_2207 : (Cond.instanceMethod ({ cls := "CribLineModel", name := "laysWorth", desc := "()V" } : MethodName)) ∈ gTbl := lw_memk tk_10 47 rfl rfl
theorem wd_2208 : (Cond.code ({ cls := "CribLineModel", name := "laysWorth", desc := "()V" } : MethodName) prog_14_method_116_code (5 : Nat) (Option.none : Option ClassFile.FieldType)) ∈ gTbl := lw_memk tk_10 48 rfl rfl
theorem wd_2209 : (Cond.methodLink "CribLineModel" (423 : Nat) ({ cls := "CribLineModel", name := "worthAt", desc := "(II)I" } : MethodName)) ∈ gTbl := lw_memk tk_10 49 rfl rfl
theorem wd_2210 : (Cond.static ({ cls := "CribLineModel", name := "worthAt", desc := "(II)I" } : MethodName)) ∈ gTbl := lw_memk tk_10 50 rfl rfl
theorem wd_2211 : (Cond.code ({ cls := "CribLineModel", name := "worthAt", desc := "(II)I" } : MethodName) prog_14_method_114_code (2 : Nat) (Option.some ClassFile.FieldType.int)) ∈ gTbl := lw_memk tk_10 51 rfl rfl
theorem wd_2212 : (Cond.constant "CribLineModel" (429 : Nat) (-1000000 : Int32)) ∈ gTbl := lw_memk tk_10 52 rfl rfl
theorem wd_2213 : (Cond.methodLink "CribLineModel" (430 : Nat) ({ cls := "CribLineModel", name := "worthBy", desc := "(III)I" } : MethodName)) ∈ gTbl := lw_memk tk_10 53 rfl rfl
theorem wd_2215 : (Cond.instanceMethod ({ cls := "CribLineModel", name := "worthBy", desc := "(III)I" } : MethodName)) ∈ gTbl := lw_memk tk_10 55 rfl rfl
theorem wd_2216 : (Cond.code ({ cls := "CribLineModel", name := "worthBy", desc := "(III)I" } : MethodName) prog_14_method_115_code (4 : Nat) (Option.some ClassFile.FieldType.int)) ∈ gTbl := lw_memk tk_10 56 rfl rfl
theorem wd_2217 : (Cond.methodLink "CribLineModel" (426 : Nat) ({ cls := "CribLineModel", name := "canPair", desc := "(II)Z" } : MethodName)) ∈ gTbl := lw_memk tk_10 57 rfl rfl
theorem wd_2219 : (Cond.instanceMethod ({ cls := "CribLineModel", name := "canPair", desc := "(II)Z" } : MethodName)) ∈ gTbl := lw_memk tk_10 59 rfl rfl
theorem wd_2220 : (Cond.code ({ cls := "CribLineModel", name := "canPair", desc := "(II)Z" } : MethodName) prog_14_method_113_code (3 : Nat) (Option.some ClassFile.FieldType.boolean)) ∈ gTbl := lw_memk tk_10 60 rfl rfl
theorem wd_2221 : (Cond.methodLink "CribLineModel" (436 : Nat) ({ cls := "CribLineModel", name := "noMates", desc := "()V" } : MethodName)) ∈ gTbl := lw_memk tk_10 61 rfl rfl
theorem wd_2223 : (Cond.instanceMethod ({ cls := "CribLineModel", name := "noMates", desc := "()V" } : MethodName)) ∈ gTbl := lw_memk tk_10 63 rfl rfl
theorem wd_2224 : (Cond.code ({ cls := "CribLineModel", name := "noMates", desc := "()V" } : MethodName) prog_14_method_117_code (2 : Nat) (Option.none : Option ClassFile.FieldType)) ∈ gTbl := lw_memk tk_10 64 rfl rfl
theorem wd_2225 : (Cond.methodLink "CribLineLaw" (262 : Nat) ({ cls := "CribLineModel", name := "mate", desc := "(I)I" } : MethodName)) ∈ gTbl := lw_memk tk_10 65 rfl rfl
theorem wd_2226 : (Cond.instanceMethod ({ cls := "CribLineModel", name := "mate", desc := "(I)I" } : MethodName)) ∈ gTbl := lw_memk tk_10 66 rfl rfl
theorem wd_2227 : (Cond.selects "CribLineModel" ({ cls := "CribLineModel", name := "mate", desc := "(I)I" } : MethodName) ({ cls := "CribLineModel", name := "mate", desc := "(I)I" } : MethodName)) ∈ gTbl := lw_memk tk_10 67 rfl rfl
theorem wd_2228 : (Cond.code ({ cls := "CribLineModel", name := "mate", desc := "(I)I" } : MethodName) prog_14_method_120_code (2 : Nat) (Option.some ClassFile.FieldType.int)) ∈ gTbl := lw_memk tk_10 68 rfl rfl
theorem wd_2229 : (Cond.methodLink "CribLineLaw" (265 : Nat) ({ cls := "CribLineModel", name := "stable", desc := "(I)I" } : MethodName)) ∈ gTbl := lw_memk tk_10 69 rfl rfl
theorem wd_2230 : (Cond.instanceMethod ({ cls := "CribLineModel", name := "stable", desc := "(I)I" } : MethodName)) ∈ gTbl := lw_memk tk_10 70 rfl rfl
theorem wd_2231 : (Cond.selects "CribLineModel" ({ cls := "CribLineModel", name := "stable", desc := "(I)I" } : MethodName) ({ cls := "CribLineModel", name := "stable", desc := "(I)I" } : MethodName)) ∈ gTbl := lw_memk tk_10 71 rfl rfl
theorem wd_2232 : (Cond.code ({ cls := "CribLineModel", name := "stable", desc := "(I)I" } : MethodName) prog_14_method_124_code (4 : Nat) (Option.some ClassFile.FieldType.int)) ∈ gTbl := lw_memk tk_10 72 rfl rfl
theorem wd_2233 : (Cond.methodLink "CribLineModel" (448 : Nat) ({ cls := "CribLineModel", name := "asks", desc := "(I)V" } : MethodName)) ∈ gTbl := lw_memk tk_10 73 rfl rfl
theorem wd_2235 : (Cond.instanceMethod ({ cls := "CribLineModel", name := "asks", desc := "(I)V" } : MethodName)) ∈ gTbl := lw_memk tk_10 75 rfl rfl
theorem wd_2236 : (Cond.code ({ cls := "CribLineModel", name := "asks", desc := "(I)V" } : MethodName) prog_14_method_123_code (4 : Nat) (Option.none : Option ClassFile.FieldType)) ∈ gTbl := lw_memk tk_10 76 rfl rfl
theorem wd_2237 : (Cond.methodLink "CribLineModel" (442 : Nat) ({ cls := "CribLineModel", name := "nextOf", desc := "(I)I" } : MethodName)) ∈ gTbl := lw_memk tk_10 77 rfl rfl
theorem wd_2239 : (Cond.instanceMethod ({ cls := "CribLineModel", name := "nextOf", desc := "(I)I" } : MethodName)) ∈ gTbl := lw_memk tk_10 79 rfl rfl
theorem wd_2240 : (Cond.code ({ cls := "CribLineModel", name := "nextOf", desc := "(I)I" } : MethodName) prog_14_method_121_code (4 : Nat) (Option.some ClassFile.FieldType.int)) ∈ gTbl := lw_memk tk_10 80 rfl rfl
theorem wd_2241 : (Cond.methodLink "CribLineModel" (445 : Nat) ({ cls := "CribLineModel", name := "wouldRather", desc := "(II)Z" } : MethodName)) ∈ gTbl := lw_memk tk_10 81 rfl rfl
theorem wd_2243 : (Cond.instanceMethod ({ cls := "CribLineModel", name := "wouldRather", desc := "(II)Z" } : MethodName)) ∈ gTbl := lw_memk tk_10 83 rfl rfl
theorem wd_2244 : (Cond.code ({ cls := "CribLineModel", name := "wouldRather", desc := "(II)Z" } : MethodName) prog_14_method_122_code (4 : Nat) (Option.some ClassFile.FieldType.boolean)) ∈ gTbl := lw_memk tk_10 84 rfl rfl
theorem wd_2245 : (Cond.methodLink "CribLineLaw" (269 : Nat) ({ cls := "CribLineModel", name := "runs", desc := "()I" } : MethodName)) ∈ gTbl := lw_memk tk_10 85 rfl rfl
theorem wd_2246 : (Cond.instanceMethod ({ cls := "CribLineModel", name := "runs", desc := "()I" } : MethodName)) ∈ gTbl := lw_memk tk_10 86 rfl rfl
theorem wd_2247 : (Cond.selects "CribLineModel" ({ cls := "CribLineModel", name := "runs", desc := "()I" } : MethodName) ({ cls := "CribLineModel", name := "runs", desc := "()I" } : MethodName)) ∈ gTbl := lw_memk tk_10 87 rfl rfl
theorem wd_2248 : (Cond.code ({ cls := "CribLineModel", name := "runs", desc := "()I" } : MethodName) prog_14_method_126_code (4 : Nat) (Option.some ClassFile.FieldType.int)) ∈ gTbl := lw_memk tk_10 88 rfl rfl
theorem wd_2249 : (Cond.methodLink "CribLineModel" (452 : Nat) ({ cls := "CribLineModel", name := "wouldRun", desc := "(II)Z" } : MethodName)) ∈ gTbl := lw_memk tk_10 89 rfl rfl
theorem wd_2251 : (Cond.instanceMethod ({ cls := "CribLineModel", name := "wouldRun", desc := "(II)Z" } : MethodName)) ∈ gTbl := lw_memk tk_10 91 rfl rfl
theorem wd_2252 : (Cond.code ({ cls := "CribLineModel", name := "wouldRun", desc := "(II)Z" } : MethodName) prog_14_method_125_code (3 : Nat) (Option.some ClassFile.FieldType.boolean)) ∈ gTbl := lw_memk tk_10 92 rfl rfl
theorem wd_2253 : (Cond.methodLink "CribLineLaw" (272 : Nat) ({ cls := "CribLineModel", name := "owes", desc := "(II)I" } : MethodName)) ∈ gTbl := lw_memk tk_10 93 rfl rfl
theorem wd_2254 : (Cond.instanceMethod ({ cls := "CribLineModel", name := "owes", desc := "(II)I" } : MethodName)) ∈ gTbl := lw_memk tk_10 94 rfl rfl
theorem wd_2255 : (Cond.selects "CribLineModel" ({ cls := "CribLineModel", name := "owes", desc := "(II)I" } : MethodName) ({ cls := "CribLineModel", name := "owes", desc := "(II)I" } : MethodName)) ∈ gTbl := lw_memk tk_10 95 rfl rfl
theorem wd_2256 : (Cond.code ({ cls := "CribLineModel", name := "owes", desc := "(II)I" } : MethodName) prog_14_method_127_code (3 : Nat) (Option.some ClassFile.FieldType.int)) ∈ gTbl := lw_memk tk_10 96 rfl rfl
theorem wd_2257 : (Cond.methodLink "CribLineLaw" (276 : Nat) ({ cls := "CribLineModel", name := "net", desc := "()I" } : MethodName)) ∈ gTbl := lw_memk tk_10 97 rfl rfl
theorem wd_2258 : (Cond.instanceMethod ({ cls := "CribLineModel", name := "net", desc := "()I" } : MethodName)) ∈ gTbl := lw_memk tk_10 98 rfl rfl
theorem wd_2259 : (Cond.selects "CribLineModel" ({ cls := "CribLineModel", name := "net", desc := "()I" } : MethodName) ({ cls := "CribLineModel", name := "net", desc := "()I" } : MethodName)) ∈ gTbl := lw_memk tk_10 99 rfl rfl
theorem wd_2260 : (Cond.code ({ cls := "CribLineModel", name := "net", desc := "()I" } : MethodName) prog_14_method_128_code (5 : Nat) (Option.some ClassFile.FieldType.int)) ∈ gTbl := lw_memk tk_10 100 rfl rfl
theorem wd_2261 : (Cond.methodLink "CribLineLaw" (279 : Nat) ({ cls := "CribLineModel", name := "ring", desc := "(I)Z" } : MethodName)) ∈ gTbl := lw_memk tk_10 101 rfl rfl
theorem wd_2262 : (Cond.instanceMethod ({ cls := "CribLineModel", name := "ring", desc := "(I)Z" } : MethodName)) ∈ gTbl := lw_memk tk_10 102 rfl rfl
theorem wd_2263 : (Cond.selects "CribLineModel" ({ cls := "CribLineModel", name := "ring", desc := "(I)Z" } : MethodName) ({ cls := "CribLineModel", name := "ring", desc := "(I)Z" } : MethodName)) ∈ gTbl := lw_memk tk_10 103 rfl rfl
theorem wd_2264 : (Cond.code ({ cls := "CribLineModel", name := "ring", desc := "(I)Z" } : MethodName) prog_14_method_130_code (4 : Nat) (Option.some ClassFile.FieldType.boolean)) ∈ gTbl := lw_memk tk_10 104 rfl rfl
theorem wd_2265 : (Cond.methodLink "CribLineModel" (455 : Nat) ({ cls := "CribLineModel", name := "lentBy", desc := "(I)I" } : MethodName)) ∈ gTbl := lw_memk tk_10 105 rfl rfl
theorem wd_2267 : (Cond.instanceMethod ({ cls := "CribLineModel", name := "lentBy", desc := "(I)I" } : MethodName)) ∈ gTbl := lw_memk tk_10 107 rfl rfl
theorem wd_2268 : (Cond.code ({ cls := "CribLineModel", name := "lentBy", desc := "(I)I" } : MethodName) prog_14_method_129_code (5 : Nat) (Option.some ClassFile.FieldType.int)) ∈ gTbl := lw_memk tk_10 108 rfl rfl
theorem wd_2269 : (Cond.methodLink "CribLineLaw" (283 : Nat) ({ cls := "CribLineModel", name := "rich", desc := "()I" } : MethodName)) ∈ gTbl := lw_memk tk_10 109 rfl rfl
theorem wd_2270 : (Cond.instanceMethod ({ cls := "CribLineModel", name := "rich", desc := "()I" } : MethodName)) ∈ gTbl := lw_memk tk_10 110 rfl rfl
theorem wd_2271 : (Cond.selects "CribLineModel" ({ cls := "CribLineModel", name := "rich", desc := "()I" } : MethodName) ({ cls := "CribLineModel", name := "rich", desc := "()I" } : MethodName)) ∈ gTbl := lw_memk tk_10 111 rfl rfl
theorem wd_2272 : (Cond.code ({ cls := "CribLineModel", name := "rich", desc := "()I" } : MethodName) prog_14_method_131_code (3 : Nat) (Option.some ClassFile.FieldType.int)) ∈ gTbl := lw_memk tk_10 112 rfl rfl
theorem wd_2273 : (Cond.methodLink "CribLineLaw" (286 : Nat) ({ cls := "CribLineModel", name := "rests", desc := "(II)I" } : MethodName)) ∈ gTbl := lw_memk tk_10 113 rfl rfl
theorem wd_2274 : (Cond.instanceMethod ({ cls := "CribLineModel", name := "rests", desc := "(II)I" } : MethodName)) ∈ gTbl := lw_memk tk_10 114 rfl rfl
theorem wd_2275 : (Cond.selects "CribLineModel" ({ cls := "CribLineModel", name := "rests", desc := "(II)I" } : MethodName) ({ cls := "CribLineModel", name := "rests", desc := "(II)I" } : MethodName)) ∈ gTbl := lw_memk tk_10 115 rfl rfl
theorem wd_2276 : (Cond.code ({ cls := "CribLineModel", name := "rests", desc := "(II)I" } : MethodName) prog_14_method_134_code (7 : Nat) (Option.some ClassFile.FieldType.int)) ∈ gTbl := lw_memk tk_10 116 rfl rfl
theorem wd_2277 : (Cond.methodLink "CribLineModel" (458 : Nat) ({ cls := "CribLineModel", name := "elderHas", desc := "(III)I" } : MethodName)) ∈ gTbl := lw_memk tk_10 117 rfl rfl
theorem wd_2279 : (Cond.instanceMethod ({ cls := "CribLineModel", name := "elderHas", desc := "(III)I" } : MethodName)) ∈ gTbl := lw_memk tk_10 119 rfl rfl
theorem wd_2280 : (Cond.code ({ cls := "CribLineModel", name := "elderHas", desc := "(III)I" } : MethodName) prog_14_method_132_code (4 : Nat) (Option.some ClassFile.FieldType.int)) ∈ gTbl := lw_memk tk_10 120 rfl rfl
theorem wd_2281 : (Cond.methodLink "CribLineModel" (461 : Nat) ({ cls := "CribLineModel", name := "childHas", desc := "(IIII)I" } : MethodName)) ∈ gTbl := lw_memk tk_10 121 rfl rfl
theorem wd_2283 : (Cond.instanceMethod ({ cls := "CribLineModel", name := "childHas", desc := "(IIII)I" } : MethodName)) ∈ gTbl := lw_memk tk_10 123 rfl rfl
theorem wd_2284 : (Cond.code ({ cls := "CribLineModel", name := "childHas", desc := "(IIII)I" } : MethodName) prog_14_method_133_code (5 : Nat) (Option.some ClassFile.FieldType.int)) ∈ gTbl := lw_memk tk_10 124 rfl rfl
theorem wd_2285 : (Cond.methodLink "CribLineLaw" (292 : Nat) ({ cls := "CribLineModel", name := "branch", desc := "(I)I" } : MethodName)) ∈ gTbl := lw_memk tk_10 125 rfl rfl
theorem wd_2286 : (Cond.instanceMethod ({ cls := "CribLineModel", name := "branch", desc := "(I)I" } : MethodName)) ∈ gTbl := lw_memk tk_10 126 rfl rfl
theorem wd_2287 : (Cond.selects "CribLineModel" ({ cls := "CribLineModel", name := "branch", desc := "(I)I" } : MethodName) ({ cls := "CribLineModel", name := "branch", desc := "(I)I" } : MethodName)) ∈ gTbl := lw_memk tk_10 127 rfl rfl
theorem wd_2288 : (Cond.code ({ cls := "CribLineModel", name := "branch", desc := "(I)I" } : MethodName) prog_14_method_136_code (2 : Nat) (Option.some ClassFile.FieldType.int)) ∈ gTbl := lw_memk tk_10 128 rfl rfl
theorem wd_2289 : (Cond.methodLink "CribLineModel" (464 : Nat) ({ cls := "CribLineModel", name := "branchOf", desc := "(I)I" } : MethodName)) ∈ gTbl := lw_memk tk_10 129 rfl rfl
theorem wd_2291 : (Cond.instanceMethod ({ cls := "CribLineModel", name := "branchOf", desc := "(I)I" } : MethodName)) ∈ gTbl := lw_memk tk_10 131 rfl rfl
theorem wd_2292 : (Cond.code ({ cls := "CribLineModel", name := "branchOf", desc := "(I)I" } : MethodName) prog_14_method_135_code (4 : Nat) (Option.some ClassFile.FieldType.int)) ∈ gTbl := lw_memk tk_10 132 rfl rfl
theorem wd_2293 : (Cond.methodLink "CribLineLaw" (296 : Nat) ({ cls := "CribLineModel", name := "senior", desc := "()I" } : MethodName)) ∈ gTbl := lw_memk tk_10 133 rfl rfl
theorem wd_2294 : (Cond.instanceMethod ({ cls := "CribLineModel", name := "senior", desc := "()I" } : MethodName)) ∈ gTbl := lw_memk tk_10 134 rfl rfl
theorem wd_2295 : (Cond.selects "CribLineModel" ({ cls := "CribLineModel", name := "senior", desc := "()I" } : MethodName) ({ cls := "CribLineModel", name := "senior", desc := "()I" } : MethodName)) ∈ gTbl := lw_memk tk_10 135 rfl rfl
theorem wd_2296 : (Cond.code ({ cls := "CribLineModel", name := "senior", desc := "()I" } : MethodName) prog_14_method_138_code (3 : Nat) (Option.some ClassFile.FieldType.int)) ∈ gTbl := lw_memk tk_10 136 rfl rfl
theorem wd_2297 : (Cond.methodLink "CribLineModel" (467 : Nat) ({ cls := "CribLineModel", name := "agesOf", desc := "(I)I" } : MethodName)) ∈ gTbl := lw_memk tk_10 137 rfl rfl
theorem wd_2299 : (Cond.instanceMethod ({ cls := "CribLineModel", name := "agesOf", desc := "(I)I" } : MethodName)) ∈ gTbl := lw_memk tk_10 139 rfl rfl
theorem wd_2300 : (Cond.code ({ cls := "CribLineModel", name := "agesOf", desc := "(I)I" } : MethodName) prog_14_method_137_code (4 : Nat) (Option.some ClassFile.FieldType.int)) ∈ gTbl := lw_memk tk_10 140 rfl rfl
theorem wd_2301 : (Cond.methodLink "CribLineLaw" (299 : Nat) ({ cls := "CribLineModel", name := "kin", desc := "(II)I" } : MethodName)) ∈ gTbl := lw_memk tk_10 141 rfl rfl
theorem wd_2302 : (Cond.instanceMethod ({ cls := "CribLineModel", name := "kin", desc := "(II)I" } : MethodName)) ∈ gTbl := lw_memk tk_10 142 rfl rfl
theorem wd_2303 : (Cond.selects "CribLineModel" ({ cls := "CribLineModel", name := "kin", desc := "(II)I" } : MethodName) ({ cls := "CribLineModel", name := "kin", desc := "(II)I" } : MethodName)) ∈ gTbl := lw_memk tk_10 143 rfl rfl
theorem wd_2304 : (Cond.code ({ cls := "CribLineModel", name := "kin", desc := "(II)I" } : MethodName) prog_14_method_140_code (5 : Nat) (Option.some ClassFile.FieldType.int)) ∈ gTbl := lw_memk tk_10 144 rfl rfl
theorem wd_2305 : (Cond.methodLink "CribLineModel" (470 : Nat) ({ cls := "CribLineModel", name := "closeTo", desc := "(I)I" } : MethodName)) ∈ gTbl := lw_memk tk_10 145 rfl rfl
theorem wd_2307 : (Cond.instanceMethod ({ cls := "CribLineModel", name := "closeTo", desc := "(I)I" } : MethodName)) ∈ gTbl := lw_memk tk_10 147 rfl rfl
theorem wd_2308 : (Cond.code ({ cls := "CribLineModel", name := "closeTo", desc := "(I)I" } : MethodName) prog_14_method_139_code (5 : Nat) (Option.some ClassFile.FieldType.int)) ∈ gTbl := lw_memk tk_10 148 rfl rfl
theorem wd_2309 : (Cond.methodLink "CribLineLaw" (302 : Nat) ({ cls := "CribLineModel", name := "cousins", desc := "(I)I" } : MethodName)) ∈ gTbl := lw_memk tk_10 149 rfl rfl
theorem wd_2310 : (Cond.instanceMethod ({ cls := "CribLineModel", name := "cousins", desc := "(I)I" } : MethodName)) ∈ gTbl := lw_memk tk_10 150 rfl rfl
theorem wd_2311 : (Cond.selects "CribLineModel" ({ cls := "CribLineModel", name := "cousins", desc := "(I)I" } : MethodName) ({ cls := "CribLineModel", name := "cousins", desc := "(I)I" } : MethodName)) ∈ gTbl := lw_memk tk_10 151 rfl rfl
theorem wd_2312 : (Cond.code ({ cls := "CribLineModel", name := "cousins", desc := "(I)I" } : MethodName) prog_14_method_142_code (4 : Nat) (Option.some ClassFile.FieldType.int)) ∈ gTbl := lw_memk tk_10 152 rfl rfl
theorem wd_2313 : (Cond.methodLink "CribLineModel" (473 : Nat) ({ cls := "CribLineModel", name := "grandOf", desc := "(I)I" } : MethodName)) ∈ gTbl := lw_memk tk_10 153 rfl rfl
theorem wd_2315 : (Cond.instanceMethod ({ cls := "CribLineModel", name := "grandOf", desc := "(I)I" } : MethodName)) ∈ gTbl := lw_memk tk_10 155 rfl rfl
theorem wd_2316 : (Cond.code ({ cls := "CribLineModel", name := "grandOf", desc := "(I)I" } : MethodName) prog_14_method_141_code (3 : Nat) (Option.some ClassFile.FieldType.int)) ∈ gTbl := lw_memk tk_10 156 rfl rfl
theorem wd_2317 : (Cond.methodLink "CribLineLaw" (305 : Nat) ({ cls := "CribLineModel", name := "under", desc := "(I)I" } : MethodName)) ∈ gTbl := lw_memk tk_10 157 rfl rfl
theorem wd_2318 : (Cond.instanceMethod ({ cls := "CribLineModel", name := "under", desc := "(I)I" } : MethodName)) ∈ gTbl := lw_memk tk_10 158 rfl rfl
theorem wd_2319 : (Cond.selects "CribLineModel" ({ cls := "CribLineModel", name := "under", desc := "(I)I" } : MethodName) ({ cls := "CribLineModel", name := "under", desc := "(I)I" } : MethodName)) ∈ gTbl := lw_memk tk_10 159 rfl rfl
theorem wd_2320 : (Cond.code ({ cls := "CribLineModel", name := "under", desc := "(I)I" } : MethodName) prog_14_method_143_code (5 : Nat) (Option.some ClassFile.FieldType.int)) ∈ gTbl := lw_memk tk_10 160 rfl rfl
theorem wd_2321 : (Cond.methodLink "CribLineLaw" (309 : Nat) ({ cls := "CribLineModel", name := "free", desc := "()I" } : MethodName)) ∈ gTbl := lw_memk tk_10 161 rfl rfl
theorem wd_2322 : (Cond.instanceMethod ({ cls := "CribLineModel", name := "free", desc := "()I" } : MethodName)) ∈ gTbl := lw_memk tk_10 162 rfl rfl
theorem wd_2323 : (Cond.selects "CribLineModel" ({ cls := "CribLineModel", name := "free", desc := "()I" } : MethodName) ({ cls := "CribLineModel", name := "free", desc := "()I" } : MethodName)) ∈ gTbl := lw_memk tk_10 163 rfl rfl
theorem wd_2324 : (Cond.code ({ cls := "CribLineModel", name := "free", desc := "()I" } : MethodName) prog_14_method_144_code (3 : Nat) (Option.some ClassFile.FieldType.int)) ∈ gTbl := lw_memk tk_10 164 rfl rfl
theorem wd_2325 : (Cond.methodLink "CribLineLaw" (313 : Nat) ({ cls := "CribLineModel", name := "odds", desc := "(III)I" } : MethodName)) ∈ gTbl := lw_memk tk_10 165 rfl rfl
theorem wd_2326 : (Cond.instanceMethod ({ cls := "CribLineModel", name := "odds", desc := "(III)I" } : MethodName)) ∈ gTbl := lw_memk tk_10 166 rfl rfl
theorem wd_2327 : (Cond.selects "CribLineModel" ({ cls := "CribLineModel", name := "odds", desc := "(III)I" } : MethodName) ({ cls := "CribLineModel", name := "odds", desc := "(III)I" } : MethodName)) ∈ gTbl := lw_memk tk_10 167 rfl rfl
theorem wd_2328 : (Cond.code ({ cls := "CribLineModel", name := "odds", desc := "(III)I" } : MethodName) prog_14_method_145_code (16 : Nat) (Option.some ClassFile.FieldType.int)) ∈ gTbl := lw_memk tk_10 168 rfl rfl
theorem wd_2329 : (Cond.constantLong "CribLineModel" (476 : Nat) (10000 : Int64)) ∈ gTbl := lw_memk tk_10 169 rfl rfl
theorem wd_2330 : (Cond.methodLink "CribLineLaw" (317 : Nat) ({ cls := "CribLineModel", name := "twins", desc := "()I" } : MethodName)) ∈ gTbl := lw_memk tk_10 170 rfl rfl
theorem wd_2331 : (Cond.instanceMethod ({ cls := "CribLineModel", name := "twins", desc := "()I" } : MethodName)) ∈ gTbl := lw_memk tk_10 171 rfl rfl
theorem wd_2332 : (Cond.selects "CribLineModel" ({ cls := "CribLineModel", name := "twins", desc := "()I" } : MethodName) ({ cls := "CribLineModel", name := "twins", desc := "()I" } : MethodName)) ∈ gTbl := lw_memk tk_10 172 rfl rfl
theorem wd_2333 : (Cond.code ({ cls := "CribLineModel", name := "twins", desc := "()I" } : MethodName) prog_14_method_146_code (4 : Nat) (Option.some ClassFile.FieldType.int)) ∈ gTbl := lw_memk tk_10 173 rfl rfl
theorem wd_2334 : (Cond.methodLink "CribLineLaw" (321 : Nat) ({ cls := "CribLineModel", name := "mean", desc := "()I" } : MethodName)) ∈ gTbl := lw_memk tk_10 174 rfl rfl
theorem wd_2335 : (Cond.instanceMethod ({ cls := "CribLineModel", name := "mean", desc := "()I" } : MethodName)) ∈ gTbl := lw_memk tk_10 175 rfl rfl
theorem wd_2336 : (Cond.selects "CribLineModel" ({ cls := "CribLineModel", name := "mean", desc := "()I" } : MethodName) ({ cls := "CribLineModel", name := "mean", desc := "()I" } : MethodName)) ∈ gTbl := lw_memk tk_10 176 rfl rfl
theorem wd_2337 : (Cond.code ({ cls := "CribLineModel", name := "mean", desc := "()I" } : MethodName) prog_14_method_148_code (1 : Nat) (Option.some ClassFile.FieldType.int)) ∈ gTbl := lw_memk tk_10 177 rfl rfl
theorem wd_2338 : (Cond.methodLink "CribLineModel" (478 : Nat) ({ cls := "CribLineModel", name := "agesOfAll", desc := "()I" } : MethodName)) ∈ gTbl := lw_memk tk_10 178 rfl rfl
theorem wd_2340 : (Cond.instanceMethod ({ cls := "CribLineModel", name := "agesOfAll", desc := "()I" } : MethodName)) ∈ gTbl := lw_memk tk_10 180 rfl rfl
theorem wd_2341 : (Cond.code ({ cls := "CribLineModel", name := "agesOfAll", desc := "()I" } : MethodName) prog_14_method_147_code (1 : Nat) (Option.some ClassFile.FieldType.int)) ∈ gTbl := lw_memk tk_10 181 rfl rfl
theorem wd_2342 : (Cond.methodLink "CribLineLaw" (325 : Nat) ({ cls := "CribLineModel", name := "oldest", desc := "()I" } : MethodName)) ∈ gTbl := lw_memk tk_10 182 rfl rfl
theorem wd_2343 : (Cond.instanceMethod ({ cls := "CribLineModel", name := "oldest", desc := "()I" } : MethodName)) ∈ gTbl := lw_memk tk_10 183 rfl rfl
theorem wd_2344 : (Cond.selects "CribLineModel" ({ cls := "CribLineModel", name := "oldest", desc := "()I" } : MethodName) ({ cls := "CribLineModel", name := "oldest", desc := "()I" } : MethodName)) ∈ gTbl := lw_memk tk_10 184 rfl rfl
theorem wd_2345 : (Cond.code ({ cls := "CribLineModel", name := "oldest", desc := "()I" } : MethodName) prog_14_method_149_code (3 : Nat) (Option.some ClassFile.FieldType.int)) ∈ gTbl := lw_memk tk_10 185 rfl rfl
theorem wd_2346 : (Cond.methodLink "CribLineLaw" (329 : Nat) ({ cls := "CribLineModel", name := "youngest", desc := "()I" } : MethodName)) ∈ gTbl := lw_memk tk_10 186 rfl rfl
theorem wd_2347 : (Cond.instanceMethod ({ cls := "CribLineModel", name := "youngest", desc := "()I" } : MethodName)) ∈ gTbl := lw_memk tk_10 187 rfl rfl
theorem wd_2348 : (Cond.selects "CribLineModel" ({ cls := "CribLineModel", name := "youngest", desc := "()I" } : MethodName) ({ cls := "CribLineModel", name := "youngest", desc := "()I" } : MethodName)) ∈ gTbl := lw_memk tk_10 188 rfl rfl
theorem wd_2349 : (Cond.code ({ cls := "CribLineModel", name := "youngest", desc := "()I" } : MethodName) prog_14_method_150_code (3 : Nat) (Option.some ClassFile.FieldType.int)) ∈ gTbl := lw_memk tk_10 189 rfl rfl
theorem wd_2350 : (Cond.methodLink "CribLineLaw" (333 : Nat) ({ cls := "CribLineModel", name := "crib", desc := "()I" } : MethodName)) ∈ gTbl := lw_memk tk_10 190 rfl rfl
theorem wd_2351 : (Cond.instanceMethod ({ cls := "CribLineModel", name := "crib", desc := "()I" } : MethodName)) ∈ gTbl := lw_memk tk_10 191 rfl rfl
theorem wd_2352 : (Cond.selects "CribLineModel" ({ cls := "CribLineModel", name := "crib", desc := "()I" } : MethodName) ({ cls := "CribLineModel", name := "crib", desc := "()I" } : MethodName)) ∈ gTbl := lw_memk tk_10 192 rfl rfl
theorem wd_2353 : (Cond.code ({ cls := "CribLineModel", name := "crib", desc := "()I" } : MethodName) prog_14_method_151_code (1 : Nat) (Option.some ClassFile.FieldType.int)) ∈ gTbl := lw_memk tk_10 193 rfl rfl
theorem wd_2354 : (Cond.methodLink "CribLineLaw" (337 : Nat) ({ cls := "CribLineModel", name := "spread", desc := "()I" } : MethodName)) ∈ gTbl := lw_memk tk_10 194 rfl rfl
theorem wd_2355 : (Cond.instanceMethod ({ cls := "CribLineModel", name := "spread", desc := "()I" } : MethodName)) ∈ gTbl := lw_memk tk_10 195 rfl rfl
theorem wd_2356 : (Cond.selects "CribLineModel" ({ cls := "CribLineModel", name := "spread", desc := "()I" } : MethodName) ({ cls := "CribLineModel", name := "spread", desc := "()I" } : MethodName)) ∈ gTbl := lw_memk tk_10 196 rfl rfl
theorem wd_2357 : (Cond.code ({ cls := "CribLineModel", name := "spread", desc := "()I" } : MethodName) prog_14_method_152_code (5 : Nat) (Option.some ClassFile.FieldType.int)) ∈ gTbl := lw_memk tk_10 197 rfl rfl
theorem wd_2358 : (Cond.methodLink "CribLineLaw" (343 : Nat) ({ cls := "CribLineModel", name := "trial", desc := "(IZ)I" } : MethodName)) ∈ gTbl := lw_memk tk_10 198 rfl rfl
theorem wd_2359 : (Cond.instanceMethod ({ cls := "CribLineModel", name := "trial", desc := "(IZ)I" } : MethodName)) ∈ gTbl := lw_memk tk_10 199 rfl rfl
theorem wd_2360 : (Cond.selects "CribLineModel" ({ cls := "CribLineModel", name := "trial", desc := "(IZ)I" } : MethodName) ({ cls := "CribLineModel", name := "trial", desc := "(IZ)I" } : MethodName)) ∈ gTbl := lw_memk tk_10 200 rfl rfl
theorem wd_2361 : (Cond.code ({ cls := "CribLineModel", name := "trial", desc := "(IZ)I" } : MethodName) prog_14_method_153_code (4 : Nat) (Option.some ClassFile.FieldType.int)) ∈ gTbl := lw_memk tk_10 201 rfl rfl
theorem wd_2362 : (Cond.methodLink "CribLineLaw" (346 : Nat) ({ cls := "CribLineModel", name := "span", desc := "(IZ)I" } : MethodName)) ∈ gTbl := lw_memk tk_10 202 rfl rfl
theorem wd_2363 : (Cond.instanceMethod ({ cls := "CribLineModel", name := "span", desc := "(IZ)I" } : MethodName)) ∈ gTbl := lw_memk tk_10 203 rfl rfl
theorem wd_2364 : (Cond.selects "CribLineModel" ({ cls := "CribLineModel", name := "span", desc := "(IZ)I" } : MethodName) ({ cls := "CribLineModel", name := "span", desc := "(IZ)I" } : MethodName)) ∈ gTbl := lw_memk tk_10 204 rfl rfl
theorem wd_2365 : (Cond.code ({ cls := "CribLineModel", name := "span", desc := "(IZ)I" } : MethodName) prog_14_method_154_code (6 : Nat) (Option.some ClassFile.FieldType.int)) ∈ gTbl := lw_memk tk_10 205 rfl rfl
theorem wd_2366 : (Cond.methodLink "CribLineLaw" (349 : Nat) ({ cls := "CribLineModel", name := "led", desc := "(IZ)I" } : MethodName)) ∈ gTbl := lw_memk tk_10 206 rfl rfl
theorem wd_2367 : (Cond.instanceMethod ({ cls := "CribLineModel", name := "led", desc := "(IZ)I" } : MethodName)) ∈ gTbl := lw_memk tk_10 207 rfl rfl
theorem wd_2368 : (Cond.selects "CribLineModel" ({ cls := "CribLineModel", name := "led", desc := "(IZ)I" } : MethodName) ({ cls := "CribLineModel", name := "led", desc := "(IZ)I" } : MethodName)) ∈ gTbl := lw_memk tk_10 208 rfl rfl
theorem wd_2369 : (Cond.code ({ cls := "CribLineModel", name := "led", desc := "(IZ)I" } : MethodName) prog_14_method_155_code (6 : Nat) (Option.some ClassFile.FieldType.int)) ∈ gTbl := lw_memk tk_10 209 rfl rfl
theorem wd_2370 : (Cond.methodLink "CribLineLaw" (352 : Nat) ({ cls := "CribLineModel", name := "log", desc := "(II)I" } : MethodName)) ∈ gTbl := lw_memk tk_10 210 rfl rfl
theorem wd_2371 : (Cond.instanceMethod ({ cls := "CribLineModel", name := "log", desc := "(II)I" } : MethodName)) ∈ gTbl := lw_memk tk_10 211 rfl rfl
theorem wd_2372 : (Cond.selects "CribLineModel" ({ cls := "CribLineModel", name := "log", desc := "(II)I" } : MethodName) ({ cls := "CribLineModel", name := "log", desc := "(II)I" } : MethodName)) ∈ gTbl := lw_memk tk_10 212 rfl rfl
theorem wd_2373 : (Cond.code ({ cls := "CribLineModel", name := "log", desc := "(II)I" } : MethodName) prog_14_method_156_code (3 : Nat) (Option.some ClassFile.FieldType.int)) ∈ gTbl := lw_memk tk_10 213 rfl rfl
theorem wd_2374 : (Cond.methodLink "CribLineLaw" (356 : Nat) ({ cls := "CribLineModel", name := "seed", desc := "(I)I" } : MethodName)) ∈ gTbl := lw_memk tk_10 214 rfl rfl
theorem wd_2375 : (Cond.instanceMethod ({ cls := "CribLineModel", name := "seed", desc := "(I)I" } : MethodName)) ∈ gTbl := lw_memk tk_10 215 rfl rfl
theorem wd_2376 : (Cond.selects "CribLineModel" ({ cls := "CribLineModel", name := "seed", desc := "(I)I" } : MethodName) ({ cls := "CribLineModel", name := "seed", desc := "(I)I" } : MethodName)) ∈ gTbl := lw_memk tk_10 216 rfl rfl
theorem wd_2377 : (Cond.code ({ cls := "CribLineModel", name := "seed", desc := "(I)I" } : MethodName) prog_14_method_157_code (3 : Nat) (Option.some ClassFile.FieldType.int)) ∈ gTbl := lw_memk tk_10 217 rfl rfl
theorem wd_2378 : (Cond.methodLink "CribLineLaw" (373 : Nat) ({ cls := "CribLineModel", name := "count", desc := "(I)I" } : MethodName)) ∈ gTbl := lw_memk tk_10 218 rfl rfl
theorem wd_2379 : (Cond.instanceMethod ({ cls := "CribLineModel", name := "count", desc := "(I)I" } : MethodName)) ∈ gTbl := lw_memk tk_10 219 rfl rfl
theorem wd_2380 : (Cond.selects "CribLineModel" ({ cls := "CribLineModel", name := "count", desc := "(I)I" } : MethodName) ({ cls := "CribLineModel", name := "count", desc := "(I)I" } : MethodName)) ∈ gTbl := lw_memk tk_10 220 rfl rfl
theorem wd_2381 : (Cond.code ({ cls := "CribLineModel", name := "count", desc := "(I)I" } : MethodName) prog_14_method_158_code (6 : Nat) (Option.some ClassFile.FieldType.int)) ∈ gTbl := lw_memk tk_10 221 rfl rfl
theorem wd_2382 : (Cond.sameMethod "CribLine$Reader" "CribLine$Reader" "partText" "([II)V") ∈ gTbl := lw_memk tk_10 222 rfl rfl
theorem wd_2383 : (Cond.sameMethod "CribLine$Reader" "CribLine$Reader" "endOfThing" "([II)I") ∈ gTbl := lw_memk tk_10 223 rfl rfl
theorem wd_2384 : (Cond.sameMethod "CribLine$Reader" "CribLine$Reader" "addThing" "([III)V") ∈ gTbl := lw_memk tk_10 224 rfl rfl
theorem wd_2385 : (Cond.sameMethod "CribLine$Reader" "CribLine$Reader" "beginOfNext" "()I") ∈ gTbl := lw_memk tk_10 225 rfl rfl
theorem wd_2386 : (Cond.sameMethod "CribLine$Reader" "CribLine$Reader" "took" "(I)Z") ∈ gTbl := lw_memk tk_10 226 rfl rfl
theorem wd_2387 : (Cond.selects "CribLine$FamilyReader" ({ cls := "CribLine$Reader", name := "took", desc := "(I)Z" } : MethodName) ({ cls := "CribLine$Reader", name := "took", desc := "(I)Z" } : MethodName)) ∈ gTbl := lw_memk tk_10 227 rfl rfl
theorem wd_2388 : (Cond.selects "CribLine$LawReader" ({ cls := "CribLine$Reader", name := "took", desc := "(I)Z" } : MethodName) ({ cls := "CribLine$Reader", name := "took", desc := "(I)Z" } : MethodName)) ∈ gTbl := lw_memk tk_10 228 rfl rfl
theorem wd_2389 : (Cond.sameMethod "java/lang/Throwable" "java/lang/Throwable" "fillInStackTrace" "(I)Ljava/lang/Throwable;") ∈ gTbl := lw_memk tk_10 229 rfl rfl
theorem wd_2409 : (Cond.fieldLink "java/lang/String" (9 : Nat) "java/lang/String" "value" "[B") ∈ gTbl := lw_memk tk_11 9 rfl rfl
theorem wd_2410 : (Cond.fieldLink "java/lang/String" (15 : Nat) "java/lang/String" "coder" "B") ∈ gTbl := lw_memk tk_11 10 rfl rfl
theorem wp_0 : (Cond.selects "CribLine" ({ cls := "CribLine", name := "putOnTape", desc := "(I)V" } : MethodName) ({ cls := "CribLine", name := "putOnTape", desc := "(I)V" } : MethodName)) ∈ gTbl := lw_memp 0 (by decide +kernel) rfl
theorem wp_1 : (Cond.selects "CribLine$Days" ({ cls := "CribLine$Days", name := "passAhead", desc := "(LCribLine$Family;Z)V" } : MethodName) ({ cls := "CribLine$Days", name := "passAhead", desc := "(LCribLine$Family;Z)V" } : MethodName)) ∈ gTbl := lw_memp 1 (by decide +kernel) rfl
theorem wp_2 : (Cond.selects "CribLine$Law" ({ cls := "CribLine$Law", name := "gatherFacts", desc := "(LCribLine$Family;II)V" } : MethodName) ({ cls := "CribLine$Law", name := "gatherFacts", desc := "(LCribLine$Family;II)V" } : MethodName)) ∈ gTbl := lw_memp 2 (by decide +kernel) rfl
theorem wp_3 : (Cond.selects "CribLine$Law" ({ cls := "CribLine$Law", name := "holds", desc := "(II)Z" } : MethodName) ({ cls := "CribLine$Law", name := "holds", desc := "(II)Z" } : MethodName)) ∈ gTbl := lw_memp 3 (by decide +kernel) rfl
theorem wp_4 : (Cond.selects "CribLine$Days" ({ cls := "CribLine$Days", name := "areAsNow", desc := "(LCribLine$Family;)Z" } : MethodName) ({ cls := "CribLine$Days", name := "areAsNow", desc := "(LCribLine$Family;)Z" } : MethodName)) ∈ gTbl := lw_memp 4 (by decide +kernel) rfl
theorem wp_5 : (Cond.selects "CribLine$Pairs" ({ cls := "CribLine$Pairs", name := "matchFrom", desc := "(III)V" } : MethodName) ({ cls := "CribLine$Pairs", name := "matchFrom", desc := "(III)V" } : MethodName)) ∈ gTbl := lw_memp 5 (by decide +kernel) rfl
theorem wp_6 : (Cond.selects "CribLine$Pairs" ({ cls := "CribLine$Pairs", name := "isSingle", desc := "(II)Z" } : MethodName) ({ cls := "CribLine$Pairs", name := "isSingle", desc := "(II)Z" } : MethodName)) ∈ gTbl := lw_memp 6 (by decide +kernel) rfl
theorem wp_7 : (Cond.selects "CribLine$Pairs" ({ cls := "CribLine$Pairs", name := "wouldRather", desc := "(II)Z" } : MethodName) ({ cls := "CribLine$Pairs", name := "wouldRather", desc := "(II)Z" } : MethodName)) ∈ gTbl := lw_memp 7 (by decide +kernel) rfl
theorem wp_8 : (Cond.selects "CribLine$Ties" ({ cls := "CribLine$Ties", name := "agesOf", desc := "(I)I" } : MethodName) ({ cls := "CribLine$Ties", name := "agesOf", desc := "(I)I" } : MethodName)) ∈ gTbl := lw_memp 8 (by decide +kernel) rfl
theorem wp_9 : (Cond.selects "CribLine" ({ cls := "CribLine", name := "furthest", desc := "(I)I" } : MethodName) ({ cls := "CribLine", name := "furthest", desc := "(I)I" } : MethodName)) ∈ gTbl := lw_memp 9 (by decide +kernel) rfl
theorem wp_10 : (Cond.selects "CribLine" ({ cls := "CribLine", name := "usedTape", desc := "()I" } : MethodName) ({ cls := "CribLine", name := "usedTape", desc := "()I" } : MethodName)) ∈ gTbl := lw_memp 10 (by decide +kernel) rfl
theorem wp_11 : (Cond.selects "CribLine$FamilyReader" ({ cls := "CribLine$FamilyReader", name := "readPerson", desc := "()Z" } : MethodName) ({ cls := "CribLine$FamilyReader", name := "readPerson", desc := "()Z" } : MethodName)) ∈ gTbl := lw_memp 11 (by decide +kernel) rfl
theorem wp_12 : (Cond.selects "CribLine$FamilyReader" ({ cls := "CribLine$FamilyReader", name := "tookPerson", desc := "()Z" } : MethodName) ({ cls := "CribLine$FamilyReader", name := "tookPerson", desc := "()Z" } : MethodName)) ∈ gTbl := lw_memp 12 (by decide +kernel) rfl
theorem wp_13 : (Cond.selects "CribLine$FamilyReader" ({ cls := "CribLine$FamilyReader", name := "readRest", desc := "(LCribLine$Person;)Z" } : MethodName) ({ cls := "CribLine$FamilyReader", name := "readRest", desc := "(LCribLine$Person;)Z" } : MethodName)) ∈ gTbl := lw_memp 13 (by decide +kernel) rfl
theorem wp_14 : (Cond.selects "CribLine$FamilyReader" ({ cls := "CribLine$FamilyReader", name := "readGoverns", desc := "()Z" } : MethodName) ({ cls := "CribLine$FamilyReader", name := "readGoverns", desc := "()Z" } : MethodName)) ∈ gTbl := lw_memp 14 (by decide +kernel) rfl
theorem wp_15 : (Cond.selects "CribLine$FamilyReader" ({ cls := "CribLine$FamilyReader", name := "readWed", desc := "()Z" } : MethodName) ({ cls := "CribLine$FamilyReader", name := "readWed", desc := "()Z" } : MethodName)) ∈ gTbl := lw_memp 15 (by decide +kernel) rfl
theorem wp_16 : (Cond.selects "CribLine$FamilyReader" ({ cls := "CribLine$FamilyReader", name := "readRound", desc := "()Z" } : MethodName) ({ cls := "CribLine$FamilyReader", name := "readRound", desc := "()Z" } : MethodName)) ∈ gTbl := lw_memp 16 (by decide +kernel) rfl
theorem wp_17 : (Cond.selects "CribLine$LawReader" ({ cls := "CribLine$LawReader", name := "readAny", desc := "(I)Z" } : MethodName) ({ cls := "CribLine$LawReader", name := "readAny", desc := "(I)Z" } : MethodName)) ∈ gTbl := lw_memp 17 (by decide +kernel) rfl
theorem wp_18 : (Cond.selects "CribLine$LawReader" ({ cls := "CribLine$LawReader", name := "readAll", desc := "(I)Z" } : MethodName) ({ cls := "CribLine$LawReader", name := "readAll", desc := "(I)Z" } : MethodName)) ∈ gTbl := lw_memp 18 (by decide +kernel) rfl
theorem wp_19 : (Cond.selects "CribLine$LawReader" ({ cls := "CribLine$LawReader", name := "readAtom", desc := "(I)Z" } : MethodName) ({ cls := "CribLine$LawReader", name := "readAtom", desc := "(I)Z" } : MethodName)) ∈ gTbl := lw_memp 19 (by decide +kernel) rfl
theorem wp_20 : (Cond.selects "CribLine$LawReader" ({ cls := "CribLine$LawReader", name := "readComparison", desc := "()Z" } : MethodName) ({ cls := "CribLine$LawReader", name := "readComparison", desc := "()Z" } : MethodName)) ∈ gTbl := lw_memp 20 (by decide +kernel) rfl
theorem wp_21 : (Cond.selects "CribLine$LawReader" ({ cls := "CribLine$LawReader", name := "readSum", desc := "()Z" } : MethodName) ({ cls := "CribLine$LawReader", name := "readSum", desc := "()Z" } : MethodName)) ∈ gTbl := lw_memp 21 (by decide +kernel) rfl
theorem wp_22 : (Cond.selects "java/lang/Throwable" ({ cls := "java/lang/Throwable", name := "fillInStackTrace", desc := "(I)Ljava/lang/Throwable;" } : MethodName) ({ cls := "java/lang/Throwable", name := "fillInStackTrace", desc := "(I)Ljava/lang/Throwable;" } : MethodName)) ∈ gTbl := lw_memp 22 (by decide +kernel) rfl
theorem wp_23 : (Cond.selects "CribLine" ({ cls := "CribLine", name := "mustBe", desc := "(I)V" } : MethodName) ({ cls := "CribLine", name := "mustBe", desc := "(I)V" } : MethodName)) ∈ gTbl := lw_memp 23 (by decide +kernel) rfl
theorem wp_24 : (Cond.selects "CribLine" ({ cls := "CribLine", name := "mustBeTwo", desc := "(II)V" } : MethodName) ({ cls := "CribLine", name := "mustBeTwo", desc := "(II)V" } : MethodName)) ∈ gTbl := lw_memp 24 (by decide +kernel) rfl
theorem wp_25 : (Cond.selects "CribLine" ({ cls := "CribLine", name := "remember", desc := "()V" } : MethodName) ({ cls := "CribLine", name := "remember", desc := "()V" } : MethodName)) ∈ gTbl := lw_memp 25 (by decide +kernel) rfl
theorem wp_26 : (Cond.selects "CribLine$Days" ({ cls := "CribLine$Days", name := "passDay", desc := "(LCribLine$Family;)I" } : MethodName) ({ cls := "CribLine$Days", name := "passDay", desc := "(LCribLine$Family;)I" } : MethodName)) ∈ gTbl := lw_memp 26 (by decide +kernel) rfl
theorem wp_27 : (Cond.selects "CribLine$Ages" ({ cls := "CribLine$Ages", name := "reachFrom", desc := "(I)V" } : MethodName) ({ cls := "CribLine$Ages", name := "reachFrom", desc := "(I)V" } : MethodName)) ∈ gTbl := lw_memp 27 (by decide +kernel) rfl
theorem wp_28 : (Cond.selects "CribLine$Ages" ({ cls := "CribLine$Ages", name := "reach", desc := "(III)V" } : MethodName) ({ cls := "CribLine$Ages", name := "reach", desc := "(III)V" } : MethodName)) ∈ gTbl := lw_memp 28 (by decide +kernel) rfl
theorem wp_29 : (Cond.selects "CribLine$Ages" ({ cls := "CribLine$Ages", name := "canBeSaid", desc := "(II)Z" } : MethodName) ({ cls := "CribLine$Ages", name := "canBeSaid", desc := "(II)Z" } : MethodName)) ∈ gTbl := lw_memp 29 (by decide +kernel) rfl
theorem wp_30 : (Cond.selects "CribLine$Ages" ({ cls := "CribLine$Ages", name := "ageBehind", desc := "(III)I" } : MethodName) ({ cls := "CribLine$Ages", name := "ageBehind", desc := "(III)I" } : MethodName)) ∈ gTbl := lw_memp 30 (by decide +kernel) rfl
theorem wp_31 : (Cond.selects "CribLine" ({ cls := "CribLine", name := "mustBeSightings", desc := "(I)V" } : MethodName) ({ cls := "CribLine", name := "mustBeSightings", desc := "(I)V" } : MethodName)) ∈ gTbl := lw_memp 31 (by decide +kernel) rfl
theorem wp_32 : (Cond.selects "CribLine$Ages" ({ cls := "CribLine$Ages", name := "fits", desc := "(II[II)Z" } : MethodName) ({ cls := "CribLine$Ages", name := "fits", desc := "(II[II)Z" } : MethodName)) ∈ gTbl := lw_memp 32 (by decide +kernel) rfl
theorem wp_33 : (Cond.selects "CribLine$Ages" ({ cls := "CribLine$Ages", name := "greatestPart", desc := "(III)I" } : MethodName) ({ cls := "CribLine$Ages", name := "greatestPart", desc := "(III)I" } : MethodName)) ∈ gTbl := lw_memp 33 (by decide +kernel) rfl
theorem wp_34 : (Cond.selects "CribLine$Pairs" ({ cls := "CribLine$Pairs", name := "someoneAsks", desc := "()Z" } : MethodName) ({ cls := "CribLine$Pairs", name := "someoneAsks", desc := "()Z" } : MethodName)) ∈ gTbl := lw_memp 34 (by decide +kernel) rfl
theorem wp_35 : (Cond.selects "CribLine$Pairs" ({ cls := "CribLine$Pairs", name := "nearestNotAsked", desc := "(I)I" } : MethodName) ({ cls := "CribLine$Pairs", name := "nearestNotAsked", desc := "(I)I" } : MethodName)) ∈ gTbl := lw_memp 35 (by decide +kernel) rfl
theorem wp_36 : (Cond.selects "CribLine$Pairs" ({ cls := "CribLine$Pairs", name := "askOne", desc := "(II)V" } : MethodName) ({ cls := "CribLine$Pairs", name := "askOne", desc := "(II)V" } : MethodName)) ∈ gTbl := lw_memp 36 (by decide +kernel) rfl
theorem wp_37 : (Cond.selects "CribLine$Pairs" ({ cls := "CribLine$Pairs", name := "isNearer", desc := "(III)Z" } : MethodName) ({ cls := "CribLine$Pairs", name := "isNearer", desc := "(III)Z" } : MethodName)) ∈ gTbl := lw_memp 37 (by decide +kernel) rfl
theorem wp_38 : (Cond.selects "CribLine$Ties" ({ cls := "CribLine$Ties", name := "nextOf", desc := "(IZ)I" } : MethodName) ({ cls := "CribLine$Ties", name := "nextOf", desc := "(IZ)I" } : MethodName)) ∈ gTbl := lw_memp 38 (by decide +kernel) rfl
theorem wp_39 : (Cond.selects "CribLine$Days" ({ cls := "CribLine$Days", name := "isMild", desc := "(II)Z" } : MethodName) ({ cls := "CribLine$Days", name := "isMild", desc := "(II)Z" } : MethodName)) ∈ gTbl := lw_memp 39 (by decide +kernel) rfl
theorem wp_40 : (Cond.selects "CribLine$Ties" ({ cls := "CribLine$Ties", name := "stepsUp", desc := "(II)I" } : MethodName) ({ cls := "CribLine$Ties", name := "stepsUp", desc := "(II)I" } : MethodName)) ∈ gTbl := lw_memp 40 (by decide +kernel) rfl
theorem wp_41 : (Cond.selects "CribLine$Ties" ({ cls := "CribLine$Ties", name := "grandparentOf", desc := "(I)I" } : MethodName) ({ cls := "CribLine$Ties", name := "grandparentOf", desc := "(I)I" } : MethodName)) ∈ gTbl := lw_memp 41 (by decide +kernel) rfl
theorem wp_42 : (Cond.selects "CribLineModel" ({ cls := "CribLineModel", name := "readAll", desc := "(Z)I" } : MethodName) ({ cls := "CribLineModel", name := "readAll", desc := "(Z)I" } : MethodName)) ∈ gTbl := lw_memp 42 (by decide +kernel) rfl
theorem wp_43 : (Cond.selects "CribLineModel" ({ cls := "CribLineModel", name := "uses", desc := "()V" } : MethodName) ({ cls := "CribLineModel", name := "uses", desc := "()V" } : MethodName)) ∈ gTbl := lw_memp 43 (by decide +kernel) rfl
theorem wp_44 : (Cond.selects "CribLineModel" ({ cls := "CribLineModel", name := "blanks", desc := "()V" } : MethodName) ({ cls := "CribLineModel", name := "blanks", desc := "()V" } : MethodName)) ∈ gTbl := lw_memp 44 (by decide +kernel) rfl
theorem wp_45 : (Cond.selects "CribLineModel" ({ cls := "CribLineModel", name := "isAt", desc := "(II)Z" } : MethodName) ({ cls := "CribLineModel", name := "isAt", desc := "(II)Z" } : MethodName)) ∈ gTbl := lw_memp 45 (by decide +kernel) rfl
theorem wp_46 : (Cond.selects "CribLineModel" ({ cls := "CribLineModel", name := "readLine", desc := "(ZI)Z" } : MethodName) ({ cls := "CribLineModel", name := "readLine", desc := "(ZI)Z" } : MethodName)) ∈ gTbl := lw_memp 46 (by decide +kernel) rfl
theorem wp_47 : (Cond.selects "CribLineModel" ({ cls := "CribLineModel", name := "letters", desc := "()V" } : MethodName) ({ cls := "CribLineModel", name := "letters", desc := "()V" } : MethodName)) ∈ gTbl := lw_memp 47 (by decide +kernel) rfl
theorem wp_48 : (Cond.selects "CribLineModel" ({ cls := "CribLineModel", name := "readFamilyLine", desc := "()Z" } : MethodName) ({ cls := "CribLineModel", name := "readFamilyLine", desc := "()Z" } : MethodName)) ∈ gTbl := lw_memp 48 (by decide +kernel) rfl
theorem wp_49 : (Cond.selects "CribLineModel" ({ cls := "CribLineModel", name := "isWord", desc := "(Ljava/lang/String;)Z" } : MethodName) ({ cls := "CribLineModel", name := "isWord", desc := "(Ljava/lang/String;)Z" } : MethodName)) ∈ gTbl := lw_memp 49 (by decide +kernel) rfl
theorem wp_50 : (Cond.selects "CribLineModel" ({ cls := "CribLineModel", name := "readPerson", desc := "()Z" } : MethodName) ({ cls := "CribLineModel", name := "readPerson", desc := "()Z" } : MethodName)) ∈ gTbl := lw_memp 50 (by decide +kernel) rfl
theorem wp_51 : (Cond.selects "CribLineModel" ({ cls := "CribLineModel", name := "people", desc := "()I" } : MethodName) ({ cls := "CribLineModel", name := "people", desc := "()I" } : MethodName)) ∈ gTbl := lw_memp 51 (by decide +kernel) rfl
theorem wp_52 : (Cond.selects "CribLineModel" ({ cls := "CribLineModel", name := "after", desc := "(Ljava/lang/String;II)I" } : MethodName) ({ cls := "CribLineModel", name := "after", desc := "(Ljava/lang/String;II)I" } : MethodName)) ∈ gTbl := lw_memp 52 (by decide +kernel) rfl
theorem wp_53 : (Cond.selects "CribLineModel" ({ cls := "CribLineModel", name := "number", desc := "(II)I" } : MethodName) ({ cls := "CribLineModel", name := "number", desc := "(II)I" } : MethodName)) ∈ gTbl := lw_memp 53 (by decide +kernel) rfl
theorem wp_54 : (Cond.selects "CribLineModel" ({ cls := "CribLineModel", name := "told", desc := "(Ljava/lang/String;III)I" } : MethodName) ({ cls := "CribLineModel", name := "told", desc := "(Ljava/lang/String;III)I" } : MethodName)) ∈ gTbl := lw_memp 54 (by decide +kernel) rfl
theorem wp_55 : (Cond.selects "CribLineModel" ({ cls := "CribLineModel", name := "passes", desc := "(Ljava/lang/String;)Z" } : MethodName) ({ cls := "CribLineModel", name := "passes", desc := "(Ljava/lang/String;)Z" } : MethodName)) ∈ gTbl := lw_memp 55 (by decide +kernel) rfl
theorem wp_56 : (Cond.selects "CribLineModel" ({ cls := "CribLineModel", name := "isBorn", desc := "(IIII)V" } : MethodName) ({ cls := "CribLineModel", name := "isBorn", desc := "(IIII)V" } : MethodName)) ∈ gTbl := lw_memp 56 (by decide +kernel) rfl
theorem wp_57 : (Cond.selects "CribLineModel" ({ cls := "CribLineModel", name := "readGoverns", desc := "()Z" } : MethodName) ({ cls := "CribLineModel", name := "readGoverns", desc := "()Z" } : MethodName)) ∈ gTbl := lw_memp 57 (by decide +kernel) rfl
theorem wp_58 : (Cond.selects "CribLineModel" ({ cls := "CribLineModel", name := "personTold", desc := "()I" } : MethodName) ({ cls := "CribLineModel", name := "personTold", desc := "()I" } : MethodName)) ∈ gTbl := lw_memp 58 (by decide +kernel) rfl
theorem wp_59 : (Cond.selects "CribLineModel" ({ cls := "CribLineModel", name := "readWed", desc := "()Z" } : MethodName) ({ cls := "CribLineModel", name := "readWed", desc := "()Z" } : MethodName)) ∈ gTbl := lw_memp 59 (by decide +kernel) rfl
theorem wp_60 : (Cond.selects "CribLineModel" ({ cls := "CribLineModel", name := "mayWed", desc := "(II)Z" } : MethodName) ({ cls := "CribLineModel", name := "mayWed", desc := "(II)Z" } : MethodName)) ∈ gTbl := lw_memp 60 (by decide +kernel) rfl
theorem wp_61 : (Cond.selects "CribLineModel" ({ cls := "CribLineModel", name := "of", desc := "(II)I" } : MethodName) ({ cls := "CribLineModel", name := "of", desc := "(II)I" } : MethodName)) ∈ gTbl := lw_memp 61 (by decide +kernel) rfl
theorem wp_62 : (Cond.selects "CribLineModel" ({ cls := "CribLineModel", name := "isSingle", desc := "(I)Z" } : MethodName) ({ cls := "CribLineModel", name := "isSingle", desc := "(I)Z" } : MethodName)) ∈ gTbl := lw_memp 62 (by decide +kernel) rfl
theorem wp_63 : (Cond.selects "CribLineModel" ({ cls := "CribLineModel", name := "areClose", desc := "(II)Z" } : MethodName) ({ cls := "CribLineModel", name := "areClose", desc := "(II)Z" } : MethodName)) ∈ gTbl := lw_memp 63 (by decide +kernel) rfl
theorem wp_64 : (Cond.selects "CribLineModel" ({ cls := "CribLineModel", name := "isParent", desc := "(II)Z" } : MethodName) ({ cls := "CribLineModel", name := "isParent", desc := "(II)Z" } : MethodName)) ∈ gTbl := lw_memp 64 (by decide +kernel) rfl
theorem wp_65 : (Cond.selects "CribLineModel" ({ cls := "CribLineModel", name := "weds", desc := "(II)V" } : MethodName) ({ cls := "CribLineModel", name := "weds", desc := "(II)V" } : MethodName)) ∈ gTbl := lw_memp 65 (by decide +kernel) rfl
theorem wp_66 : (Cond.selects "CribLineModel" ({ cls := "CribLineModel", name := "greatestAge", desc := "()I" } : MethodName) ({ cls := "CribLineModel", name := "greatestAge", desc := "()I" } : MethodName)) ∈ gTbl := lw_memp 66 (by decide +kernel) rfl
theorem wp_67 : (Cond.selects "CribLineModel" ({ cls := "CribLineModel", name := "readNumber", desc := "(III)Z" } : MethodName) ({ cls := "CribLineModel", name := "readNumber", desc := "(III)Z" } : MethodName)) ∈ gTbl := lw_memp 67 (by decide +kernel) rfl
theorem wp_68 : (Cond.selects "CribLineModel" ({ cls := "CribLineModel", name := "readLawLine", desc := "(I)Z" } : MethodName) ({ cls := "CribLineModel", name := "readLawLine", desc := "(I)Z" } : MethodName)) ∈ gTbl := lw_memp 68 (by decide +kernel) rfl
theorem wp_69 : (Cond.selects "CribLineModel" ({ cls := "CribLineModel", name := "readCond", desc := "()Z" } : MethodName) ({ cls := "CribLineModel", name := "readCond", desc := "()Z" } : MethodName)) ∈ gTbl := lw_memp 69 (by decide +kernel) rfl
theorem wp_70 : (Cond.selects "CribLineModel" ({ cls := "CribLineModel", name := "readAllOf", desc := "()Z" } : MethodName) ({ cls := "CribLineModel", name := "readAllOf", desc := "()Z" } : MethodName)) ∈ gTbl := lw_memp 70 (by decide +kernel) rfl
theorem wp_71 : (Cond.selects "CribLineModel" ({ cls := "CribLineModel", name := "readAtom", desc := "()Z" } : MethodName) ({ cls := "CribLineModel", name := "readAtom", desc := "()Z" } : MethodName)) ∈ gTbl := lw_memp 71 (by decide +kernel) rfl
theorem wp_72 : (Cond.selects "CribLineModel" ({ cls := "CribLineModel", name := "sign", desc := "(I)Z" } : MethodName) ({ cls := "CribLineModel", name := "sign", desc := "(I)Z" } : MethodName)) ∈ gTbl := lw_memp 72 (by decide +kernel) rfl
theorem wp_73 : (Cond.selects "CribLineModel" ({ cls := "CribLineModel", name := "emits", desc := "(II)V" } : MethodName) ({ cls := "CribLineModel", name := "emits", desc := "(II)V" } : MethodName)) ∈ gTbl := lw_memp 73 (by decide +kernel) rfl
theorem wp_74 : (Cond.selects "CribLineModel" ({ cls := "CribLineModel", name := "readTag", desc := "()Z" } : MethodName) ({ cls := "CribLineModel", name := "readTag", desc := "()Z" } : MethodName)) ∈ gTbl := lw_memp 74 (by decide +kernel) rfl
theorem wp_75 : (Cond.selects "CribLineModel" ({ cls := "CribLineModel", name := "readSum", desc := "()Z" } : MethodName) ({ cls := "CribLineModel", name := "readSum", desc := "()Z" } : MethodName)) ∈ gTbl := lw_memp 75 (by decide +kernel) rfl
theorem wp_76 : (Cond.selects "CribLineModel" ({ cls := "CribLineModel", name := "readPart", desc := "()Z" } : MethodName) ({ cls := "CribLineModel", name := "readPart", desc := "()Z" } : MethodName)) ∈ gTbl := lw_memp 76 (by decide +kernel) rfl
theorem wp_77 : (Cond.selects "CribLineModel" ({ cls := "CribLineModel", name := "wordOfPart", desc := "()I" } : MethodName) ({ cls := "CribLineModel", name := "wordOfPart", desc := "()I" } : MethodName)) ∈ gTbl := lw_memp 77 (by decide +kernel) rfl
theorem wp_78 : (Cond.selects "CribLineModel" ({ cls := "CribLineModel", name := "throwsIf", desc := "(ZI)Z" } : MethodName) ({ cls := "CribLineModel", name := "throwsIf", desc := "(ZI)Z" } : MethodName)) ∈ gTbl := lw_memp 78 (by decide +kernel) rfl
theorem wp_79 : (Cond.selects "CribLineModel" ({ cls := "CribLineModel", name := "nobody", desc := "(I)Z" } : MethodName) ({ cls := "CribLineModel", name := "nobody", desc := "(I)Z" } : MethodName)) ∈ gTbl := lw_memp 79 (by decide +kernel) rfl
theorem wp_80 : (Cond.selects "CribLineModel" ({ cls := "CribLineModel", name := "governedBy", desc := "(I)I" } : MethodName) ({ cls := "CribLineModel", name := "governedBy", desc := "(I)I" } : MethodName)) ∈ gTbl := lw_memp 80 (by decide +kernel) rfl
theorem wp_81 : (Cond.selects "CribLineModel" ({ cls := "CribLineModel", name := "governs", desc := "(II)Z" } : MethodName) ({ cls := "CribLineModel", name := "governs", desc := "(II)Z" } : MethodName)) ∈ gTbl := lw_memp 81 (by decide +kernel) rfl
theorem wp_82 : (Cond.selects "CribLineModel" ({ cls := "CribLineModel", name := "shareOf", desc := "(I)I" } : MethodName) ({ cls := "CribLineModel", name := "shareOf", desc := "(I)I" } : MethodName)) ∈ gTbl := lw_memp 82 (by decide +kernel) rfl
theorem wp_83 : (Cond.selects "CribLineModel" ({ cls := "CribLineModel", name := "ofLog", desc := "(II)I" } : MethodName) ({ cls := "CribLineModel", name := "ofLog", desc := "(II)I" } : MethodName)) ∈ gTbl := lw_memp 83 (by decide +kernel) rfl
theorem wp_84 : (Cond.selects "CribLineModel" ({ cls := "CribLineModel", name := "noTwo", desc := "(II)Z" } : MethodName) ({ cls := "CribLineModel", name := "noTwo", desc := "(II)Z" } : MethodName)) ∈ gTbl := lw_memp 84 (by decide +kernel) rfl
theorem wp_85 : (Cond.selects "CribLineModel" ({ cls := "CribLineModel", name := "weighsOf", desc := "(IIZ)I" } : MethodName) ({ cls := "CribLineModel", name := "weighsOf", desc := "(IIZ)I" } : MethodName)) ∈ gTbl := lw_memp 85 (by decide +kernel) rfl
theorem wp_86 : (Cond.selects "CribLineModel" ({ cls := "CribLineModel", name := "sumOf", desc := "(III)I" } : MethodName) ({ cls := "CribLineModel", name := "sumOf", desc := "(III)I" } : MethodName)) ∈ gTbl := lw_memp 86 (by decide +kernel) rfl
theorem wp_87 : (Cond.selects "CribLineModel" ({ cls := "CribLineModel", name := "holdsLine", desc := "(III)Z" } : MethodName) ({ cls := "CribLineModel", name := "holdsLine", desc := "(III)Z" } : MethodName)) ∈ gTbl := lw_memp 87 (by decide +kernel) rfl
theorem wp_88 : (Cond.selects "CribLineModel" ({ cls := "CribLineModel", name := "factOf", desc := "(IIII)I" } : MethodName) ({ cls := "CribLineModel", name := "factOf", desc := "(IIII)I" } : MethodName)) ∈ gTbl := lw_memp 88 (by decide +kernel) rfl
theorem wp_89 : (Cond.selects "CribLineModel" ({ cls := "CribLineModel", name := "gapOf", desc := "(II)I" } : MethodName) ({ cls := "CribLineModel", name := "gapOf", desc := "(II)I" } : MethodName)) ∈ gTbl := lw_memp 89 (by decide +kernel) rfl
theorem wp_90 : (Cond.selects "CribLineModel" ({ cls := "CribLineModel", name := "keepsAll", desc := "()V" } : MethodName) ({ cls := "CribLineModel", name := "keepsAll", desc := "()V" } : MethodName)) ∈ gTbl := lw_memp 90 (by decide +kernel) rfl
theorem wp_91 : (Cond.selects "CribLineModel" ({ cls := "CribLineModel", name := "hears", desc := "(IIZ)V" } : MethodName) ({ cls := "CribLineModel", name := "hears", desc := "(IIZ)V" } : MethodName)) ∈ gTbl := lw_memp 91 (by decide +kernel) rfl
theorem wp_92 : (Cond.selects "CribLineModel" ({ cls := "CribLineModel", name := "grows", desc := "(IIZ)V" } : MethodName) ({ cls := "CribLineModel", name := "grows", desc := "(IIZ)V" } : MethodName)) ∈ gTbl := lw_memp 92 (by decide +kernel) rfl
theorem wp_93 : (Cond.selects "CribLineModel" ({ cls := "CribLineModel", name := "bringsBack", desc := "()V" } : MethodName) ({ cls := "CribLineModel", name := "bringsBack", desc := "()V" } : MethodName)) ∈ gTbl := lw_memp 93 (by decide +kernel) rfl
theorem wp_94 : (Cond.selects "CribLineModel" ({ cls := "CribLineModel", name := "remembers", desc := "()V" } : MethodName) ({ cls := "CribLineModel", name := "remembers", desc := "()V" } : MethodName)) ∈ gTbl := lw_memp 94 (by decide +kernel) rfl
theorem wp_95 : (Cond.selects "CribLineModel" ({ cls := "CribLineModel", name := "says", desc := "(IIZ)V" } : MethodName) ({ cls := "CribLineModel", name := "says", desc := "(IIZ)V" } : MethodName)) ∈ gTbl := lw_memp 95 (by decide +kernel) rfl
theorem wp_96 : (Cond.selects "CribLineModel" ({ cls := "CribLineModel", name := "tells", desc := "(IIZ)V" } : MethodName) ({ cls := "CribLineModel", name := "tells", desc := "(IIZ)V" } : MethodName)) ∈ gTbl := lw_memp 96 (by decide +kernel) rfl
theorem wp_97 : (Cond.selects "CribLineModel" ({ cls := "CribLineModel", name := "isBoy", desc := "(I)Z" } : MethodName) ({ cls := "CribLineModel", name := "isBoy", desc := "(I)Z" } : MethodName)) ∈ gTbl := lw_memp 97 (by decide +kernel) rfl
theorem wp_98 : (Cond.selects "CribLineModel" ({ cls := "CribLineModel", name := "goesOn", desc := "(I)I" } : MethodName) ({ cls := "CribLineModel", name := "goesOn", desc := "(I)I" } : MethodName)) ∈ gTbl := lw_memp 98 (by decide +kernel) rfl
theorem wp_99 : (Cond.selects "CribLineModel" ({ cls := "CribLineModel", name := "oneDay", desc := "()I" } : MethodName) ({ cls := "CribLineModel", name := "oneDay", desc := "()I" } : MethodName)) ∈ gTbl := lw_memp 99 (by decide +kernel) rfl
theorem wp_100 : (Cond.selects "CribLineModel" ({ cls := "CribLineModel", name := "drawn", desc := "(I)I" } : MethodName) ({ cls := "CribLineModel", name := "drawn", desc := "(I)I" } : MethodName)) ∈ gTbl := lw_memp 100 (by decide +kernel) rfl
theorem wp_101 : (Cond.selects "CribLineModel" ({ cls := "CribLineModel", name := "dayEnds", desc := "()V" } : MethodName) ({ cls := "CribLineModel", name := "dayEnds", desc := "()V" } : MethodName)) ∈ gTbl := lw_memp 101 (by decide +kernel) rfl
theorem wp_102 : (Cond.selects "CribLineModel" ({ cls := "CribLineModel", name := "cribOnes", desc := "()I" } : MethodName) ({ cls := "CribLineModel", name := "cribOnes", desc := "()I" } : MethodName)) ∈ gTbl := lw_memp 102 (by decide +kernel) rfl
theorem wp_103 : (Cond.selects "CribLineModel" ({ cls := "CribLineModel", name := "dayOf", desc := "(Z)V" } : MethodName) ({ cls := "CribLineModel", name := "dayOf", desc := "(Z)V" } : MethodName)) ∈ gTbl := lw_memp 103 (by decide +kernel) rfl
theorem wp_104 : (Cond.selects "CribLineModel" ({ cls := "CribLineModel", name := "agesAsKept", desc := "()Z" } : MethodName) ({ cls := "CribLineModel", name := "agesAsKept", desc := "()Z" } : MethodName)) ∈ gTbl := lw_memp 104 (by decide +kernel) rfl
theorem wp_105 : (Cond.selects "CribLineModel" ({ cls := "CribLineModel", name := "noAge", desc := "(I)Z" } : MethodName) ({ cls := "CribLineModel", name := "noAge", desc := "(I)Z" } : MethodName)) ∈ gTbl := lw_memp 105 (by decide +kernel) rfl
theorem wp_106 : (Cond.selects "CribLineModel" ({ cls := "CribLineModel", name := "toAge", desc := "(IIZ)I" } : MethodName) ({ cls := "CribLineModel", name := "toAge", desc := "(IIZ)I" } : MethodName)) ∈ gTbl := lw_memp 106 (by decide +kernel) rfl
theorem wp_107 : (Cond.selects "CribLineModel" ({ cls := "CribLineModel", name := "looksRound", desc := "(II)V" } : MethodName) ({ cls := "CribLineModel", name := "looksRound", desc := "(II)V" } : MethodName)) ∈ gTbl := lw_memp 107 (by decide +kernel) rfl
theorem wp_108 : (Cond.selects "CribLineModel" ({ cls := "CribLineModel", name := "finds", desc := "(III)V" } : MethodName) ({ cls := "CribLineModel", name := "finds", desc := "(III)V" } : MethodName)) ∈ gTbl := lw_memp 108 (by decide +kernel) rfl
theorem wp_109 : (Cond.selects "CribLineModel" ({ cls := "CribLineModel", name := "fromAge", desc := "(III)I" } : MethodName) ({ cls := "CribLineModel", name := "fromAge", desc := "(III)I" } : MethodName)) ∈ gTbl := lw_memp 109 (by decide +kernel) rfl
theorem wp_110 : (Cond.selects "CribLineModel" ({ cls := "CribLineModel", name := "heaviest", desc := "(IZ)I" } : MethodName) ({ cls := "CribLineModel", name := "heaviest", desc := "(IZ)I" } : MethodName)) ∈ gTbl := lw_memp 110 (by decide +kernel) rfl
theorem wp_111 : (Cond.selects "CribLineModel" ({ cls := "CribLineModel", name := "isTold", desc := "()Z" } : MethodName) ({ cls := "CribLineModel", name := "isTold", desc := "()Z" } : MethodName)) ∈ gTbl := lw_memp 111 (by decide +kernel) rfl
theorem wp_112 : (Cond.selects "CribLineModel" ({ cls := "CribLineModel", name := "allThatFit", desc := "(I)I" } : MethodName) ({ cls := "CribLineModel", name := "allThatFit", desc := "(I)I" } : MethodName)) ∈ gTbl := lw_memp 112 (by decide +kernel) rfl
theorem wp_113 : (Cond.selects "CribLineModel" ({ cls := "CribLineModel", name := "partBy", desc := "(III)I" } : MethodName) ({ cls := "CribLineModel", name := "partBy", desc := "(III)I" } : MethodName)) ∈ gTbl := lw_memp 113 (by decide +kernel) rfl
theorem wp_114 : (Cond.selects "CribLineModel" ({ cls := "CribLineModel", name := "matches", desc := "()V" } : MethodName) ({ cls := "CribLineModel", name := "matches", desc := "()V" } : MethodName)) ∈ gTbl := lw_memp 114 (by decide +kernel) rfl
theorem wp_115 : (Cond.selects "CribLineModel" ({ cls := "CribLineModel", name := "laysWorth", desc := "()V" } : MethodName) ({ cls := "CribLineModel", name := "laysWorth", desc := "()V" } : MethodName)) ∈ gTbl := lw_memp 115 (by decide +kernel) rfl
theorem wp_116 : (Cond.selects "CribLineModel" ({ cls := "CribLineModel", name := "worthBy", desc := "(III)I" } : MethodName) ({ cls := "CribLineModel", name := "worthBy", desc := "(III)I" } : MethodName)) ∈ gTbl := lw_memp 116 (by decide +kernel) rfl
theorem wp_117 : (Cond.selects "CribLineModel" ({ cls := "CribLineModel", name := "canPair", desc := "(II)Z" } : MethodName) ({ cls := "CribLineModel", name := "canPair", desc := "(II)Z" } : MethodName)) ∈ gTbl := lw_memp 117 (by decide +kernel) rfl
theorem wp_118 : (Cond.selects "CribLineModel" ({ cls := "CribLineModel", name := "noMates", desc := "()V" } : MethodName) ({ cls := "CribLineModel", name := "noMates", desc := "()V" } : MethodName)) ∈ gTbl := lw_memp 118 (by decide +kernel) rfl
theorem wp_119 : (Cond.selects "CribLineModel" ({ cls := "CribLineModel", name := "asks", desc := "(I)V" } : MethodName) ({ cls := "CribLineModel", name := "asks", desc := "(I)V" } : MethodName)) ∈ gTbl := lw_memp 119 (by decide +kernel) rfl
theorem wp_120 : (Cond.selects "CribLineModel" ({ cls := "CribLineModel", name := "nextOf", desc := "(I)I" } : MethodName) ({ cls := "CribLineModel", name := "nextOf", desc := "(I)I" } : MethodName)) ∈ gTbl := lw_memp 120 (by decide +kernel) rfl
theorem wp_121 : (Cond.selects "CribLineModel" ({ cls := "CribLineModel", name := "wouldRather", desc := "(II)Z" } : MethodName) ({ cls := "CribLineModel", name := "wouldRather", desc := "(II)Z" } : MethodName)) ∈ gTbl := lw_memp 121 (by decide +kernel) rfl
theorem wp_122 : (Cond.selects "CribLineModel" ({ cls := "CribLineModel", name := "wouldRun", desc := "(II)Z" } : MethodName) ({ cls := "CribLineModel", name := "wouldRun", desc := "(II)Z" } : MethodName)) ∈ gTbl := lw_memp 122 (by decide +kernel) rfl
theorem wp_123 : (Cond.selects "CribLineModel" ({ cls := "CribLineModel", name := "lentBy", desc := "(I)I" } : MethodName) ({ cls := "CribLineModel", name := "lentBy", desc := "(I)I" } : MethodName)) ∈ gTbl := lw_memp 123 (by decide +kernel) rfl
theorem wp_124 : (Cond.selects "CribLineModel" ({ cls := "CribLineModel", name := "elderHas", desc := "(III)I" } : MethodName) ({ cls := "CribLineModel", name := "elderHas", desc := "(III)I" } : MethodName)) ∈ gTbl := lw_memp 124 (by decide +kernel) rfl
theorem wp_125 : (Cond.selects "CribLineModel" ({ cls := "CribLineModel", name := "childHas", desc := "(IIII)I" } : MethodName) ({ cls := "CribLineModel", name := "childHas", desc := "(IIII)I" } : MethodName)) ∈ gTbl := lw_memp 125 (by decide +kernel) rfl
theorem wp_126 : (Cond.selects "CribLineModel" ({ cls := "CribLineModel", name := "branchOf", desc := "(I)I" } : MethodName) ({ cls := "CribLineModel", name := "branchOf", desc := "(I)I" } : MethodName)) ∈ gTbl := lw_memp 126 (by decide +kernel) rfl
theorem wp_127 : (Cond.selects "CribLineModel" ({ cls := "CribLineModel", name := "agesOf", desc := "(I)I" } : MethodName) ({ cls := "CribLineModel", name := "agesOf", desc := "(I)I" } : MethodName)) ∈ gTbl := lw_memp 127 (by decide +kernel) rfl
theorem wp_128 : (Cond.selects "CribLineModel" ({ cls := "CribLineModel", name := "closeTo", desc := "(I)I" } : MethodName) ({ cls := "CribLineModel", name := "closeTo", desc := "(I)I" } : MethodName)) ∈ gTbl := lw_memp 128 (by decide +kernel) rfl
theorem wp_129 : (Cond.selects "CribLineModel" ({ cls := "CribLineModel", name := "grandOf", desc := "(I)I" } : MethodName) ({ cls := "CribLineModel", name := "grandOf", desc := "(I)I" } : MethodName)) ∈ gTbl := lw_memp 129 (by decide +kernel) rfl
theorem wp_130 : (Cond.selects "CribLineModel" ({ cls := "CribLineModel", name := "agesOfAll", desc := "()I" } : MethodName) ({ cls := "CribLineModel", name := "agesOfAll", desc := "()I" } : MethodName)) ∈ gTbl := lw_memp 130 (by decide +kernel) rfl
theorem wq_FR_partText : Cond.selects "CribLine$FamilyReader" yX9_partText yX9_partText ∈ gTbl := lw_memq 0 rfl
theorem wq_FR_endOfThing : Cond.selects "CribLine$FamilyReader" yX9_endOfThing yX9_endOfThing ∈ gTbl := lw_memq 1 rfl
theorem wq_FR_addThing : Cond.selects "CribLine$FamilyReader" yX9_addThing yX9_addThing ∈ gTbl := lw_memq 2 rfl
theorem wq_FR_beginOfNext : Cond.selects "CribLine$FamilyReader" yX9_beginOfNext yX9_beginOfNext ∈ gTbl := lw_memq 3 rfl
theorem wq_LR_partText : Cond.selects "CribLine$LawReader" yX9_partText yX9_partText ∈ gTbl := lw_memq 4 rfl
theorem wq_LR_endOfThing : Cond.selects "CribLine$LawReader" yX9_endOfThing yX9_endOfThing ∈ gTbl := lw_memq 5 rfl
theorem wq_LR_addThing : Cond.selects "CribLine$LawReader" yX9_addThing yX9_addThing ∈ gTbl := lw_memq 6 rfl
theorem wq_LR_beginOfNext : Cond.selects "CribLine$LawReader" yX9_beginOfNext yX9_beginOfNext ∈ gTbl := lw_memq 7 rfl
theorem in_0 : ∀ w ∈ u_ws RX0 TX0 8, w ∈ gTbl := by decide +kernel
theorem df_0 : ∀ k, k < 8 → (mskL.getD 0 [])[k]? = some (match tyX0 k with | .object _ => true | .array _ => true | _ => false) ∧ defaultValue (tyX0 k) = (match tyX0 k with | .object _ => .null | .array _ => .null | _ => .int 0) := by decide +kernel
theorem in_1 : ∀ w ∈ u_ws RX1 TX1 3, w ∈ gTbl := by decide +kernel
theorem df_1 : ∀ k, k < 3 → (mskL.getD 1 [])[k]? = some (match tyX1 k with | .object _ => true | .array _ => true | _ => false) ∧ defaultValue (tyX1 k) = (match tyX1 k with | .object _ => .null | .array _ => .null | _ => .int 0) := by decide +kernel
theorem in_2 : ∀ w ∈ u_ws RX2 TX2 11, w ∈ gTbl := by decide +kernel
theorem df_2 : ∀ k, k < 11 → (mskL.getD 2 [])[k]? = some (match tyX2 k with | .object _ => true | .array _ => true | _ => false) ∧ defaultValue (tyX2 k) = (match tyX2 k with | .object _ => .null | .array _ => .null | _ => .int 0) := by decide +kernel
theorem in_3 : ∀ w ∈ u_ws RX3 TX3 9, w ∈ gTbl := by decide +kernel
theorem df_3 : ∀ k, k < 9 → (mskL.getD 3 [])[k]? = some (match tyX3 k with | .object _ => true | .array _ => true | _ => false) ∧ defaultValue (tyX3 k) = (match tyX3 k with | .object _ => .null | .array _ => .null | _ => .int 0) := by decide +kernel
theorem in_4 : ∀ w ∈ u_ws RX4 TX4 10, w ∈ gTbl := by decide +kernel
theorem df_4 : ∀ k, k < 10 → (mskL.getD 4 [])[k]? = some (match tyX4 k with | .object _ => true | .array _ => true | _ => false) ∧ defaultValue (tyX4 k) = (match tyX4 k with | .object _ => .null | .array _ => .null | _ => .int 0) := by decide +kernel
theorem in_5 : ∀ w ∈ u_ws RX5 TX5 9, w ∈ gTbl := by decide +kernel
theorem df_5 : ∀ k, k < 9 → (mskL.getD 5 [])[k]? = some (match tyX5 k with | .object _ => true | .array _ => true | _ => false) ∧ defaultValue (tyX5 k) = (match tyX5 k with | .object _ => .null | .array _ => .null | _ => .int 0) := by decide +kernel
theorem in_6 : ∀ w ∈ u_ws RX6 TX6 3, w ∈ gTbl := by decide +kernel
theorem df_6 : ∀ k, k < 3 → (mskL.getD 6 [])[k]? = some (match tyX6 k with | .object _ => true | .array _ => true | _ => false) ∧ defaultValue (tyX6 k) = (match tyX6 k with | .object _ => .null | .array _ => .null | _ => .int 0) := by decide +kernel
theorem in_7 : ∀ w ∈ u_ws RX7 TX7 6, w ∈ gTbl := by decide +kernel
theorem df_7 : ∀ k, k < 6 → (mskL.getD 7 [])[k]? = some (match tyX7 k with | .object _ => true | .array _ => true | _ => false) ∧ defaultValue (tyX7 k) = (match tyX7 k with | .object _ => .null | .array _ => .null | _ => .int 0) := by decide +kernel
theorem in_8 : ∀ w ∈ u_ws RX8 TX8 9, w ∈ gTbl := by decide +kernel
theorem df_8 : ∀ k, k < 9 → (mskL.getD 8 [])[k]? = some (match tyX8 k with | .object _ => true | .array _ => true | _ => false) ∧ defaultValue (tyX8 k) = (match tyX8 k with | .object _ => .null | .array _ => .null | _ => .int 0) := by decide +kernel
theorem in_9 : ∀ w ∈ u_ws RX10 TX10 1, w ∈ gTbl := by decide +kernel
theorem df_9 : ∀ k, k < 1 → (mskL.getD 9 [])[k]? = some (match tyX10 k with | .object _ => true | .array _ => true | _ => false) ∧ defaultValue (tyX10 k) = (match tyX10 k with | .object _ => .null | .array _ => .null | _ => .int 0) := by decide +kernel
theorem in_10 : ∀ w ∈ u_ws RX11 TX11 18, w ∈ gTbl := by decide +kernel
theorem df_10 : ∀ k, k < 18 → (mskL.getD 10 [])[k]? = some (match tyX11 k with | .object _ => true | .array _ => true | _ => false) ∧ defaultValue (tyX11 k) = (match tyX11 k with | .object _ => .null | .array _ => .null | _ => .int 0) := by decide +kernel
theorem in_11 : ∀ w ∈ u_ws RX12 TX12 27, w ∈ gTbl := by decide +kernel
theorem df_11 : ∀ k, k < 27 → (mskL.getD 11 [])[k]? = some (match tyX12 k with | .object _ => true | .array _ => true | _ => false) ∧ defaultValue (tyX12 k) = (match tyX12 k with | .object _ => .null | .array _ => .null | _ => .int 0) := by decide +kernel
