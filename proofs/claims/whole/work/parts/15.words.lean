/-! words of the tables, by their places -/
theorem wd_2 : (Cond.initialized "CribLine$Family") ∈ gTbl := lw_mem 2 (by decide +kernel) rfl
theorem wd_3 : (Cond.initialized "CribLine$Person") ∈ gTbl := lw_mem 3 (by decide +kernel) rfl
theorem wd_4 : (Cond.initialized "CribLine$Log") ∈ gTbl := lw_mem 4 (by decide +kernel) rfl
theorem wd_14 : (Cond.initialized "java/lang/System") ∈ gTbl := lw_mem 14 (by decide +kernel) rfl
theorem wd_15 : (Cond.initialized "java/lang/Math") ∈ gTbl := lw_mem 15 (by decide +kernel) rfl
theorem wd_36 : (Cond.instanceMethod ({ cls := "java/lang/Object", name := "<init>", desc := "()V" } : MethodName)) ∈ gTbl := lw_mem 36 (by decide +kernel) rfl
theorem wd_37 : (Cond.code ({ cls := "java/lang/Object", name := "<init>", desc := "()V" } : MethodName) object_method_1_code (1 : Nat) (Option.none : Option ClassFile.FieldType)) ∈ gTbl := lw_mem 37 (by decide +kernel) rfl
theorem wd_42 : (Cond.code ({ cls := "CribLine$Family", name := "<init>", desc := "()V" } : MethodName) prog_4_method_1_code (2 : Nat) (Option.none : Option ClassFile.FieldType)) ∈ gTbl := lw_mem 42 (by decide +kernel) rfl
theorem wd_43 : (Cond.methodLink "CribLine$Family" (3 : Nat) ({ cls := "java/lang/Object", name := "<init>", desc := "()V" } : MethodName)) ∈ gTbl := lw_mem 43 (by decide +kernel) rfl
theorem wd_44 : (Cond.classLink "CribLine$Family" (11 : Nat) "CribLine$Person") ∈ gTbl := lw_mem 44 (by decide +kernel) rfl
theorem wd_46 : (Cond.instantiable "CribLine$Person" (9 : Nat)) ∈ gTbl := lw_mem 46 (by decide +kernel) rfl
theorem wd_47 : (Cond.methodLink "CribLine$Family" (17 : Nat) ({ cls := "CribLine$Person", name := "<init>", desc := "()V" } : MethodName)) ∈ gTbl := lw_mem 47 (by decide +kernel) rfl
theorem wd_48 : (Cond.instanceMethod ({ cls := "CribLine$Person", name := "<init>", desc := "()V" } : MethodName)) ∈ gTbl := lw_mem 48 (by decide +kernel) rfl
theorem wd_49 : (Cond.code ({ cls := "CribLine$Person", name := "<init>", desc := "()V" } : MethodName) prog_10_method_1_code (1 : Nat) (Option.none : Option ClassFile.FieldType)) ∈ gTbl := lw_mem 49 (by decide +kernel) rfl
theorem wd_50 : (Cond.methodLink "CribLine$Person" (3 : Nat) ({ cls := "java/lang/Object", name := "<init>", desc := "()V" } : MethodName)) ∈ gTbl := lw_mem 50 (by decide +kernel) rfl
theorem wd_51 : (Cond.fieldLink "CribLine$Person" (21 : Nat) "CribLine$Person" "age" "I") ∈ gTbl := lw_mem 51 (by decide +kernel) rfl
theorem wd_53 : (Cond.fieldLink "CribLine$Family" (75 : Nat) "CribLine$Person" "age" "I") ∈ gTbl := lw_mem 53 (by decide +kernel) rfl
theorem wd_59 : (Cond.fieldLink "CribLine$Person" (24 : Nat) "CribLine$Person" "turns" "I") ∈ gTbl := lw_mem 59 (by decide +kernel) rfl
theorem wd_61 : (Cond.fieldLink "CribLine$Family" (87 : Nat) "CribLine$Person" "turns" "I") ∈ gTbl := lw_mem 61 (by decide +kernel) rfl
theorem wd_64 : (Cond.fieldLink "CribLine$Person" (27 : Nat) "CribLine$Person" "sort" "I") ∈ gTbl := lw_mem 64 (by decide +kernel) rfl
theorem wd_66 : (Cond.fieldLink "CribLine$Family" (72 : Nat) "CribLine$Person" "sort" "I") ∈ gTbl := lw_mem 66 (by decide +kernel) rfl
theorem wd_68 : (Cond.fieldLink "CribLine$Person" (9 : Nat) "CribLine$Person" "parent" "I") ∈ gTbl := lw_mem 68 (by decide +kernel) rfl
theorem wd_70 : (Cond.fieldLink "CribLine$Family" (78 : Nat) "CribLine$Person" "parent" "I") ∈ gTbl := lw_mem 70 (by decide +kernel) rfl
theorem wd_73 : (Cond.fieldLink "CribLine$Person" (15 : Nat) "CribLine$Person" "spouse" "I") ∈ gTbl := lw_mem 73 (by decide +kernel) rfl
theorem wd_77 : (Cond.fieldLink "CribLine$Family" (113 : Nat) "CribLine$Person" "spouse" "I") ∈ gTbl := lw_mem 77 (by decide +kernel) rfl
theorem wd_78 : (Cond.fieldLink "CribLine$Person" (30 : Nat) "CribLine$Person" "wants" "I") ∈ gTbl := lw_mem 78 (by decide +kernel) rfl
theorem wd_83 : (Cond.fieldLink "CribLine$Person" (18 : Nat) "CribLine$Person" "stern" "I") ∈ gTbl := lw_mem 83 (by decide +kernel) rfl
theorem wd_88 : (Cond.fieldLink "CribLine$Person" (33 : Nat) "CribLine$Person" "permits" "I") ∈ gTbl := lw_mem 88 (by decide +kernel) rfl
theorem wd_91 : (Cond.fieldLink "CribLine$Family" (119 : Nat) "CribLine$Person" "permits" "I") ∈ gTbl := lw_mem 91 (by decide +kernel) rfl
theorem wd_92 : (Cond.fieldLink "CribLine$Person" (36 : Nat) "CribLine$Person" "governors" "I") ∈ gTbl := lw_mem 92 (by decide +kernel) rfl
theorem wd_94 : (Cond.fieldLink "CribLine$Family" (106 : Nat) "CribLine$Person" "governors" "I") ∈ gTbl := lw_mem 94 (by decide +kernel) rfl
theorem wd_116 : (Cond.arrayClass ClassFile.FieldType.int) ∈ gTbl := lw_mem 116 (by decide +kernel) rfl
theorem wd_117 : (Cond.classLink "CribLine$Family" (26 : Nat) "CribLine$Log") ∈ gTbl := lw_mem 117 (by decide +kernel) rfl
theorem wd_118 : (Cond.instantiable "CribLine$Log" (3 : Nat)) ∈ gTbl := lw_mem 118 (by decide +kernel) rfl
theorem wd_119 : (Cond.methodLink "CribLine$Family" (28 : Nat) ({ cls := "CribLine$Log", name := "<init>", desc := "()V" } : MethodName)) ∈ gTbl := lw_mem 119 (by decide +kernel) rfl
theorem wd_120 : (Cond.instanceMethod ({ cls := "CribLine$Log", name := "<init>", desc := "()V" } : MethodName)) ∈ gTbl := lw_mem 120 (by decide +kernel) rfl
theorem wd_121 : (Cond.code ({ cls := "CribLine$Log", name := "<init>", desc := "()V" } : MethodName) prog_8_method_1_code (1 : Nat) (Option.none : Option ClassFile.FieldType)) ∈ gTbl := lw_mem 121 (by decide +kernel) rfl
theorem wd_122 : (Cond.methodLink "CribLine$Log" (3 : Nat) ({ cls := "java/lang/Object", name := "<init>", desc := "()V" } : MethodName)) ∈ gTbl := lw_mem 122 (by decide +kernel) rfl
theorem wd_123 : (Cond.fieldLink "CribLine$Log" (11 : Nat) "CribLine$Log" "cells" "[I") ∈ gTbl := lw_mem 123 (by decide +kernel) rfl
theorem wd_124 : (Cond.fieldLink "CribLine$Log" (15 : Nat) "CribLine$Log" "next" "I") ∈ gTbl := lw_mem 124 (by decide +kernel) rfl
theorem wd_125 : (Cond.fieldLink "CribLine$Log" (19 : Nat) "CribLine$Log" "size" "I") ∈ gTbl := lw_mem 125 (by decide +kernel) rfl
theorem wd_134 : (Cond.fieldLink "CribLine$Family" (13 : Nat) "CribLine$Family" "people" "[LCribLine$Person;") ∈ gTbl := lw_mem 134 (by decide +kernel) rfl
theorem wd_135 : (Cond.fieldLink "CribLine$Family" (18 : Nat) "CribLine$Family" "nobody" "LCribLine$Person;") ∈ gTbl := lw_mem 135 (by decide +kernel) rfl
theorem wd_136 : (Cond.fieldLink "CribLine$Family" (22 : Nat) "CribLine$Family" "loans" "[I") ∈ gTbl := lw_mem 136 (by decide +kernel) rfl
theorem wd_137 : (Cond.fieldLink "CribLine$Family" (29 : Nat) "CribLine$Family" "log" "LCribLine$Log;") ∈ gTbl := lw_mem 137 (by decide +kernel) rfl
theorem wd_139 : (Cond.fieldLink "CribLine$Family" (33 : Nat) "CribLine$Family" "size" "I") ∈ gTbl := lw_mem 139 (by decide +kernel) rfl
theorem wd_146 : (Cond.fieldLink "CribLine$Family" (37 : Nat) "CribLine$Family" "round" "I") ∈ gTbl := lw_mem 146 (by decide +kernel) rfl
theorem wd_150 : (Cond.fieldLink "CribLine$Family" (40 : Nat) "CribLine$Family" "ripe" "I") ∈ gTbl := lw_mem 150 (by decide +kernel) rfl
theorem wd_154 : (Cond.fieldLink "CribLine$Family" (43 : Nat) "CribLine$Family" "step" "I") ∈ gTbl := lw_mem 154 (by decide +kernel) rfl
theorem wd_159 : (Cond.fieldLink "CribLine$Family" (46 : Nat) "CribLine$Family" "day" "I") ∈ gTbl := lw_mem 159 (by decide +kernel) rfl
theorem wd_163 : (Cond.fieldLink "CribLine$Family" (49 : Nat) "CribLine$Family" "seed" "I") ∈ gTbl := lw_mem 163 (by decide +kernel) rfl
theorem wd_166 : (Cond.fieldLink "CribLine$Family" (52 : Nat) "CribLine$Family" "texts" "I") ∈ gTbl := lw_mem 166 (by decide +kernel) rfl
theorem wd_464 : (Cond.code ({ cls := "CribLine$Family", name := "take", desc := "(LCribLine$Family;)V" } : MethodName) prog_4_method_2_code (3 : Nat) (Option.none : Option ClassFile.FieldType)) ∈ gTbl := lw_mem 464 (by decide +kernel) rfl
theorem wd_465 : (Cond.methodLink "CribLine$Family" (55 : Nat) ({ cls := "CribLine$Family", name := "at", desc := "(I)LCribLine$Person;" } : MethodName)) ∈ gTbl := lw_mem 465 (by decide +kernel) rfl
theorem wd_466 : (Cond.instanceMethod ({ cls := "CribLine$Family", name := "at", desc := "(I)LCribLine$Person;" } : MethodName)) ∈ gTbl := lw_mem 466 (by decide +kernel) rfl
theorem wd_467 : (Cond.selects "CribLine$Family" ({ cls := "CribLine$Family", name := "at", desc := "(I)LCribLine$Person;" } : MethodName) ({ cls := "CribLine$Family", name := "at", desc := "(I)LCribLine$Person;" } : MethodName)) ∈ gTbl := lw_mem 467 (by decide +kernel) rfl
theorem wd_468 : (Cond.code ({ cls := "CribLine$Family", name := "at", desc := "(I)LCribLine$Person;" } : MethodName) prog_4_method_4_code (2 : Nat) (Option.some (ClassFile.FieldType.object "CribLine$Person"))) ∈ gTbl := lw_mem 468 (by decide +kernel) rfl
theorem wd_469 : (Cond.methodLink "CribLine$Family" (59 : Nat) ({ cls := "CribLine$Person", name := "take", desc := "(LCribLine$Person;)V" } : MethodName)) ∈ gTbl := lw_mem 469 (by decide +kernel) rfl
theorem wd_470 : (Cond.instanceMethod ({ cls := "CribLine$Person", name := "take", desc := "(LCribLine$Person;)V" } : MethodName)) ∈ gTbl := lw_mem 470 (by decide +kernel) rfl
theorem wd_471 : (Cond.selects "CribLine$Person" ({ cls := "CribLine$Person", name := "take", desc := "(LCribLine$Person;)V" } : MethodName) ({ cls := "CribLine$Person", name := "take", desc := "(LCribLine$Person;)V" } : MethodName)) ∈ gTbl := lw_mem 471 (by decide +kernel) rfl
theorem wd_472 : (Cond.code ({ cls := "CribLine$Person", name := "take", desc := "(LCribLine$Person;)V" } : MethodName) prog_10_method_2_code (2 : Nat) (Option.none : Option ClassFile.FieldType)) ∈ gTbl := lw_mem 472 (by decide +kernel) rfl
theorem wd_473 : (Cond.methodLink "CribLine$Family" (63 : Nat) ({ cls := "java/lang/System", name := "arraycopy", desc := "(Ljava/lang/Object;ILjava/lang/Object;II)V" } : MethodName)) ∈ gTbl := lw_mem 473 (by decide +kernel) rfl
theorem wd_474 : (Cond.static ({ cls := "java/lang/System", name := "arraycopy", desc := "(Ljava/lang/Object;ILjava/lang/Object;II)V" } : MethodName)) ∈ gTbl := lw_mem 474 (by decide +kernel) rfl
theorem wd_475 : (Cond.native ({ cls := "java/lang/System", name := "arraycopy", desc := "(Ljava/lang/Object;ILjava/lang/Object;II)V" } : MethodName)) ∈ gTbl := lw_mem 475 (by decide +kernel) rfl
theorem wd_476 : (Cond.methodLink "CribLine$Family" (69 : Nat) ({ cls := "CribLine$Log", name := "take", desc := "(LCribLine$Log;)V" } : MethodName)) ∈ gTbl := lw_mem 476 (by decide +kernel) rfl
theorem wd_477 : (Cond.instanceMethod ({ cls := "CribLine$Log", name := "take", desc := "(LCribLine$Log;)V" } : MethodName)) ∈ gTbl := lw_mem 477 (by decide +kernel) rfl
theorem wd_478 : (Cond.selects "CribLine$Log" ({ cls := "CribLine$Log", name := "take", desc := "(LCribLine$Log;)V" } : MethodName) ({ cls := "CribLine$Log", name := "take", desc := "(LCribLine$Log;)V" } : MethodName)) ∈ gTbl := lw_mem 478 (by decide +kernel) rfl
theorem wd_479 : (Cond.code ({ cls := "CribLine$Log", name := "take", desc := "(LCribLine$Log;)V" } : MethodName) prog_8_method_2_code (2 : Nat) (Option.none : Option ClassFile.FieldType)) ∈ gTbl := lw_mem 479 (by decide +kernel) rfl
theorem wd_480 : (Cond.methodLink "CribLine$Log" (22 : Nat) ({ cls := "java/lang/System", name := "arraycopy", desc := "(Ljava/lang/Object;ILjava/lang/Object;II)V" } : MethodName)) ∈ gTbl := lw_mem 480 (by decide +kernel) rfl
theorem wd_484 : (Cond.code ({ cls := "CribLine$Family", name := "inCrib", desc := "()I" } : MethodName) prog_4_method_23_code (3 : Nat) (Option.some ClassFile.FieldType.int)) ∈ gTbl := lw_mem 484 (by decide +kernel) rfl
theorem wd_497 : (Cond.code ({ cls := "CribLine$Family", name := "governorAt", desc := "(II)I" } : MethodName) prog_4_method_15_code (5 : Nat) (Option.some ClassFile.FieldType.int)) ∈ gTbl := lw_mem 497 (by decide +kernel) rfl
theorem wd_498 : (Cond.methodLink "CribLine$Family" (109 : Nat) ({ cls := "CribLine$Family", name := "governs", desc := "(II)Z" } : MethodName)) ∈ gTbl := lw_mem 498 (by decide +kernel) rfl
theorem wd_499 : (Cond.instanceMethod ({ cls := "CribLine$Family", name := "governs", desc := "(II)Z" } : MethodName)) ∈ gTbl := lw_mem 499 (by decide +kernel) rfl
theorem wd_500 : (Cond.selects "CribLine$Family" ({ cls := "CribLine$Family", name := "governs", desc := "(II)Z" } : MethodName) ({ cls := "CribLine$Family", name := "governs", desc := "(II)Z" } : MethodName)) ∈ gTbl := lw_mem 500 (by decide +kernel) rfl
theorem wd_501 : (Cond.code ({ cls := "CribLine$Family", name := "governs", desc := "(II)Z" } : MethodName) prog_4_method_12_code (3 : Nat) (Option.some ClassFile.FieldType.boolean)) ∈ gTbl := lw_mem 501 (by decide +kernel) rfl
theorem wd_502 : (Cond.methodLink "CribLine$Family" (102 : Nat) ({ cls := "CribLine$Family", name := "has", desc := "(I)Z" } : MethodName)) ∈ gTbl := lw_mem 502 (by decide +kernel) rfl
theorem wd_503 : (Cond.instanceMethod ({ cls := "CribLine$Family", name := "has", desc := "(I)Z" } : MethodName)) ∈ gTbl := lw_mem 503 (by decide +kernel) rfl
theorem wd_504 : (Cond.selects "CribLine$Family" ({ cls := "CribLine$Family", name := "has", desc := "(I)Z" } : MethodName) ({ cls := "CribLine$Family", name := "has", desc := "(I)Z" } : MethodName)) ∈ gTbl := lw_mem 504 (by decide +kernel) rfl
theorem wd_505 : (Cond.code ({ cls := "CribLine$Family", name := "has", desc := "(I)Z" } : MethodName) prog_4_method_3_code (2 : Nat) (Option.some ClassFile.FieldType.boolean)) ∈ gTbl := lw_mem 505 (by decide +kernel) rfl
theorem wd_516 : (Cond.static ({ cls := "java/lang/Math", name := "max", desc := "(II)I" } : MethodName)) ∈ gTbl := lw_mem 516 (by decide +kernel) rfl
theorem wd_517 : (Cond.code ({ cls := "java/lang/Math", name := "max", desc := "(II)I" } : MethodName) prog_23_method_65_code (2 : Nat) (Option.some ClassFile.FieldType.int)) ∈ gTbl := lw_mem 517 (by decide +kernel) rfl
theorem wd_531 : (Cond.code ({ cls := "CribLine$Family", name := "leftByRound", desc := "(I)I" } : MethodName) prog_4_method_7_code (2 : Nat) (Option.some ClassFile.FieldType.int)) ∈ gTbl := lw_mem 531 (by decide +kernel) rfl
theorem wd_535 : (Cond.code ({ cls := "CribLine$Family", name := "tell", desc := "(IIZI)I" } : MethodName) prog_4_method_9_code (6 : Nat) (Option.some ClassFile.FieldType.int)) ∈ gTbl := lw_mem 535 (by decide +kernel) rfl
theorem wd_536 : (Cond.methodLink "CribLine$Family" (90 : Nat) ({ cls := "java/lang/Math", name := "max", desc := "(II)I" } : MethodName)) ∈ gTbl := lw_mem 536 (by decide +kernel) rfl
theorem wd_537 : (Cond.methodLink "CribLine$Family" (81 : Nat) ({ cls := "java/lang/Math", name := "min", desc := "(II)I" } : MethodName)) ∈ gTbl := lw_mem 537 (by decide +kernel) rfl
theorem wd_538 : (Cond.static ({ cls := "java/lang/Math", name := "min", desc := "(II)I" } : MethodName)) ∈ gTbl := lw_mem 538 (by decide +kernel) rfl
theorem wd_539 : (Cond.code ({ cls := "java/lang/Math", name := "min", desc := "(II)I" } : MethodName) prog_23_method_69_code (2 : Nat) (Option.some ClassFile.FieldType.int)) ∈ gTbl := lw_mem 539 (by decide +kernel) rfl
theorem wd_540 : (Cond.methodLink "CribLine$Family" (93 : Nat) ({ cls := "CribLine$Family", name := "moved", desc := "(IIZ)I" } : MethodName)) ∈ gTbl := lw_mem 540 (by decide +kernel) rfl
theorem wd_541 : (Cond.instanceMethod ({ cls := "CribLine$Family", name := "moved", desc := "(IIZ)I" } : MethodName)) ∈ gTbl := lw_mem 541 (by decide +kernel) rfl
theorem wd_542 : (Cond.selects "CribLine$Family" ({ cls := "CribLine$Family", name := "moved", desc := "(IIZ)I" } : MethodName) ({ cls := "CribLine$Family", name := "moved", desc := "(IIZ)I" } : MethodName)) ∈ gTbl := lw_mem 542 (by decide +kernel) rfl
theorem wd_543 : (Cond.code ({ cls := "CribLine$Family", name := "moved", desc := "(IIZ)I" } : MethodName) prog_4_method_8_code (5 : Nat) (Option.some ClassFile.FieldType.int)) ∈ gTbl := lw_mem 543 (by decide +kernel) rfl
theorem wd_544 : (Cond.methodLink "CribLine$Family" (97 : Nat) ({ cls := "CribLine$Log", name := "add", desc := "(IIIZI)V" } : MethodName)) ∈ gTbl := lw_mem 544 (by decide +kernel) rfl
theorem wd_545 : (Cond.instanceMethod ({ cls := "CribLine$Log", name := "add", desc := "(IIIZI)V" } : MethodName)) ∈ gTbl := lw_mem 545 (by decide +kernel) rfl
theorem wd_546 : (Cond.selects "CribLine$Log" ({ cls := "CribLine$Log", name := "add", desc := "(IIIZI)V" } : MethodName) ({ cls := "CribLine$Log", name := "add", desc := "(IIIZI)V" } : MethodName)) ∈ gTbl := lw_mem 546 (by decide +kernel) rfl
theorem wd_547 : (Cond.code ({ cls := "CribLine$Log", name := "add", desc := "(IIIZI)V" } : MethodName) prog_8_method_3_code (7 : Nat) (Option.none : Option ClassFile.FieldType)) ∈ gTbl := lw_mem 547 (by decide +kernel) rfl
theorem wd_548 : (Cond.methodLink "CribLine$Log" (28 : Nat) ({ cls := "java/lang/Math", name := "min", desc := "(II)I" } : MethodName)) ∈ gTbl := lw_mem 548 (by decide +kernel) rfl
theorem wd_552 : (Cond.code ({ cls := "CribLine$Family", name := "endDay", desc := "()V" } : MethodName) prog_4_method_10_code (1 : Nat) (Option.none : Option ClassFile.FieldType)) ∈ gTbl := lw_mem 552 (by decide +kernel) rfl
theorem wd_590 : (Cond.code ({ cls := "CribLine$Family", name := "mayWed", desc := "(II)Z" } : MethodName) prog_4_method_17_code (3 : Nat) (Option.some ClassFile.FieldType.boolean)) ∈ gTbl := lw_mem 590 (by decide +kernel) rfl
theorem wd_591 : (Cond.methodLink "CribLine$Family" (116 : Nat) ({ cls := "CribLine$Family", name := "areParentAndChild", desc := "(II)Z" } : MethodName)) ∈ gTbl := lw_mem 591 (by decide +kernel) rfl
theorem wd_592 : (Cond.instanceMethod ({ cls := "CribLine$Family", name := "areParentAndChild", desc := "(II)Z" } : MethodName)) ∈ gTbl := lw_mem 592 (by decide +kernel) rfl
theorem wd_593 : (Cond.selects "CribLine$Family" ({ cls := "CribLine$Family", name := "areParentAndChild", desc := "(II)Z" } : MethodName) ({ cls := "CribLine$Family", name := "areParentAndChild", desc := "(II)Z" } : MethodName)) ∈ gTbl := lw_mem 593 (by decide +kernel) rfl
theorem wd_594 : (Cond.code ({ cls := "CribLine$Family", name := "areParentAndChild", desc := "(II)Z" } : MethodName) prog_4_method_16_code (3 : Nat) (Option.some ClassFile.FieldType.boolean)) ∈ gTbl := lw_mem 594 (by decide +kernel) rfl
theorem wd_598 : (Cond.code ({ cls := "CribLine$Family", name := "gapOf", desc := "(II)I" } : MethodName) prog_4_method_6_code (4 : Nat) (Option.some ClassFile.FieldType.int)) ∈ gTbl := lw_mem 598 (by decide +kernel) rfl
theorem wd_623 : (Cond.code ({ cls := "CribLine$Family", name := "lentBy", desc := "(II)I" } : MethodName) prog_4_method_19_code (3 : Nat) (Option.some ClassFile.FieldType.int)) ∈ gTbl := lw_mem 623 (by decide +kernel) rfl
theorem wd_662 : (Cond.code ({ cls := "CribLine$Family", name := "agesTogether", desc := "()I" } : MethodName) prog_4_method_21_code (3 : Nat) (Option.some ClassFile.FieldType.int)) ∈ gTbl := lw_mem 662 (by decide +kernel) rfl
theorem wd_714 : (Cond.code ({ cls := "CribLine$Family", name := "turnsTogether", desc := "()I" } : MethodName) prog_4_method_22_code (3 : Nat) (Option.some ClassFile.FieldType.int)) ∈ gTbl := lw_mem 714 (by decide +kernel) rfl
theorem wd_718 : (Cond.code ({ cls := "CribLine$Family", name := "boys", desc := "()I" } : MethodName) prog_4_method_24_code (3 : Nat) (Option.some ClassFile.FieldType.int)) ∈ gTbl := lw_mem 718 (by decide +kernel) rfl
theorem wd_722 : (Cond.code ({ cls := "CribLine$Family", name := "wedded", desc := "()I" } : MethodName) prog_4_method_25_code (3 : Nat) (Option.some ClassFile.FieldType.int)) ∈ gTbl := lw_mem 722 (by decide +kernel) rfl
theorem wd_894 : (Cond.code ({ cls := "CribLine$Family", name := "add", desc := "(III)I" } : MethodName) prog_4_method_5_code (5 : Nat) (Option.some ClassFile.FieldType.int)) ∈ gTbl := lw_mem 894 (by decide +kernel) rfl
theorem wd_907 : (Cond.code ({ cls := "CribLine$Family", name := "setGoverns", desc := "(IIZ)V" } : MethodName) prog_4_method_13_code (5 : Nat) (Option.none : Option ClassFile.FieldType)) ∈ gTbl := lw_mem 907 (by decide +kernel) rfl
theorem wd_916 : (Cond.code ({ cls := "CribLine$Family", name := "join", desc := "(II)V" } : MethodName) prog_4_method_18_code (3 : Nat) (Option.none : Option ClassFile.FieldType)) ∈ gTbl := lw_mem 916 (by decide +kernel) rfl
theorem wd_1107 : (Cond.code ({ cls := "CribLine$Family", name := "governedBy", desc := "(I)I" } : MethodName) prog_4_method_14_code (4 : Nat) (Option.some ClassFile.FieldType.int)) ∈ gTbl := lw_mem 1107 (by decide +kernel) rfl
theorem wd_1111 : (Cond.code ({ cls := "CribLine$Log", name := "shareOf", desc := "(I)I" } : MethodName) prog_8_method_5_code (5 : Nat) (Option.some ClassFile.FieldType.int)) ∈ gTbl := lw_mem 1111 (by decide +kernel) rfl
theorem wd_1112 : (Cond.methodLink "CribLine$Log" (34 : Nat) ({ cls := "CribLine$Log", name := "cell", desc := "(II)I" } : MethodName)) ∈ gTbl := lw_mem 1112 (by decide +kernel) rfl
theorem wd_1113 : (Cond.instanceMethod ({ cls := "CribLine$Log", name := "cell", desc := "(II)I" } : MethodName)) ∈ gTbl := lw_mem 1113 (by decide +kernel) rfl
theorem wd_1114 : (Cond.selects "CribLine$Log" ({ cls := "CribLine$Log", name := "cell", desc := "(II)I" } : MethodName) ({ cls := "CribLine$Log", name := "cell", desc := "(II)I" } : MethodName)) ∈ gTbl := lw_mem 1114 (by decide +kernel) rfl
theorem wd_1115 : (Cond.code ({ cls := "CribLine$Log", name := "cell", desc := "(II)I" } : MethodName) prog_8_method_4_code (5 : Nat) (Option.some ClassFile.FieldType.int)) ∈ gTbl := lw_mem 1115 (by decide +kernel) rfl
theorem wd_1229 : (Cond.code ({ cls := "CribLine$Family", name := "lendOne", desc := "(II)V" } : MethodName) prog_4_method_20_code (3 : Nat) (Option.none : Option ClassFile.FieldType)) ∈ gTbl := lw_mem 1229 (by decide +kernel) rfl
theorem wd_1280 : (Cond.code ({ cls := "CribLine$Family", name := "draw", desc := "()I" } : MethodName) prog_4_method_11_code (1 : Nat) (Option.some ClassFile.FieldType.int)) ∈ gTbl := lw_mem 1280 (by decide +kernel) rfl
theorem wd_1281 : (Cond.constant "CribLine$Family" (101 : Nat) (1103515245 : Int32)) ∈ gTbl := lw_mem 1281 (by decide +kernel) rfl
theorem wd_1618 : (Cond.code ({ cls := "CribLine$Log", name := "latestDayTo", desc := "(I)I" } : MethodName) prog_8_method_7_code (3 : Nat) (Option.some ClassFile.FieldType.int)) ∈ gTbl := lw_mem 1618 (by decide +kernel) rfl
theorem wd_1622 : (Cond.code ({ cls := "CribLine$Log", name := "rowsTo", desc := "(I)I" } : MethodName) prog_8_method_6_code (4 : Nat) (Option.some ClassFile.FieldType.int)) ∈ gTbl := lw_mem 1622 (by decide +kernel) rfl
theorem in_0 : ∀ w ∈ u_ws RX0 TX0 8, w ∈ gTbl := by decide +kernel
theorem df_0 : ∀ k, k < 8 → (mskL.getD 0 [])[k]? = some (match tyX0 k with | .object _ => true | .array _ => true | _ => false) ∧ defaultValue (tyX0 k) = (match tyX0 k with | .object _ => .null | .array _ => .null | _ => .int 0) := by decide +kernel
theorem in_1 : ∀ w ∈ u_ws RX1 TX1 3, w ∈ gTbl := by decide +kernel
theorem df_1 : ∀ k, k < 3 → (mskL.getD 1 [])[k]? = some (match tyX1 k with | .object _ => true | .array _ => true | _ => false) ∧ defaultValue (tyX1 k) = (match tyX1 k with | .object _ => .null | .array _ => .null | _ => .int 0) := by decide +kernel
theorem in_2 : ∀ w ∈ u_ws RX2 TX2 11, w ∈ gTbl := by decide +kernel
theorem df_2 : ∀ k, k < 11 → (mskL.getD 2 [])[k]? = some (match tyX2 k with | .object _ => true | .array _ => true | _ => false) ∧ defaultValue (tyX2 k) = (match tyX2 k with | .object _ => .null | .array _ => .null | _ => .int 0) := by decide +kernel
theorem in_3 : ∀ w ∈ u_ws RX3 TX3 9, w ∈ gTbl := by decide +kernel
theorem df_3 : ∀ k, k < 9 → (mskL.getD 3 [])[k]? = some (match tyX3 k with | .object _ => true | .array _ => true | _ => false) ∧ defaultValue (tyX3 k) = (match tyX3 k with | .object _ => .null | .array _ => .null | _ => .int 0) := by decide +kernel
theorem in_4 : ∀ w ∈ u_ws RX4 TX4 10, w ∈ gTbl := by decide +kernel
theorem df_4 : ∀ k, k < 10 → (mskL.getD 4 [])[k]? = some (match tyX4 k with | .object _ => true | .array _ => true | _ => false) ∧ defaultValue (tyX4 k) = (match tyX4 k with | .object _ => .null | .array _ => .null | _ => .int 0) := by decide +kernel
theorem in_5 : ∀ w ∈ u_ws RX5 TX5 9, w ∈ gTbl := by decide +kernel
theorem df_5 : ∀ k, k < 9 → (mskL.getD 5 [])[k]? = some (match tyX5 k with | .object _ => true | .array _ => true | _ => false) ∧ defaultValue (tyX5 k) = (match tyX5 k with | .object _ => .null | .array _ => .null | _ => .int 0) := by decide +kernel
theorem in_6 : ∀ w ∈ u_ws RX6 TX6 3, w ∈ gTbl := by decide +kernel
theorem df_6 : ∀ k, k < 3 → (mskL.getD 6 [])[k]? = some (match tyX6 k with | .object _ => true | .array _ => true | _ => false) ∧ defaultValue (tyX6 k) = (match tyX6 k with | .object _ => .null | .array _ => .null | _ => .int 0) := by decide +kernel
theorem in_7 : ∀ w ∈ u_ws RX7 TX7 6, w ∈ gTbl := by decide +kernel
theorem df_7 : ∀ k, k < 6 → (mskL.getD 7 [])[k]? = some (match tyX7 k with | .object _ => true | .array _ => true | _ => false) ∧ defaultValue (tyX7 k) = (match tyX7 k with | .object _ => .null | .array _ => .null | _ => .int 0) := by decide +kernel
theorem in_8 : ∀ w ∈ u_ws RX8 TX8 9, w ∈ gTbl := by decide +kernel
theorem df_8 : ∀ k, k < 9 → (mskL.getD 8 [])[k]? = some (match tyX8 k with | .object _ => true | .array _ => true | _ => false) ∧ defaultValue (tyX8 k) = (match tyX8 k with | .object _ => .null | .array _ => .null | _ => .int 0) := by decide +kernel
theorem in_9 : ∀ w ∈ u_ws RX10 TX10 1, w ∈ gTbl := by decide +kernel
theorem df_9 : ∀ k, k < 1 → (mskL.getD 9 [])[k]? = some (match tyX10 k with | .object _ => true | .array _ => true | _ => false) ∧ defaultValue (tyX10 k) = (match tyX10 k with | .object _ => .null | .array _ => .null | _ => .int 0) := by decide +kernel
theorem in_10 : ∀ w ∈ u_ws RX11 TX11 18, w ∈ gTbl := by decide +kernel
theorem df_10 : ∀ k, k < 18 → (mskL.getD 10 [])[k]? = some (match tyX11 k with | .object _ => true | .array _ => true | _ => false) ∧ defaultValue (tyX11 k) = (match tyX11 k with | .object _ => .null | .array _ => .null | _ => .int 0) := by decide +kernel
theorem in_11 : ∀ w ∈ u_ws RX12 TX12 27, w ∈ gTbl := by decide +kernel
theorem df_11 : ∀ k, k < 27 → (mskL.getD 11 [])[k]? = some (match tyX12 k with | .object _ => true | .array _ => true | _ => false) ∧ defaultValue (tyX12 k) = (match tyX12 k with | .object _ => .null | .array _ => .null | _ => .int 0) := by decide +kernel
