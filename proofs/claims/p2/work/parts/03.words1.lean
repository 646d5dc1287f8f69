theorem kw_0 : (Jvm.Cond.initialized "CarpetHallsLaw") ∈ th_tb := kg (kt_1 (List.mem_of_getElem? (i := 0) rfl)) rfl
theorem kw_1 : (Jvm.Cond.initialized "CarpetHalls") ∈ th_tb := kg (kt_1 (List.mem_of_getElem? (i := 1) rfl)) rfl
theorem kw_2 : (Jvm.Cond.initialized "CarpetHalls$Stand") ∈ th_tb := kg (kt_1 (List.mem_of_getElem? (i := 2) rfl)) rfl
theorem kw_3 : (Jvm.Cond.initialized "CarpetHalls$Floor") ∈ th_tb := kg (kt_1 (List.mem_of_getElem? (i := 3) rfl)) rfl
theorem kw_4 : (Jvm.Cond.initialized "CarpetHalls$Text") ∈ th_tb := kg (kt_1 (List.mem_of_getElem? (i := 4) rfl)) rfl
theorem kw_5 : (Jvm.Cond.initialized "CarpetHalls$Tape") ∈ th_tb := kg (kt_1 (List.mem_of_getElem? (i := 5) rfl)) rfl
theorem kw_6 : (Jvm.Cond.initialized "CarpetHalls$Reader") ∈ th_tb := kg (kt_1 (List.mem_of_getElem? (i := 6) rfl)) rfl
theorem kw_7 : (Jvm.Cond.initialized "CarpetHalls$Reckoner") ∈ th_tb := kg (kt_1 (List.mem_of_getElem? (i := 7) rfl)) rfl
theorem kw_8 : (Jvm.Cond.initialized "CarpetHalls$Judge") ∈ th_tb := kg (kt_1 (List.mem_of_getElem? (i := 8) rfl)) rfl
theorem kw_9 : (Jvm.Cond.initialized "CarpetHalls$Past") ∈ th_tb := kg (kt_1 (List.mem_of_getElem? (i := 9) rfl)) rfl
theorem kw_10 : (Jvm.Cond.initialized "CarpetHalls$Search") ∈ th_tb := kg (kt_1 (List.mem_of_getElem? (i := 10) rfl)) rfl
theorem kw_11 : (Jvm.Cond.initialized "CarpetHalls$Memo") ∈ th_tb := kg (kt_1 (List.mem_of_getElem? (i := 11) rfl)) rfl
theorem kw_12 : (Jvm.Cond.initialized "java/util/Arrays") ∈ th_tb := kg (kt_1 (List.mem_of_getElem? (i := 12) rfl)) rfl
theorem kw_13 : (Jvm.Cond.initialized "CarpetHalls$Chance") ∈ th_tb := kg (kt_1 (List.mem_of_getElem? (i := 13) rfl)) rfl
theorem kw_14 : (Jvm.Cond.initialized "CarpetHallsModel") ∈ th_tb := kg (kt_1 (List.mem_of_getElem? (i := 14) rfl)) rfl
theorem kw_15 : (Jvm.Cond.initialized "java/lang/Math") ∈ th_tb := kg (kt_1 (List.mem_of_getElem? (i := 15) rfl)) rfl
theorem kw_16 : (Jvm.Cond.initialized "java/lang/String") ∈ th_tb := kg (kt_1 (List.mem_of_getElem? (i := 16) rfl)) rfl
theorem kw_17 : (Jvm.Cond.initialized "java/lang/StringLatin1") ∈ th_tb := kg (kt_1 (List.mem_of_getElem? (i := 17) rfl)) rfl
theorem kw_18 : (Jvm.Cond.initialized "jdk/internal/util/Preconditions") ∈ th_tb := kg (kt_1 (List.mem_of_getElem? (i := 18) rfl)) rfl
theorem kw_19 : (Jvm.Cond.initialized "java/lang/StringUTF16") ∈ th_tb := kg (kt_1 (List.mem_of_getElem? (i := 19) rfl)) rfl
theorem kw_20 : (Jvm.Cond.initialized "java/lang/System") ∈ th_tb := kg (kt_1 (List.mem_of_getElem? (i := 20) rfl)) rfl
theorem kw_21 : (Jvm.Cond.initialized "java/lang/Integer") ∈ th_tb := kg (kt_1 (List.mem_of_getElem? (i := 21) rfl)) rfl
theorem kw_22 : (Jvm.Cond.classLink "CarpetHallsLaw" (7 : Nat) "CarpetHalls") ∈ th_tb := kg (kt_1 (List.mem_of_getElem? (i := 22) rfl)) rfl
theorem kw_23 : (Jvm.Cond.instantiable "CarpetHalls" (18 : Nat)) ∈ th_tb := kg (kt_1 (List.mem_of_getElem? (i := 23) rfl)) rfl
theorem kw_24 : (Jvm.Cond.methodLink "CarpetHallsLaw" (9 : Nat) ({ cls := "CarpetHalls", name := "<init>", desc := "()V" } : Jvm.MethodName)) ∈ th_tb := kg (kt_1 (List.mem_of_getElem? (i := 24) rfl)) rfl
theorem kw_25 : (Jvm.Cond.instanceMethod ({ cls := "CarpetHalls", name := "<init>", desc := "()V" } : Jvm.MethodName)) ∈ th_tb := kg (kt_1 (List.mem_of_getElem? (i := 25) rfl)) rfl
theorem kw_26 : (Jvm.Cond.code ({ cls := "CarpetHalls", name := "<init>", desc := "()V" } : Jvm.MethodName) prog_1_method_1_code (2 : Nat) (Option.none : Option Jvm.ClassFile.FieldType)) ∈ th_tb := kg (kt_1 (List.mem_of_getElem? (i := 26) rfl)) rfl
theorem kw_27 : (Jvm.Cond.methodLink "CarpetHalls" (3 : Nat) ({ cls := "java/lang/Object", name := "<init>", desc := "()V" } : Jvm.MethodName)) ∈ th_tb := kg (kt_1 (List.mem_of_getElem? (i := 27) rfl)) rfl
theorem kw_28 : (Jvm.Cond.instanceMethod ({ cls := "java/lang/Object", name := "<init>", desc := "()V" } : Jvm.MethodName)) ∈ th_tb := kg (kt_1 (List.mem_of_getElem? (i := 28) rfl)) rfl
theorem kw_29 : (Jvm.Cond.code ({ cls := "java/lang/Object", name := "<init>", desc := "()V" } : Jvm.MethodName) object_method_1_code (1 : Nat) (Option.none : Option Jvm.ClassFile.FieldType)) ∈ th_tb := kg (kt_1 (List.mem_of_getElem? (i := 29) rfl)) rfl
theorem kw_30 : (Jvm.Cond.classLink "CarpetHalls" (9 : Nat) "CarpetHalls$Stand") ∈ th_tb := kg (kt_1 (List.mem_of_getElem? (i := 30) rfl)) rfl
theorem kw_31 : (Jvm.Cond.instantiable "CarpetHalls$Stand" (8 : Nat)) ∈ th_tb := kg (kt_1 (List.mem_of_getElem? (i := 31) rfl)) rfl
theorem kw_32 : (Jvm.Cond.methodLink "CarpetHalls" (11 : Nat) ({ cls := "CarpetHalls$Stand", name := "<init>", desc := "()V" } : Jvm.MethodName)) ∈ th_tb := kg (kt_1 (List.mem_of_getElem? (i := 32) rfl)) rfl
theorem kw_33 : (Jvm.Cond.instanceMethod ({ cls := "CarpetHalls$Stand", name := "<init>", desc := "()V" } : Jvm.MethodName)) ∈ th_tb := kg (kt_1 (List.mem_of_getElem? (i := 33) rfl)) rfl
theorem kw_34 : (Jvm.Cond.code ({ cls := "CarpetHalls$Stand", name := "<init>", desc := "()V" } : Jvm.MethodName) prog_10_method_1_code (2 : Nat) (Option.none : Option Jvm.ClassFile.FieldType)) ∈ th_tb := kg (kt_1 (List.mem_of_getElem? (i := 34) rfl)) rfl
theorem kw_35 : (Jvm.Cond.methodLink "CarpetHalls$Stand" (3 : Nat) ({ cls := "java/lang/Object", name := "<init>", desc := "()V" } : Jvm.MethodName)) ∈ th_tb := kg (kt_1 (List.mem_of_getElem? (i := 35) rfl)) rfl
theorem kw_36 : (Jvm.Cond.classLink "CarpetHalls$Stand" (9 : Nat) "CarpetHalls$Floor") ∈ th_tb := kg (kt_1 (List.mem_of_getElem? (i := 36) rfl)) rfl
theorem kw_37 : (Jvm.Cond.instantiable "CarpetHalls$Floor" (11 : Nat)) ∈ th_tb := kg (kt_1 (List.mem_of_getElem? (i := 37) rfl)) rfl
theorem kw_38 : (Jvm.Cond.methodLink "CarpetHalls$Stand" (11 : Nat) ({ cls := "CarpetHalls$Floor", name := "<init>", desc := "()V" } : Jvm.MethodName)) ∈ th_tb := kg (kt_1 (List.mem_of_getElem? (i := 38) rfl)) rfl
theorem kw_39 : (Jvm.Cond.instanceMethod ({ cls := "CarpetHalls$Floor", name := "<init>", desc := "()V" } : Jvm.MethodName)) ∈ th_tb := kg (kt_1 (List.mem_of_getElem? (i := 39) rfl)) rfl
theorem kw_40 : (Jvm.Cond.code ({ cls := "CarpetHalls$Floor", name := "<init>", desc := "()V" } : Jvm.MethodName) prog_3_method_1_code (1 : Nat) (Option.none : Option Jvm.ClassFile.FieldType)) ∈ th_tb := kg (kt_1 (List.mem_of_getElem? (i := 40) rfl)) rfl
theorem kw_41 : (Jvm.Cond.methodLink "CarpetHalls$Floor" (3 : Nat) ({ cls := "java/lang/Object", name := "<init>", desc := "()V" } : Jvm.MethodName)) ∈ th_tb := kg (kt_1 (List.mem_of_getElem? (i := 41) rfl)) rfl
theorem kw_42 : (Jvm.Cond.fieldLink "CarpetHalls$Floor" (9 : Nat) "CarpetHalls$Floor" "side" "[I") ∈ th_tb := kg (kt_1 (List.mem_of_getElem? (i := 42) rfl)) rfl
theorem kw_43 : (Jvm.Cond.fieldLink "CarpetHalls$Reckoner" (30 : Nat) "CarpetHalls$Floor" "side" "[I") ∈ th_tb := kg (kt_1 (List.mem_of_getElem? (i := 43) rfl)) rfl
theorem kw_44 : (Jvm.Cond.fieldLink "CarpetHalls$Judge" (41 : Nat) "CarpetHalls$Floor" "side" "[I") ∈ th_tb := kg (kt_1 (List.mem_of_getElem? (i := 44) rfl)) rfl
theorem kw_45 : (Jvm.Cond.fieldLink "CarpetHalls" (125 : Nat) "CarpetHalls$Floor" "side" "[I") ∈ th_tb := kg (kt_1 (List.mem_of_getElem? (i := 45) rfl)) rfl
theorem kw_46 : (Jvm.Cond.fieldLink "CarpetHalls$Search" (87 : Nat) "CarpetHalls$Floor" "side" "[I") ∈ th_tb := kg (kt_1 (List.mem_of_getElem? (i := 46) rfl)) rfl
theorem kw_47 : (Jvm.Cond.fieldLink "CarpetHalls$Floor" (15 : Nat) "CarpetHalls$Floor" "kind" "[I") ∈ th_tb := kg (kt_1 (List.mem_of_getElem? (i := 47) rfl)) rfl
theorem kw_48 : (Jvm.Cond.fieldLink "CarpetHalls$Reckoner" (35 : Nat) "CarpetHalls$Floor" "kind" "[I") ∈ th_tb := kg (kt_1 (List.mem_of_getElem? (i := 48) rfl)) rfl
theorem kw_49 : (Jvm.Cond.fieldLink "CarpetHalls" (128 : Nat) "CarpetHalls$Floor" "kind" "[I") ∈ th_tb := kg (kt_1 (List.mem_of_getElem? (i := 49) rfl)) rfl
theorem kw_50 : (Jvm.Cond.fieldLink "CarpetHalls$Floor" (18 : Nat) "CarpetHalls$Floor" "pile" "[I") ∈ th_tb := kg (kt_1 (List.mem_of_getElem? (i := 50) rfl)) rfl
theorem kw_51 : (Jvm.Cond.fieldLink "CarpetHalls$Reckoner" (38 : Nat) "CarpetHalls$Floor" "pile" "[I") ∈ th_tb := kg (kt_1 (List.mem_of_getElem? (i := 51) rfl)) rfl
theorem kw_52 : (Jvm.Cond.fieldLink "CarpetHalls" (131 : Nat) "CarpetHalls$Floor" "pile" "[I") ∈ th_tb := kg (kt_1 (List.mem_of_getElem? (i := 52) rfl)) rfl
theorem kw_53 : (Jvm.Cond.fieldLink "CarpetHalls$Past" (50 : Nat) "CarpetHalls$Floor" "pile" "[I") ∈ th_tb := kg (kt_1 (List.mem_of_getElem? (i := 53) rfl)) rfl
theorem kw_54 : (Jvm.Cond.fieldLink "CarpetHalls$Floor" (21 : Nat) "CarpetHalls$Floor" "x" "[I") ∈ th_tb := kg (kt_1 (List.mem_of_getElem? (i := 54) rfl)) rfl
theorem kw_55 : (Jvm.Cond.fieldLink "CarpetHalls$Judge" (46 : Nat) "CarpetHalls$Floor" "x" "[I") ∈ th_tb := kg (kt_1 (List.mem_of_getElem? (i := 55) rfl)) rfl
theorem kw_56 : (Jvm.Cond.fieldLink "CarpetHalls$Past" (44 : Nat) "CarpetHalls$Floor" "x" "[I") ∈ th_tb := kg (kt_1 (List.mem_of_getElem? (i := 56) rfl)) rfl
theorem kw_57 : (Jvm.Cond.fieldLink "CarpetHalls" (134 : Nat) "CarpetHalls$Floor" "x" "[I") ∈ th_tb := kg (kt_1 (List.mem_of_getElem? (i := 57) rfl)) rfl
theorem kw_58 : (Jvm.Cond.fieldLink "CarpetHalls$Floor" (24 : Nat) "CarpetHalls$Floor" "y" "[I") ∈ th_tb := kg (kt_1 (List.mem_of_getElem? (i := 58) rfl)) rfl
theorem kw_59 : (Jvm.Cond.fieldLink "CarpetHalls$Judge" (49 : Nat) "CarpetHalls$Floor" "y" "[I") ∈ th_tb := kg (kt_1 (List.mem_of_getElem? (i := 59) rfl)) rfl
theorem kw_60 : (Jvm.Cond.fieldLink "CarpetHalls" (137 : Nat) "CarpetHalls$Floor" "y" "[I") ∈ th_tb := kg (kt_1 (List.mem_of_getElem? (i := 60) rfl)) rfl
theorem kw_61 : (Jvm.Cond.fieldLink "CarpetHalls$Past" (47 : Nat) "CarpetHalls$Floor" "y" "[I") ∈ th_tb := kg (kt_1 (List.mem_of_getElem? (i := 61) rfl)) rfl
theorem kw_62 : (Jvm.Cond.fieldLink "CarpetHalls$Floor" (27 : Nat) "CarpetHalls$Floor" "terms" "[I") ∈ th_tb := kg (kt_1 (List.mem_of_getElem? (i := 62) rfl)) rfl
theorem kw_63 : (Jvm.Cond.fieldLink "CarpetHalls$Reckoner" (41 : Nat) "CarpetHalls$Floor" "terms" "[I") ∈ th_tb := kg (kt_1 (List.mem_of_getElem? (i := 63) rfl)) rfl
theorem kw_64 : (Jvm.Cond.fieldLink "CarpetHalls$Past" (41 : Nat) "CarpetHalls$Floor" "terms" "[I") ∈ th_tb := kg (kt_1 (List.mem_of_getElem? (i := 64) rfl)) rfl
theorem kw_65 : (Jvm.Cond.fieldLink "CarpetHalls" (183 : Nat) "CarpetHalls$Floor" "terms" "[I") ∈ th_tb := kg (kt_1 (List.mem_of_getElem? (i := 65) rfl)) rfl
theorem kw_66 : (Jvm.Cond.fieldLink "CarpetHalls$Floor" (30 : Nat) "CarpetHalls$Floor" "rows" "[I") ∈ th_tb := kg (kt_1 (List.mem_of_getElem? (i := 66) rfl)) rfl
theorem kw_67 : (Jvm.Cond.fieldLink "CarpetHalls$Search" (167 : Nat) "CarpetHalls$Floor" "rows" "[I") ∈ th_tb := kg (kt_1 (List.mem_of_getElem? (i := 67) rfl)) rfl
theorem kw_68 : (Jvm.Cond.fieldLink "CarpetHalls$Floor" (33 : Nat) "CarpetHalls$Floor" "carpets" "I") ∈ th_tb := kg (kt_1 (List.mem_of_getElem? (i := 68) rfl)) rfl
theorem kw_69 : (Jvm.Cond.fieldLink "CarpetHalls$Search" (123 : Nat) "CarpetHalls$Floor" "carpets" "I") ∈ th_tb := kg (kt_1 (List.mem_of_getElem? (i := 69) rfl)) rfl
theorem kw_70 : (Jvm.Cond.fieldLink "CarpetHalls" (298 : Nat) "CarpetHalls$Floor" "carpets" "I") ∈ th_tb := kg (kt_1 (List.mem_of_getElem? (i := 70) rfl)) rfl
theorem kw_71 : (Jvm.Cond.fieldLink "CarpetHalls$Floor" (37 : Nat) "CarpetHalls$Floor" "wide" "I") ∈ th_tb := kg (kt_1 (List.mem_of_getElem? (i := 71) rfl)) rfl
theorem kw_72 : (Jvm.Cond.fieldLink "CarpetHalls$Search" (74 : Nat) "CarpetHalls$Floor" "wide" "I") ∈ th_tb := kg (kt_1 (List.mem_of_getElem? (i := 72) rfl)) rfl
theorem kw_73 : (Jvm.Cond.fieldLink "CarpetHalls" (155 : Nat) "CarpetHalls$Floor" "wide" "I") ∈ th_tb := kg (kt_1 (List.mem_of_getElem? (i := 73) rfl)) rfl
theorem kw_74 : (Jvm.Cond.fieldLink "CarpetHalls$Floor" (40 : Nat) "CarpetHalls$Floor" "high" "I") ∈ th_tb := kg (kt_1 (List.mem_of_getElem? (i := 74) rfl)) rfl
theorem kw_75 : (Jvm.Cond.fieldLink "CarpetHalls$Search" (80 : Nat) "CarpetHalls$Floor" "high" "I") ∈ th_tb := kg (kt_1 (List.mem_of_getElem? (i := 75) rfl)) rfl
theorem kw_76 : (Jvm.Cond.fieldLink "CarpetHalls" (158 : Nat) "CarpetHalls$Floor" "high" "I") ∈ th_tb := kg (kt_1 (List.mem_of_getElem? (i := 76) rfl)) rfl
theorem kw_77 : (Jvm.Cond.fieldLink "CarpetHalls$Floor" (43 : Nat) "CarpetHalls$Floor" "paid" "I") ∈ th_tb := kg (kt_1 (List.mem_of_getElem? (i := 77) rfl)) rfl
theorem kw_78 : (Jvm.Cond.fieldLink "CarpetHalls$Reckoner" (48 : Nat) "CarpetHalls$Floor" "paid" "I") ∈ th_tb := kg (kt_1 (List.mem_of_getElem? (i := 78) rfl)) rfl
theorem kw_79 : (Jvm.Cond.fieldLink "CarpetHalls$Past" (38 : Nat) "CarpetHalls$Floor" "paid" "I") ∈ th_tb := kg (kt_1 (List.mem_of_getElem? (i := 79) rfl)) rfl
theorem kw_80 : (Jvm.Cond.fieldLink "CarpetHalls" (348 : Nat) "CarpetHalls$Floor" "paid" "I") ∈ th_tb := kg (kt_1 (List.mem_of_getElem? (i := 80) rfl)) rfl
theorem kw_81 : (Jvm.Cond.laysFinal "CarpetHalls$Floor" "CarpetHalls$Floor" "side" "[I") ∈ th_tb := kg (kt_1 (List.mem_of_getElem? (i := 81) rfl)) rfl
theorem kw_83 : (Jvm.Cond.laysFinal "CarpetHalls$Floor" "CarpetHalls$Floor" "kind" "[I") ∈ th_tb := kg (kt_1 (List.mem_of_getElem? (i := 83) rfl)) rfl
theorem kw_85 : (Jvm.Cond.laysFinal "CarpetHalls$Floor" "CarpetHalls$Floor" "pile" "[I") ∈ th_tb := kg (kt_1 (List.mem_of_getElem? (i := 85) rfl)) rfl
theorem kw_87 : (Jvm.Cond.laysFinal "CarpetHalls$Floor" "CarpetHalls$Floor" "x" "[I") ∈ th_tb := kg (kt_1 (List.mem_of_getElem? (i := 87) rfl)) rfl
theorem kw_89 : (Jvm.Cond.laysFinal "CarpetHalls$Floor" "CarpetHalls$Floor" "y" "[I") ∈ th_tb := kg (kt_1 (List.mem_of_getElem? (i := 89) rfl)) rfl
theorem kw_91 : (Jvm.Cond.laysFinal "CarpetHalls$Floor" "CarpetHalls$Floor" "terms" "[I") ∈ th_tb := kg (kt_1 (List.mem_of_getElem? (i := 91) rfl)) rfl
theorem kw_93 : (Jvm.Cond.laysFinal "CarpetHalls$Floor" "CarpetHalls$Floor" "rows" "[I") ∈ th_tb := kg (kt_1 (List.mem_of_getElem? (i := 93) rfl)) rfl
theorem kw_95 : (Jvm.Cond.lays "CarpetHalls$Floor" "CarpetHalls$Floor" "carpets" "I") ∈ th_tb := kg (kt_1 (List.mem_of_getElem? (i := 95) rfl)) rfl
theorem kw_97 : (Jvm.Cond.lays "CarpetHalls$Floor" "CarpetHalls$Floor" "wide" "I") ∈ th_tb := kg (kt_1 (List.mem_of_getElem? (i := 97) rfl)) rfl
theorem kw_99 : (Jvm.Cond.lays "CarpetHalls$Floor" "CarpetHalls$Floor" "high" "I") ∈ th_tb := kg (kt_1 (List.mem_of_getElem? (i := 99) rfl)) rfl
theorem kw_101 : (Jvm.Cond.lays "CarpetHalls$Floor" "CarpetHalls$Floor" "paid" "I") ∈ th_tb := kg (kt_1 (List.mem_of_getElem? (i := 101) rfl)) rfl
theorem kw_104 : (Jvm.Cond.arrayClass Jvm.ClassFile.FieldType.int) ∈ th_tb := kg (kt_1 (List.mem_of_getElem? (i := 104) rfl)) rfl
theorem kw_105 : (Jvm.Cond.classLink "CarpetHalls$Stand" (18 : Nat) "CarpetHalls$Text") ∈ th_tb := kg (kt_1 (List.mem_of_getElem? (i := 105) rfl)) rfl
theorem kw_106 : (Jvm.Cond.arrayOver (Jvm.ClassFile.FieldType.object "CarpetHalls$Text")) ∈ lw_tbl := kt_1 (List.mem_of_getElem? (i := 106) rfl)
theorem kw_107 : (Jvm.Cond.instantiable "CarpetHalls$Text" (4 : Nat)) ∈ th_tb := kg (kt_1 (List.mem_of_getElem? (i := 107) rfl)) rfl
theorem kw_108 : (Jvm.Cond.methodLink "CarpetHalls$Stand" (44 : Nat) ({ cls := "CarpetHalls$Text", name := "<init>", desc := "()V" } : Jvm.MethodName)) ∈ th_tb := kg (kt_1 (List.mem_of_getElem? (i := 108) rfl)) rfl
theorem kw_109 : (Jvm.Cond.instanceMethod ({ cls := "CarpetHalls$Text", name := "<init>", desc := "()V" } : Jvm.MethodName)) ∈ th_tb := kg (kt_1 (List.mem_of_getElem? (i := 109) rfl)) rfl
theorem kw_110 : (Jvm.Cond.code ({ cls := "CarpetHalls$Text", name := "<init>", desc := "()V" } : Jvm.MethodName) prog_12_method_1_code (1 : Nat) (Option.none : Option Jvm.ClassFile.FieldType)) ∈ th_tb := kg (kt_1 (List.mem_of_getElem? (i := 110) rfl)) rfl
theorem kw_111 : (Jvm.Cond.methodLink "CarpetHalls$Text" (5 : Nat) ({ cls := "java/lang/Object", name := "<init>", desc := "()V" } : Jvm.MethodName)) ∈ th_tb := kg (kt_1 (List.mem_of_getElem? (i := 111) rfl)) rfl
theorem kw_112 : (Jvm.Cond.fieldLink "CarpetHalls$Text" (11 : Nat) "CarpetHalls$Text" "code" "[I") ∈ th_tb := kg (kt_1 (List.mem_of_getElem? (i := 112) rfl)) rfl
theorem kw_113 : (Jvm.Cond.fieldLink "CarpetHalls$Reckoner" (70 : Nat) "CarpetHalls$Text" "code" "[I") ∈ th_tb := kg (kt_1 (List.mem_of_getElem? (i := 113) rfl)) rfl
theorem kw_114 : (Jvm.Cond.fieldLink "CarpetHalls$Text" (15 : Nat) "CarpetHalls$Text" "marks" "[I") ∈ th_tb := kg (kt_1 (List.mem_of_getElem? (i := 114) rfl)) rfl
theorem kw_115 : (Jvm.Cond.fieldLink "CarpetHalls$Text" (18 : Nat) "CarpetHalls$Text" "size" "I") ∈ th_tb := kg (kt_1 (List.mem_of_getElem? (i := 115) rfl)) rfl
theorem kw_116 : (Jvm.Cond.fieldLink "CarpetHalls$Reckoner" (67 : Nat) "CarpetHalls$Text" "size" "I") ∈ th_tb := kg (kt_1 (List.mem_of_getElem? (i := 116) rfl)) rfl
theorem kw_117 : (Jvm.Cond.fieldLink "CarpetHalls$Reader" (174 : Nat) "CarpetHalls$Text" "size" "I") ∈ th_tb := kg (kt_1 (List.mem_of_getElem? (i := 117) rfl)) rfl
theorem kw_118 : (Jvm.Cond.fieldLink "CarpetHalls$Text" (22 : Nat) "CarpetHalls$Text" "clauses" "I") ∈ th_tb := kg (kt_1 (List.mem_of_getElem? (i := 118) rfl)) rfl
theorem kw_119 : (Jvm.Cond.fieldLink "CarpetHalls$Judge" (52 : Nat) "CarpetHalls$Text" "clauses" "I") ∈ th_tb := kg (kt_1 (List.mem_of_getElem? (i := 119) rfl)) rfl
theorem kw_120 : (Jvm.Cond.fieldLink "CarpetHalls" (214 : Nat) "CarpetHalls$Text" "clauses" "I") ∈ th_tb := kg (kt_1 (List.mem_of_getElem? (i := 120) rfl)) rfl
theorem kw_121 : (Jvm.Cond.laysFinal "CarpetHalls$Text" "CarpetHalls$Text" "code" "[I") ∈ th_tb := kg (kt_1 (List.mem_of_getElem? (i := 121) rfl)) rfl
theorem kw_123 : (Jvm.Cond.laysFinal "CarpetHalls$Text" "CarpetHalls$Text" "marks" "[I") ∈ th_tb := kg (kt_1 (List.mem_of_getElem? (i := 123) rfl)) rfl
theorem kw_125 : (Jvm.Cond.lays "CarpetHalls$Text" "CarpetHalls$Text" "size" "I") ∈ th_tb := kg (kt_1 (List.mem_of_getElem? (i := 125) rfl)) rfl
theorem kw_127 : (Jvm.Cond.lays "CarpetHalls$Text" "CarpetHalls$Text" "clauses" "I") ∈ th_tb := kg (kt_1 (List.mem_of_getElem? (i := 127) rfl)) rfl
theorem kw_130 : (Jvm.Cond.fieldLink "CarpetHalls$Stand" (12 : Nat) "CarpetHalls$Stand" "floor" "LCarpetHalls$Floor;") ∈ th_tb := kg (kt_1 (List.mem_of_getElem? (i := 130) rfl)) rfl
theorem kw_131 : (Jvm.Cond.fieldLink "CarpetHalls" (107 : Nat) "CarpetHalls$Stand" "floor" "LCarpetHalls$Floor;") ∈ th_tb := kg (kt_1 (List.mem_of_getElem? (i := 131) rfl)) rfl
theorem kw_132 : (Jvm.Cond.fieldLink "CarpetHalls$Stand" (20 : Nat) "CarpetHalls$Stand" "law" "[LCarpetHalls$Text;") ∈ th_tb := kg (kt_1 (List.mem_of_getElem? (i := 132) rfl)) rfl
theorem kw_133 : (Jvm.Cond.fieldLink "CarpetHalls" (199 : Nat) "CarpetHalls$Stand" "law" "[LCarpetHalls$Text;") ∈ th_tb := kg (kt_1 (List.mem_of_getElem? (i := 133) rfl)) rfl
theorem kw_134 : (Jvm.Cond.fieldLink "CarpetHalls$Stand" (24 : Nat) "CarpetHalls$Stand" "seenX" "[I") ∈ th_tb := kg (kt_1 (List.mem_of_getElem? (i := 134) rfl)) rfl
theorem kw_135 : (Jvm.Cond.fieldLink "CarpetHalls$Search" (71 : Nat) "CarpetHalls$Stand" "seenX" "[I") ∈ th_tb := kg (kt_1 (List.mem_of_getElem? (i := 135) rfl)) rfl
theorem kw_136 : (Jvm.Cond.fieldLink "CarpetHalls" (310 : Nat) "CarpetHalls$Stand" "seenX" "[I") ∈ th_tb := kg (kt_1 (List.mem_of_getElem? (i := 136) rfl)) rfl
theorem kw_137 : (Jvm.Cond.fieldLink "CarpetHalls$Stand" (28 : Nat) "CarpetHalls$Stand" "seenY" "[I") ∈ th_tb := kg (kt_1 (List.mem_of_getElem? (i := 137) rfl)) rfl
theorem kw_138 : (Jvm.Cond.fieldLink "CarpetHalls$Search" (77 : Nat) "CarpetHalls$Stand" "seenY" "[I") ∈ th_tb := kg (kt_1 (List.mem_of_getElem? (i := 138) rfl)) rfl
theorem kw_139 : (Jvm.Cond.fieldLink "CarpetHalls" (313 : Nat) "CarpetHalls$Stand" "seenY" "[I") ∈ th_tb := kg (kt_1 (List.mem_of_getElem? (i := 139) rfl)) rfl
theorem kw_140 : (Jvm.Cond.fieldLink "CarpetHalls$Stand" (31 : Nat) "CarpetHalls$Stand" "seenSide" "[I") ∈ th_tb := kg (kt_1 (List.mem_of_getElem? (i := 140) rfl)) rfl
theorem kw_141 : (Jvm.Cond.fieldLink "CarpetHalls$Search" (90 : Nat) "CarpetHalls$Stand" "seenSide" "[I") ∈ th_tb := kg (kt_1 (List.mem_of_getElem? (i := 141) rfl)) rfl
theorem kw_142 : (Jvm.Cond.fieldLink "CarpetHalls" (316 : Nat) "CarpetHalls$Stand" "seenSide" "[I") ∈ th_tb := kg (kt_1 (List.mem_of_getElem? (i := 142) rfl)) rfl
theorem kw_143 : (Jvm.Cond.fieldLink "CarpetHalls$Stand" (34 : Nat) "CarpetHalls$Stand" "laws" "I") ∈ th_tb := kg (kt_1 (List.mem_of_getElem? (i := 143) rfl)) rfl
theorem kw_144 : (Jvm.Cond.fieldLink "CarpetHalls" (196 : Nat) "CarpetHalls$Stand" "laws" "I") ∈ th_tb := kg (kt_1 (List.mem_of_getElem? (i := 144) rfl)) rfl
theorem kw_145 : (Jvm.Cond.fieldLink "CarpetHalls$Stand" (38 : Nat) "CarpetHalls$Stand" "forced" "I") ∈ th_tb := kg (kt_1 (List.mem_of_getElem? (i := 145) rfl)) rfl
theorem kw_146 : (Jvm.Cond.fieldLink "CarpetHalls" (230 : Nat) "CarpetHalls$Stand" "forced" "I") ∈ th_tb := kg (kt_1 (List.mem_of_getElem? (i := 146) rfl)) rfl
theorem kw_147 : (Jvm.Cond.fieldLink "CarpetHalls$Stand" (41 : Nat) "CarpetHalls$Stand" "seen" "I") ∈ th_tb := kg (kt_1 (List.mem_of_getElem? (i := 147) rfl)) rfl
theorem kw_148 : (Jvm.Cond.fieldLink "CarpetHalls$Search" (66 : Nat) "CarpetHalls$Stand" "seen" "I") ∈ th_tb := kg (kt_1 (List.mem_of_getElem? (i := 148) rfl)) rfl
theorem kw_149 : (Jvm.Cond.fieldLink "CarpetHalls" (307 : Nat) "CarpetHalls$Stand" "seen" "I") ∈ th_tb := kg (kt_1 (List.mem_of_getElem? (i := 149) rfl)) rfl
theorem kw_150 : (Jvm.Cond.laysFinal "CarpetHalls$Stand" "CarpetHalls$Stand" "floor" "LCarpetHalls$Floor;") ∈ th_tb := kg (kt_1 (List.mem_of_getElem? (i := 150) rfl)) rfl
theorem kw_152 : (Jvm.Cond.laysFinal "CarpetHalls$Stand" "CarpetHalls$Stand" "law" "[LCarpetHalls$Text;") ∈ th_tb := kg (kt_1 (List.mem_of_getElem? (i := 152) rfl)) rfl
theorem kw_154 : (Jvm.Cond.laysFinal "CarpetHalls$Stand" "CarpetHalls$Stand" "seenX" "[I") ∈ th_tb := kg (kt_1 (List.mem_of_getElem? (i := 154) rfl)) rfl
theorem kw_156 : (Jvm.Cond.laysFinal "CarpetHalls$Stand" "CarpetHalls$Stand" "seenY" "[I") ∈ th_tb := kg (kt_1 (List.mem_of_getElem? (i := 156) rfl)) rfl
theorem kw_158 : (Jvm.Cond.laysFinal "CarpetHalls$Stand" "CarpetHalls$Stand" "seenSide" "[I") ∈ th_tb := kg (kt_1 (List.mem_of_getElem? (i := 158) rfl)) rfl
theorem kw_160 : (Jvm.Cond.lays "CarpetHalls$Stand" "CarpetHalls$Stand" "laws" "I") ∈ th_tb := kg (kt_1 (List.mem_of_getElem? (i := 160) rfl)) rfl
theorem kw_162 : (Jvm.Cond.lays "CarpetHalls$Stand" "CarpetHalls$Stand" "forced" "I") ∈ th_tb := kg (kt_1 (List.mem_of_getElem? (i := 162) rfl)) rfl
theorem kw_164 : (Jvm.Cond.lays "CarpetHalls$Stand" "CarpetHalls$Stand" "seen" "I") ∈ th_tb := kg (kt_1 (List.mem_of_getElem? (i := 164) rfl)) rfl
theorem kw_167 : (Jvm.Cond.arrayOver (Jvm.ClassFile.FieldType.object "CarpetHalls$Stand")) ∈ lw_tbl := kt_1 (List.mem_of_getElem? (i := 167) rfl)
theorem kw_168 : (Jvm.Cond.classLink "CarpetHalls" (24 : Nat) "CarpetHalls$Floor") ∈ th_tb := kg (kt_1 (List.mem_of_getElem? (i := 168) rfl)) rfl
theorem kw_169 : (Jvm.Cond.methodLink "CarpetHalls" (26 : Nat) ({ cls := "CarpetHalls$Floor", name := "<init>", desc := "()V" } : Jvm.MethodName)) ∈ th_tb := kg (kt_1 (List.mem_of_getElem? (i := 169) rfl)) rfl
theorem kw_170 : (Jvm.Cond.classLink "CarpetHalls" (34 : Nat) "CarpetHalls$Tape") ∈ th_tb := kg (kt_1 (List.mem_of_getElem? (i := 170) rfl)) rfl
theorem kw_171 : (Jvm.Cond.instantiable "CarpetHalls$Tape" (2 : Nat)) ∈ th_tb := kg (kt_1 (List.mem_of_getElem? (i := 171) rfl)) rfl
theorem kw_172 : (Jvm.Cond.methodLink "CarpetHalls" (36 : Nat) ({ cls := "CarpetHalls$Tape", name := "<init>", desc := "()V" } : Jvm.MethodName)) ∈ th_tb := kg (kt_1 (List.mem_of_getElem? (i := 172) rfl)) rfl
theorem kw_173 : (Jvm.Cond.instanceMethod ({ cls := "CarpetHalls$Tape", name := "<init>", desc := "()V" } : Jvm.MethodName)) ∈ th_tb := kg (kt_1 (List.mem_of_getElem? (i := 173) rfl)) rfl
theorem kw_174 : (Jvm.Cond.code ({ cls := "CarpetHalls$Tape", name := "<init>", desc := "()V" } : Jvm.MethodName) prog_11_method_1_code (1 : Nat) (Option.none : Option Jvm.ClassFile.FieldType)) ∈ th_tb := kg (kt_1 (List.mem_of_getElem? (i := 174) rfl)) rfl
theorem kw_175 : (Jvm.Cond.methodLink "CarpetHalls$Tape" (3 : Nat) ({ cls := "java/lang/Object", name := "<init>", desc := "()V" } : Jvm.MethodName)) ∈ th_tb := kg (kt_1 (List.mem_of_getElem? (i := 175) rfl)) rfl
theorem kw_176 : (Jvm.Cond.fieldLink "CarpetHalls$Tape" (9 : Nat) "CarpetHalls$Tape" "bytes" "[I") ∈ th_tb := kg (kt_1 (List.mem_of_getElem? (i := 176) rfl)) rfl
theorem kw_177 : (Jvm.Cond.fieldLink "CarpetHalls$Reader" (66 : Nat) "CarpetHalls$Tape" "bytes" "[I") ∈ th_tb := kg (kt_1 (List.mem_of_getElem? (i := 177) rfl)) rfl
theorem kw_178 : (Jvm.Cond.fieldLink "CarpetHalls" (193 : Nat) "CarpetHalls$Tape" "bytes" "[I") ∈ th_tb := kg (kt_1 (List.mem_of_getElem? (i := 178) rfl)) rfl
theorem kw_179 : (Jvm.Cond.fieldLink "CarpetHalls$Tape" (15 : Nat) "CarpetHalls$Tape" "length" "I") ∈ th_tb := kg (kt_1 (List.mem_of_getElem? (i := 179) rfl)) rfl
theorem kw_180 : (Jvm.Cond.fieldLink "CarpetHalls$Reader" (61 : Nat) "CarpetHalls$Tape" "length" "I") ∈ th_tb := kg (kt_1 (List.mem_of_getElem? (i := 180) rfl)) rfl
theorem kw_181 : (Jvm.Cond.fieldLink "CarpetHalls" (186 : Nat) "CarpetHalls$Tape" "length" "I") ∈ th_tb := kg (kt_1 (List.mem_of_getElem? (i := 181) rfl)) rfl
theorem kw_182 : (Jvm.Cond.laysFinal "CarpetHalls$Tape" "CarpetHalls$Tape" "bytes" "[I") ∈ th_tb := kg (kt_1 (List.mem_of_getElem? (i := 182) rfl)) rfl
theorem kw_184 : (Jvm.Cond.lays "CarpetHalls$Tape" "CarpetHalls$Tape" "length" "I") ∈ th_tb := kg (kt_1 (List.mem_of_getElem? (i := 184) rfl)) rfl
theorem kw_187 : (Jvm.Cond.arrayClass Jvm.ClassFile.FieldType.boolean) ∈ th_tb := kg (kt_1 (List.mem_of_getElem? (i := 187) rfl)) rfl
theorem kw_188 : (Jvm.Cond.classLink "CarpetHalls" (41 : Nat) "CarpetHalls$Reader") ∈ th_tb := kg (kt_1 (List.mem_of_getElem? (i := 188) rfl)) rfl
theorem kw_189 : (Jvm.Cond.instantiable "CarpetHalls$Reader" (9 : Nat)) ∈ th_tb := kg (kt_1 (List.mem_of_getElem? (i := 189) rfl)) rfl
theorem kw_190 : (Jvm.Cond.methodLink "CarpetHalls" (43 : Nat) ({ cls := "CarpetHalls$Reader", name := "<init>", desc := "()V" } : Jvm.MethodName)) ∈ th_tb := kg (kt_1 (List.mem_of_getElem? (i := 190) rfl)) rfl
theorem kw_191 : (Jvm.Cond.instanceMethod ({ cls := "CarpetHalls$Reader", name := "<init>", desc := "()V" } : Jvm.MethodName)) ∈ th_tb := kg (kt_1 (List.mem_of_getElem? (i := 191) rfl)) rfl
theorem kw_192 : (Jvm.Cond.code ({ cls := "CarpetHalls$Reader", name := "<init>", desc := "()V" } : Jvm.MethodName) prog_7_method_1_code (1 : Nat) (Option.none : Option Jvm.ClassFile.FieldType)) ∈ th_tb := kg (kt_1 (List.mem_of_getElem? (i := 192) rfl)) rfl
theorem kw_193 : (Jvm.Cond.methodLink "CarpetHalls$Reader" (5 : Nat) ({ cls := "java/lang/Object", name := "<init>", desc := "()V" } : Jvm.MethodName)) ∈ th_tb := kg (kt_1 (List.mem_of_getElem? (i := 193) rfl)) rfl
theorem kw_194 : (Jvm.Cond.fieldLink "CarpetHalls$Reader" (11 : Nat) "CarpetHalls$Reader" "tokens" "[I") ∈ th_tb := kg (kt_1 (List.mem_of_getElem? (i := 194) rfl)) rfl
theorem kw_195 : (Jvm.Cond.fieldLink "CarpetHalls$Reader" (15 : Nat) "CarpetHalls$Reader" "places" "[I") ∈ th_tb := kg (kt_1 (List.mem_of_getElem? (i := 195) rfl)) rfl
theorem kw_196 : (Jvm.Cond.fieldLink "CarpetHalls$Reader" (18 : Nat) "CarpetHalls$Reader" "tape" "LCarpetHalls$Tape;") ∈ th_tb := kg (kt_1 (List.mem_of_getElem? (i := 196) rfl)) rfl
theorem kw_197 : (Jvm.Cond.fieldLink "CarpetHalls$Reader" (22 : Nat) "CarpetHalls$Reader" "text" "LCarpetHalls$Text;") ∈ th_tb := kg (kt_1 (List.mem_of_getElem? (i := 197) rfl)) rfl
theorem kw_198 : (Jvm.Cond.fieldLink "CarpetHalls$Reader" (26 : Nat) "CarpetHalls$Reader" "ofOrders" "Z") ∈ th_tb := kg (kt_1 (List.mem_of_getElem? (i := 198) rfl)) rfl
theorem kw_199 : (Jvm.Cond.fieldLink "CarpetHalls$Reader" (30 : Nat) "CarpetHalls$Reader" "at" "I") ∈ th_tb := kg (kt_1 (List.mem_of_getElem? (i := 199) rfl)) rfl
theorem kw_200 : (Jvm.Cond.fieldLink "CarpetHalls$Reader" (34 : Nat) "CarpetHalls$Reader" "parts" "I") ∈ th_tb := kg (kt_1 (List.mem_of_getElem? (i := 200) rfl)) rfl
theorem kw_201 : (Jvm.Cond.fieldLink "CarpetHalls$Reader" (37 : Nat) "CarpetHalls$Reader" "brackets" "I") ∈ th_tb := kg (kt_1 (List.mem_of_getElem? (i := 201) rfl)) rfl
theorem kw_202 : (Jvm.Cond.fieldLink "CarpetHalls$Reader" (40 : Nat) "CarpetHalls$Reader" "fault" "I") ∈ th_tb := kg (kt_1 (List.mem_of_getElem? (i := 202) rfl)) rfl
theorem kw_203 : (Jvm.Cond.laysFinal "CarpetHalls$Reader" "CarpetHalls$Reader" "tokens" "[I") ∈ th_tb := kg (kt_1 (List.mem_of_getElem? (i := 203) rfl)) rfl
theorem kw_205 : (Jvm.Cond.laysFinal "CarpetHalls$Reader" "CarpetHalls$Reader" "places" "[I") ∈ th_tb := kg (kt_1 (List.mem_of_getElem? (i := 205) rfl)) rfl
theorem kw_207 : (Jvm.Cond.lays "CarpetHalls$Reader" "CarpetHalls$Reader" "tape" "LCarpetHalls$Tape;") ∈ th_tb := kg (kt_1 (List.mem_of_getElem? (i := 207) rfl)) rfl
theorem kw_209 : (Jvm.Cond.lays "CarpetHalls$Reader" "CarpetHalls$Reader" "text" "LCarpetHalls$Text;") ∈ th_tb := kg (kt_1 (List.mem_of_getElem? (i := 209) rfl)) rfl
theorem kw_211 : (Jvm.Cond.lays "CarpetHalls$Reader" "CarpetHalls$Reader" "ofOrders" "Z") ∈ th_tb := kg (kt_1 (List.mem_of_getElem? (i := 211) rfl)) rfl
theorem kw_213 : (Jvm.Cond.lays "CarpetHalls$Reader" "CarpetHalls$Reader" "at" "I") ∈ th_tb := kg (kt_1 (List.mem_of_getElem? (i := 213) rfl)) rfl
theorem kw_215 : (Jvm.Cond.lays "CarpetHalls$Reader" "CarpetHalls$Reader" "parts" "I") ∈ th_tb := kg (kt_1 (List.mem_of_getElem? (i := 215) rfl)) rfl
theorem kw_217 : (Jvm.Cond.lays "CarpetHalls$Reader" "CarpetHalls$Reader" "brackets" "I") ∈ th_tb := kg (kt_1 (List.mem_of_getElem? (i := 217) rfl)) rfl
theorem kw_219 : (Jvm.Cond.lays "CarpetHalls$Reader" "CarpetHalls$Reader" "fault" "I") ∈ th_tb := kg (kt_1 (List.mem_of_getElem? (i := 219) rfl)) rfl
theorem kw_222 : (Jvm.Cond.classLink "CarpetHalls" (48 : Nat) "CarpetHalls$Text") ∈ th_tb := kg (kt_1 (List.mem_of_getElem? (i := 222) rfl)) rfl
theorem kw_223 : (Jvm.Cond.methodLink "CarpetHalls" (50 : Nat) ({ cls := "CarpetHalls$Text", name := "<init>", desc := "()V" } : Jvm.MethodName)) ∈ th_tb := kg (kt_1 (List.mem_of_getElem? (i := 223) rfl)) rfl
theorem kw_224 : (Jvm.Cond.classLink "CarpetHalls" (55 : Nat) "CarpetHalls$Reckoner") ∈ th_tb := kg (kt_1 (List.mem_of_getElem? (i := 224) rfl)) rfl
theorem kw_225 : (Jvm.Cond.instantiable "CarpetHalls$Reckoner" (4 : Nat)) ∈ th_tb := kg (kt_1 (List.mem_of_getElem? (i := 225) rfl)) rfl
theorem kw_226 : (Jvm.Cond.methodLink "CarpetHalls" (57 : Nat) ({ cls := "CarpetHalls$Reckoner", name := "<init>", desc := "()V" } : Jvm.MethodName)) ∈ th_tb := kg (kt_1 (List.mem_of_getElem? (i := 226) rfl)) rfl
theorem kw_227 : (Jvm.Cond.instanceMethod ({ cls := "CarpetHalls$Reckoner", name := "<init>", desc := "()V" } : Jvm.MethodName)) ∈ th_tb := kg (kt_1 (List.mem_of_getElem? (i := 227) rfl)) rfl
theorem kw_228 : (Jvm.Cond.code ({ cls := "CarpetHalls$Reckoner", name := "<init>", desc := "()V" } : Jvm.MethodName) prog_8_method_1_code (1 : Nat) (Option.none : Option Jvm.ClassFile.FieldType)) ∈ th_tb := kg (kt_1 (List.mem_of_getElem? (i := 228) rfl)) rfl
theorem kw_229 : (Jvm.Cond.methodLink "CarpetHalls$Reckoner" (3 : Nat) ({ cls := "java/lang/Object", name := "<init>", desc := "()V" } : Jvm.MethodName)) ∈ th_tb := kg (kt_1 (List.mem_of_getElem? (i := 229) rfl)) rfl
theorem kw_230 : (Jvm.Cond.fieldLink "CarpetHalls$Reckoner" (9 : Nat) "CarpetHalls$Reckoner" "stack" "[J") ∈ th_tb := kg (kt_1 (List.mem_of_getElem? (i := 230) rfl)) rfl
theorem kw_231 : (Jvm.Cond.fieldLink "CarpetHalls$Reckoner" (17 : Nat) "CarpetHalls$Reckoner" "words" "[I") ∈ th_tb := kg (kt_1 (List.mem_of_getElem? (i := 231) rfl)) rfl
theorem kw_232 : (Jvm.Cond.fieldLink "CarpetHalls" (211 : Nat) "CarpetHalls$Reckoner" "words" "[I") ∈ th_tb := kg (kt_1 (List.mem_of_getElem? (i := 232) rfl)) rfl
theorem kw_233 : (Jvm.Cond.fieldLink "CarpetHalls$Reckoner" (23 : Nat) "CarpetHalls$Reckoner" "sums" "[I") ∈ th_tb := kg (kt_1 (List.mem_of_getElem? (i := 233) rfl)) rfl
theorem kw_234 : (Jvm.Cond.fieldLink "CarpetHalls$Judge" (28 : Nat) "CarpetHalls$Reckoner" "sums" "[I") ∈ th_tb := kg (kt_1 (List.mem_of_getElem? (i := 234) rfl)) rfl
theorem kw_235 : (Jvm.Cond.fieldLink "CarpetHalls" (384 : Nat) "CarpetHalls$Reckoner" "sums" "[I") ∈ th_tb := kg (kt_1 (List.mem_of_getElem? (i := 235) rfl)) rfl
theorem kw_236 : (Jvm.Cond.fieldLink "CarpetHalls$Reckoner" (26 : Nat) "CarpetHalls$Reckoner" "broken" "Z") ∈ th_tb := kg (kt_1 (List.mem_of_getElem? (i := 236) rfl)) rfl
theorem kw_237 : (Jvm.Cond.laysFinal "CarpetHalls$Reckoner" "CarpetHalls$Reckoner" "stack" "[J") ∈ th_tb := kg (kt_1 (List.mem_of_getElem? (i := 237) rfl)) rfl
theorem kw_239 : (Jvm.Cond.laysFinal "CarpetHalls$Reckoner" "CarpetHalls$Reckoner" "words" "[I") ∈ th_tb := kg (kt_1 (List.mem_of_getElem? (i := 239) rfl)) rfl
theorem kw_241 : (Jvm.Cond.laysFinal "CarpetHalls$Reckoner" "CarpetHalls$Reckoner" "sums" "[I") ∈ th_tb := kg (kt_2 (List.mem_of_getElem? (i := 1) rfl)) rfl
theorem kw_243 : (Jvm.Cond.lays "CarpetHalls$Reckoner" "CarpetHalls$Reckoner" "broken" "Z") ∈ th_tb := kg (kt_2 (List.mem_of_getElem? (i := 3) rfl)) rfl
theorem kw_246 : (Jvm.Cond.arrayClass Jvm.ClassFile.FieldType.long) ∈ th_tb := kg (kt_2 (List.mem_of_getElem? (i := 6) rfl)) rfl
theorem kw_247 : (Jvm.Cond.classLink "CarpetHalls" (62 : Nat) "CarpetHalls$Judge") ∈ th_tb := kg (kt_2 (List.mem_of_getElem? (i := 7) rfl)) rfl
theorem kw_248 : (Jvm.Cond.instantiable "CarpetHalls$Judge" (1 : Nat)) ∈ th_tb := kg (kt_2 (List.mem_of_getElem? (i := 8) rfl)) rfl
theorem kw_249 : (Jvm.Cond.methodLink "CarpetHalls" (64 : Nat) ({ cls := "CarpetHalls$Judge", name := "<init>", desc := "()V" } : Jvm.MethodName)) ∈ th_tb := kg (kt_2 (List.mem_of_getElem? (i := 9) rfl)) rfl
theorem kw_250 : (Jvm.Cond.instanceMethod ({ cls := "CarpetHalls$Judge", name := "<init>", desc := "()V" } : Jvm.MethodName)) ∈ th_tb := kg (kt_2 (List.mem_of_getElem? (i := 10) rfl)) rfl
theorem kw_251 : (Jvm.Cond.code ({ cls := "CarpetHalls$Judge", name := "<init>", desc := "()V" } : Jvm.MethodName) prog_4_method_1_code (1 : Nat) (Option.none : Option Jvm.ClassFile.FieldType)) ∈ th_tb := kg (kt_2 (List.mem_of_getElem? (i := 11) rfl)) rfl
theorem kw_252 : (Jvm.Cond.methodLink "CarpetHalls$Judge" (3 : Nat) ({ cls := "java/lang/Object", name := "<init>", desc := "()V" } : Jvm.MethodName)) ∈ th_tb := kg (kt_2 (List.mem_of_getElem? (i := 12) rfl)) rfl
theorem kw_253 : (Jvm.Cond.classLink "CarpetHalls$Judge" (9 : Nat) "CarpetHalls$Reckoner") ∈ th_tb := kg (kt_2 (List.mem_of_getElem? (i := 13) rfl)) rfl
theorem kw_254 : (Jvm.Cond.methodLink "CarpetHalls$Judge" (11 : Nat) ({ cls := "CarpetHalls$Reckoner", name := "<init>", desc := "()V" } : Jvm.MethodName)) ∈ th_tb := kg (kt_2 (List.mem_of_getElem? (i := 14) rfl)) rfl
theorem kw_255 : (Jvm.Cond.fieldLink "CarpetHalls$Judge" (12 : Nat) "CarpetHalls$Judge" "reckoner" "LCarpetHalls$Reckoner;") ∈ th_tb := kg (kt_2 (List.mem_of_getElem? (i := 15) rfl)) rfl
theorem kw_256 : (Jvm.Cond.laysFinal "CarpetHalls$Judge" "CarpetHalls$Judge" "reckoner" "LCarpetHalls$Reckoner;") ∈ th_tb := kg (kt_2 (List.mem_of_getElem? (i := 16) rfl)) rfl
theorem kw_259 : (Jvm.Cond.classLink "CarpetHalls" (69 : Nat) "CarpetHalls$Past") ∈ th_tb := kg (kt_2 (List.mem_of_getElem? (i := 19) rfl)) rfl
theorem kw_260 : (Jvm.Cond.instantiable "CarpetHalls$Past" (5 : Nat)) ∈ th_tb := kg (kt_2 (List.mem_of_getElem? (i := 20) rfl)) rfl
theorem kw_261 : (Jvm.Cond.methodLink "CarpetHalls" (71 : Nat) ({ cls := "CarpetHalls$Past", name := "<init>", desc := "()V" } : Jvm.MethodName)) ∈ th_tb := kg (kt_2 (List.mem_of_getElem? (i := 21) rfl)) rfl
theorem kw_262 : (Jvm.Cond.instanceMethod ({ cls := "CarpetHalls$Past", name := "<init>", desc := "()V" } : Jvm.MethodName)) ∈ th_tb := kg (kt_2 (List.mem_of_getElem? (i := 22) rfl)) rfl
theorem kw_263 : (Jvm.Cond.code ({ cls := "CarpetHalls$Past", name := "<init>", desc := "()V" } : Jvm.MethodName) prog_6_method_1_code (1 : Nat) (Option.none : Option Jvm.ClassFile.FieldType)) ∈ th_tb := kg (kt_2 (List.mem_of_getElem? (i := 23) rfl)) rfl
theorem kw_264 : (Jvm.Cond.methodLink "CarpetHalls$Past" (3 : Nat) ({ cls := "java/lang/Object", name := "<init>", desc := "()V" } : Jvm.MethodName)) ∈ th_tb := kg (kt_2 (List.mem_of_getElem? (i := 24) rfl)) rfl
theorem kw_265 : (Jvm.Cond.classLink "CarpetHalls$Past" (18 : Nat) "CarpetHalls$Floor") ∈ th_tb := kg (kt_2 (List.mem_of_getElem? (i := 25) rfl)) rfl
theorem kw_266 : (Jvm.Cond.methodLink "CarpetHalls$Past" (20 : Nat) ({ cls := "CarpetHalls$Floor", name := "<init>", desc := "()V" } : Jvm.MethodName)) ∈ th_tb := kg (kt_2 (List.mem_of_getElem? (i := 26) rfl)) rfl
theorem kw_267 : (Jvm.Cond.fieldLink "CarpetHalls$Past" (11 : Nat) "CarpetHalls$Past" "steps" "[I") ∈ th_tb := kg (kt_2 (List.mem_of_getElem? (i := 27) rfl)) rfl
theorem kw_268 : (Jvm.Cond.fieldLink "CarpetHalls$Past" (15 : Nat) "CarpetHalls$Past" "savedSteps" "[I") ∈ th_tb := kg (kt_2 (List.mem_of_getElem? (i := 28) rfl)) rfl
theorem kw_269 : (Jvm.Cond.fieldLink "CarpetHalls$Past" (21 : Nat) "CarpetHalls$Past" "savedFloor" "LCarpetHalls$Floor;") ∈ th_tb := kg (kt_2 (List.mem_of_getElem? (i := 29) rfl)) rfl
theorem kw_270 : (Jvm.Cond.fieldLink "CarpetHalls$Past" (25 : Nat) "CarpetHalls$Past" "savedSize" "I") ∈ th_tb := kg (kt_2 (List.mem_of_getElem? (i := 30) rfl)) rfl
theorem kw_271 : (Jvm.Cond.fieldLink "CarpetHalls$Past" (29 : Nat) "CarpetHalls$Past" "size" "I") ∈ th_tb := kg (kt_2 (List.mem_of_getElem? (i := 31) rfl)) rfl
theorem kw_272 : (Jvm.Cond.fieldLink "CarpetHalls" (351 : Nat) "CarpetHalls$Past" "size" "I") ∈ th_tb := kg (kt_2 (List.mem_of_getElem? (i := 32) rfl)) rfl
theorem kw_273 : (Jvm.Cond.laysFinal "CarpetHalls$Past" "CarpetHalls$Past" "steps" "[I") ∈ th_tb := kg (kt_2 (List.mem_of_getElem? (i := 33) rfl)) rfl
theorem kw_275 : (Jvm.Cond.laysFinal "CarpetHalls$Past" "CarpetHalls$Past" "savedSteps" "[I") ∈ th_tb := kg (kt_2 (List.mem_of_getElem? (i := 35) rfl)) rfl
theorem kw_277 : (Jvm.Cond.laysFinal "CarpetHalls$Past" "CarpetHalls$Past" "savedFloor" "LCarpetHalls$Floor;") ∈ th_tb := kg (kt_2 (List.mem_of_getElem? (i := 37) rfl)) rfl
theorem kw_279 : (Jvm.Cond.lays "CarpetHalls$Past" "CarpetHalls$Past" "savedSize" "I") ∈ th_tb := kg (kt_2 (List.mem_of_getElem? (i := 39) rfl)) rfl
theorem kw_281 : (Jvm.Cond.lays "CarpetHalls$Past" "CarpetHalls$Past" "size" "I") ∈ th_tb := kg (kt_2 (List.mem_of_getElem? (i := 41) rfl)) rfl
theorem kw_284 : (Jvm.Cond.classLink "CarpetHalls" (76 : Nat) "CarpetHalls$Search") ∈ th_tb := kg (kt_2 (List.mem_of_getElem? (i := 44) rfl)) rfl
theorem kw_285 : (Jvm.Cond.instantiable "CarpetHalls$Search" (14 : Nat)) ∈ th_tb := kg (kt_2 (List.mem_of_getElem? (i := 45) rfl)) rfl
theorem kw_286 : (Jvm.Cond.methodLink "CarpetHalls" (78 : Nat) ({ cls := "CarpetHalls$Search", name := "<init>", desc := "()V" } : Jvm.MethodName)) ∈ th_tb := kg (kt_2 (List.mem_of_getElem? (i := 46) rfl)) rfl
theorem kw_287 : (Jvm.Cond.instanceMethod ({ cls := "CarpetHalls$Search", name := "<init>", desc := "()V" } : Jvm.MethodName)) ∈ th_tb := kg (kt_2 (List.mem_of_getElem? (i := 47) rfl)) rfl
theorem kw_288 : (Jvm.Cond.code ({ cls := "CarpetHalls$Search", name := "<init>", desc := "()V" } : Jvm.MethodName) prog_9_method_1_code (1 : Nat) (Option.none : Option Jvm.ClassFile.FieldType)) ∈ th_tb := kg (kt_2 (List.mem_of_getElem? (i := 48) rfl)) rfl
theorem kw_289 : (Jvm.Cond.methodLink "CarpetHalls$Search" (3 : Nat) ({ cls := "java/lang/Object", name := "<init>", desc := "()V" } : Jvm.MethodName)) ∈ th_tb := kg (kt_2 (List.mem_of_getElem? (i := 49) rfl)) rfl
theorem kw_290 : (Jvm.Cond.classLink "CarpetHalls$Search" (9 : Nat) "CarpetHalls$Memo") ∈ th_tb := kg (kt_2 (List.mem_of_getElem? (i := 50) rfl)) rfl
theorem kw_291 : (Jvm.Cond.instantiable "CarpetHalls$Memo" (7 : Nat)) ∈ th_tb := kg (kt_2 (List.mem_of_getElem? (i := 51) rfl)) rfl
theorem kw_292 : (Jvm.Cond.methodLink "CarpetHalls$Search" (11 : Nat) ({ cls := "CarpetHalls$Memo", name := "<init>", desc := "()V" } : Jvm.MethodName)) ∈ th_tb := kg (kt_2 (List.mem_of_getElem? (i := 52) rfl)) rfl
theorem kw_293 : (Jvm.Cond.instanceMethod ({ cls := "CarpetHalls$Memo", name := "<init>", desc := "()V" } : Jvm.MethodName)) ∈ th_tb := kg (kt_2 (List.mem_of_getElem? (i := 53) rfl)) rfl
theorem kw_294 : (Jvm.Cond.code ({ cls := "CarpetHalls$Memo", name := "<init>", desc := "()V" } : Jvm.MethodName) prog_5_method_1_code (1 : Nat) (Option.none : Option Jvm.ClassFile.FieldType)) ∈ th_tb := kg (kt_2 (List.mem_of_getElem? (i := 54) rfl)) rfl
theorem kw_295 : (Jvm.Cond.methodLink "CarpetHalls$Memo" (3 : Nat) ({ cls := "java/lang/Object", name := "<init>", desc := "()V" } : Jvm.MethodName)) ∈ th_tb := kg (kt_2 (List.mem_of_getElem? (i := 55) rfl)) rfl
theorem kw_296 : (Jvm.Cond.constantLong "CarpetHalls$Memo" (36 : Nat) (-1 : Int64)) ∈ th_tb := kg (kt_2 (List.mem_of_getElem? (i := 56) rfl)) rfl
theorem kw_297 : (Jvm.Cond.methodLink "CarpetHalls$Memo" (38 : Nat) ({ cls := "java/util/Arrays", name := "fill", desc := "([JJ)V" } : Jvm.MethodName)) ∈ th_tb := kg (kt_2 (List.mem_of_getElem? (i := 57) rfl)) rfl
theorem kw_298 : (Jvm.Cond.static ({ cls := "java/util/Arrays", name := "fill", desc := "([JJ)V" } : Jvm.MethodName)) ∈ th_tb := kg (kt_2 (List.mem_of_getElem? (i := 58) rfl)) rfl
theorem kw_299 : (Jvm.Cond.code ({ cls := "java/util/Arrays", name := "fill", desc := "([JJ)V" } : Jvm.MethodName) prog_21_method_101_code (5 : Nat) (Option.none : Option Jvm.ClassFile.FieldType)) ∈ th_tb := kg (kt_2 (List.mem_of_getElem? (i := 59) rfl)) rfl
theorem kw_300 : (Jvm.Cond.fieldLink "CarpetHalls$Memo" (11 : Nat) "CarpetHalls$Memo" "bits" "I") ∈ th_tb := kg (kt_2 (List.mem_of_getElem? (i := 60) rfl)) rfl
theorem kw_301 : (Jvm.Cond.fieldLink "CarpetHalls$Memo" (15 : Nat) "CarpetHalls$Memo" "keys" "[J") ∈ th_tb := kg (kt_2 (List.mem_of_getElem? (i := 61) rfl)) rfl
theorem kw_302 : (Jvm.Cond.fieldLink "CarpetHalls$Memo" (19 : Nat) "CarpetHalls$Memo" "values" "[I") ∈ th_tb := kg (kt_2 (List.mem_of_getElem? (i := 62) rfl)) rfl
theorem kw_303 : (Jvm.Cond.fieldLink "CarpetHalls$Memo" (23 : Nat) "CarpetHalls$Memo" "flows" "[I") ∈ th_tb := kg (kt_2 (List.mem_of_getElem? (i := 63) rfl)) rfl
theorem kw_304 : (Jvm.Cond.fieldLink "CarpetHalls$Memo" (26 : Nat) "CarpetHalls$Memo" "order" "[I") ∈ th_tb := kg (kt_2 (List.mem_of_getElem? (i := 64) rfl)) rfl
theorem kw_305 : (Jvm.Cond.fieldLink "CarpetHalls$Memo" (29 : Nat) "CarpetHalls$Memo" "used" "I") ∈ th_tb := kg (kt_2 (List.mem_of_getElem? (i := 65) rfl)) rfl
theorem kw_306 : (Jvm.Cond.fieldLink "CarpetHalls$Search" (206 : Nat) "CarpetHalls$Memo" "used" "I") ∈ th_tb := kg (kt_2 (List.mem_of_getElem? (i := 66) rfl)) rfl
theorem kw_307 : (Jvm.Cond.fieldLink "CarpetHalls$Memo" (32 : Nat) "CarpetHalls$Memo" "full" "Z") ∈ th_tb := kg (kt_2 (List.mem_of_getElem? (i := 67) rfl)) rfl
theorem kw_308 : (Jvm.Cond.fieldLink "CarpetHalls$Search" (196 : Nat) "CarpetHalls$Memo" "full" "Z") ∈ th_tb := kg (kt_2 (List.mem_of_getElem? (i := 68) rfl)) rfl
theorem kw_309 : (Jvm.Cond.lays "CarpetHalls$Memo" "CarpetHalls$Memo" "bits" "I") ∈ th_tb := kg (kt_2 (List.mem_of_getElem? (i := 69) rfl)) rfl
theorem kw_311 : (Jvm.Cond.lays "CarpetHalls$Memo" "CarpetHalls$Memo" "keys" "[J") ∈ th_tb := kg (kt_2 (List.mem_of_getElem? (i := 71) rfl)) rfl
theorem kw_313 : (Jvm.Cond.lays "CarpetHalls$Memo" "CarpetHalls$Memo" "values" "[I") ∈ th_tb := kg (kt_2 (List.mem_of_getElem? (i := 73) rfl)) rfl
theorem kw_315 : (Jvm.Cond.lays "CarpetHalls$Memo" "CarpetHalls$Memo" "flows" "[I") ∈ th_tb := kg (kt_2 (List.mem_of_getElem? (i := 75) rfl)) rfl
theorem kw_317 : (Jvm.Cond.lays "CarpetHalls$Memo" "CarpetHalls$Memo" "order" "[I") ∈ th_tb := kg (kt_2 (List.mem_of_getElem? (i := 77) rfl)) rfl
theorem kw_319 : (Jvm.Cond.lays "CarpetHalls$Memo" "CarpetHalls$Memo" "used" "I") ∈ th_tb := kg (kt_2 (List.mem_of_getElem? (i := 79) rfl)) rfl
theorem kw_321 : (Jvm.Cond.lays "CarpetHalls$Memo" "CarpetHalls$Memo" "full" "Z") ∈ th_tb := kg (kt_2 (List.mem_of_getElem? (i := 81) rfl)) rfl
theorem kw_324 : (Jvm.Cond.fieldLink "CarpetHalls$Search" (12 : Nat) "CarpetHalls$Search" "memo" "LCarpetHalls$Memo;") ∈ th_tb := kg (kt_2 (List.mem_of_getElem? (i := 84) rfl)) rfl
theorem kw_325 : (Jvm.Cond.fieldLink "CarpetHalls$Search" (18 : Nat) "CarpetHalls$Search" "price" "[I") ∈ th_tb := kg (kt_2 (List.mem_of_getElem? (i := 85) rfl)) rfl
theorem kw_326 : (Jvm.Cond.fieldLink "CarpetHalls$Search" (22 : Nat) "CarpetHalls$Search" "asked" "[I") ∈ th_tb := kg (kt_2 (List.mem_of_getElem? (i := 86) rfl)) rfl
theorem kw_327 : (Jvm.Cond.fieldLink "CarpetHalls$Search" (25 : Nat) "CarpetHalls$Search" "tally" "[I") ∈ th_tb := kg (kt_2 (List.mem_of_getElem? (i := 87) rfl)) rfl
theorem kw_328 : (Jvm.Cond.fieldLink "CarpetHalls$Search" (28 : Nat) "CarpetHalls$Search" "path" "[I") ∈ th_tb := kg (kt_2 (List.mem_of_getElem? (i := 88) rfl)) rfl
theorem kw_329 : (Jvm.Cond.fieldLink "CarpetHalls$Search" (31 : Nat) "CarpetHalls$Search" "pathLength" "I") ∈ th_tb := kg (kt_2 (List.mem_of_getElem? (i := 89) rfl)) rfl
theorem kw_330 : (Jvm.Cond.fieldLink "CarpetHalls$Search" (35 : Nat) "CarpetHalls$Search" "round" "I") ∈ th_tb := kg (kt_2 (List.mem_of_getElem? (i := 90) rfl)) rfl
theorem kw_331 : (Jvm.Cond.fieldLink "CarpetHalls$Search" (46 : Nat) "CarpetHalls$Search" "judge" "LCarpetHalls$Judge;") ∈ th_tb := kg (kt_2 (List.mem_of_getElem? (i := 91) rfl)) rfl
theorem kw_332 : (Jvm.Cond.fieldLink "CarpetHalls$Search" (38 : Nat) "CarpetHalls$Search" "floor" "LCarpetHalls$Floor;") ∈ th_tb := kg (kt_2 (List.mem_of_getElem? (i := 92) rfl)) rfl
theorem kw_333 : (Jvm.Cond.fieldLink "CarpetHalls$Search" (42 : Nat) "CarpetHalls$Search" "law" "LCarpetHalls$Text;") ∈ th_tb := kg (kt_2 (List.mem_of_getElem? (i := 93) rfl)) rfl
theorem kw_334 : (Jvm.Cond.fieldLink "CarpetHalls$Search" (50 : Nat) "CarpetHalls$Search" "sight" "LCarpetHalls$Stand;") ∈ th_tb := kg (kt_2 (List.mem_of_getElem? (i := 94) rfl)) rfl
theorem kw_335 : (Jvm.Cond.fieldLink "CarpetHalls$Search" (63 : Nat) "CarpetHalls$Search" "bare" "I") ∈ th_tb := kg (kt_2 (List.mem_of_getElem? (i := 95) rfl)) rfl
theorem kw_336 : (Jvm.Cond.fieldLink "CarpetHalls$Search" (131 : Nat) "CarpetHalls$Search" "cheap" "Z") ∈ th_tb := kg (kt_2 (List.mem_of_getElem? (i := 96) rfl)) rfl
theorem kw_337 : (Jvm.Cond.fieldLink "CarpetHalls$Search" (135 : Nat) "CarpetHalls$Search" "enough" "I") ∈ th_tb := kg (kt_2 (List.mem_of_getElem? (i := 97) rfl)) rfl
theorem kw_338 : (Jvm.Cond.laysFinal "CarpetHalls$Search" "CarpetHalls$Search" "memo" "LCarpetHalls$Memo;") ∈ th_tb := kg (kt_2 (List.mem_of_getElem? (i := 98) rfl)) rfl
theorem kw_340 : (Jvm.Cond.laysFinal "CarpetHalls$Search" "CarpetHalls$Search" "price" "[I") ∈ th_tb := kg (kt_2 (List.mem_of_getElem? (i := 100) rfl)) rfl
theorem kw_342 : (Jvm.Cond.laysFinal "CarpetHalls$Search" "CarpetHalls$Search" "asked" "[I") ∈ th_tb := kg (kt_2 (List.mem_of_getElem? (i := 102) rfl)) rfl
theorem kw_344 : (Jvm.Cond.laysFinal "CarpetHalls$Search" "CarpetHalls$Search" "tally" "[I") ∈ th_tb := kg (kt_2 (List.mem_of_getElem? (i := 104) rfl)) rfl
theorem kw_346 : (Jvm.Cond.laysFinal "CarpetHalls$Search" "CarpetHalls$Search" "path" "[I") ∈ th_tb := kg (kt_2 (List.mem_of_getElem? (i := 106) rfl)) rfl
theorem kw_348 : (Jvm.Cond.lays "CarpetHalls$Search" "CarpetHalls$Search" "pathLength" "I") ∈ th_tb := kg (kt_2 (List.mem_of_getElem? (i := 108) rfl)) rfl
theorem kw_350 : (Jvm.Cond.lays "CarpetHalls$Search" "CarpetHalls$Search" "round" "I") ∈ th_tb := kg (kt_2 (List.mem_of_getElem? (i := 110) rfl)) rfl
theorem kw_352 : (Jvm.Cond.lays "CarpetHalls$Search" "CarpetHalls$Search" "judge" "LCarpetHalls$Judge;") ∈ th_tb := kg (kt_2 (List.mem_of_getElem? (i := 112) rfl)) rfl
theorem kw_354 : (Jvm.Cond.lays "CarpetHalls$Search" "CarpetHalls$Search" "floor" "LCarpetHalls$Floor;") ∈ th_tb := kg (kt_2 (List.mem_of_getElem? (i := 114) rfl)) rfl
theorem kw_356 : (Jvm.Cond.lays "CarpetHalls$Search" "CarpetHalls$Search" "law" "LCarpetHalls$Text;") ∈ th_tb := kg (kt_2 (List.mem_of_getElem? (i := 116) rfl)) rfl
theorem kw_358 : (Jvm.Cond.lays "CarpetHalls$Search" "CarpetHalls$Search" "sight" "LCarpetHalls$Stand;") ∈ th_tb := kg (kt_2 (List.mem_of_getElem? (i := 118) rfl)) rfl
theorem kw_360 : (Jvm.Cond.lays "CarpetHalls$Search" "CarpetHalls$Search" "bare" "I") ∈ th_tb := kg (kt_2 (List.mem_of_getElem? (i := 120) rfl)) rfl
theorem kw_362 : (Jvm.Cond.lays "CarpetHalls$Search" "CarpetHalls$Search" "cheap" "Z") ∈ th_tb := kg (kt_2 (List.mem_of_getElem? (i := 122) rfl)) rfl
theorem kw_364 : (Jvm.Cond.lays "CarpetHalls$Search" "CarpetHalls$Search" "enough" "I") ∈ th_tb := kg (kt_2 (List.mem_of_getElem? (i := 124) rfl)) rfl
theorem kw_367 : (Jvm.Cond.classLink "CarpetHalls" (83 : Nat) "CarpetHalls$Chance") ∈ th_tb := kg (kt_2 (List.mem_of_getElem? (i := 127) rfl)) rfl
theorem kw_368 : (Jvm.Cond.instantiable "CarpetHalls$Chance" (1 : Nat)) ∈ th_tb := kg (kt_2 (List.mem_of_getElem? (i := 128) rfl)) rfl
theorem kw_369 : (Jvm.Cond.methodLink "CarpetHalls" (85 : Nat) ({ cls := "CarpetHalls$Chance", name := "<init>", desc := "()V" } : Jvm.MethodName)) ∈ th_tb := kg (kt_2 (List.mem_of_getElem? (i := 129) rfl)) rfl
theorem kw_370 : (Jvm.Cond.instanceMethod ({ cls := "CarpetHalls$Chance", name := "<init>", desc := "()V" } : Jvm.MethodName)) ∈ th_tb := kg (kt_2 (List.mem_of_getElem? (i := 130) rfl)) rfl
theorem kw_371 : (Jvm.Cond.code ({ cls := "CarpetHalls$Chance", name := "<init>", desc := "()V" } : Jvm.MethodName) prog_2_method_1_code (1 : Nat) (Option.none : Option Jvm.ClassFile.FieldType)) ∈ th_tb := kg (kt_2 (List.mem_of_getElem? (i := 131) rfl)) rfl
theorem kw_372 : (Jvm.Cond.methodLink "CarpetHalls$Chance" (3 : Nat) ({ cls := "java/lang/Object", name := "<init>", desc := "()V" } : Jvm.MethodName)) ∈ th_tb := kg (kt_2 (List.mem_of_getElem? (i := 132) rfl)) rfl
theorem kw_373 : (Jvm.Cond.fieldLink "CarpetHalls$Chance" (9 : Nat) "CarpetHalls$Chance" "limbs" "[J") ∈ th_tb := kg (kt_2 (List.mem_of_getElem? (i := 133) rfl)) rfl
theorem kw_374 : (Jvm.Cond.laysFinal "CarpetHalls$Chance" "CarpetHalls$Chance" "limbs" "[J") ∈ th_tb := kg (kt_2 (List.mem_of_getElem? (i := 134) rfl)) rfl
theorem kw_377 : (Jvm.Cond.fieldLink "CarpetHalls" (12 : Nat) "CarpetHalls" "now" "LCarpetHalls$Stand;") ∈ th_tb := kg (kt_2 (List.mem_of_getElem? (i := 137) rfl)) rfl
theorem kw_378 : (Jvm.Cond.fieldLink "CarpetHalls" (16 : Nat) "CarpetHalls" "images" "[LCarpetHalls$Stand;") ∈ th_tb := kg (kt_2 (List.mem_of_getElem? (i := 138) rfl)) rfl
theorem kw_379 : (Jvm.Cond.fieldLink "CarpetHalls" (20 : Nat) "CarpetHalls" "kept" "[Z") ∈ th_tb := kg (kt_2 (List.mem_of_getElem? (i := 139) rfl)) rfl
theorem kw_380 : (Jvm.Cond.fieldLink "CarpetHalls" (27 : Nat) "CarpetHalls" "paper" "LCarpetHalls$Floor;") ∈ th_tb := kg (kt_2 (List.mem_of_getElem? (i := 140) rfl)) rfl
theorem kw_381 : (Jvm.Cond.fieldLink "CarpetHalls" (31 : Nat) "CarpetHalls" "sheet" "LCarpetHalls$Floor;") ∈ th_tb := kg (kt_2 (List.mem_of_getElem? (i := 141) rfl)) rfl
theorem kw_382 : (Jvm.Cond.fieldLink "CarpetHalls" (37 : Nat) "CarpetHalls" "tape" "LCarpetHalls$Tape;") ∈ th_tb := kg (kt_2 (List.mem_of_getElem? (i := 142) rfl)) rfl
theorem kw_383 : (Jvm.Cond.fieldLink "CarpetHalls" (44 : Nat) "CarpetHalls" "reader" "LCarpetHalls$Reader;") ∈ th_tb := kg (kt_2 (List.mem_of_getElem? (i := 143) rfl)) rfl
theorem kw_384 : (Jvm.Cond.fieldLink "CarpetHalls" (51 : Nat) "CarpetHalls" "errand" "LCarpetHalls$Text;") ∈ th_tb := kg (kt_2 (List.mem_of_getElem? (i := 144) rfl)) rfl
theorem kw_385 : (Jvm.Cond.fieldLink "CarpetHalls" (58 : Nat) "CarpetHalls" "clerk" "LCarpetHalls$Reckoner;") ∈ th_tb := kg (kt_2 (List.mem_of_getElem? (i := 145) rfl)) rfl
theorem kw_386 : (Jvm.Cond.fieldLink "CarpetHalls" (65 : Nat) "CarpetHalls" "judge" "LCarpetHalls$Judge;") ∈ th_tb := kg (kt_2 (List.mem_of_getElem? (i := 146) rfl)) rfl
theorem kw_387 : (Jvm.Cond.fieldLink "CarpetHalls" (72 : Nat) "CarpetHalls" "past" "LCarpetHalls$Past;") ∈ th_tb := kg (kt_2 (List.mem_of_getElem? (i := 147) rfl)) rfl
theorem kw_388 : (Jvm.Cond.fieldLink "CarpetHalls" (79 : Nat) "CarpetHalls" "search" "LCarpetHalls$Search;") ∈ th_tb := kg (kt_2 (List.mem_of_getElem? (i := 148) rfl)) rfl
theorem kw_389 : (Jvm.Cond.fieldLink "CarpetHalls" (86 : Nat) "CarpetHalls" "chance" "LCarpetHalls$Chance;") ∈ th_tb := kg (kt_2 (List.mem_of_getElem? (i := 149) rfl)) rfl
theorem kw_390 : (Jvm.Cond.fieldLink "CarpetHalls" (90 : Nat) "CarpetHalls" "refused" "[I") ∈ th_tb := kg (kt_2 (List.mem_of_getElem? (i := 150) rfl)) rfl
theorem kw_391 : (Jvm.Cond.fieldLink "CarpetHalls" (94 : Nat) "CarpetHalls" "status" "I") ∈ th_tb := kg (kt_2 (List.mem_of_getElem? (i := 151) rfl)) rfl
theorem kw_392 : (Jvm.Cond.fieldLink "CarpetHalls" (98 : Nat) "CarpetHalls" "fault" "I") ∈ th_tb := kg (kt_2 (List.mem_of_getElem? (i := 152) rfl)) rfl
theorem kw_393 : (Jvm.Cond.fieldLink "CarpetHalls" (101 : Nat) "CarpetHalls" "fluff" "I") ∈ th_tb := kg (kt_2 (List.mem_of_getElem? (i := 153) rfl)) rfl
theorem kw_394 : (Jvm.Cond.fieldLink "CarpetHalls" (104 : Nat) "CarpetHalls" "stopped" "I") ∈ th_tb := kg (kt_2 (List.mem_of_getElem? (i := 154) rfl)) rfl
theorem kw_395 : (Jvm.Cond.laysFinal "CarpetHalls" "CarpetHalls" "now" "LCarpetHalls$Stand;") ∈ th_tb := kg (kt_2 (List.mem_of_getElem? (i := 155) rfl)) rfl
theorem kw_397 : (Jvm.Cond.laysFinal "CarpetHalls" "CarpetHalls" "images" "[LCarpetHalls$Stand;") ∈ th_tb := kg (kt_2 (List.mem_of_getElem? (i := 157) rfl)) rfl
theorem kw_399 : (Jvm.Cond.laysFinal "CarpetHalls" "CarpetHalls" "kept" "[Z") ∈ th_tb := kg (kt_2 (List.mem_of_getElem? (i := 159) rfl)) rfl
theorem kw_401 : (Jvm.Cond.laysFinal "CarpetHalls" "CarpetHalls" "paper" "LCarpetHalls$Floor;") ∈ th_tb := kg (kt_2 (List.mem_of_getElem? (i := 161) rfl)) rfl
theorem kw_403 : (Jvm.Cond.laysFinal "CarpetHalls" "CarpetHalls" "sheet" "LCarpetHalls$Floor;") ∈ th_tb := kg (kt_2 (List.mem_of_getElem? (i := 163) rfl)) rfl
theorem kw_405 : (Jvm.Cond.laysFinal "CarpetHalls" "CarpetHalls" "tape" "LCarpetHalls$Tape;") ∈ th_tb := kg (kt_2 (List.mem_of_getElem? (i := 165) rfl)) rfl
theorem kw_407 : (Jvm.Cond.laysFinal "CarpetHalls" "CarpetHalls" "reader" "LCarpetHalls$Reader;") ∈ th_tb := kg (kt_2 (List.mem_of_getElem? (i := 167) rfl)) rfl
theorem kw_409 : (Jvm.Cond.laysFinal "CarpetHalls" "CarpetHalls" "errand" "LCarpetHalls$Text;") ∈ th_tb := kg (kt_2 (List.mem_of_getElem? (i := 169) rfl)) rfl
theorem kw_411 : (Jvm.Cond.laysFinal "CarpetHalls" "CarpetHalls" "clerk" "LCarpetHalls$Reckoner;") ∈ th_tb := kg (kt_2 (List.mem_of_getElem? (i := 171) rfl)) rfl
theorem kw_413 : (Jvm.Cond.laysFinal "CarpetHalls" "CarpetHalls" "judge" "LCarpetHalls$Judge;") ∈ th_tb := kg (kt_2 (List.mem_of_getElem? (i := 173) rfl)) rfl
theorem kw_415 : (Jvm.Cond.laysFinal "CarpetHalls" "CarpetHalls" "past" "LCarpetHalls$Past;") ∈ th_tb := kg (kt_2 (List.mem_of_getElem? (i := 175) rfl)) rfl
theorem kw_417 : (Jvm.Cond.laysFinal "CarpetHalls" "CarpetHalls" "search" "LCarpetHalls$Search;") ∈ th_tb := kg (kt_2 (List.mem_of_getElem? (i := 177) rfl)) rfl
theorem kw_419 : (Jvm.Cond.laysFinal "CarpetHalls" "CarpetHalls" "chance" "LCarpetHalls$Chance;") ∈ th_tb := kg (kt_2 (List.mem_of_getElem? (i := 179) rfl)) rfl
theorem kw_421 : (Jvm.Cond.laysFinal "CarpetHalls" "CarpetHalls" "refused" "[I") ∈ th_tb := kg (kt_2 (List.mem_of_getElem? (i := 181) rfl)) rfl
theorem kw_423 : (Jvm.Cond.lays "CarpetHalls" "CarpetHalls" "status" "I") ∈ th_tb := kg (kt_2 (List.mem_of_getElem? (i := 183) rfl)) rfl
theorem kw_425 : (Jvm.Cond.lays "CarpetHalls" "CarpetHalls" "fault" "I") ∈ th_tb := kg (kt_2 (List.mem_of_getElem? (i := 185) rfl)) rfl
theorem kw_427 : (Jvm.Cond.lays "CarpetHalls" "CarpetHalls" "fluff" "I") ∈ th_tb := kg (kt_2 (List.mem_of_getElem? (i := 187) rfl)) rfl
theorem kw_429 : (Jvm.Cond.lays "CarpetHalls" "CarpetHalls" "stopped" "I") ∈ th_tb := kg (kt_2 (List.mem_of_getElem? (i := 189) rfl)) rfl
theorem kw_432 : (Jvm.Cond.methodLink "CarpetHallsLaw" (13 : Nat) ({ cls := "CarpetHalls", name := "carpet", desc := "(III)I" } : Jvm.MethodName)) ∈ th_tb := kg (kt_2 (List.mem_of_getElem? (i := 192) rfl)) rfl
theorem kw_433 : (Jvm.Cond.instanceMethod ({ cls := "CarpetHalls", name := "carpet", desc := "(III)I" } : Jvm.MethodName)) ∈ th_tb := kg (kt_2 (List.mem_of_getElem? (i := 193) rfl)) rfl
theorem kw_434 : (Jvm.Cond.selects "CarpetHalls" ({ cls := "CarpetHalls", name := "carpet", desc := "(III)I" } : Jvm.MethodName) ({ cls := "CarpetHalls", name := "carpet", desc := "(III)I" } : Jvm.MethodName)) ∈ th_tb := kg (kt_2 (List.mem_of_getElem? (i := 194) rfl)) rfl
theorem kw_435 : (Jvm.Cond.code ({ cls := "CarpetHalls", name := "carpet", desc := "(III)I" } : Jvm.MethodName) prog_1_method_2_code (5 : Nat) (Option.some Jvm.ClassFile.FieldType.int)) ∈ th_tb := kg (kt_2 (List.mem_of_getElem? (i := 195) rfl)) rfl
theorem kw_436 : (Jvm.Cond.methodLink "CarpetHalls" (110 : Nat) ({ cls := "CarpetHalls$Floor", name := "add", desc := "(III)I" } : Jvm.MethodName)) ∈ th_tb := kg (kt_2 (List.mem_of_getElem? (i := 196) rfl)) rfl
theorem kw_437 : (Jvm.Cond.instanceMethod ({ cls := "CarpetHalls$Floor", name := "add", desc := "(III)I" } : Jvm.MethodName)) ∈ th_tb := kg (kt_2 (List.mem_of_getElem? (i := 197) rfl)) rfl
theorem kw_438 : (Jvm.Cond.selects "CarpetHalls$Floor" ({ cls := "CarpetHalls$Floor", name := "add", desc := "(III)I" } : Jvm.MethodName) ({ cls := "CarpetHalls$Floor", name := "add", desc := "(III)I" } : Jvm.MethodName)) ∈ th_tb := kg (kt_2 (List.mem_of_getElem? (i := 198) rfl)) rfl
theorem kw_439 : (Jvm.Cond.code ({ cls := "CarpetHalls$Floor", name := "add", desc := "(III)I" } : Jvm.MethodName) prog_3_method_3_code (4 : Nat) (Option.some Jvm.ClassFile.FieldType.int)) ∈ th_tb := kg (kt_2 (List.mem_of_getElem? (i := 199) rfl)) rfl
theorem kw_440 : (Jvm.Cond.methodLink "CarpetHalls" (114 : Nat) ({ cls := "CarpetHalls$Past", name := "clear", desc := "()V" } : Jvm.MethodName)) ∈ th_tb := kg (kt_2 (List.mem_of_getElem? (i := 200) rfl)) rfl
theorem kw_441 : (Jvm.Cond.instanceMethod ({ cls := "CarpetHalls$Past", name := "clear", desc := "()V" } : Jvm.MethodName)) ∈ th_tb := kg (kt_2 (List.mem_of_getElem? (i := 201) rfl)) rfl
theorem kw_442 : (Jvm.Cond.selects "CarpetHalls$Past" ({ cls := "CarpetHalls$Past", name := "clear", desc := "()V" } : Jvm.MethodName) ({ cls := "CarpetHalls$Past", name := "clear", desc := "()V" } : Jvm.MethodName)) ∈ th_tb := kg (kt_2 (List.mem_of_getElem? (i := 202) rfl)) rfl
theorem kw_443 : (Jvm.Cond.code ({ cls := "CarpetHalls$Past", name := "clear", desc := "()V" } : Jvm.MethodName) prog_6_method_2_code (1 : Nat) (Option.none : Option Jvm.ClassFile.FieldType)) ∈ th_tb := kg (kt_2 (List.mem_of_getElem? (i := 203) rfl)) rfl
theorem kw_444 : (Jvm.Cond.methodLink "CarpetHalls" (117 : Nat) ({ cls := "CarpetHalls", name := "answer", desc := "(I)I" } : Jvm.MethodName)) ∈ th_tb := kg (kt_2 (List.mem_of_getElem? (i := 204) rfl)) rfl
theorem kw_446 : (Jvm.Cond.instanceMethod ({ cls := "CarpetHalls", name := "answer", desc := "(I)I" } : Jvm.MethodName)) ∈ th_tb := kg (kt_2 (List.mem_of_getElem? (i := 206) rfl)) rfl
theorem kw_447 : (Jvm.Cond.code ({ cls := "CarpetHalls", name := "answer", desc := "(I)I" } : Jvm.MethodName) prog_1_method_47_code (2 : Nat) (Option.some Jvm.ClassFile.FieldType.int)) ∈ th_tb := kg (kt_2 (List.mem_of_getElem? (i := 207) rfl)) rfl
theorem kw_448 : (Jvm.Cond.methodLink "CarpetHallsLaw" (18 : Nat) ({ cls := "CarpetHalls", name := "of", desc := "(II)I" } : Jvm.MethodName)) ∈ th_tb := kg (kt_2 (List.mem_of_getElem? (i := 208) rfl)) rfl
theorem kw_449 : (Jvm.Cond.instanceMethod ({ cls := "CarpetHalls", name := "of", desc := "(II)I" } : Jvm.MethodName)) ∈ th_tb := kg (kt_2 (List.mem_of_getElem? (i := 209) rfl)) rfl
theorem kw_450 : (Jvm.Cond.selects "CarpetHalls" ({ cls := "CarpetHalls", name := "of", desc := "(II)I" } : Jvm.MethodName) ({ cls := "CarpetHalls", name := "of", desc := "(II)I" } : Jvm.MethodName)) ∈ th_tb := kg (kt_2 (List.mem_of_getElem? (i := 210) rfl)) rfl
theorem kw_451 : (Jvm.Cond.code ({ cls := "CarpetHalls", name := "of", desc := "(II)I" } : Jvm.MethodName) prog_1_method_3_code (4 : Nat) (Option.some Jvm.ClassFile.FieldType.int)) ∈ th_tb := kg (kt_2 (List.mem_of_getElem? (i := 211) rfl)) rfl
theorem kw_452 : (Jvm.Cond.methodLink "CarpetHalls" (121 : Nat) ({ cls := "CarpetHalls$Floor", name := "has", desc := "(I)Z" } : Jvm.MethodName)) ∈ th_tb := kg (kt_2 (List.mem_of_getElem? (i := 212) rfl)) rfl
theorem kw_453 : (Jvm.Cond.instanceMethod ({ cls := "CarpetHalls$Floor", name := "has", desc := "(I)Z" } : Jvm.MethodName)) ∈ th_tb := kg (kt_2 (List.mem_of_getElem? (i := 213) rfl)) rfl
theorem kw_454 : (Jvm.Cond.selects "CarpetHalls$Floor" ({ cls := "CarpetHalls$Floor", name := "has", desc := "(I)Z" } : Jvm.MethodName) ({ cls := "CarpetHalls$Floor", name := "has", desc := "(I)Z" } : Jvm.MethodName)) ∈ th_tb := kg (kt_2 (List.mem_of_getElem? (i := 214) rfl)) rfl
theorem kw_455 : (Jvm.Cond.code ({ cls := "CarpetHalls$Floor", name := "has", desc := "(I)Z" } : Jvm.MethodName) prog_3_method_4_code (2 : Nat) (Option.some Jvm.ClassFile.FieldType.boolean)) ∈ th_tb := kg (kt_2 (List.mem_of_getElem? (i := 215) rfl)) rfl
theorem kw_456 : (Jvm.Cond.methodLink "CarpetHalls" (140 : Nat) ({ cls := "CarpetHalls$Floor", name := "isLaid", desc := "(I)Z" } : Jvm.MethodName)) ∈ th_tb := kg (kt_2 (List.mem_of_getElem? (i := 216) rfl)) rfl
theorem kw_457 : (Jvm.Cond.instanceMethod ({ cls := "CarpetHalls$Floor", name := "isLaid", desc := "(I)Z" } : Jvm.MethodName)) ∈ th_tb := kg (kt_2 (List.mem_of_getElem? (i := 217) rfl)) rfl
theorem kw_458 : (Jvm.Cond.selects "CarpetHalls$Floor" ({ cls := "CarpetHalls$Floor", name := "isLaid", desc := "(I)Z" } : Jvm.MethodName) ({ cls := "CarpetHalls$Floor", name := "isLaid", desc := "(I)Z" } : Jvm.MethodName)) ∈ th_tb := kg (kt_2 (List.mem_of_getElem? (i := 218) rfl)) rfl
theorem kw_459 : (Jvm.Cond.code ({ cls := "CarpetHalls$Floor", name := "isLaid", desc := "(I)Z" } : Jvm.MethodName) prog_3_method_5_code (2 : Nat) (Option.some Jvm.ClassFile.FieldType.boolean)) ∈ th_tb := kg (kt_2 (List.mem_of_getElem? (i := 219) rfl)) rfl
theorem kw_460 : (Jvm.Cond.methodLink "CarpetHalls$Floor" (52 : Nat) ({ cls := "CarpetHalls$Floor", name := "has", desc := "(I)Z" } : Jvm.MethodName)) ∈ th_tb := kg (kt_2 (List.mem_of_getElem? (i := 220) rfl)) rfl
theorem kw_461 : (Jvm.Cond.methodLink "CarpetHalls" (143 : Nat) ({ cls := "CarpetHalls$Stand", name := "forcedLaw", desc := "()LCarpetHalls$Text;" } : Jvm.MethodName)) ∈ th_tb := kg (kt_2 (List.mem_of_getElem? (i := 221) rfl)) rfl
theorem kw_462 : (Jvm.Cond.instanceMethod ({ cls := "CarpetHalls$Stand", name := "forcedLaw", desc := "()LCarpetHalls$Text;" } : Jvm.MethodName)) ∈ th_tb := kg (kt_2 (List.mem_of_getElem? (i := 222) rfl)) rfl
theorem kw_463 : (Jvm.Cond.selects "CarpetHalls$Stand" ({ cls := "CarpetHalls$Stand", name := "forcedLaw", desc := "()LCarpetHalls$Text;" } : Jvm.MethodName) ({ cls := "CarpetHalls$Stand", name := "forcedLaw", desc := "()LCarpetHalls$Text;" } : Jvm.MethodName)) ∈ th_tb := kg (kt_2 (List.mem_of_getElem? (i := 223) rfl)) rfl
theorem kw_464 : (Jvm.Cond.code ({ cls := "CarpetHalls$Stand", name := "forcedLaw", desc := "()LCarpetHalls$Text;" } : Jvm.MethodName) prog_10_method_3_code (1 : Nat) (Option.some (Jvm.ClassFile.FieldType.object "CarpetHalls$Text"))) ∈ th_tb := kg (kt_2 (List.mem_of_getElem? (i := 224) rfl)) rfl
theorem kw_465 : (Jvm.Cond.methodLink "CarpetHalls$Stand" (45 : Nat) ({ cls := "CarpetHalls$Stand", name := "lawOf", desc := "(I)LCarpetHalls$Text;" } : Jvm.MethodName)) ∈ th_tb := kg (kt_2 (List.mem_of_getElem? (i := 225) rfl)) rfl
theorem kw_466 : (Jvm.Cond.instanceMethod ({ cls := "CarpetHalls$Stand", name := "lawOf", desc := "(I)LCarpetHalls$Text;" } : Jvm.MethodName)) ∈ th_tb := kg (kt_2 (List.mem_of_getElem? (i := 226) rfl)) rfl
theorem kw_467 : (Jvm.Cond.selects "CarpetHalls$Stand" ({ cls := "CarpetHalls$Stand", name := "lawOf", desc := "(I)LCarpetHalls$Text;" } : Jvm.MethodName) ({ cls := "CarpetHalls$Stand", name := "lawOf", desc := "(I)LCarpetHalls$Text;" } : Jvm.MethodName)) ∈ th_tb := kg (kt_2 (List.mem_of_getElem? (i := 227) rfl)) rfl
theorem kw_468 : (Jvm.Cond.code ({ cls := "CarpetHalls$Stand", name := "lawOf", desc := "(I)LCarpetHalls$Text;" } : Jvm.MethodName) prog_10_method_2_code (2 : Nat) (Option.some (Jvm.ClassFile.FieldType.object "CarpetHalls$Text"))) ∈ th_tb := kg (kt_2 (List.mem_of_getElem? (i := 228) rfl)) rfl
theorem kw_469 : (Jvm.Cond.methodLink "CarpetHalls" (147 : Nat) ({ cls := "CarpetHalls$Judge", name := "wearOf", desc := "(LCarpetHalls$Text;LCarpetHalls$Floor;I)I" } : Jvm.MethodName)) ∈ th_tb := kg (kt_2 (List.mem_of_getElem? (i := 229) rfl)) rfl
theorem kw_470 : (Jvm.Cond.instanceMethod ({ cls := "CarpetHalls$Judge", name := "wearOf", desc := "(LCarpetHalls$Text;LCarpetHalls$Floor;I)I" } : Jvm.MethodName)) ∈ th_tb := kg (kt_2 (List.mem_of_getElem? (i := 230) rfl)) rfl
theorem kw_471 : (Jvm.Cond.selects "CarpetHalls$Judge" ({ cls := "CarpetHalls$Judge", name := "wearOf", desc := "(LCarpetHalls$Text;LCarpetHalls$Floor;I)I" } : Jvm.MethodName) ({ cls := "CarpetHalls$Judge", name := "wearOf", desc := "(LCarpetHalls$Text;LCarpetHalls$Floor;I)I" } : Jvm.MethodName)) ∈ th_tb := kg (kt_2 (List.mem_of_getElem? (i := 231) rfl)) rfl
theorem kw_472 : (Jvm.Cond.code ({ cls := "CarpetHalls$Judge", name := "wearOf", desc := "(LCarpetHalls$Text;LCarpetHalls$Floor;I)I" } : Jvm.MethodName) prog_4_method_3_code (4 : Nat) (Option.some Jvm.ClassFile.FieldType.int)) ∈ th_tb := kg (kt_2 (List.mem_of_getElem? (i := 232) rfl)) rfl
theorem kw_473 : (Jvm.Cond.methodLink "CarpetHalls$Judge" (18 : Nat) ({ cls := "CarpetHalls$Reckoner", name := "setLawWords", desc := "(LCarpetHalls$Floor;III)V" } : Jvm.MethodName)) ∈ th_tb := kg (kt_2 (List.mem_of_getElem? (i := 233) rfl)) rfl
theorem kw_474 : (Jvm.Cond.instanceMethod ({ cls := "CarpetHalls$Reckoner", name := "setLawWords", desc := "(LCarpetHalls$Floor;III)V" } : Jvm.MethodName)) ∈ th_tb := kg (kt_2 (List.mem_of_getElem? (i := 234) rfl)) rfl
theorem kw_475 : (Jvm.Cond.selects "CarpetHalls$Reckoner" ({ cls := "CarpetHalls$Reckoner", name := "setLawWords", desc := "(LCarpetHalls$Floor;III)V" } : Jvm.MethodName) ({ cls := "CarpetHalls$Reckoner", name := "setLawWords", desc := "(LCarpetHalls$Floor;III)V" } : Jvm.MethodName)) ∈ th_tb := kg (kt_2 (List.mem_of_getElem? (i := 235) rfl)) rfl
theorem kw_476 : (Jvm.Cond.code ({ cls := "CarpetHalls$Reckoner", name := "setLawWords", desc := "(LCarpetHalls$Floor;III)V" } : Jvm.MethodName) prog_8_method_2_code (5 : Nat) (Option.none : Option Jvm.ClassFile.FieldType)) ∈ th_tb := kg (kt_2 (List.mem_of_getElem? (i := 236) rfl)) rfl
theorem kw_477 : (Jvm.Cond.methodLink "CarpetHalls$Judge" (24 : Nat) ({ cls := "CarpetHalls$Judge", name := "holds", desc := "(LCarpetHalls$Text;I)Z" } : Jvm.MethodName)) ∈ th_tb := kg (kt_2 (List.mem_of_getElem? (i := 237) rfl)) rfl
theorem kw_479 : (Jvm.Cond.instanceMethod ({ cls := "CarpetHalls$Judge", name := "holds", desc := "(LCarpetHalls$Text;I)Z" } : Jvm.MethodName)) ∈ th_tb := kg (kt_2 (List.mem_of_getElem? (i := 239) rfl)) rfl
theorem kw_480 : (Jvm.Cond.code ({ cls := "CarpetHalls$Judge", name := "holds", desc := "(LCarpetHalls$Text;I)Z" } : Jvm.MethodName) prog_4_method_5_code (4 : Nat) (Option.some Jvm.ClassFile.FieldType.boolean)) ∈ th_tb := kg (kt_3 (List.mem_of_getElem? (i := 0) rfl)) rfl
theorem kw_481 : (Jvm.Cond.methodLink "CarpetHalls$Judge" (58 : Nat) ({ cls := "CarpetHalls$Text", name := "mark", desc := "(II)I" } : Jvm.MethodName)) ∈ th_tb := kg (kt_3 (List.mem_of_getElem? (i := 1) rfl)) rfl
theorem kw_482 : (Jvm.Cond.instanceMethod ({ cls := "CarpetHalls$Text", name := "mark", desc := "(II)I" } : Jvm.MethodName)) ∈ th_tb := kg (kt_3 (List.mem_of_getElem? (i := 2) rfl)) rfl
theorem kw_483 : (Jvm.Cond.selects "CarpetHalls$Text" ({ cls := "CarpetHalls$Text", name := "mark", desc := "(II)I" } : Jvm.MethodName) ({ cls := "CarpetHalls$Text", name := "mark", desc := "(II)I" } : Jvm.MethodName)) ∈ th_tb := kg (kt_3 (List.mem_of_getElem? (i := 3) rfl)) rfl
theorem kw_484 : (Jvm.Cond.code ({ cls := "CarpetHalls$Text", name := "mark", desc := "(II)I" } : Jvm.MethodName) prog_12_method_9_code (4 : Nat) (Option.some Jvm.ClassFile.FieldType.int)) ∈ th_tb := kg (kt_3 (List.mem_of_getElem? (i := 4) rfl)) rfl
theorem kw_485 : (Jvm.Cond.methodLink "CarpetHalls$Judge" (61 : Nat) ({ cls := "CarpetHalls$Reckoner", name := "isSo", desc := "(LCarpetHalls$Text;I)Z" } : Jvm.MethodName)) ∈ th_tb := kg (kt_3 (List.mem_of_getElem? (i := 5) rfl)) rfl
theorem kw_486 : (Jvm.Cond.instanceMethod ({ cls := "CarpetHalls$Reckoner", name := "isSo", desc := "(LCarpetHalls$Text;I)Z" } : Jvm.MethodName)) ∈ th_tb := kg (kt_3 (List.mem_of_getElem? (i := 6) rfl)) rfl
theorem kw_487 : (Jvm.Cond.selects "CarpetHalls$Reckoner" ({ cls := "CarpetHalls$Reckoner", name := "isSo", desc := "(LCarpetHalls$Text;I)Z" } : Jvm.MethodName) ({ cls := "CarpetHalls$Reckoner", name := "isSo", desc := "(LCarpetHalls$Text;I)Z" } : Jvm.MethodName)) ∈ th_tb := kg (kt_3 (List.mem_of_getElem? (i := 7) rfl)) rfl
theorem kw_488 : (Jvm.Cond.code ({ cls := "CarpetHalls$Reckoner", name := "isSo", desc := "(LCarpetHalls$Text;I)Z" } : Jvm.MethodName) prog_8_method_4_code (5 : Nat) (Option.some Jvm.ClassFile.FieldType.boolean)) ∈ th_tb := kg (kt_3 (List.mem_of_getElem? (i := 8) rfl)) rfl
theorem kw_489 : (Jvm.Cond.methodLink "CarpetHalls$Reckoner" (59 : Nat) ({ cls := "CarpetHalls$Text", name := "mark", desc := "(II)I" } : Jvm.MethodName)) ∈ th_tb := kg (kt_3 (List.mem_of_getElem? (i := 9) rfl)) rfl
theorem kw_490 : (Jvm.Cond.methodLink "CarpetHalls$Reckoner" (63 : Nat) ({ cls := "CarpetHalls$Reckoner", name := "reckon", desc := "(LCarpetHalls$Text;II)J" } : Jvm.MethodName)) ∈ th_tb := kg (kt_3 (List.mem_of_getElem? (i := 10) rfl)) rfl
theorem kw_492 : (Jvm.Cond.instanceMethod ({ cls := "CarpetHalls$Reckoner", name := "reckon", desc := "(LCarpetHalls$Text;II)J" } : Jvm.MethodName)) ∈ th_tb := kg (kt_3 (List.mem_of_getElem? (i := 12) rfl)) rfl
theorem kw_493 : (Jvm.Cond.code ({ cls := "CarpetHalls$Reckoner", name := "reckon", desc := "(LCarpetHalls$Text;II)J" } : Jvm.MethodName) prog_8_method_6_code (13 : Nat) (Option.some Jvm.ClassFile.FieldType.long)) ∈ th_tb := kg (kt_3 (List.mem_of_getElem? (i := 13) rfl)) rfl
theorem kw_494 : (Jvm.Cond.constantLong "CarpetHalls$Reckoner" (73 : Nat) (1000000001 : Int64)) ∈ th_tb := kg (kt_3 (List.mem_of_getElem? (i := 14) rfl)) rfl
theorem kw_495 : (Jvm.Cond.constantLong "CarpetHalls$Reckoner" (75 : Nat) (1000000000 : Int64)) ∈ th_tb := kg (kt_3 (List.mem_of_getElem? (i := 15) rfl)) rfl
theorem kw_496 : (Jvm.Cond.constantLong "CarpetHalls$Reckoner" (77 : Nat) (-1000000000 : Int64)) ∈ th_tb := kg (kt_3 (List.mem_of_getElem? (i := 16) rfl)) rfl
theorem kw_497 : (Jvm.Cond.methodLink "CarpetHalls$Judge" (64 : Nat) ({ cls := "CarpetHalls$Reckoner", name := "reckonSums", desc := "(LCarpetHalls$Text;I)Z" } : Jvm.MethodName)) ∈ th_tb := kg (kt_3 (List.mem_of_getElem? (i := 17) rfl)) rfl
theorem kw_498 : (Jvm.Cond.instanceMethod ({ cls := "CarpetHalls$Reckoner", name := "reckonSums", desc := "(LCarpetHalls$Text;I)Z" } : Jvm.MethodName)) ∈ th_tb := kg (kt_3 (List.mem_of_getElem? (i := 18) rfl)) rfl
theorem kw_499 : (Jvm.Cond.selects "CarpetHalls$Reckoner" ({ cls := "CarpetHalls$Reckoner", name := "reckonSums", desc := "(LCarpetHalls$Text;I)Z" } : Jvm.MethodName) ({ cls := "CarpetHalls$Reckoner", name := "reckonSums", desc := "(LCarpetHalls$Text;I)Z" } : Jvm.MethodName)) ∈ th_tb := kg (kt_3 (List.mem_of_getElem? (i := 19) rfl)) rfl
theorem kw_500 : (Jvm.Cond.code ({ cls := "CarpetHalls$Reckoner", name := "reckonSums", desc := "(LCarpetHalls$Text;I)Z" } : Jvm.MethodName) prog_8_method_5_code (6 : Nat) (Option.some Jvm.ClassFile.FieldType.boolean)) ∈ th_tb := kg (kt_3 (List.mem_of_getElem? (i := 20) rfl)) rfl
theorem kw_501 : (Jvm.Cond.methodLink "CarpetHalls$Judge" (32 : Nat) ({ cls := "java/lang/Math", name := "min", desc := "(II)I" } : Jvm.MethodName)) ∈ th_tb := kg (kt_3 (List.mem_of_getElem? (i := 21) rfl)) rfl
theorem kw_502 : (Jvm.Cond.static ({ cls := "java/lang/Math", name := "min", desc := "(II)I" } : Jvm.MethodName)) ∈ th_tb := kg (kt_3 (List.mem_of_getElem? (i := 22) rfl)) rfl
theorem kw_503 : (Jvm.Cond.code ({ cls := "java/lang/Math", name := "min", desc := "(II)I" } : Jvm.MethodName) prog_16_method_69_code (2 : Nat) (Option.some Jvm.ClassFile.FieldType.int)) ∈ th_tb := kg (kt_3 (List.mem_of_getElem? (i := 23) rfl)) rfl
theorem kw_504 : (Jvm.Cond.methodLink "CarpetHalls$Judge" (38 : Nat) ({ cls := "java/lang/Math", name := "max", desc := "(II)I" } : Jvm.MethodName)) ∈ th_tb := kg (kt_3 (List.mem_of_getElem? (i := 24) rfl)) rfl
theorem kw_505 : (Jvm.Cond.static ({ cls := "java/lang/Math", name := "max", desc := "(II)I" } : Jvm.MethodName)) ∈ th_tb := kg (kt_3 (List.mem_of_getElem? (i := 25) rfl)) rfl
theorem kw_506 : (Jvm.Cond.code ({ cls := "java/lang/Math", name := "max", desc := "(II)I" } : Jvm.MethodName) prog_16_method_65_code (2 : Nat) (Option.some Jvm.ClassFile.FieldType.int)) ∈ th_tb := kg (kt_3 (List.mem_of_getElem? (i := 26) rfl)) rfl
theorem kw_507 : (Jvm.Cond.methodLink "CarpetHallsLaw" (23 : Nat) ({ cls := "CarpetHalls", name := "hall", desc := "(II)I" } : Jvm.MethodName)) ∈ th_tb := kg (kt_3 (List.mem_of_getElem? (i := 27) rfl)) rfl
theorem kw_508 : (Jvm.Cond.instanceMethod ({ cls := "CarpetHalls", name := "hall", desc := "(II)I" } : Jvm.MethodName)) ∈ th_tb := kg (kt_3 (List.mem_of_getElem? (i := 28) rfl)) rfl
theorem kw_509 : (Jvm.Cond.selects "CarpetHalls" ({ cls := "CarpetHalls", name := "hall", desc := "(II)I" } : Jvm.MethodName) ({ cls := "CarpetHalls", name := "hall", desc := "(II)I" } : Jvm.MethodName)) ∈ th_tb := kg (kt_3 (List.mem_of_getElem? (i := 29) rfl)) rfl
theorem kw_510 : (Jvm.Cond.code ({ cls := "CarpetHalls", name := "hall", desc := "(II)I" } : Jvm.MethodName) prog_1_method_4_code (3 : Nat) (Option.some Jvm.ClassFile.FieldType.int)) ∈ th_tb := kg (kt_3 (List.mem_of_getElem? (i := 30) rfl)) rfl
theorem kw_511 : (Jvm.Cond.methodLink "CarpetHalls" (151 : Nat) ({ cls := "CarpetHalls$Floor", name := "laidCarpets", desc := "()I" } : Jvm.MethodName)) ∈ th_tb := kg (kt_3 (List.mem_of_getElem? (i := 31) rfl)) rfl
theorem kw_512 : (Jvm.Cond.instanceMethod ({ cls := "CarpetHalls$Floor", name := "laidCarpets", desc := "()I" } : Jvm.MethodName)) ∈ th_tb := kg (kt_3 (List.mem_of_getElem? (i := 32) rfl)) rfl
theorem kw_513 : (Jvm.Cond.selects "CarpetHalls$Floor" ({ cls := "CarpetHalls$Floor", name := "laidCarpets", desc := "()I" } : Jvm.MethodName) ({ cls := "CarpetHalls$Floor", name := "laidCarpets", desc := "()I" } : Jvm.MethodName)) ∈ th_tb := kg (kt_3 (List.mem_of_getElem? (i := 33) rfl)) rfl
theorem kw_514 : (Jvm.Cond.code ({ cls := "CarpetHalls$Floor", name := "laidCarpets", desc := "()I" } : Jvm.MethodName) prog_3_method_7_code (3 : Nat) (Option.some Jvm.ClassFile.FieldType.int)) ∈ th_tb := kg (kt_3 (List.mem_of_getElem? (i := 34) rfl)) rfl
theorem kw_515 : (Jvm.Cond.methodLink "CarpetHalls$Floor" (56 : Nat) ({ cls := "CarpetHalls$Floor", name := "isLaid", desc := "(I)Z" } : Jvm.MethodName)) ∈ th_tb := kg (kt_3 (List.mem_of_getElem? (i := 35) rfl)) rfl
theorem kw_516 : (Jvm.Cond.methodLink "CarpetHallsLaw" (27 : Nat) ({ cls := "CarpetHalls", name := "at", desc := "(II)I" } : Jvm.MethodName)) ∈ th_tb := kg (kt_3 (List.mem_of_getElem? (i := 36) rfl)) rfl
theorem kw_517 : (Jvm.Cond.instanceMethod ({ cls := "CarpetHalls", name := "at", desc := "(II)I" } : Jvm.MethodName)) ∈ th_tb := kg (kt_3 (List.mem_of_getElem? (i := 37) rfl)) rfl
theorem kw_518 : (Jvm.Cond.selects "CarpetHalls" ({ cls := "CarpetHalls", name := "at", desc := "(II)I" } : Jvm.MethodName) ({ cls := "CarpetHalls", name := "at", desc := "(II)I" } : Jvm.MethodName)) ∈ th_tb := kg (kt_3 (List.mem_of_getElem? (i := 38) rfl)) rfl
theorem kw_519 : (Jvm.Cond.code ({ cls := "CarpetHalls", name := "at", desc := "(II)I" } : Jvm.MethodName) prog_1_method_5_code (3 : Nat) (Option.some Jvm.ClassFile.FieldType.int)) ∈ th_tb := kg (kt_3 (List.mem_of_getElem? (i := 39) rfl)) rfl
theorem kw_520 : (Jvm.Cond.methodLink "CarpetHalls" (161 : Nat) ({ cls := "CarpetHalls$Floor", name := "carpetOn", desc := "(II)I" } : Jvm.MethodName)) ∈ th_tb := kg (kt_3 (List.mem_of_getElem? (i := 40) rfl)) rfl
theorem kw_521 : (Jvm.Cond.instanceMethod ({ cls := "CarpetHalls$Floor", name := "carpetOn", desc := "(II)I" } : Jvm.MethodName)) ∈ th_tb := kg (kt_3 (List.mem_of_getElem? (i := 41) rfl)) rfl
theorem kw_522 : (Jvm.Cond.selects "CarpetHalls$Floor" ({ cls := "CarpetHalls$Floor", name := "carpetOn", desc := "(II)I" } : Jvm.MethodName) ({ cls := "CarpetHalls$Floor", name := "carpetOn", desc := "(II)I" } : Jvm.MethodName)) ∈ th_tb := kg (kt_3 (List.mem_of_getElem? (i := 42) rfl)) rfl
theorem kw_523 : (Jvm.Cond.code ({ cls := "CarpetHalls$Floor", name := "carpetOn", desc := "(II)I" } : Jvm.MethodName) prog_3_method_11_code (4 : Nat) (Option.some Jvm.ClassFile.FieldType.int)) ∈ th_tb := kg (kt_3 (List.mem_of_getElem? (i := 43) rfl)) rfl
theorem kw_524 : (Jvm.Cond.methodLink "CarpetHallsLaw" (31 : Nat) ({ cls := "CarpetHalls", name := "asks", desc := "(IIII)I" } : Jvm.MethodName)) ∈ th_tb := kg (kt_3 (List.mem_of_getElem? (i := 44) rfl)) rfl
theorem kw_525 : (Jvm.Cond.instanceMethod ({ cls := "CarpetHalls", name := "asks", desc := "(IIII)I" } : Jvm.MethodName)) ∈ th_tb := kg (kt_3 (List.mem_of_getElem? (i := 45) rfl)) rfl
theorem kw_526 : (Jvm.Cond.selects "CarpetHalls" ({ cls := "CarpetHalls", name := "asks", desc := "(IIII)I" } : Jvm.MethodName) ({ cls := "CarpetHalls", name := "asks", desc := "(IIII)I" } : Jvm.MethodName)) ∈ th_tb := kg (kt_3 (List.mem_of_getElem? (i := 46) rfl)) rfl
theorem kw_527 : (Jvm.Cond.code ({ cls := "CarpetHalls", name := "asks", desc := "(IIII)I" } : Jvm.MethodName) prog_1_method_6_code (6 : Nat) (Option.some Jvm.ClassFile.FieldType.int)) ∈ th_tb := kg (kt_3 (List.mem_of_getElem? (i := 47) rfl)) rfl
theorem kw_528 : (Jvm.Cond.methodLink "CarpetHalls" (165 : Nat) ({ cls := "CarpetHalls", name := "onGrid", desc := "(I)Z" } : Jvm.MethodName)) ∈ th_tb := kg (kt_3 (List.mem_of_getElem? (i := 48) rfl)) rfl
theorem kw_529 : (Jvm.Cond.static ({ cls := "CarpetHalls", name := "onGrid", desc := "(I)Z" } : Jvm.MethodName)) ∈ th_tb := kg (kt_3 (List.mem_of_getElem? (i := 49) rfl)) rfl
theorem kw_530 : (Jvm.Cond.code ({ cls := "CarpetHalls", name := "onGrid", desc := "(I)Z" } : Jvm.MethodName) prog_1_method_45_code (1 : Nat) (Option.some Jvm.ClassFile.FieldType.boolean)) ∈ th_tb := kg (kt_3 (List.mem_of_getElem? (i := 50) rfl)) rfl
theorem kw_531 : (Jvm.Cond.methodLink "CarpetHalls" (168 : Nat) ({ cls := "CarpetHalls$Judge", name := "costOf", desc := "(LCarpetHalls$Text;LCarpetHalls$Floor;III)I" } : Jvm.MethodName)) ∈ th_tb := kg (kt_3 (List.mem_of_getElem? (i := 51) rfl)) rfl
theorem kw_532 : (Jvm.Cond.instanceMethod ({ cls := "CarpetHalls$Judge", name := "costOf", desc := "(LCarpetHalls$Text;LCarpetHalls$Floor;III)I" } : Jvm.MethodName)) ∈ th_tb := kg (kt_3 (List.mem_of_getElem? (i := 52) rfl)) rfl
theorem kw_533 : (Jvm.Cond.selects "CarpetHalls$Judge" ({ cls := "CarpetHalls$Judge", name := "costOf", desc := "(LCarpetHalls$Text;LCarpetHalls$Floor;III)I" } : Jvm.MethodName) ({ cls := "CarpetHalls$Judge", name := "costOf", desc := "(LCarpetHalls$Text;LCarpetHalls$Floor;III)I" } : Jvm.MethodName)) ∈ th_tb := kg (kt_3 (List.mem_of_getElem? (i := 53) rfl)) rfl
theorem kw_534 : (Jvm.Cond.code ({ cls := "CarpetHalls$Judge", name := "costOf", desc := "(LCarpetHalls$Text;LCarpetHalls$Floor;III)I" } : Jvm.MethodName) prog_4_method_2_code (6 : Nat) (Option.some Jvm.ClassFile.FieldType.int)) ∈ th_tb := kg (kt_3 (List.mem_of_getElem? (i := 54) rfl)) rfl
theorem kw_535 : (Jvm.Cond.methodLink "CarpetHalls" (172 : Nat) ({ cls := "CarpetHalls$Judge", name := "isBarred", desc := "(LCarpetHalls$Text;LCarpetHalls$Floor;III)Z" } : Jvm.MethodName)) ∈ th_tb := kg (kt_3 (List.mem_of_getElem? (i := 55) rfl)) rfl
theorem kw_536 : (Jvm.Cond.instanceMethod ({ cls := "CarpetHalls$Judge", name := "isBarred", desc := "(LCarpetHalls$Text;LCarpetHalls$Floor;III)Z" } : Jvm.MethodName)) ∈ th_tb := kg (kt_3 (List.mem_of_getElem? (i := 56) rfl)) rfl
theorem kw_537 : (Jvm.Cond.selects "CarpetHalls$Judge" ({ cls := "CarpetHalls$Judge", name := "isBarred", desc := "(LCarpetHalls$Text;LCarpetHalls$Floor;III)Z" } : Jvm.MethodName) ({ cls := "CarpetHalls$Judge", name := "isBarred", desc := "(LCarpetHalls$Text;LCarpetHalls$Floor;III)Z" } : Jvm.MethodName)) ∈ th_tb := kg (kt_3 (List.mem_of_getElem? (i := 57) rfl)) rfl
theorem kw_538 : (Jvm.Cond.code ({ cls := "CarpetHalls$Judge", name := "isBarred", desc := "(LCarpetHalls$Text;LCarpetHalls$Floor;III)Z" } : Jvm.MethodName) prog_4_method_4_code (6 : Nat) (Option.some Jvm.ClassFile.FieldType.boolean)) ∈ th_tb := kg (kt_3 (List.mem_of_getElem? (i := 58) rfl)) rfl
theorem kw_539 : (Jvm.Cond.methodLink "CarpetHalls" (176 : Nat) ({ cls := "CarpetHalls", name := "canLie", desc := "(LCarpetHalls$Floor;III)Z" } : Jvm.MethodName)) ∈ th_tb := kg (kt_3 (List.mem_of_getElem? (i := 59) rfl)) rfl
theorem kw_541 : (Jvm.Cond.instanceMethod ({ cls := "CarpetHalls", name := "canLie", desc := "(LCarpetHalls$Floor;III)Z" } : Jvm.MethodName)) ∈ th_tb := kg (kt_3 (List.mem_of_getElem? (i := 61) rfl)) rfl
theorem kw_542 : (Jvm.Cond.code ({ cls := "CarpetHalls", name := "canLie", desc := "(LCarpetHalls$Floor;III)Z" } : Jvm.MethodName) prog_1_method_48_code (5 : Nat) (Option.some Jvm.ClassFile.FieldType.boolean)) ∈ th_tb := kg (kt_3 (List.mem_of_getElem? (i := 62) rfl)) rfl
theorem kw_543 : (Jvm.Cond.methodLink "CarpetHalls" (354 : Nat) ({ cls := "CarpetHalls$Floor", name := "hasPlaceFor", desc := "(III)Z" } : Jvm.MethodName)) ∈ th_tb := kg (kt_3 (List.mem_of_getElem? (i := 63) rfl)) rfl
theorem kw_544 : (Jvm.Cond.instanceMethod ({ cls := "CarpetHalls$Floor", name := "hasPlaceFor", desc := "(III)Z" } : Jvm.MethodName)) ∈ th_tb := kg (kt_3 (List.mem_of_getElem? (i := 64) rfl)) rfl
theorem kw_545 : (Jvm.Cond.selects "CarpetHalls$Floor" ({ cls := "CarpetHalls$Floor", name := "hasPlaceFor", desc := "(III)Z" } : Jvm.MethodName) ({ cls := "CarpetHalls$Floor", name := "hasPlaceFor", desc := "(III)Z" } : Jvm.MethodName)) ∈ th_tb := kg (kt_3 (List.mem_of_getElem? (i := 65) rfl)) rfl
theorem kw_546 : (Jvm.Cond.code ({ cls := "CarpetHalls$Floor", name := "hasPlaceFor", desc := "(III)Z" } : Jvm.MethodName) prog_3_method_12_code (5 : Nat) (Option.some Jvm.ClassFile.FieldType.boolean)) ∈ th_tb := kg (kt_3 (List.mem_of_getElem? (i := 66) rfl)) rfl
theorem kw_547 : (Jvm.Cond.methodLink "CarpetHalls$Floor" (59 : Nat) ({ cls := "CarpetHalls$Floor", name := "isReady", desc := "(I)Z" } : Jvm.MethodName)) ∈ th_tb := kg (kt_3 (List.mem_of_getElem? (i := 67) rfl)) rfl
theorem kw_548 : (Jvm.Cond.instanceMethod ({ cls := "CarpetHalls$Floor", name := "isReady", desc := "(I)Z" } : Jvm.MethodName)) ∈ th_tb := kg (kt_3 (List.mem_of_getElem? (i := 68) rfl)) rfl
theorem kw_549 : (Jvm.Cond.selects "CarpetHalls$Floor" ({ cls := "CarpetHalls$Floor", name := "isReady", desc := "(I)Z" } : Jvm.MethodName) ({ cls := "CarpetHalls$Floor", name := "isReady", desc := "(I)Z" } : Jvm.MethodName)) ∈ th_tb := kg (kt_3 (List.mem_of_getElem? (i := 69) rfl)) rfl
theorem kw_550 : (Jvm.Cond.code ({ cls := "CarpetHalls$Floor", name := "isReady", desc := "(I)Z" } : Jvm.MethodName) prog_3_method_6_code (2 : Nat) (Option.some Jvm.ClassFile.FieldType.boolean)) ∈ th_tb := kg (kt_3 (List.mem_of_getElem? (i := 70) rfl)) rfl
theorem kw_551 : (Jvm.Cond.methodLink "CarpetHallsLaw" (36 : Nat) ({ cls := "CarpetHalls", name := "terms", desc := "(II)I" } : Jvm.MethodName)) ∈ th_tb := kg (kt_3 (List.mem_of_getElem? (i := 71) rfl)) rfl
theorem kw_552 : (Jvm.Cond.instanceMethod ({ cls := "CarpetHalls", name := "terms", desc := "(II)I" } : Jvm.MethodName)) ∈ th_tb := kg (kt_3 (List.mem_of_getElem? (i := 72) rfl)) rfl
theorem kw_553 : (Jvm.Cond.selects "CarpetHalls" ({ cls := "CarpetHalls", name := "terms", desc := "(II)I" } : Jvm.MethodName) ({ cls := "CarpetHalls", name := "terms", desc := "(II)I" } : Jvm.MethodName)) ∈ th_tb := kg (kt_3 (List.mem_of_getElem? (i := 73) rfl)) rfl
theorem kw_554 : (Jvm.Cond.code ({ cls := "CarpetHalls", name := "terms", desc := "(II)I" } : Jvm.MethodName) prog_1_method_7_code (4 : Nat) (Option.some Jvm.ClassFile.FieldType.int)) ∈ th_tb := kg (kt_3 (List.mem_of_getElem? (i := 74) rfl)) rfl
theorem kw_555 : (Jvm.Cond.methodLink "CarpetHalls" (180 : Nat) ({ cls := "CarpetHalls", name := "mostOfTerm", desc := "(I)I" } : Jvm.MethodName)) ∈ th_tb := kg (kt_3 (List.mem_of_getElem? (i := 75) rfl)) rfl
theorem kw_556 : (Jvm.Cond.static ({ cls := "CarpetHalls", name := "mostOfTerm", desc := "(I)I" } : Jvm.MethodName)) ∈ th_tb := kg (kt_3 (List.mem_of_getElem? (i := 76) rfl)) rfl
theorem kw_557 : (Jvm.Cond.code ({ cls := "CarpetHalls", name := "mostOfTerm", desc := "(I)I" } : Jvm.MethodName) prog_1_method_46_code (1 : Nat) (Option.some Jvm.ClassFile.FieldType.int)) ∈ th_tb := kg (kt_3 (List.mem_of_getElem? (i := 77) rfl)) rfl
theorem kw_558 : (Jvm.Cond.methodLink "CarpetHallsLaw" (40 : Nat) ({ cls := "CarpetHalls", name := "feed", desc := "(IIIII)I" } : Jvm.MethodName)) ∈ th_tb := kg (kt_3 (List.mem_of_getElem? (i := 78) rfl)) rfl
theorem kw_559 : (Jvm.Cond.instanceMethod ({ cls := "CarpetHalls", name := "feed", desc := "(IIIII)I" } : Jvm.MethodName)) ∈ th_tb := kg (kt_3 (List.mem_of_getElem? (i := 79) rfl)) rfl
theorem kw_560 : (Jvm.Cond.selects "CarpetHalls" ({ cls := "CarpetHalls", name := "feed", desc := "(IIIII)I" } : Jvm.MethodName) ({ cls := "CarpetHalls", name := "feed", desc := "(IIIII)I" } : Jvm.MethodName)) ∈ th_tb := kg (kt_3 (List.mem_of_getElem? (i := 80) rfl)) rfl
theorem kw_561 : (Jvm.Cond.code ({ cls := "CarpetHalls", name := "feed", desc := "(IIIII)I" } : Jvm.MethodName) prog_1_method_8_code (6 : Nat) (Option.some Jvm.ClassFile.FieldType.int)) ∈ th_tb := kg (kt_3 (List.mem_of_getElem? (i := 81) rfl)) rfl
theorem kw_562 : (Jvm.Cond.methodLink "CarpetHalls" (189 : Nat) ({ cls := "CarpetHalls$Tape", name := "addFour", desc := "(I)V" } : Jvm.MethodName)) ∈ th_tb := kg (kt_3 (List.mem_of_getElem? (i := 82) rfl)) rfl
theorem kw_563 : (Jvm.Cond.instanceMethod ({ cls := "CarpetHalls$Tape", name := "addFour", desc := "(I)V" } : Jvm.MethodName)) ∈ th_tb := kg (kt_3 (List.mem_of_getElem? (i := 83) rfl)) rfl
theorem kw_564 : (Jvm.Cond.selects "CarpetHalls$Tape" ({ cls := "CarpetHalls$Tape", name := "addFour", desc := "(I)V" } : Jvm.MethodName) ({ cls := "CarpetHalls$Tape", name := "addFour", desc := "(I)V" } : Jvm.MethodName)) ∈ th_tb := kg (kt_3 (List.mem_of_getElem? (i := 84) rfl)) rfl
theorem kw_565 : (Jvm.Cond.code ({ cls := "CarpetHalls$Tape", name := "addFour", desc := "(I)V" } : Jvm.MethodName) prog_11_method_2_code (3 : Nat) (Option.none : Option Jvm.ClassFile.FieldType)) ∈ th_tb := kg (kt_3 (List.mem_of_getElem? (i := 85) rfl)) rfl
theorem kw_566 : (Jvm.Cond.methodLink "CarpetHallsLaw" (45 : Nat) ({ cls := "CarpetHalls", name := "end", desc := "(I)I" } : Jvm.MethodName)) ∈ th_tb := kg (kt_3 (List.mem_of_getElem? (i := 86) rfl)) rfl
theorem kw_567 : (Jvm.Cond.instanceMethod ({ cls := "CarpetHalls", name := "end", desc := "(I)I" } : Jvm.MethodName)) ∈ th_tb := kg (kt_3 (List.mem_of_getElem? (i := 87) rfl)) rfl
theorem kw_568 : (Jvm.Cond.selects "CarpetHalls" ({ cls := "CarpetHalls", name := "end", desc := "(I)I" } : Jvm.MethodName) ({ cls := "CarpetHalls", name := "end", desc := "(I)I" } : Jvm.MethodName)) ∈ th_tb := kg (kt_3 (List.mem_of_getElem? (i := 88) rfl)) rfl
theorem kw_569 : (Jvm.Cond.code ({ cls := "CarpetHalls", name := "end", desc := "(I)I" } : Jvm.MethodName) prog_1_method_9_code (2 : Nat) (Option.some Jvm.ClassFile.FieldType.int)) ∈ th_tb := kg (kt_3 (List.mem_of_getElem? (i := 89) rfl)) rfl
theorem kw_570 : (Jvm.Cond.methodLink "CarpetHallsLaw" (50 : Nat) ({ cls := "CarpetHalls", name := "row", desc := "()I" } : Jvm.MethodName)) ∈ th_tb := kg (kt_3 (List.mem_of_getElem? (i := 90) rfl)) rfl
theorem kw_571 : (Jvm.Cond.instanceMethod ({ cls := "CarpetHalls", name := "row", desc := "()I" } : Jvm.MethodName)) ∈ th_tb := kg (kt_3 (List.mem_of_getElem? (i := 91) rfl)) rfl
theorem kw_572 : (Jvm.Cond.selects "CarpetHalls" ({ cls := "CarpetHalls", name := "row", desc := "()I" } : Jvm.MethodName) ({ cls := "CarpetHalls", name := "row", desc := "()I" } : Jvm.MethodName)) ∈ th_tb := kg (kt_3 (List.mem_of_getElem? (i := 92) rfl)) rfl
theorem kw_573 : (Jvm.Cond.code ({ cls := "CarpetHalls", name := "row", desc := "()I" } : Jvm.MethodName) prog_1_method_10_code (4 : Nat) (Option.some Jvm.ClassFile.FieldType.int)) ∈ th_tb := kg (kt_3 (List.mem_of_getElem? (i := 93) rfl)) rfl
theorem kw_574 : (Jvm.Cond.methodLink "CarpetHallsLaw" (55 : Nat) ({ cls := "CarpetHalls", name := "fluff", desc := "()I" } : Jvm.MethodName)) ∈ th_tb := kg (kt_3 (List.mem_of_getElem? (i := 94) rfl)) rfl
theorem kw_575 : (Jvm.Cond.instanceMethod ({ cls := "CarpetHalls", name := "fluff", desc := "()I" } : Jvm.MethodName)) ∈ th_tb := kg (kt_3 (List.mem_of_getElem? (i := 95) rfl)) rfl
theorem kw_576 : (Jvm.Cond.selects "CarpetHalls" ({ cls := "CarpetHalls", name := "fluff", desc := "()I" } : Jvm.MethodName) ({ cls := "CarpetHalls", name := "fluff", desc := "()I" } : Jvm.MethodName)) ∈ th_tb := kg (kt_3 (List.mem_of_getElem? (i := 96) rfl)) rfl
theorem kw_577 : (Jvm.Cond.code ({ cls := "CarpetHalls", name := "fluff", desc := "()I" } : Jvm.MethodName) prog_1_method_11_code (1 : Nat) (Option.some Jvm.ClassFile.FieldType.int)) ∈ th_tb := kg (kt_3 (List.mem_of_getElem? (i := 97) rfl)) rfl
theorem kw_578 : (Jvm.Cond.methodLink "CarpetHallsLaw" (59 : Nat) ({ cls := "CarpetHalls", name := "law", desc := "()I" } : Jvm.MethodName)) ∈ th_tb := kg (kt_3 (List.mem_of_getElem? (i := 98) rfl)) rfl
theorem kw_579 : (Jvm.Cond.instanceMethod ({ cls := "CarpetHalls", name := "law", desc := "()I" } : Jvm.MethodName)) ∈ th_tb := kg (kt_3 (List.mem_of_getElem? (i := 99) rfl)) rfl
theorem kw_580 : (Jvm.Cond.selects "CarpetHalls" ({ cls := "CarpetHalls", name := "law", desc := "()I" } : Jvm.MethodName) ({ cls := "CarpetHalls", name := "law", desc := "()I" } : Jvm.MethodName)) ∈ th_tb := kg (kt_3 (List.mem_of_getElem? (i := 100) rfl)) rfl
theorem kw_581 : (Jvm.Cond.code ({ cls := "CarpetHalls", name := "law", desc := "()I" } : Jvm.MethodName) prog_1_method_12_code (1 : Nat) (Option.some Jvm.ClassFile.FieldType.int)) ∈ th_tb := kg (kt_3 (List.mem_of_getElem? (i := 101) rfl)) rfl
theorem kw_582 : (Jvm.Cond.methodLink "CarpetHalls" (203 : Nat) ({ cls := "CarpetHalls$Reader", name := "read", desc := "(LCarpetHalls$Tape;LCarpetHalls$Text;Z)I" } : Jvm.MethodName)) ∈ th_tb := kg (kt_3 (List.mem_of_getElem? (i := 102) rfl)) rfl
theorem kw_583 : (Jvm.Cond.instanceMethod ({ cls := "CarpetHalls$Reader", name := "read", desc := "(LCarpetHalls$Tape;LCarpetHalls$Text;Z)I" } : Jvm.MethodName)) ∈ th_tb := kg (kt_3 (List.mem_of_getElem? (i := 103) rfl)) rfl
theorem kw_584 : (Jvm.Cond.selects "CarpetHalls$Reader" ({ cls := "CarpetHalls$Reader", name := "read", desc := "(LCarpetHalls$Tape;LCarpetHalls$Text;Z)I" } : Jvm.MethodName) ({ cls := "CarpetHalls$Reader", name := "read", desc := "(LCarpetHalls$Tape;LCarpetHalls$Text;Z)I" } : Jvm.MethodName)) ∈ th_tb := kg (kt_3 (List.mem_of_getElem? (i := 104) rfl)) rfl
theorem kw_585 : (Jvm.Cond.code ({ cls := "CarpetHalls$Reader", name := "read", desc := "(LCarpetHalls$Tape;LCarpetHalls$Text;Z)I" } : Jvm.MethodName) prog_7_method_2_code (5 : Nat) (Option.some Jvm.ClassFile.FieldType.int)) ∈ th_tb := kg (kt_3 (List.mem_of_getElem? (i := 105) rfl)) rfl
theorem kw_586 : (Jvm.Cond.methodLink "CarpetHalls$Reader" (43 : Nat) ({ cls := "CarpetHalls$Text", name := "clear", desc := "()V" } : Jvm.MethodName)) ∈ th_tb := kg (kt_3 (List.mem_of_getElem? (i := 106) rfl)) rfl
theorem kw_587 : (Jvm.Cond.instanceMethod ({ cls := "CarpetHalls$Text", name := "clear", desc := "()V" } : Jvm.MethodName)) ∈ th_tb := kg (kt_3 (List.mem_of_getElem? (i := 107) rfl)) rfl
theorem kw_588 : (Jvm.Cond.selects "CarpetHalls$Text" ({ cls := "CarpetHalls$Text", name := "clear", desc := "()V" } : Jvm.MethodName) ({ cls := "CarpetHalls$Text", name := "clear", desc := "()V" } : Jvm.MethodName)) ∈ th_tb := kg (kt_3 (List.mem_of_getElem? (i := 108) rfl)) rfl
theorem kw_589 : (Jvm.Cond.code ({ cls := "CarpetHalls$Text", name := "clear", desc := "()V" } : Jvm.MethodName) prog_12_method_2_code (1 : Nat) (Option.none : Option Jvm.ClassFile.FieldType)) ∈ th_tb := kg (kt_3 (List.mem_of_getElem? (i := 109) rfl)) rfl
theorem kw_590 : (Jvm.Cond.methodLink "CarpetHalls$Reader" (48 : Nat) ({ cls := "CarpetHalls$Reader", name := "scan", desc := "()V" } : Jvm.MethodName)) ∈ th_tb := kg (kt_3 (List.mem_of_getElem? (i := 110) rfl)) rfl
theorem kw_592 : (Jvm.Cond.instanceMethod ({ cls := "CarpetHalls$Reader", name := "scan", desc := "()V" } : Jvm.MethodName)) ∈ th_tb := kg (kt_3 (List.mem_of_getElem? (i := 112) rfl)) rfl
theorem kw_593 : (Jvm.Cond.code ({ cls := "CarpetHalls$Reader", name := "scan", desc := "()V" } : Jvm.MethodName) prog_7_method_3_code (6 : Nat) (Option.none : Option Jvm.ClassFile.FieldType)) ∈ th_tb := kg (kt_3 (List.mem_of_getElem? (i := 113) rfl)) rfl
theorem kw_594 : (Jvm.Cond.methodLink "CarpetHalls$Reader" (69 : Nat) ({ cls := "CarpetHalls$Reader", name := "isLetter", desc := "(I)Z" } : Jvm.MethodName)) ∈ th_tb := kg (kt_3 (List.mem_of_getElem? (i := 114) rfl)) rfl
theorem kw_595 : (Jvm.Cond.static ({ cls := "CarpetHalls$Reader", name := "isLetter", desc := "(I)Z" } : Jvm.MethodName)) ∈ th_tb := kg (kt_3 (List.mem_of_getElem? (i := 115) rfl)) rfl
theorem kw_596 : (Jvm.Cond.code ({ cls := "CarpetHalls$Reader", name := "isLetter", desc := "(I)Z" } : Jvm.MethodName) prog_7_method_4_code (1 : Nat) (Option.some Jvm.ClassFile.FieldType.boolean)) ∈ th_tb := kg (kt_3 (List.mem_of_getElem? (i := 116) rfl)) rfl
theorem kw_597 : (Jvm.Cond.methodLink "CarpetHalls$Reader" (72 : Nat) ({ cls := "CarpetHalls$Reader", name := "endOfLetters", desc := "(I)I" } : Jvm.MethodName)) ∈ th_tb := kg (kt_3 (List.mem_of_getElem? (i := 117) rfl)) rfl
theorem kw_599 : (Jvm.Cond.instanceMethod ({ cls := "CarpetHalls$Reader", name := "endOfLetters", desc := "(I)I" } : Jvm.MethodName)) ∈ th_tb := kg (kt_3 (List.mem_of_getElem? (i := 119) rfl)) rfl
theorem kw_600 : (Jvm.Cond.code ({ cls := "CarpetHalls$Reader", name := "endOfLetters", desc := "(I)I" } : Jvm.MethodName) prog_7_method_6_code (3 : Nat) (Option.some Jvm.ClassFile.FieldType.int)) ∈ th_tb := kg (kt_3 (List.mem_of_getElem? (i := 120) rfl)) rfl
theorem kw_601 : (Jvm.Cond.methodLink "CarpetHalls$Reader" (76 : Nat) ({ cls := "CarpetHalls$Reader", name := "wordFrom", desc := "(II)I" } : Jvm.MethodName)) ∈ th_tb := kg (kt_3 (List.mem_of_getElem? (i := 121) rfl)) rfl
theorem kw_603 : (Jvm.Cond.instanceMethod ({ cls := "CarpetHalls$Reader", name := "wordFrom", desc := "(II)I" } : Jvm.MethodName)) ∈ th_tb := kg (kt_3 (List.mem_of_getElem? (i := 123) rfl)) rfl
theorem kw_604 : (Jvm.Cond.code ({ cls := "CarpetHalls$Reader", name := "wordFrom", desc := "(II)I" } : Jvm.MethodName) prog_7_method_9_code (3 : Nat) (Option.some Jvm.ClassFile.FieldType.int)) ∈ th_tb := kg (kt_3 (List.mem_of_getElem? (i := 124) rfl)) rfl
theorem kw_605 : (Jvm.Cond.stringRef "CarpetHalls$Reader" (94 : Nat) "costs") ∈ lw_tbl := kt_3 (List.mem_of_getElem? (i := 125) rfl)
theorem kw_606 : (Jvm.Cond.methodLink "CarpetHalls$Reader" (96 : Nat) ({ cls := "CarpetHalls$Reader", name := "is", desc := "(Ljava/lang/String;II)Z" } : Jvm.MethodName)) ∈ th_tb := kg (kt_3 (List.mem_of_getElem? (i := 126) rfl)) rfl
theorem kw_608 : (Jvm.Cond.instanceMethod ({ cls := "CarpetHalls$Reader", name := "is", desc := "(Ljava/lang/String;II)Z" } : Jvm.MethodName)) ∈ th_tb := kg (kt_3 (List.mem_of_getElem? (i := 128) rfl)) rfl
theorem kw_609 : (Jvm.Cond.code ({ cls := "CarpetHalls$Reader", name := "is", desc := "(Ljava/lang/String;II)Z" } : Jvm.MethodName) prog_7_method_10_code (5 : Nat) (Option.some Jvm.ClassFile.FieldType.boolean)) ∈ th_tb := kg (kt_3 (List.mem_of_getElem? (i := 129) rfl)) rfl
theorem kw_610 : (Jvm.Cond.methodLink "CarpetHalls$Reader" (151 : Nat) ({ cls := "java/lang/String", name := "length", desc := "()I" } : Jvm.MethodName)) ∈ th_tb := kg (kt_3 (List.mem_of_getElem? (i := 130) rfl)) rfl
theorem kw_611 : (Jvm.Cond.instanceMethod ({ cls := "java/lang/String", name := "length", desc := "()I" } : Jvm.MethodName)) ∈ th_tb := kg (kt_3 (List.mem_of_getElem? (i := 131) rfl)) rfl
theorem kw_612 : (Jvm.Cond.selects "java/lang/String" ({ cls := "java/lang/String", name := "length", desc := "()I" } : Jvm.MethodName) ({ cls := "java/lang/String", name := "length", desc := "()I" } : Jvm.MethodName)) ∈ th_tb := kg (kt_3 (List.mem_of_getElem? (i := 132) rfl)) rfl
theorem kw_613 : (Jvm.Cond.code ({ cls := "java/lang/String", name := "length", desc := "()I" } : Jvm.MethodName) prog_17_method_54_code (1 : Nat) (Option.some Jvm.ClassFile.FieldType.int)) ∈ th_tb := kg (kt_3 (List.mem_of_getElem? (i := 133) rfl)) rfl
theorem kw_614 : (Jvm.Cond.methodLink "java/lang/String" (335 : Nat) ({ cls := "java/lang/String", name := "coder", desc := "()B" } : Jvm.MethodName)) ∈ th_tb := kg (kt_3 (List.mem_of_getElem? (i := 134) rfl)) rfl
theorem kw_615 : (Jvm.Cond.instanceMethod ({ cls := "java/lang/String", name := "coder", desc := "()B" } : Jvm.MethodName)) ∈ th_tb := kg (kt_3 (List.mem_of_getElem? (i := 135) rfl)) rfl
theorem kw_616 : (Jvm.Cond.selects "java/lang/String" ({ cls := "java/lang/String", name := "coder", desc := "()B" } : Jvm.MethodName) ({ cls := "java/lang/String", name := "coder", desc := "()B" } : Jvm.MethodName)) ∈ th_tb := kg (kt_3 (List.mem_of_getElem? (i := 136) rfl)) rfl
theorem kw_617 : (Jvm.Cond.code ({ cls := "java/lang/String", name := "coder", desc := "()B" } : Jvm.MethodName) prog_17_method_152_code (1 : Nat) (Option.some Jvm.ClassFile.FieldType.byte)) ∈ th_tb := kg (kt_3 (List.mem_of_getElem? (i := 137) rfl)) rfl
theorem kw_618 : (Jvm.Cond.fieldLink "java/lang/String" (38 : Nat) "java/lang/String" "COMPACT_STRINGS" "Z") ∈ th_tb := kg (kt_3 (List.mem_of_getElem? (i := 138) rfl)) rfl
theorem kw_619 : (Jvm.Cond.laysStatic "java/lang/String" "COMPACT_STRINGS" "Z") ∈ lw_tbl := kt_3 (List.mem_of_getElem? (i := 139) rfl)
theorem kw_620 : (Jvm.Cond.methodLink "CarpetHalls$Reader" (156 : Nat) ({ cls := "java/lang/String", name := "charAt", desc := "(I)C" } : Jvm.MethodName)) ∈ th_tb := kg (kt_3 (List.mem_of_getElem? (i := 140) rfl)) rfl
theorem kw_621 : (Jvm.Cond.instanceMethod ({ cls := "java/lang/String", name := "charAt", desc := "(I)C" } : Jvm.MethodName)) ∈ th_tb := kg (kt_3 (List.mem_of_getElem? (i := 141) rfl)) rfl
theorem kw_622 : (Jvm.Cond.selects "java/lang/String" ({ cls := "java/lang/String", name := "charAt", desc := "(I)C" } : Jvm.MethodName) ({ cls := "java/lang/String", name := "charAt", desc := "(I)C" } : Jvm.MethodName)) ∈ th_tb := kg (kt_3 (List.mem_of_getElem? (i := 142) rfl)) rfl
theorem kw_623 : (Jvm.Cond.code ({ cls := "java/lang/String", name := "charAt", desc := "(I)C" } : Jvm.MethodName) prog_17_method_56_code (2 : Nat) (Option.some Jvm.ClassFile.FieldType.char)) ∈ th_tb := kg (kt_3 (List.mem_of_getElem? (i := 143) rfl)) rfl
theorem kw_624 : (Jvm.Cond.methodLink "java/lang/String" (492 : Nat) ({ cls := "java/lang/String", name := "isLatin1", desc := "()Z" } : Jvm.MethodName)) ∈ th_tb := kg (kt_3 (List.mem_of_getElem? (i := 144) rfl)) rfl
theorem kw_625 : (Jvm.Cond.instanceMethod ({ cls := "java/lang/String", name := "isLatin1", desc := "()Z" } : Jvm.MethodName)) ∈ th_tb := kg (kt_3 (List.mem_of_getElem? (i := 145) rfl)) rfl
theorem kw_626 : (Jvm.Cond.selects "java/lang/String" ({ cls := "java/lang/String", name := "isLatin1", desc := "()Z" } : Jvm.MethodName) ({ cls := "java/lang/String", name := "isLatin1", desc := "()Z" } : Jvm.MethodName)) ∈ th_tb := kg (kt_3 (List.mem_of_getElem? (i := 146) rfl)) rfl
theorem kw_627 : (Jvm.Cond.code ({ cls := "java/lang/String", name := "isLatin1", desc := "()Z" } : Jvm.MethodName) prog_17_method_154_code (1 : Nat) (Option.some Jvm.ClassFile.FieldType.boolean)) ∈ th_tb := kg (kt_3 (List.mem_of_getElem? (i := 147) rfl)) rfl
theorem kw_628 : (Jvm.Cond.methodLink "java/lang/String" (495 : Nat) ({ cls := "java/lang/StringLatin1", name := "charAt", desc := "([BI)C" } : Jvm.MethodName)) ∈ th_tb := kg (kt_3 (List.mem_of_getElem? (i := 148) rfl)) rfl
theorem kw_629 : (Jvm.Cond.static ({ cls := "java/lang/StringLatin1", name := "charAt", desc := "([BI)C" } : Jvm.MethodName)) ∈ th_tb := kg (kt_3 (List.mem_of_getElem? (i := 149) rfl)) rfl
theorem kw_630 : (Jvm.Cond.code ({ cls := "java/lang/StringLatin1", name := "charAt", desc := "([BI)C" } : Jvm.MethodName) prog_18_method_2_code (2 : Nat) (Option.some Jvm.ClassFile.FieldType.char)) ∈ th_tb := kg (kt_3 (List.mem_of_getElem? (i := 150) rfl)) rfl
theorem kw_631 : (Jvm.Cond.methodLink "java/lang/StringLatin1" (9 : Nat) ({ cls := "java/lang/String", name := "checkIndex", desc := "(II)V" } : Jvm.MethodName)) ∈ th_tb := kg (kt_3 (List.mem_of_getElem? (i := 151) rfl)) rfl
theorem kw_632 : (Jvm.Cond.static ({ cls := "java/lang/String", name := "checkIndex", desc := "(II)V" } : Jvm.MethodName)) ∈ th_tb := kg (kt_3 (List.mem_of_getElem? (i := 152) rfl)) rfl
theorem kw_633 : (Jvm.Cond.code ({ cls := "java/lang/String", name := "checkIndex", desc := "(II)V" } : Jvm.MethodName) prog_17_method_155_code (2 : Nat) (Option.none : Option Jvm.ClassFile.FieldType)) ∈ th_tb := kg (kt_3 (List.mem_of_getElem? (i := 153) rfl)) rfl
theorem kw_634 : (Jvm.Cond.fieldLink "java/lang/String" (1053 : Nat) "jdk/internal/util/Preconditions" "SIOOBE_FORMATTER" "Ljava/util/function/BiFunction;") ∈ th_tb := kg (kt_3 (List.mem_of_getElem? (i := 154) rfl)) rfl
theorem kw_635 : (Jvm.Cond.laysStatic "jdk/internal/util/Preconditions" "SIOOBE_FORMATTER" "Ljava/util/function/BiFunction;") ∈ lw_tbl := kt_3 (List.mem_of_getElem? (i := 155) rfl)
theorem kw_636 : (Jvm.Cond.methodLink "java/lang/String" (1059 : Nat) ({ cls := "jdk/internal/util/Preconditions", name := "checkIndex", desc := "(IILjava/util/function/BiFunction;)I" } : Jvm.MethodName)) ∈ th_tb := kg (kt_3 (List.mem_of_getElem? (i := 156) rfl)) rfl
theorem kw_637 : (Jvm.Cond.static ({ cls := "jdk/internal/util/Preconditions", name := "checkIndex", desc := "(IILjava/util/function/BiFunction;)I" } : Jvm.MethodName)) ∈ th_tb := kg (kt_3 (List.mem_of_getElem? (i := 157) rfl)) rfl
theorem kw_638 : (Jvm.Cond.code ({ cls := "jdk/internal/util/Preconditions", name := "checkIndex", desc := "(IILjava/util/function/BiFunction;)I" } : Jvm.MethodName) prog_22_method_11_code (3 : Nat) (Option.some Jvm.ClassFile.FieldType.int)) ∈ th_tb := kg (kt_3 (List.mem_of_getElem? (i := 158) rfl)) rfl
theorem kw_639 : (Jvm.Cond.methodLink "java/lang/String" (498 : Nat) ({ cls := "java/lang/StringUTF16", name := "charAt", desc := "([BI)C" } : Jvm.MethodName)) ∈ th_tb := kg (kt_3 (List.mem_of_getElem? (i := 159) rfl)) rfl
theorem kw_640 : (Jvm.Cond.static ({ cls := "java/lang/StringUTF16", name := "charAt", desc := "([BI)C" } : Jvm.MethodName)) ∈ th_tb := kg (kt_3 (List.mem_of_getElem? (i := 160) rfl)) rfl
theorem kw_641 : (Jvm.Cond.code ({ cls := "java/lang/StringUTF16", name := "charAt", desc := "([BI)C" } : Jvm.MethodName) prog_19_method_83_code (2 : Nat) (Option.some Jvm.ClassFile.FieldType.char)) ∈ th_tb := kg (kt_3 (List.mem_of_getElem? (i := 161) rfl)) rfl
theorem kw_642 : (Jvm.Cond.methodLink "java/lang/StringUTF16" (67 : Nat) ({ cls := "java/lang/StringUTF16", name := "checkIndex", desc := "(I[B)V" } : Jvm.MethodName)) ∈ th_tb := kg (kt_3 (List.mem_of_getElem? (i := 162) rfl)) rfl
theorem kw_643 : (Jvm.Cond.static ({ cls := "java/lang/StringUTF16", name := "checkIndex", desc := "(I[B)V" } : Jvm.MethodName)) ∈ th_tb := kg (kt_3 (List.mem_of_getElem? (i := 163) rfl)) rfl
theorem kw_644 : (Jvm.Cond.code ({ cls := "java/lang/StringUTF16", name := "checkIndex", desc := "(I[B)V" } : Jvm.MethodName) prog_19_method_91_code (2 : Nat) (Option.none : Option Jvm.ClassFile.FieldType)) ∈ th_tb := kg (kt_3 (List.mem_of_getElem? (i := 164) rfl)) rfl
theorem kw_645 : (Jvm.Cond.methodLink "java/lang/StringUTF16" (48 : Nat) ({ cls := "java/lang/StringUTF16", name := "length", desc := "([B)I" } : Jvm.MethodName)) ∈ th_tb := kg (kt_3 (List.mem_of_getElem? (i := 165) rfl)) rfl
theorem kw_646 : (Jvm.Cond.static ({ cls := "java/lang/StringUTF16", name := "length", desc := "([B)I" } : Jvm.MethodName)) ∈ th_tb := kg (kt_3 (List.mem_of_getElem? (i := 166) rfl)) rfl
theorem kw_647 : (Jvm.Cond.code ({ cls := "java/lang/StringUTF16", name := "length", desc := "([B)I" } : Jvm.MethodName) prog_19_method_6_code (1 : Nat) (Option.some Jvm.ClassFile.FieldType.int)) ∈ th_tb := kg (kt_3 (List.mem_of_getElem? (i := 167) rfl)) rfl
theorem kw_648 : (Jvm.Cond.methodLink "java/lang/StringUTF16" (414 : Nat) ({ cls := "java/lang/String", name := "checkIndex", desc := "(II)V" } : Jvm.MethodName)) ∈ th_tb := kg (kt_3 (List.mem_of_getElem? (i := 168) rfl)) rfl
theorem kw_649 : (Jvm.Cond.methodLink "java/lang/StringUTF16" (71 : Nat) ({ cls := "java/lang/StringUTF16", name := "getChar", desc := "([BI)C" } : Jvm.MethodName)) ∈ th_tb := kg (kt_3 (List.mem_of_getElem? (i := 169) rfl)) rfl
theorem kw_650 : (Jvm.Cond.static ({ cls := "java/lang/StringUTF16", name := "getChar", desc := "([BI)C" } : Jvm.MethodName)) ∈ th_tb := kg (kt_3 (List.mem_of_getElem? (i := 170) rfl)) rfl
theorem kw_651 : (Jvm.Cond.code ({ cls := "java/lang/StringUTF16", name := "getChar", desc := "([BI)C" } : Jvm.MethodName) prog_19_method_5_code (2 : Nat) (Option.some Jvm.ClassFile.FieldType.char)) ∈ th_tb := kg (kt_3 (List.mem_of_getElem? (i := 171) rfl)) rfl
theorem kw_652 : (Jvm.Cond.fieldLink "java/lang/StringUTF16" (44 : Nat) "java/lang/StringUTF16" "$assertionsDisabled" "Z") ∈ th_tb := kg (kt_3 (List.mem_of_getElem? (i := 172) rfl)) rfl
theorem kw_653 : (Jvm.Cond.laysStatic "java/lang/StringUTF16" "$assertionsDisabled" "Z") ∈ lw_tbl := kt_3 (List.mem_of_getElem? (i := 173) rfl)
theorem kw_654 : (Jvm.Cond.fieldLink "java/lang/StringUTF16" (59 : Nat) "java/lang/StringUTF16" "HI_BYTE_SHIFT" "I") ∈ th_tb := kg (kt_3 (List.mem_of_getElem? (i := 174) rfl)) rfl
theorem kw_655 : (Jvm.Cond.laysStatic "java/lang/StringUTF16" "HI_BYTE_SHIFT" "I") ∈ lw_tbl := kt_3 (List.mem_of_getElem? (i := 175) rfl)
theorem kw_656 : (Jvm.Cond.fieldLink "java/lang/StringUTF16" (63 : Nat) "java/lang/StringUTF16" "LO_BYTE_SHIFT" "I") ∈ th_tb := kg (kt_3 (List.mem_of_getElem? (i := 176) rfl)) rfl
theorem kw_657 : (Jvm.Cond.laysStatic "java/lang/StringUTF16" "LO_BYTE_SHIFT" "I") ∈ lw_tbl := kt_3 (List.mem_of_getElem? (i := 177) rfl)
theorem kw_658 : (Jvm.Cond.stringRef "CarpetHalls$Reader" (100 : Nat) "wears") ∈ lw_tbl := kt_3 (List.mem_of_getElem? (i := 178) rfl)
theorem kw_659 : (Jvm.Cond.stringRef "CarpetHalls$Reader" (102 : Nat) "bars") ∈ lw_tbl := kt_3 (List.mem_of_getElem? (i := 179) rfl)
theorem kw_660 : (Jvm.Cond.stringRef "CarpetHalls$Reader" (104 : Nat) "lay") ∈ lw_tbl := kt_3 (List.mem_of_getElem? (i := 180) rfl)
theorem kw_661 : (Jvm.Cond.stringRef "CarpetHalls$Reader" (106 : Nat) "roll") ∈ lw_tbl := kt_3 (List.mem_of_getElem? (i := 181) rfl)
theorem kw_662 : (Jvm.Cond.stringRef "CarpetHalls$Reader" (108 : Nat) "mirror") ∈ lw_tbl := kt_3 (List.mem_of_getElem? (i := 182) rfl)
theorem kw_663 : (Jvm.Cond.stringRef "CarpetHalls$Reader" (110 : Nat) "pass") ∈ lw_tbl := kt_3 (List.mem_of_getElem? (i := 183) rfl)
theorem kw_664 : (Jvm.Cond.stringRef "CarpetHalls$Reader" (112 : Nat) "if") ∈ lw_tbl := kt_3 (List.mem_of_getElem? (i := 184) rfl)
theorem kw_665 : (Jvm.Cond.stringRef "CarpetHalls$Reader" (114 : Nat) "times") ∈ lw_tbl := kt_3 (List.mem_of_getElem? (i := 185) rfl)
theorem kw_666 : (Jvm.Cond.stringRef "CarpetHalls$Reader" (116 : Nat) "at") ∈ lw_tbl := kt_3 (List.mem_of_getElem? (i := 186) rfl)
theorem kw_667 : (Jvm.Cond.stringRef "CarpetHalls$Reader" (117 : Nat) "by") ∈ lw_tbl := kt_3 (List.mem_of_getElem? (i := 187) rfl)
theorem kw_668 : (Jvm.Cond.stringRef "CarpetHalls$Reader" (119 : Nat) "or") ∈ lw_tbl := kt_3 (List.mem_of_getElem? (i := 188) rfl)
theorem kw_669 : (Jvm.Cond.stringRef "CarpetHalls$Reader" (121 : Nat) "and") ∈ lw_tbl := kt_3 (List.mem_of_getElem? (i := 189) rfl)
theorem kw_670 : (Jvm.Cond.stringRef "CarpetHalls$Reader" (123 : Nat) "not") ∈ lw_tbl := kt_3 (List.mem_of_getElem? (i := 190) rfl)
theorem kw_671 : (Jvm.Cond.stringRef "CarpetHalls$Reader" (125 : Nat) "carpet") ∈ lw_tbl := kt_3 (List.mem_of_getElem? (i := 191) rfl)
theorem kw_672 : (Jvm.Cond.stringRef "CarpetHalls$Reader" (127 : Nat) "side") ∈ lw_tbl := kt_3 (List.mem_of_getElem? (i := 192) rfl)
theorem kw_673 : (Jvm.Cond.stringRef "CarpetHalls$Reader" (129 : Nat) "kind") ∈ lw_tbl := kt_3 (List.mem_of_getElem? (i := 193) rfl)
theorem kw_674 : (Jvm.Cond.stringRef "CarpetHalls$Reader" (131 : Nat) "pile") ∈ lw_tbl := kt_3 (List.mem_of_getElem? (i := 194) rfl)
theorem kw_675 : (Jvm.Cond.stringRef "CarpetHalls$Reader" (133 : Nat) "x") ∈ lw_tbl := kt_3 (List.mem_of_getElem? (i := 195) rfl)
theorem kw_676 : (Jvm.Cond.stringRef "CarpetHalls$Reader" (135 : Nat) "y") ∈ lw_tbl := kt_3 (List.mem_of_getElem? (i := 196) rfl)
theorem kw_677 : (Jvm.Cond.stringRef "CarpetHalls$Reader" (137 : Nat) "year") ∈ lw_tbl := kt_3 (List.mem_of_getElem? (i := 197) rfl)
theorem kw_678 : (Jvm.Cond.stringRef "CarpetHalls$Reader" (139 : Nat) "mood") ∈ lw_tbl := kt_3 (List.mem_of_getElem? (i := 198) rfl)
theorem kw_679 : (Jvm.Cond.stringRef "CarpetHalls$Reader" (141 : Nat) "done") ∈ lw_tbl := kt_3 (List.mem_of_getElem? (i := 199) rfl)
theorem kw_680 : (Jvm.Cond.stringRef "CarpetHalls$Reader" (143 : Nat) "latest") ∈ lw_tbl := kt_3 (List.mem_of_getElem? (i := 200) rfl)
theorem kw_681 : (Jvm.Cond.stringRef "CarpetHalls$Reader" (145 : Nat) "bare") ∈ lw_tbl := kt_3 (List.mem_of_getElem? (i := 201) rfl)
theorem kw_682 : (Jvm.Cond.stringRef "CarpetHalls$Reader" (147 : Nat) "paid") ∈ lw_tbl := kt_3 (List.mem_of_getElem? (i := 202) rfl)
theorem kw_683 : (Jvm.Cond.stringRef "CarpetHalls$Reader" (149 : Nat) "laid") ∈ lw_tbl := kt_3 (List.mem_of_getElem? (i := 203) rfl)
theorem kw_684 : (Jvm.Cond.methodLink "CarpetHalls$Reader" (80 : Nat) ({ cls := "CarpetHalls$Reader", name := "isDigit", desc := "(I)Z" } : Jvm.MethodName)) ∈ th_tb := kg (kt_3 (List.mem_of_getElem? (i := 204) rfl)) rfl
theorem kw_685 : (Jvm.Cond.static ({ cls := "CarpetHalls$Reader", name := "isDigit", desc := "(I)Z" } : Jvm.MethodName)) ∈ th_tb := kg (kt_3 (List.mem_of_getElem? (i := 205) rfl)) rfl
theorem kw_686 : (Jvm.Cond.code ({ cls := "CarpetHalls$Reader", name := "isDigit", desc := "(I)Z" } : Jvm.MethodName) prog_7_method_5_code (1 : Nat) (Option.some Jvm.ClassFile.FieldType.boolean)) ∈ th_tb := kg (kt_3 (List.mem_of_getElem? (i := 206) rfl)) rfl
theorem kw_687 : (Jvm.Cond.methodLink "CarpetHalls$Reader" (83 : Nat) ({ cls := "CarpetHalls$Reader", name := "endOfDigits", desc := "(I)I" } : Jvm.MethodName)) ∈ th_tb := kg (kt_3 (List.mem_of_getElem? (i := 207) rfl)) rfl
theorem kw_689 : (Jvm.Cond.instanceMethod ({ cls := "CarpetHalls$Reader", name := "endOfDigits", desc := "(I)I" } : Jvm.MethodName)) ∈ th_tb := kg (kt_3 (List.mem_of_getElem? (i := 209) rfl)) rfl
theorem kw_690 : (Jvm.Cond.code ({ cls := "CarpetHalls$Reader", name := "endOfDigits", desc := "(I)I" } : Jvm.MethodName) prog_7_method_7_code (3 : Nat) (Option.some Jvm.ClassFile.FieldType.int)) ∈ th_tb := kg (kt_3 (List.mem_of_getElem? (i := 210) rfl)) rfl
theorem kw_691 : (Jvm.Cond.methodLink "CarpetHalls$Reader" (86 : Nat) ({ cls := "CarpetHalls$Reader", name := "valueFrom", desc := "(II)I" } : Jvm.MethodName)) ∈ th_tb := kg (kt_3 (List.mem_of_getElem? (i := 211) rfl)) rfl
theorem kw_693 : (Jvm.Cond.instanceMethod ({ cls := "CarpetHalls$Reader", name := "valueFrom", desc := "(II)I" } : Jvm.MethodName)) ∈ th_tb := kg (kt_3 (List.mem_of_getElem? (i := 213) rfl)) rfl
theorem kw_694 : (Jvm.Cond.code ({ cls := "CarpetHalls$Reader", name := "valueFrom", desc := "(II)I" } : Jvm.MethodName) prog_7_method_8_code (5 : Nat) (Option.some Jvm.ClassFile.FieldType.int)) ∈ th_tb := kg (kt_3 (List.mem_of_getElem? (i := 214) rfl)) rfl
theorem kw_695 : (Jvm.Cond.methodLink "CarpetHalls$Reader" (89 : Nat) ({ cls := "java/lang/Math", name := "min", desc := "(II)I" } : Jvm.MethodName)) ∈ th_tb := kg (kt_3 (List.mem_of_getElem? (i := 215) rfl)) rfl
theorem kw_696 : (Jvm.Cond.methodLink "CarpetHalls$Reader" (51 : Nat) ({ cls := "CarpetHalls$Reader", name := "readClause", desc := "()V" } : Jvm.MethodName)) ∈ th_tb := kg (kt_3 (List.mem_of_getElem? (i := 216) rfl)) rfl
theorem kw_698 : (Jvm.Cond.instanceMethod ({ cls := "CarpetHalls$Reader", name := "readClause", desc := "()V" } : Jvm.MethodName)) ∈ th_tb := kg (kt_3 (List.mem_of_getElem? (i := 218) rfl)) rfl
theorem kw_699 : (Jvm.Cond.code ({ cls := "CarpetHalls$Reader", name := "readClause", desc := "()V" } : Jvm.MethodName) prog_7_method_15_code (3 : Nat) (Option.none : Option Jvm.ClassFile.FieldType)) ∈ th_tb := kg (kt_3 (List.mem_of_getElem? (i := 219) rfl)) rfl
theorem kw_700 : (Jvm.Cond.methodLink "CarpetHalls$Reader" (58 : Nat) ({ cls := "CarpetHalls$Reader", name := "fail", desc := "()V" } : Jvm.MethodName)) ∈ th_tb := kg (kt_3 (List.mem_of_getElem? (i := 220) rfl)) rfl
theorem kw_702 : (Jvm.Cond.instanceMethod ({ cls := "CarpetHalls$Reader", name := "fail", desc := "()V" } : Jvm.MethodName)) ∈ th_tb := kg (kt_3 (List.mem_of_getElem? (i := 222) rfl)) rfl
theorem kw_703 : (Jvm.Cond.code ({ cls := "CarpetHalls$Reader", name := "fail", desc := "()V" } : Jvm.MethodName) prog_7_method_11_code (1 : Nat) (Option.none : Option Jvm.ClassFile.FieldType)) ∈ th_tb := kg (kt_3 (List.mem_of_getElem? (i := 223) rfl)) rfl
theorem kw_704 : (Jvm.Cond.methodLink "CarpetHalls$Reader" (160 : Nat) ({ cls := "CarpetHalls$Text", name := "openClause", desc := "(I)V" } : Jvm.MethodName)) ∈ th_tb := kg (kt_3 (List.mem_of_getElem? (i := 224) rfl)) rfl
theorem kw_705 : (Jvm.Cond.instanceMethod ({ cls := "CarpetHalls$Text", name := "openClause", desc := "(I)V" } : Jvm.MethodName)) ∈ th_tb := kg (kt_3 (List.mem_of_getElem? (i := 225) rfl)) rfl
theorem kw_706 : (Jvm.Cond.selects "CarpetHalls$Text" ({ cls := "CarpetHalls$Text", name := "openClause", desc := "(I)V" } : Jvm.MethodName) ({ cls := "CarpetHalls$Text", name := "openClause", desc := "(I)V" } : Jvm.MethodName)) ∈ th_tb := kg (kt_3 (List.mem_of_getElem? (i := 226) rfl)) rfl
theorem kw_707 : (Jvm.Cond.code ({ cls := "CarpetHalls$Text", name := "openClause", desc := "(I)V" } : Jvm.MethodName) prog_12_method_7_code (2 : Nat) (Option.none : Option Jvm.ClassFile.FieldType)) ∈ th_tb := kg (kt_3 (List.mem_of_getElem? (i := 227) rfl)) rfl
theorem kw_708 : (Jvm.Cond.methodLink "CarpetHalls$Text" (35 : Nat) ({ cls := "CarpetHalls$Text", name := "setMark", desc := "(II)V" } : Jvm.MethodName)) ∈ th_tb := kg (kt_3 (List.mem_of_getElem? (i := 228) rfl)) rfl
theorem kw_709 : (Jvm.Cond.instanceMethod ({ cls := "CarpetHalls$Text", name := "setMark", desc := "(II)V" } : Jvm.MethodName)) ∈ th_tb := kg (kt_3 (List.mem_of_getElem? (i := 229) rfl)) rfl
theorem kw_710 : (Jvm.Cond.selects "CarpetHalls$Text" ({ cls := "CarpetHalls$Text", name := "setMark", desc := "(II)V" } : Jvm.MethodName) ({ cls := "CarpetHalls$Text", name := "setMark", desc := "(II)V" } : Jvm.MethodName)) ∈ th_tb := kg (kt_3 (List.mem_of_getElem? (i := 230) rfl)) rfl
theorem kw_711 : (Jvm.Cond.code ({ cls := "CarpetHalls$Text", name := "setMark", desc := "(II)V" } : Jvm.MethodName) prog_12_method_8_code (4 : Nat) (Option.none : Option Jvm.ClassFile.FieldType)) ∈ th_tb := kg (kt_3 (List.mem_of_getElem? (i := 231) rfl)) rfl
theorem kw_712 : (Jvm.Cond.methodLink "CarpetHalls$Reader" (164 : Nat) ({ cls := "CarpetHalls$Reader", name := "readSums", desc := "(I)V" } : Jvm.MethodName)) ∈ th_tb := kg (kt_3 (List.mem_of_getElem? (i := 232) rfl)) rfl
theorem kw_714 : (Jvm.Cond.instanceMethod ({ cls := "CarpetHalls$Reader", name := "readSums", desc := "(I)V" } : Jvm.MethodName)) ∈ th_tb := kg (kt_3 (List.mem_of_getElem? (i := 234) rfl)) rfl
theorem kw_715 : (Jvm.Cond.code ({ cls := "CarpetHalls$Reader", name := "readSums", desc := "(I)V" } : Jvm.MethodName) prog_7_method_16_code (3 : Nat) (Option.none : Option Jvm.ClassFile.FieldType)) ∈ th_tb := kg (kt_3 (List.mem_of_getElem? (i := 235) rfl)) rfl
theorem kw_716 : (Jvm.Cond.methodLink "CarpetHalls$Reader" (170 : Nat) ({ cls := "CarpetHalls$Text", name := "setMark", desc := "(II)V" } : Jvm.MethodName)) ∈ th_tb := kg (kt_3 (List.mem_of_getElem? (i := 236) rfl)) rfl
theorem kw_717 : (Jvm.Cond.methodLink "CarpetHalls$Reader" (54 : Nat) ({ cls := "CarpetHalls$Reader", name := "take", desc := "(I)Z" } : Jvm.MethodName)) ∈ th_tb := kg (kt_3 (List.mem_of_getElem? (i := 237) rfl)) rfl
theorem kw_719 : (Jvm.Cond.instanceMethod ({ cls := "CarpetHalls$Reader", name := "take", desc := "(I)Z" } : Jvm.MethodName)) ∈ th_tb := kg (kt_3 (List.mem_of_getElem? (i := 239) rfl)) rfl
