theorem tw_1_0 : (Jvm.Cond.initialized "SmellHowLongLaw") ∈ tbG := tv_of (tv_1 (i := 0) rfl) rfl
theorem tw_1_1 : (Jvm.Cond.initialized "SmellHowLong") ∈ tbG := tv_of (tv_1 (i := 1) rfl) rfl
theorem tw_1_2 : (Jvm.Cond.initialized "SmellHowLong$Town") ∈ tbG := tv_of (tv_1 (i := 2) rfl) rfl
theorem tw_1_3 : (Jvm.Cond.initialized "SmellHowLong$Telling") ∈ tbG := tv_of (tv_1 (i := 3) rfl) rfl
theorem tw_1_4 : (Jvm.Cond.initialized "SmellHowLong$Walks") ∈ tbG := tv_of (tv_1 (i := 4) rfl) rfl
theorem tw_1_5 : (Jvm.Cond.initialized "SmellHowLongModel") ∈ tbG := tv_of (tv_1 (i := 5) rfl) rfl
theorem tw_1_6 : (Jvm.Cond.initialized "java/lang/String") ∈ tbG := tv_of (tv_1 (i := 6) rfl) rfl
theorem tw_1_7 : (Jvm.Cond.initialized "java/lang/StringLatin1") ∈ tbG := tv_of (tv_1 (i := 7) rfl) rfl
theorem tw_1_8 : (Jvm.Cond.initialized "java/lang/Math") ∈ tbG := tv_of (tv_1 (i := 8) rfl) rfl
theorem tw_1_9 : (Jvm.Cond.initialized "java/lang/StringUTF16") ∈ tbG := tv_of (tv_1 (i := 9) rfl) rfl
theorem tw_1_10 : (Jvm.Cond.initialized "jdk/internal/util/Preconditions") ∈ tbG := tv_of (tv_1 (i := 10) rfl) rfl
theorem tw_1_11 : (Jvm.Cond.initialized "java/lang/Character") ∈ tbG := tv_of (tv_1 (i := 11) rfl) rfl
theorem tw_1_12 : (Jvm.Cond.initialized "java/lang/System") ∈ tbG := tv_of (tv_1 (i := 12) rfl) rfl
theorem tw_1_13 : (Jvm.Cond.initialized "java/lang/Integer") ∈ tbG := tv_of (tv_1 (i := 13) rfl) rfl
theorem tw_1_14 : (Jvm.Cond.classLink "SmellHowLongLaw" (7 : Nat) "SmellHowLong") ∈ tbG := tv_of (tv_1 (i := 14) rfl) rfl
theorem tw_1_15 : (Jvm.Cond.instantiable "SmellHowLong" (9 : Nat)) ∈ tbG := tv_of (tv_1 (i := 15) rfl) rfl
theorem tw_1_16 : (Jvm.Cond.methodLink "SmellHowLongLaw" (9 : Nat) ({ cls := "SmellHowLong", name := "<init>", desc := "()V" } : Jvm.MethodName)) ∈ tbG := tv_of (tv_1 (i := 16) rfl) rfl
theorem tw_1_17 : (Jvm.Cond.instanceMethod ({ cls := "SmellHowLong", name := "<init>", desc := "()V" } : Jvm.MethodName)) ∈ tbG := tv_of (tv_1 (i := 17) rfl) rfl
theorem tw_1_18 : (Jvm.Cond.code ({ cls := "SmellHowLong", name := "<init>", desc := "()V" } : Jvm.MethodName) prog_1_method_1_code (1 : Nat) (Option.none : Option Jvm.ClassFile.FieldType)) ∈ tbG := tv_of (tv_1 (i := 18) rfl) rfl
theorem tw_1_19 : (Jvm.Cond.methodLink "SmellHowLong" (1 : Nat) ({ cls := "java/lang/Object", name := "<init>", desc := "()V" } : Jvm.MethodName)) ∈ tbG := tv_of (tv_1 (i := 19) rfl) rfl
theorem tw_1_20 : (Jvm.Cond.instanceMethod ({ cls := "java/lang/Object", name := "<init>", desc := "()V" } : Jvm.MethodName)) ∈ tbG := tv_of (tv_1 (i := 20) rfl) rfl
theorem tw_1_21 : (Jvm.Cond.code ({ cls := "java/lang/Object", name := "<init>", desc := "()V" } : Jvm.MethodName) object_method_1_code (1 : Nat) (Option.none : Option Jvm.ClassFile.FieldType)) ∈ tbG := tv_of (tv_1 (i := 21) rfl) rfl
theorem tw_1_22 : (Jvm.Cond.classLink "SmellHowLong" (7 : Nat) "SmellHowLong$Town") ∈ tbG := tv_of (tv_1 (i := 22) rfl) rfl
theorem tw_1_23 : (Jvm.Cond.instantiable "SmellHowLong$Town" (12 : Nat)) ∈ tbG := tv_of (tv_1 (i := 23) rfl) rfl
theorem tv_1_24 : (Jvm.Cond.methodLinkNest "SmellHowLong" (9 : Nat) ({ cls := "SmellHowLong$Town", name := "<init>", desc := "()V" } : Jvm.MethodName) "SmellHowLong") ∈ lw_tbl := tv_1 (i := 24) rfl
theorem tw_1_25 : (Jvm.Cond.instanceMethod ({ cls := "SmellHowLong$Town", name := "<init>", desc := "()V" } : Jvm.MethodName)) ∈ tbG := tv_of (tv_1 (i := 25) rfl) rfl
theorem tw_1_26 : (Jvm.Cond.code ({ cls := "SmellHowLong$Town", name := "<init>", desc := "()V" } : Jvm.MethodName) prog_3_method_1_code (1 : Nat) (Option.none : Option Jvm.ClassFile.FieldType)) ∈ tbG := tv_of (tv_1 (i := 26) rfl) rfl
theorem tw_1_27 : (Jvm.Cond.methodLink "SmellHowLong$Town" (3 : Nat) ({ cls := "java/lang/Object", name := "<init>", desc := "()V" } : Jvm.MethodName)) ∈ tbG := tv_of (tv_1 (i := 27) rfl) rfl
theorem tw_1_28 : (Jvm.Cond.classLink "SmellHowLong$Town" (37 : Nat) "[[I") ∈ tbG := tv_of (tv_1 (i := 28) rfl) rfl
theorem tv_1_29 : (Jvm.Cond.arrayOver (Jvm.ClassFile.FieldType.array Jvm.ClassFile.FieldType.int)) ∈ lw_tbl := tv_1 (i := 29) rfl
theorem tw_1_30 : (Jvm.Cond.fieldLink "SmellHowLong$Town" (9 : Nat) "SmellHowLong$Town" "winds" "[I") ∈ tbG := tv_of (tv_1 (i := 30) rfl) rfl
theorem tw_1_31 : (Jvm.Cond.fieldLink "SmellHowLong$Town" (15 : Nat) "SmellHowLong$Town" "roofs" "I") ∈ tbG := tv_of (tv_1 (i := 31) rfl) rfl
theorem tw_1_32 : (Jvm.Cond.fieldLink "SmellHowLong$Town" (19 : Nat) "SmellHowLong$Town" "paths" "[I") ∈ tbG := tv_of (tv_1 (i := 32) rfl) rfl
theorem tw_1_33 : (Jvm.Cond.fieldLink "SmellHowLong$Town" (22 : Nat) "SmellHowLong$Town" "walkers" "I") ∈ tbG := tv_of (tv_1 (i := 33) rfl) rfl
theorem tw_1_34 : (Jvm.Cond.fieldLink "SmellHowLong$Town" (25 : Nat) "SmellHowLong$Town" "kinds" "[I") ∈ tbG := tv_of (tv_1 (i := 34) rfl) rfl
theorem tw_1_35 : (Jvm.Cond.fieldLink "SmellHowLong$Town" (28 : Nat) "SmellHowLong$Town" "places" "[I") ∈ tbG := tv_of (tv_1 (i := 35) rfl) rfl
theorem tw_1_36 : (Jvm.Cond.fieldLink "SmellHowLong$Town" (31 : Nat) "SmellHowLong$Town" "goals" "[I") ∈ tbG := tv_of (tv_1 (i := 36) rfl) rfl
theorem tw_1_37 : (Jvm.Cond.fieldLink "SmellHowLong$Town" (34 : Nat) "SmellHowLong$Town" "planLengths" "[I") ∈ tbG := tv_of (tv_1 (i := 37) rfl) rfl
theorem tw_1_38 : (Jvm.Cond.fieldLink "SmellHowLong$Town" (39 : Nat) "SmellHowLong$Town" "plans" "[[I") ∈ tbG := tv_of (tv_1 (i := 38) rfl) rfl
theorem tw_1_39 : (Jvm.Cond.fieldLink "SmellHowLong$Town" (42 : Nat) "SmellHowLong$Town" "left" "[[I") ∈ tbG := tv_of (tv_1 (i := 39) rfl) rfl
theorem tw_1_40 : (Jvm.Cond.fieldLink "SmellHowLong$Town" (45 : Nat) "SmellHowLong$Town" "minute" "I") ∈ tbG := tv_of (tv_1 (i := 40) rfl) rfl
theorem tw_1_41 : (Jvm.Cond.fieldLink "SmellHowLong$Town" (48 : Nat) "SmellHowLong$Town" "nose" "I") ∈ tbG := tv_of (tv_1 (i := 41) rfl) rfl
theorem tw_1_42 : (Jvm.Cond.laysFinal "SmellHowLong$Town" "SmellHowLong$Town" "winds" "[I") ∈ tbG := tv_of (tv_1 (i := 42) rfl) rfl
theorem tw_1_44 : (Jvm.Cond.lays "SmellHowLong$Town" "SmellHowLong$Town" "roofs" "I") ∈ tbG := tv_of (tv_1 (i := 44) rfl) rfl
theorem tw_1_46 : (Jvm.Cond.laysFinal "SmellHowLong$Town" "SmellHowLong$Town" "paths" "[I") ∈ tbG := tv_of (tv_1 (i := 46) rfl) rfl
theorem tw_1_48 : (Jvm.Cond.lays "SmellHowLong$Town" "SmellHowLong$Town" "walkers" "I") ∈ tbG := tv_of (tv_1 (i := 48) rfl) rfl
theorem tw_1_50 : (Jvm.Cond.laysFinal "SmellHowLong$Town" "SmellHowLong$Town" "kinds" "[I") ∈ tbG := tv_of (tv_1 (i := 50) rfl) rfl
theorem tw_1_52 : (Jvm.Cond.laysFinal "SmellHowLong$Town" "SmellHowLong$Town" "places" "[I") ∈ tbG := tv_of (tv_1 (i := 52) rfl) rfl
theorem tw_1_54 : (Jvm.Cond.laysFinal "SmellHowLong$Town" "SmellHowLong$Town" "goals" "[I") ∈ tbG := tv_of (tv_1 (i := 54) rfl) rfl
theorem tw_1_56 : (Jvm.Cond.laysFinal "SmellHowLong$Town" "SmellHowLong$Town" "planLengths" "[I") ∈ tbG := tv_of (tv_1 (i := 56) rfl) rfl
theorem tw_1_58 : (Jvm.Cond.laysFinal "SmellHowLong$Town" "SmellHowLong$Town" "plans" "[[I") ∈ tbG := tv_of (tv_1 (i := 58) rfl) rfl
theorem tw_1_60 : (Jvm.Cond.laysFinal "SmellHowLong$Town" "SmellHowLong$Town" "left" "[[I") ∈ tbG := tv_of (tv_1 (i := 60) rfl) rfl
theorem tw_1_62 : (Jvm.Cond.lays "SmellHowLong$Town" "SmellHowLong$Town" "minute" "I") ∈ tbG := tv_of (tv_1 (i := 62) rfl) rfl
theorem tw_1_64 : (Jvm.Cond.lays "SmellHowLong$Town" "SmellHowLong$Town" "nose" "I") ∈ tbG := tv_of (tv_1 (i := 64) rfl) rfl
theorem tw_1_67 : (Jvm.Cond.arrayClass Jvm.ClassFile.FieldType.int) ∈ tbG := tv_of (tv_1 (i := 67) rfl) rfl
theorem tw_1_68 : (Jvm.Cond.classLink "SmellHowLong" (26 : Nat) "SmellHowLong$Telling") ∈ tbG := tv_of (tv_1 (i := 68) rfl) rfl
theorem tw_1_69 : (Jvm.Cond.instantiable "SmellHowLong$Telling" (2 : Nat)) ∈ tbG := tv_of (tv_1 (i := 69) rfl) rfl
theorem tv_1_70 : (Jvm.Cond.methodLinkNest "SmellHowLong" (28 : Nat) ({ cls := "SmellHowLong$Telling", name := "<init>", desc := "()V" } : Jvm.MethodName) "SmellHowLong") ∈ lw_tbl := tv_1 (i := 70) rfl
theorem tw_1_71 : (Jvm.Cond.instanceMethod ({ cls := "SmellHowLong$Telling", name := "<init>", desc := "()V" } : Jvm.MethodName)) ∈ tbG := tv_of (tv_1 (i := 71) rfl) rfl
theorem tw_1_72 : (Jvm.Cond.code ({ cls := "SmellHowLong$Telling", name := "<init>", desc := "()V" } : Jvm.MethodName) prog_2_method_1_code (1 : Nat) (Option.none : Option Jvm.ClassFile.FieldType)) ∈ tbG := tv_of (tv_1 (i := 72) rfl) rfl
theorem tw_1_73 : (Jvm.Cond.methodLink "SmellHowLong$Telling" (3 : Nat) ({ cls := "java/lang/Object", name := "<init>", desc := "()V" } : Jvm.MethodName)) ∈ tbG := tv_of (tv_1 (i := 73) rfl) rfl
theorem tw_1_74 : (Jvm.Cond.fieldLink "SmellHowLong$Telling" (9 : Nat) "SmellHowLong$Telling" "letters" "[I") ∈ tbG := tv_of (tv_1 (i := 74) rfl) rfl
theorem tw_1_75 : (Jvm.Cond.fieldLink "SmellHowLong$Telling" (15 : Nat) "SmellHowLong$Telling" "length" "I") ∈ tbG := tv_of (tv_1 (i := 75) rfl) rfl
theorem tw_1_76 : (Jvm.Cond.laysFinal "SmellHowLong$Telling" "SmellHowLong$Telling" "letters" "[I") ∈ tbG := tv_of (tv_1 (i := 76) rfl) rfl
theorem tw_1_78 : (Jvm.Cond.lays "SmellHowLong$Telling" "SmellHowLong$Telling" "length" "I") ∈ tbG := tv_of (tv_1 (i := 78) rfl) rfl
theorem tw_1_81 : (Jvm.Cond.classLink "SmellHowLong" (33 : Nat) "SmellHowLong$Walks") ∈ tbG := tv_of (tv_1 (i := 81) rfl) rfl
theorem tw_1_82 : (Jvm.Cond.instantiable "SmellHowLong$Walks" (4 : Nat)) ∈ tbG := tv_of (tv_1 (i := 82) rfl) rfl
theorem tv_1_83 : (Jvm.Cond.methodLinkNest "SmellHowLong" (35 : Nat) ({ cls := "SmellHowLong$Walks", name := "<init>", desc := "()V" } : Jvm.MethodName) "SmellHowLong") ∈ lw_tbl := tv_1 (i := 83) rfl
theorem tw_1_84 : (Jvm.Cond.instanceMethod ({ cls := "SmellHowLong$Walks", name := "<init>", desc := "()V" } : Jvm.MethodName)) ∈ tbG := tv_of (tv_1 (i := 84) rfl) rfl
theorem tw_1_85 : (Jvm.Cond.code ({ cls := "SmellHowLong$Walks", name := "<init>", desc := "()V" } : Jvm.MethodName) prog_4_method_1_code (1 : Nat) (Option.none : Option Jvm.ClassFile.FieldType)) ∈ tbG := tv_of (tv_1 (i := 85) rfl) rfl
theorem tw_1_86 : (Jvm.Cond.methodLink "SmellHowLong$Walks" (3 : Nat) ({ cls := "java/lang/Object", name := "<init>", desc := "()V" } : Jvm.MethodName)) ∈ tbG := tv_of (tv_1 (i := 86) rfl) rfl
theorem tw_1_87 : (Jvm.Cond.classLink "SmellHowLong$Walks" (15 : Nat) "[[I") ∈ tbG := tv_of (tv_1 (i := 87) rfl) rfl
theorem tw_1_88 : (Jvm.Cond.fieldLink "SmellHowLong$Walks" (11 : Nat) "SmellHowLong$Walks" "open" "[I") ∈ tbG := tv_of (tv_1 (i := 88) rfl) rfl
theorem tw_1_89 : (Jvm.Cond.fieldLink "SmellHowLong$Walks" (17 : Nat) "SmellHowLong$Walks" "waysTo" "[[I") ∈ tbG := tv_of (tv_1 (i := 89) rfl) rfl
theorem tw_1_90 : (Jvm.Cond.fieldLink "SmellHowLong$Walks" (20 : Nat) "SmellHowLong$Walks" "waysOn" "[[I") ∈ tbG := tv_of (tv_1 (i := 90) rfl) rfl
theorem tw_1_91 : (Jvm.Cond.fieldLink "SmellHowLong$Walks" (23 : Nat) "SmellHowLong$Walks" "last" "I") ∈ tbG := tv_of (tv_1 (i := 91) rfl) rfl
theorem tw_1_92 : (Jvm.Cond.laysFinal "SmellHowLong$Walks" "SmellHowLong$Walks" "open" "[I") ∈ tbG := tv_of (tv_1 (i := 92) rfl) rfl
theorem tw_1_94 : (Jvm.Cond.laysFinal "SmellHowLong$Walks" "SmellHowLong$Walks" "waysTo" "[[I") ∈ tbG := tv_of (tv_1 (i := 94) rfl) rfl
theorem tw_1_96 : (Jvm.Cond.laysFinal "SmellHowLong$Walks" "SmellHowLong$Walks" "waysOn" "[[I") ∈ tbG := tv_of (tv_1 (i := 96) rfl) rfl
theorem tw_1_98 : (Jvm.Cond.lays "SmellHowLong$Walks" "SmellHowLong$Walks" "last" "I") ∈ tbG := tv_of (tv_1 (i := 98) rfl) rfl
theorem tw_1_101 : (Jvm.Cond.fieldLink "SmellHowLong" (10 : Nat) "SmellHowLong" "now" "LSmellHowLong$Town;") ∈ tbG := tv_of (tv_1 (i := 101) rfl) rfl
theorem tw_1_102 : (Jvm.Cond.fieldLink "SmellHowLong" (16 : Nat) "SmellHowLong" "mind" "LSmellHowLong$Town;") ∈ tbG := tv_of (tv_1 (i := 102) rfl) rfl
theorem tw_1_103 : (Jvm.Cond.fieldLink "SmellHowLong" (19 : Nat) "SmellHowLong" "taken" "LSmellHowLong$Town;") ∈ tbG := tv_of (tv_1 (i := 103) rfl) rfl
theorem tw_1_104 : (Jvm.Cond.fieldLink "SmellHowLong" (22 : Nat) "SmellHowLong" "isTaken" "Z") ∈ tbG := tv_of (tv_1 (i := 104) rfl) rfl
theorem tw_1_105 : (Jvm.Cond.fieldLink "SmellHowLong" (29 : Nat) "SmellHowLong" "telling" "LSmellHowLong$Telling;") ∈ tbG := tv_of (tv_1 (i := 105) rfl) rfl
theorem tw_1_106 : (Jvm.Cond.fieldLink "SmellHowLong" (36 : Nat) "SmellHowLong" "walks" "LSmellHowLong$Walks;") ∈ tbG := tv_of (tv_1 (i := 106) rfl) rfl
theorem tw_1_107 : (Jvm.Cond.fieldLink "SmellHowLong" (40 : Nat) "SmellHowLong" "numbers" "[I") ∈ tbG := tv_of (tv_1 (i := 107) rfl) rfl
theorem tw_1_108 : (Jvm.Cond.fieldLink "SmellHowLong" (44 : Nat) "SmellHowLong" "numbersIn" "I") ∈ tbG := tv_of (tv_1 (i := 108) rfl) rfl
theorem tw_1_109 : (Jvm.Cond.fieldLink "SmellHowLong" (48 : Nat) "SmellHowLong" "refused" "[I") ∈ tbG := tv_of (tv_1 (i := 109) rfl) rfl
theorem tw_1_110 : (Jvm.Cond.laysFinal "SmellHowLong" "SmellHowLong" "now" "LSmellHowLong$Town;") ∈ tbG := tv_of (tv_1 (i := 110) rfl) rfl
theorem tw_1_112 : (Jvm.Cond.laysFinal "SmellHowLong" "SmellHowLong" "mind" "LSmellHowLong$Town;") ∈ tbG := tv_of (tv_1 (i := 112) rfl) rfl
theorem tw_1_114 : (Jvm.Cond.laysFinal "SmellHowLong" "SmellHowLong" "taken" "LSmellHowLong$Town;") ∈ tbG := tv_of (tv_1 (i := 114) rfl) rfl
theorem tw_1_116 : (Jvm.Cond.lays "SmellHowLong" "SmellHowLong" "isTaken" "Z") ∈ tbG := tv_of (tv_1 (i := 116) rfl) rfl
theorem tw_1_118 : (Jvm.Cond.laysFinal "SmellHowLong" "SmellHowLong" "telling" "LSmellHowLong$Telling;") ∈ tbG := tv_of (tv_1 (i := 118) rfl) rfl
theorem tw_1_120 : (Jvm.Cond.laysFinal "SmellHowLong" "SmellHowLong" "walks" "LSmellHowLong$Walks;") ∈ tbG := tv_of (tv_1 (i := 120) rfl) rfl
theorem tw_1_122 : (Jvm.Cond.laysFinal "SmellHowLong" "SmellHowLong" "numbers" "[I") ∈ tbG := tv_of (tv_1 (i := 122) rfl) rfl
theorem tw_1_124 : (Jvm.Cond.lays "SmellHowLong" "SmellHowLong" "numbersIn" "I") ∈ tbG := tv_of (tv_1 (i := 124) rfl) rfl
theorem tw_1_126 : (Jvm.Cond.laysFinal "SmellHowLong" "SmellHowLong" "refused" "[I") ∈ tbG := tv_of (tv_1 (i := 126) rfl) rfl
theorem tw_1_129 : (Jvm.Cond.methodLink "SmellHowLongLaw" (13 : Nat) ({ cls := "SmellHowLong", name := "letter", desc := "(I)I" } : Jvm.MethodName)) ∈ tbG := tv_of (tv_1 (i := 129) rfl) rfl
theorem tw_1_130 : (Jvm.Cond.instanceMethod ({ cls := "SmellHowLong", name := "letter", desc := "(I)I" } : Jvm.MethodName)) ∈ tbG := tv_of (tv_1 (i := 130) rfl) rfl
theorem tw_1_131 : (Jvm.Cond.selects "SmellHowLong" ({ cls := "SmellHowLong", name := "letter", desc := "(I)I" } : Jvm.MethodName) ({ cls := "SmellHowLong", name := "letter", desc := "(I)I" } : Jvm.MethodName)) ∈ tbG := tv_of (tv_1 (i := 131) rfl) rfl
theorem tw_1_132 : (Jvm.Cond.code ({ cls := "SmellHowLong", name := "letter", desc := "(I)I" } : Jvm.MethodName) prog_1_method_2_code (2 : Nat) (Option.some Jvm.ClassFile.FieldType.int)) ∈ tbG := tv_of (tv_1 (i := 132) rfl) rfl
theorem tw_1_133 : (Jvm.Cond.methodLink "SmellHowLong" (51 : Nat) ({ cls := "SmellHowLong", name := "refuse", desc := "(I)I" } : Jvm.MethodName)) ∈ tbG := tv_of (tv_1 (i := 133) rfl) rfl
theorem tw_1_135 : (Jvm.Cond.instanceMethod ({ cls := "SmellHowLong", name := "refuse", desc := "(I)I" } : Jvm.MethodName)) ∈ tbG := tv_of (tv_1 (i := 135) rfl) rfl
theorem tw_1_136 : (Jvm.Cond.code ({ cls := "SmellHowLong", name := "refuse", desc := "(I)I" } : Jvm.MethodName) prog_1_method_30_code (2 : Nat) (Option.some Jvm.ClassFile.FieldType.int)) ∈ tbG := tv_of (tv_1 (i := 136) rfl) rfl
theorem tw_1_137 : (Jvm.Cond.methodLink "SmellHowLong" (55 : Nat) ({ cls := "SmellHowLong$Telling", name := "isFull", desc := "()Z" } : Jvm.MethodName)) ∈ tbG := tv_of (tv_1 (i := 137) rfl) rfl
theorem tw_1_138 : (Jvm.Cond.instanceMethod ({ cls := "SmellHowLong$Telling", name := "isFull", desc := "()Z" } : Jvm.MethodName)) ∈ tbG := tv_of (tv_1 (i := 138) rfl) rfl
theorem tw_1_139 : (Jvm.Cond.selects "SmellHowLong$Telling" ({ cls := "SmellHowLong$Telling", name := "isFull", desc := "()Z" } : Jvm.MethodName) ({ cls := "SmellHowLong$Telling", name := "isFull", desc := "()Z" } : Jvm.MethodName)) ∈ tbG := tv_of (tv_1 (i := 139) rfl) rfl
theorem tw_1_140 : (Jvm.Cond.code ({ cls := "SmellHowLong$Telling", name := "isFull", desc := "()Z" } : Jvm.MethodName) prog_2_method_2_code (1 : Nat) (Option.some Jvm.ClassFile.FieldType.boolean)) ∈ tbG := tv_of (tv_1 (i := 140) rfl) rfl
theorem tw_1_141 : (Jvm.Cond.methodLink "SmellHowLong" (59 : Nat) ({ cls := "SmellHowLong$Telling", name := "take", desc := "(I)I" } : Jvm.MethodName)) ∈ tbG := tv_of (tv_1 (i := 141) rfl) rfl
theorem tw_1_142 : (Jvm.Cond.instanceMethod ({ cls := "SmellHowLong$Telling", name := "take", desc := "(I)I" } : Jvm.MethodName)) ∈ tbG := tv_of (tv_1 (i := 142) rfl) rfl
theorem tw_1_143 : (Jvm.Cond.selects "SmellHowLong$Telling" ({ cls := "SmellHowLong$Telling", name := "take", desc := "(I)I" } : Jvm.MethodName) ({ cls := "SmellHowLong$Telling", name := "take", desc := "(I)I" } : Jvm.MethodName)) ∈ tbG := tv_of (tv_1 (i := 143) rfl) rfl
theorem tw_1_144 : (Jvm.Cond.code ({ cls := "SmellHowLong$Telling", name := "take", desc := "(I)I" } : Jvm.MethodName) prog_2_method_4_code (2 : Nat) (Option.some Jvm.ClassFile.FieldType.int)) ∈ tbG := tv_of (tv_1 (i := 144) rfl) rfl
theorem tw_1_145 : (Jvm.Cond.methodLink "SmellHowLong$Telling" (19 : Nat) ({ cls := "SmellHowLong$Telling", name := "isFull", desc := "()Z" } : Jvm.MethodName)) ∈ tbG := tv_of (tv_1 (i := 145) rfl) rfl
theorem tw_1_146 : (Jvm.Cond.methodLink "SmellHowLongLaw" (18 : Nat) ({ cls := "SmellHowLong", name := "town", desc := "()I" } : Jvm.MethodName)) ∈ tbG := tv_of (tv_1 (i := 146) rfl) rfl
theorem tw_1_147 : (Jvm.Cond.instanceMethod ({ cls := "SmellHowLong", name := "town", desc := "()I" } : Jvm.MethodName)) ∈ tbG := tv_of (tv_1 (i := 147) rfl) rfl
theorem tw_1_148 : (Jvm.Cond.selects "SmellHowLong" ({ cls := "SmellHowLong", name := "town", desc := "()I" } : Jvm.MethodName) ({ cls := "SmellHowLong", name := "town", desc := "()I" } : Jvm.MethodName)) ∈ tbG := tv_of (tv_1 (i := 148) rfl) rfl
theorem tw_1_149 : (Jvm.Cond.code ({ cls := "SmellHowLong", name := "town", desc := "()I" } : Jvm.MethodName) prog_1_method_3_code (2 : Nat) (Option.some Jvm.ClassFile.FieldType.int)) ∈ tbG := tv_of (tv_1 (i := 149) rfl) rfl
theorem tw_1_150 : (Jvm.Cond.methodLink "SmellHowLong" (62 : Nat) ({ cls := "SmellHowLong", name := "toldTown", desc := "()I" } : Jvm.MethodName)) ∈ tbG := tv_of (tv_1 (i := 150) rfl) rfl
theorem tw_1_152 : (Jvm.Cond.instanceMethod ({ cls := "SmellHowLong", name := "toldTown", desc := "()I" } : Jvm.MethodName)) ∈ tbG := tv_of (tv_1 (i := 152) rfl) rfl
theorem tw_1_153 : (Jvm.Cond.code ({ cls := "SmellHowLong", name := "toldTown", desc := "()I" } : Jvm.MethodName) prog_1_method_34_code (3 : Nat) (Option.some Jvm.ClassFile.FieldType.int)) ∈ tbG := tv_of (tv_1 (i := 153) rfl) rfl
theorem tw_1_154 : (Jvm.Cond.methodLink "SmellHowLong" (197 : Nat) ({ cls := "SmellHowLong$Telling", name := "firstWrongLetter", desc := "()I" } : Jvm.MethodName)) ∈ tbG := tv_of (tv_1 (i := 154) rfl) rfl
theorem tw_1_155 : (Jvm.Cond.instanceMethod ({ cls := "SmellHowLong$Telling", name := "firstWrongLetter", desc := "()I" } : Jvm.MethodName)) ∈ tbG := tv_of (tv_1 (i := 155) rfl) rfl
theorem tw_1_156 : (Jvm.Cond.selects "SmellHowLong$Telling" ({ cls := "SmellHowLong$Telling", name := "firstWrongLetter", desc := "()I" } : Jvm.MethodName) ({ cls := "SmellHowLong$Telling", name := "firstWrongLetter", desc := "()I" } : Jvm.MethodName)) ∈ tbG := tv_of (tv_1 (i := 156) rfl) rfl
theorem tw_1_157 : (Jvm.Cond.code ({ cls := "SmellHowLong$Telling", name := "firstWrongLetter", desc := "()I" } : Jvm.MethodName) prog_2_method_13_code (5 : Nat) (Option.some Jvm.ClassFile.FieldType.int)) ∈ tbG := tv_of (tv_1 (i := 157) rfl) rfl
theorem tw_1_158 : (Jvm.Cond.methodLink "SmellHowLong$Telling" (23 : Nat) ({ cls := "SmellHowLong$Telling", name := "letterAt", desc := "(I)I" } : Jvm.MethodName)) ∈ tbG := tv_of (tv_1 (i := 158) rfl) rfl
theorem tw_1_160 : (Jvm.Cond.instanceMethod ({ cls := "SmellHowLong$Telling", name := "letterAt", desc := "(I)I" } : Jvm.MethodName)) ∈ tbG := tv_of (tv_1 (i := 160) rfl) rfl
theorem tw_1_161 : (Jvm.Cond.code ({ cls := "SmellHowLong$Telling", name := "letterAt", desc := "(I)I" } : Jvm.MethodName) prog_2_method_6_code (2 : Nat) (Option.some Jvm.ClassFile.FieldType.int)) ∈ tbG := tv_of (tv_1 (i := 161) rfl) rfl
theorem tw_1_162 : (Jvm.Cond.methodLink "SmellHowLong$Telling" (34 : Nat) ({ cls := "SmellHowLong$Telling", name := "leastDigits", desc := "(I)I" } : Jvm.MethodName)) ∈ tbG := tv_of (tv_1 (i := 162) rfl) rfl
theorem tw_1_163 : (Jvm.Cond.static ({ cls := "SmellHowLong$Telling", name := "leastDigits", desc := "(I)I" } : Jvm.MethodName)) ∈ tbG := tv_of (tv_1 (i := 163) rfl) rfl
theorem tw_1_164 : (Jvm.Cond.code ({ cls := "SmellHowLong$Telling", name := "leastDigits", desc := "(I)I" } : Jvm.MethodName) prog_2_method_10_code (1 : Nat) (Option.some Jvm.ClassFile.FieldType.int)) ∈ tbG := tv_of (tv_1 (i := 164) rfl) rfl
theorem tw_1_165 : (Jvm.Cond.methodLink "SmellHowLong$Telling" (41 : Nat) ({ cls := "SmellHowLong$Telling", name := "kindAt", desc := "(I)I" } : Jvm.MethodName)) ∈ tbG := tv_of (tv_1 (i := 165) rfl) rfl
theorem tw_1_167 : (Jvm.Cond.instanceMethod ({ cls := "SmellHowLong$Telling", name := "kindAt", desc := "(I)I" } : Jvm.MethodName)) ∈ tbG := tv_of (tv_1 (i := 167) rfl) rfl
theorem tw_1_168 : (Jvm.Cond.code ({ cls := "SmellHowLong$Telling", name := "kindAt", desc := "(I)I" } : Jvm.MethodName) prog_2_method_9_code (3 : Nat) (Option.some Jvm.ClassFile.FieldType.int)) ∈ tbG := tv_of (tv_1 (i := 168) rfl) rfl
theorem tv_1_169 : (Jvm.Cond.stringRef "SmellHowLong$Telling" (27 : Nat) "wlfsbc") ∈ lw_tbl := tv_1 (i := 169) rfl
theorem tw_1_170 : (Jvm.Cond.methodLink "SmellHowLong$Telling" (29 : Nat) ({ cls := "java/lang/String", name := "indexOf", desc := "(I)I" } : Jvm.MethodName)) ∈ tbG := tv_of (tv_1 (i := 170) rfl) rfl
theorem tw_1_171 : (Jvm.Cond.instanceMethod ({ cls := "java/lang/String", name := "indexOf", desc := "(I)I" } : Jvm.MethodName)) ∈ tbG := tv_of (tv_1 (i := 171) rfl) rfl
theorem tw_1_172 : (Jvm.Cond.selects "java/lang/String" ({ cls := "java/lang/String", name := "indexOf", desc := "(I)I" } : Jvm.MethodName) ({ cls := "java/lang/String", name := "indexOf", desc := "(I)I" } : Jvm.MethodName)) ∈ tbG := tv_of (tv_1 (i := 172) rfl) rfl
theorem tw_1_173 : (Jvm.Cond.code ({ cls := "java/lang/String", name := "indexOf", desc := "(I)I" } : Jvm.MethodName) prog_10_method_79_code (2 : Nat) (Option.some Jvm.ClassFile.FieldType.int)) ∈ tbG := tv_of (tv_1 (i := 173) rfl) rfl
theorem tw_1_174 : (Jvm.Cond.methodLink "java/lang/String" (633 : Nat) ({ cls := "java/lang/String", name := "indexOf", desc := "(II)I" } : Jvm.MethodName)) ∈ tbG := tv_of (tv_1 (i := 174) rfl) rfl
theorem tw_1_175 : (Jvm.Cond.instanceMethod ({ cls := "java/lang/String", name := "indexOf", desc := "(II)I" } : Jvm.MethodName)) ∈ tbG := tv_of (tv_1 (i := 175) rfl) rfl
theorem tw_1_176 : (Jvm.Cond.selects "java/lang/String" ({ cls := "java/lang/String", name := "indexOf", desc := "(II)I" } : Jvm.MethodName) ({ cls := "java/lang/String", name := "indexOf", desc := "(II)I" } : Jvm.MethodName)) ∈ tbG := tv_of (tv_1 (i := 176) rfl) rfl
theorem tw_1_177 : (Jvm.Cond.code ({ cls := "java/lang/String", name := "indexOf", desc := "(II)I" } : Jvm.MethodName) prog_10_method_80_code (3 : Nat) (Option.some Jvm.ClassFile.FieldType.int)) ∈ tbG := tv_of (tv_1 (i := 177) rfl) rfl
theorem tw_1_178 : (Jvm.Cond.methodLink "java/lang/String" (492 : Nat) ({ cls := "java/lang/String", name := "isLatin1", desc := "()Z" } : Jvm.MethodName)) ∈ tbG := tv_of (tv_1 (i := 178) rfl) rfl
theorem tw_1_179 : (Jvm.Cond.instanceMethod ({ cls := "java/lang/String", name := "isLatin1", desc := "()Z" } : Jvm.MethodName)) ∈ tbG := tv_of (tv_1 (i := 179) rfl) rfl
theorem tw_1_180 : (Jvm.Cond.selects "java/lang/String" ({ cls := "java/lang/String", name := "isLatin1", desc := "()Z" } : Jvm.MethodName) ({ cls := "java/lang/String", name := "isLatin1", desc := "()Z" } : Jvm.MethodName)) ∈ tbG := tv_of (tv_1 (i := 180) rfl) rfl
theorem tw_1_181 : (Jvm.Cond.code ({ cls := "java/lang/String", name := "isLatin1", desc := "()Z" } : Jvm.MethodName) prog_10_method_154_code (1 : Nat) (Option.some Jvm.ClassFile.FieldType.boolean)) ∈ tbG := tv_of (tv_1 (i := 181) rfl) rfl
theorem tw_1_182 : (Jvm.Cond.fieldLink "java/lang/String" (38 : Nat) "java/lang/String" "COMPACT_STRINGS" "Z") ∈ tbG := tv_of (tv_1 (i := 182) rfl) rfl
theorem tv_1_183 : (Jvm.Cond.laysStatic "java/lang/String" "COMPACT_STRINGS" "Z") ∈ lw_tbl := tv_1 (i := 183) rfl
theorem tw_1_184 : (Jvm.Cond.methodLink "java/lang/String" (505 : Nat) ({ cls := "java/lang/String", name := "length", desc := "()I" } : Jvm.MethodName)) ∈ tbG := tv_of (tv_1 (i := 184) rfl) rfl
theorem tw_1_185 : (Jvm.Cond.instanceMethod ({ cls := "java/lang/String", name := "length", desc := "()I" } : Jvm.MethodName)) ∈ tbG := tv_of (tv_1 (i := 185) rfl) rfl
theorem tw_1_186 : (Jvm.Cond.selects "java/lang/String" ({ cls := "java/lang/String", name := "length", desc := "()I" } : Jvm.MethodName) ({ cls := "java/lang/String", name := "length", desc := "()I" } : Jvm.MethodName)) ∈ tbG := tv_of (tv_1 (i := 186) rfl) rfl
theorem tw_1_187 : (Jvm.Cond.code ({ cls := "java/lang/String", name := "length", desc := "()I" } : Jvm.MethodName) prog_10_method_54_code (1 : Nat) (Option.some Jvm.ClassFile.FieldType.int)) ∈ tbG := tv_of (tv_1 (i := 187) rfl) rfl
theorem tw_1_188 : (Jvm.Cond.methodLink "java/lang/String" (335 : Nat) ({ cls := "java/lang/String", name := "coder", desc := "()B" } : Jvm.MethodName)) ∈ tbG := tv_of (tv_1 (i := 188) rfl) rfl
theorem tw_1_189 : (Jvm.Cond.instanceMethod ({ cls := "java/lang/String", name := "coder", desc := "()B" } : Jvm.MethodName)) ∈ tbG := tv_of (tv_1 (i := 189) rfl) rfl
theorem tw_1_190 : (Jvm.Cond.selects "java/lang/String" ({ cls := "java/lang/String", name := "coder", desc := "()B" } : Jvm.MethodName) ({ cls := "java/lang/String", name := "coder", desc := "()B" } : Jvm.MethodName)) ∈ tbG := tv_of (tv_1 (i := 190) rfl) rfl
theorem tw_1_191 : (Jvm.Cond.code ({ cls := "java/lang/String", name := "coder", desc := "()B" } : Jvm.MethodName) prog_10_method_152_code (1 : Nat) (Option.some Jvm.ClassFile.FieldType.byte)) ∈ tbG := tv_of (tv_1 (i := 191) rfl) rfl
theorem tw_1_192 : (Jvm.Cond.methodLink "java/lang/String" (637 : Nat) ({ cls := "java/lang/StringLatin1", name := "indexOf", desc := "([BIII)I" } : Jvm.MethodName)) ∈ tbG := tv_of (tv_1 (i := 192) rfl) rfl
theorem tw_1_193 : (Jvm.Cond.static ({ cls := "java/lang/StringLatin1", name := "indexOf", desc := "([BIII)I" } : Jvm.MethodName)) ∈ tbG := tv_of (tv_1 (i := 193) rfl) rfl
theorem tw_1_194 : (Jvm.Cond.code ({ cls := "java/lang/StringLatin1", name := "indexOf", desc := "([BIII)I" } : Jvm.MethodName) prog_11_method_22_code (4 : Nat) (Option.some Jvm.ClassFile.FieldType.int)) ∈ tbG := tv_of (tv_1 (i := 194) rfl) rfl
theorem tw_1_195 : (Jvm.Cond.methodLink "java/lang/StringLatin1" (88 : Nat) ({ cls := "java/lang/StringLatin1", name := "canEncode", desc := "(I)Z" } : Jvm.MethodName)) ∈ tbG := tv_of (tv_1 (i := 195) rfl) rfl
theorem tw_1_196 : (Jvm.Cond.static ({ cls := "java/lang/StringLatin1", name := "canEncode", desc := "(I)Z" } : Jvm.MethodName)) ∈ tbG := tv_of (tv_1 (i := 196) rfl) rfl
theorem tw_1_197 : (Jvm.Cond.code ({ cls := "java/lang/StringLatin1", name := "canEncode", desc := "(I)Z" } : Jvm.MethodName) prog_11_method_4_code (1 : Nat) (Option.some Jvm.ClassFile.FieldType.boolean)) ∈ tbG := tv_of (tv_1 (i := 197) rfl) rfl
theorem tw_1_198 : (Jvm.Cond.methodLink "java/lang/StringLatin1" (92 : Nat) ({ cls := "java/lang/Math", name := "max", desc := "(II)I" } : Jvm.MethodName)) ∈ tbG := tv_of (tv_1 (i := 198) rfl) rfl
theorem tw_1_199 : (Jvm.Cond.static ({ cls := "java/lang/Math", name := "max", desc := "(II)I" } : Jvm.MethodName)) ∈ tbG := tv_of (tv_1 (i := 199) rfl) rfl
theorem tw_1_200 : (Jvm.Cond.code ({ cls := "java/lang/Math", name := "max", desc := "(II)I" } : Jvm.MethodName) prog_9_method_65_code (2 : Nat) (Option.some Jvm.ClassFile.FieldType.int)) ∈ tbG := tv_of (tv_1 (i := 200) rfl) rfl
theorem tw_1_201 : (Jvm.Cond.methodLink "java/lang/StringLatin1" (38 : Nat) ({ cls := "java/lang/Math", name := "min", desc := "(II)I" } : Jvm.MethodName)) ∈ tbG := tv_of (tv_1 (i := 201) rfl) rfl
theorem tw_1_202 : (Jvm.Cond.static ({ cls := "java/lang/Math", name := "min", desc := "(II)I" } : Jvm.MethodName)) ∈ tbG := tv_of (tv_1 (i := 202) rfl) rfl
theorem tw_1_203 : (Jvm.Cond.code ({ cls := "java/lang/Math", name := "min", desc := "(II)I" } : Jvm.MethodName) prog_9_method_69_code (2 : Nat) (Option.some Jvm.ClassFile.FieldType.int)) ∈ tbG := tv_of (tv_1 (i := 203) rfl) rfl
theorem tw_1_204 : (Jvm.Cond.methodLink "java/lang/StringLatin1" (95 : Nat) ({ cls := "java/lang/StringLatin1", name := "indexOfChar", desc := "([BIII)I" } : Jvm.MethodName)) ∈ tbG := tv_of (tv_1 (i := 204) rfl) rfl
theorem tw_1_205 : (Jvm.Cond.static ({ cls := "java/lang/StringLatin1", name := "indexOfChar", desc := "([BIII)I" } : Jvm.MethodName)) ∈ tbG := tv_of (tv_1 (i := 205) rfl) rfl
theorem tw_1_206 : (Jvm.Cond.code ({ cls := "java/lang/StringLatin1", name := "indexOfChar", desc := "([BIII)I" } : Jvm.MethodName) prog_11_method_23_code (6 : Nat) (Option.some Jvm.ClassFile.FieldType.int)) ∈ tbG := tv_of (tv_1 (i := 206) rfl) rfl
theorem tw_1_207 : (Jvm.Cond.methodLink "java/lang/String" (640 : Nat) ({ cls := "java/lang/StringUTF16", name := "indexOf", desc := "([BIII)I" } : Jvm.MethodName)) ∈ tbG := tv_of (tv_1 (i := 207) rfl) rfl
theorem tw_1_208 : (Jvm.Cond.static ({ cls := "java/lang/StringUTF16", name := "indexOf", desc := "([BIII)I" } : Jvm.MethodName)) ∈ tbG := tv_of (tv_1 (i := 208) rfl) rfl
theorem tw_1_209 : (Jvm.Cond.code ({ cls := "java/lang/StringUTF16", name := "indexOf", desc := "([BIII)I" } : Jvm.MethodName) prog_12_method_40_code (4 : Nat) (Option.some Jvm.ClassFile.FieldType.int)) ∈ tbG := tv_of (tv_1 (i := 209) rfl) rfl
theorem tw_1_210 : (Jvm.Cond.methodLink "java/lang/StringUTF16" (224 : Nat) ({ cls := "java/lang/Math", name := "max", desc := "(II)I" } : Jvm.MethodName)) ∈ tbG := tv_of (tv_1 (i := 210) rfl) rfl
theorem tw_1_211 : (Jvm.Cond.methodLink "java/lang/StringUTF16" (183 : Nat) ({ cls := "java/lang/Math", name := "min", desc := "(II)I" } : Jvm.MethodName)) ∈ tbG := tv_of (tv_1 (i := 211) rfl) rfl
theorem tw_1_212 : (Jvm.Cond.constant "java/lang/StringUTF16" (227 : Nat) (65536 : Int32)) ∈ tbG := tv_of (tv_1 (i := 212) rfl) rfl
theorem tw_1_213 : (Jvm.Cond.methodLink "java/lang/StringUTF16" (228 : Nat) ({ cls := "java/lang/StringUTF16", name := "indexOfChar", desc := "([BIII)I" } : Jvm.MethodName)) ∈ tbG := tv_of (tv_1 (i := 213) rfl) rfl
theorem tw_1_214 : (Jvm.Cond.static ({ cls := "java/lang/StringUTF16", name := "indexOfChar", desc := "([BIII)I" } : Jvm.MethodName)) ∈ tbG := tv_of (tv_1 (i := 214) rfl) rfl
theorem tw_1_215 : (Jvm.Cond.code ({ cls := "java/lang/StringUTF16", name := "indexOfChar", desc := "([BIII)I" } : Jvm.MethodName) prog_12_method_47_code (4 : Nat) (Option.some Jvm.ClassFile.FieldType.int)) ∈ tbG := tv_of (tv_1 (i := 215) rfl) rfl
theorem tw_1_216 : (Jvm.Cond.methodLink "java/lang/StringUTF16" (96 : Nat) ({ cls := "java/lang/StringUTF16", name := "checkBoundsBeginEnd", desc := "(II[B)V" } : Jvm.MethodName)) ∈ tbG := tv_of (tv_1 (i := 216) rfl) rfl
theorem tw_1_217 : (Jvm.Cond.static ({ cls := "java/lang/StringUTF16", name := "checkBoundsBeginEnd", desc := "(II[B)V" } : Jvm.MethodName)) ∈ tbG := tv_of (tv_1 (i := 217) rfl) rfl
theorem tw_1_218 : (Jvm.Cond.code ({ cls := "java/lang/StringUTF16", name := "checkBoundsBeginEnd", desc := "(II[B)V" } : Jvm.MethodName) prog_12_method_93_code (3 : Nat) (Option.none : Option Jvm.ClassFile.FieldType)) ∈ tbG := tv_of (tv_1 (i := 218) rfl) rfl
theorem tw_1_219 : (Jvm.Cond.methodLink "java/lang/StringUTF16" (48 : Nat) ({ cls := "java/lang/StringUTF16", name := "length", desc := "([B)I" } : Jvm.MethodName)) ∈ tbG := tv_of (tv_1 (i := 219) rfl) rfl
theorem tw_1_220 : (Jvm.Cond.static ({ cls := "java/lang/StringUTF16", name := "length", desc := "([B)I" } : Jvm.MethodName)) ∈ tbG := tv_of (tv_1 (i := 220) rfl) rfl
theorem tw_1_221 : (Jvm.Cond.code ({ cls := "java/lang/StringUTF16", name := "length", desc := "([B)I" } : Jvm.MethodName) prog_12_method_6_code (1 : Nat) (Option.some Jvm.ClassFile.FieldType.int)) ∈ tbG := tv_of (tv_1 (i := 221) rfl) rfl
theorem tw_1_222 : (Jvm.Cond.methodLink "java/lang/StringUTF16" (241 : Nat) ({ cls := "java/lang/String", name := "checkBoundsBeginEnd", desc := "(III)V" } : Jvm.MethodName)) ∈ tbG := tv_of (tv_1 (i := 222) rfl) rfl
theorem tw_1_223 : (Jvm.Cond.static ({ cls := "java/lang/String", name := "checkBoundsBeginEnd", desc := "(III)V" } : Jvm.MethodName)) ∈ tbG := tv_of (tv_1 (i := 223) rfl) rfl
theorem tw_1_224 : (Jvm.Cond.code ({ cls := "java/lang/String", name := "checkBoundsBeginEnd", desc := "(III)V" } : Jvm.MethodName) prog_10_method_158_code (3 : Nat) (Option.none : Option Jvm.ClassFile.FieldType)) ∈ tbG := tv_of (tv_1 (i := 224) rfl) rfl
theorem tw_1_225 : (Jvm.Cond.fieldLink "java/lang/String" (1053 : Nat) "jdk/internal/util/Preconditions" "SIOOBE_FORMATTER" "Ljava/util/function/BiFunction;") ∈ tbG := tv_of (tv_1 (i := 225) rfl) rfl
theorem tv_1_226 : (Jvm.Cond.laysStatic "jdk/internal/util/Preconditions" "SIOOBE_FORMATTER" "Ljava/util/function/BiFunction;") ∈ lw_tbl := tv_1 (i := 226) rfl
theorem tw_1_227 : (Jvm.Cond.methodLink "java/lang/String" (1062 : Nat) ({ cls := "jdk/internal/util/Preconditions", name := "checkFromToIndex", desc := "(IIILjava/util/function/BiFunction;)I" } : Jvm.MethodName)) ∈ tbG := tv_of (tv_1 (i := 227) rfl) rfl
theorem tw_1_228 : (Jvm.Cond.static ({ cls := "jdk/internal/util/Preconditions", name := "checkFromToIndex", desc := "(IIILjava/util/function/BiFunction;)I" } : Jvm.MethodName)) ∈ tbG := tv_of (tv_1 (i := 228) rfl) rfl
theorem tw_1_229 : (Jvm.Cond.code ({ cls := "jdk/internal/util/Preconditions", name := "checkFromToIndex", desc := "(IIILjava/util/function/BiFunction;)I" } : Jvm.MethodName) prog_14_method_12_code (4 : Nat) (Option.some Jvm.ClassFile.FieldType.int)) ∈ tbG := tv_of (tv_1 (i := 229) rfl) rfl
theorem tw_1_230 : (Jvm.Cond.methodLink "java/lang/StringUTF16" (244 : Nat) ({ cls := "java/lang/StringUTF16", name := "indexOfCharUnsafe", desc := "([BIII)I" } : Jvm.MethodName)) ∈ tbG := tv_of (tv_1 (i := 230) rfl) rfl
theorem tw_1_231 : (Jvm.Cond.static ({ cls := "java/lang/StringUTF16", name := "indexOfCharUnsafe", desc := "([BIII)I" } : Jvm.MethodName)) ∈ tbG := tv_of (tv_1 (i := 231) rfl) rfl
theorem tw_1_232 : (Jvm.Cond.code ({ cls := "java/lang/StringUTF16", name := "indexOfCharUnsafe", desc := "([BIII)I" } : Jvm.MethodName) prog_12_method_48_code (5 : Nat) (Option.some Jvm.ClassFile.FieldType.int)) ∈ tbG := tv_of (tv_1 (i := 232) rfl) rfl
theorem tw_1_233 : (Jvm.Cond.methodLink "java/lang/StringUTF16" (71 : Nat) ({ cls := "java/lang/StringUTF16", name := "getChar", desc := "([BI)C" } : Jvm.MethodName)) ∈ tbG := tv_of (tv_1 (i := 233) rfl) rfl
theorem tw_1_234 : (Jvm.Cond.static ({ cls := "java/lang/StringUTF16", name := "getChar", desc := "([BI)C" } : Jvm.MethodName)) ∈ tbG := tv_of (tv_1 (i := 234) rfl) rfl
theorem tw_1_235 : (Jvm.Cond.code ({ cls := "java/lang/StringUTF16", name := "getChar", desc := "([BI)C" } : Jvm.MethodName) prog_12_method_5_code (2 : Nat) (Option.some Jvm.ClassFile.FieldType.char)) ∈ tbG := tv_of (tv_1 (i := 235) rfl) rfl
theorem tw_1_236 : (Jvm.Cond.fieldLink "java/lang/StringUTF16" (44 : Nat) "java/lang/StringUTF16" "$assertionsDisabled" "Z") ∈ tbG := tv_of (tv_1 (i := 236) rfl) rfl
theorem tv_1_237 : (Jvm.Cond.laysStatic "java/lang/StringUTF16" "$assertionsDisabled" "Z") ∈ lw_tbl := tv_1 (i := 237) rfl
theorem tw_1_238 : (Jvm.Cond.fieldLink "java/lang/StringUTF16" (59 : Nat) "java/lang/StringUTF16" "HI_BYTE_SHIFT" "I") ∈ tbG := tv_of (tv_1 (i := 238) rfl) rfl
theorem tv_1_239 : (Jvm.Cond.laysStatic "java/lang/StringUTF16" "HI_BYTE_SHIFT" "I") ∈ lw_tbl := tv_1 (i := 239) rfl
theorem tw_2_0 : (Jvm.Cond.fieldLink "java/lang/StringUTF16" (63 : Nat) "java/lang/StringUTF16" "LO_BYTE_SHIFT" "I") ∈ tbG := tv_of (tv_2 (i := 0) rfl) rfl
theorem tv_2_1 : (Jvm.Cond.laysStatic "java/lang/StringUTF16" "LO_BYTE_SHIFT" "I") ∈ lw_tbl := tv_2 (i := 1) rfl
theorem tw_2_2 : (Jvm.Cond.methodLink "java/lang/StringUTF16" (232 : Nat) ({ cls := "java/lang/StringUTF16", name := "indexOfSupplementary", desc := "([BIII)I" } : Jvm.MethodName)) ∈ tbG := tv_of (tv_2 (i := 2) rfl) rfl
theorem tw_2_3 : (Jvm.Cond.static ({ cls := "java/lang/StringUTF16", name := "indexOfSupplementary", desc := "([BIII)I" } : Jvm.MethodName)) ∈ tbG := tv_of (tv_2 (i := 3) rfl) rfl
theorem tw_2_4 : (Jvm.Cond.code ({ cls := "java/lang/StringUTF16", name := "indexOfSupplementary", desc := "([BIII)I" } : Jvm.MethodName) prog_12_method_49_code (7 : Nat) (Option.some Jvm.ClassFile.FieldType.int)) ∈ tbG := tv_of (tv_2 (i := 4) rfl) rfl
theorem tw_2_5 : (Jvm.Cond.methodLink "java/lang/StringUTF16" (164 : Nat) ({ cls := "java/lang/Character", name := "isValidCodePoint", desc := "(I)Z" } : Jvm.MethodName)) ∈ tbG := tv_of (tv_2 (i := 5) rfl) rfl
theorem tw_2_6 : (Jvm.Cond.static ({ cls := "java/lang/Character", name := "isValidCodePoint", desc := "(I)Z" } : Jvm.MethodName)) ∈ tbG := tv_of (tv_2 (i := 6) rfl) rfl
theorem tw_2_7 : (Jvm.Cond.code ({ cls := "java/lang/Character", name := "isValidCodePoint", desc := "(I)Z" } : Jvm.MethodName) prog_7_method_11_code (2 : Nat) (Option.some Jvm.ClassFile.FieldType.boolean)) ∈ tbG := tv_of (tv_2 (i := 7) rfl) rfl
theorem tw_2_8 : (Jvm.Cond.methodLink "java/lang/StringUTF16" (157 : Nat) ({ cls := "java/lang/Character", name := "highSurrogate", desc := "(I)C" } : Jvm.MethodName)) ∈ tbG := tv_of (tv_2 (i := 8) rfl) rfl
theorem tw_2_9 : (Jvm.Cond.static ({ cls := "java/lang/Character", name := "highSurrogate", desc := "(I)C" } : Jvm.MethodName)) ∈ tbG := tv_of (tv_2 (i := 9) rfl) rfl
theorem tw_2_10 : (Jvm.Cond.code ({ cls := "java/lang/Character", name := "highSurrogate", desc := "(I)C" } : Jvm.MethodName) prog_7_method_28_code (1 : Nat) (Option.some Jvm.ClassFile.FieldType.char)) ∈ tbG := tv_of (tv_2 (i := 10) rfl) rfl
theorem tw_2_11 : (Jvm.Cond.constant "java/lang/Character" (110 : Nat) (55232 : Int32)) ∈ tbG := tv_of (tv_2 (i := 11) rfl) rfl
theorem tw_2_12 : (Jvm.Cond.methodLink "java/lang/StringUTF16" (161 : Nat) ({ cls := "java/lang/Character", name := "lowSurrogate", desc := "(I)C" } : Jvm.MethodName)) ∈ tbG := tv_of (tv_2 (i := 12) rfl) rfl
theorem tw_2_13 : (Jvm.Cond.static ({ cls := "java/lang/Character", name := "lowSurrogate", desc := "(I)C" } : Jvm.MethodName)) ∈ tbG := tv_of (tv_2 (i := 13) rfl) rfl
theorem tw_2_14 : (Jvm.Cond.code ({ cls := "java/lang/Character", name := "lowSurrogate", desc := "(I)C" } : Jvm.MethodName) prog_7_method_29_code (1 : Nat) (Option.some Jvm.ClassFile.FieldType.char)) ∈ tbG := tv_of (tv_2 (i := 14) rfl) rfl
theorem tw_2_15 : (Jvm.Cond.constant "java/lang/Character" (76 : Nat) (56320 : Int32)) ∈ tbG := tv_of (tv_2 (i := 15) rfl) rfl
theorem tw_2_16 : (Jvm.Cond.methodLink "SmellHowLong$Telling" (44 : Nat) ({ cls := "SmellHowLong$Telling", name := "mostDigits", desc := "(I)I" } : Jvm.MethodName)) ∈ tbG := tv_of (tv_2 (i := 16) rfl) rfl
theorem tw_2_17 : (Jvm.Cond.static ({ cls := "SmellHowLong$Telling", name := "mostDigits", desc := "(I)I" } : Jvm.MethodName)) ∈ tbG := tv_of (tv_2 (i := 17) rfl) rfl
theorem tw_2_18 : (Jvm.Cond.code ({ cls := "SmellHowLong$Telling", name := "mostDigits", desc := "(I)I" } : Jvm.MethodName) prog_2_method_11_code (1 : Nat) (Option.some Jvm.ClassFile.FieldType.int)) ∈ tbG := tv_of (tv_2 (i := 18) rfl) rfl
theorem tw_2_19 : (Jvm.Cond.methodLink "SmellHowLong$Telling" (47 : Nat) ({ cls := "SmellHowLong$Telling", name := "digitsFrom", desc := "(II)I" } : Jvm.MethodName)) ∈ tbG := tv_of (tv_2 (i := 19) rfl) rfl
theorem tw_2_21 : (Jvm.Cond.instanceMethod ({ cls := "SmellHowLong$Telling", name := "digitsFrom", desc := "(II)I" } : Jvm.MethodName)) ∈ tbG := tv_of (tv_2 (i := 21) rfl) rfl
theorem tw_2_22 : (Jvm.Cond.code ({ cls := "SmellHowLong$Telling", name := "digitsFrom", desc := "(II)I" } : Jvm.MethodName) prog_2_method_12_code (4 : Nat) (Option.some Jvm.ClassFile.FieldType.int)) ∈ tbG := tv_of (tv_2 (i := 22) rfl) rfl
theorem tw_2_23 : (Jvm.Cond.methodLink "SmellHowLong$Telling" (37 : Nat) ({ cls := "SmellHowLong$Telling", name := "isDigit", desc := "(I)Z" } : Jvm.MethodName)) ∈ tbG := tv_of (tv_2 (i := 23) rfl) rfl
theorem tw_2_25 : (Jvm.Cond.instanceMethod ({ cls := "SmellHowLong$Telling", name := "isDigit", desc := "(I)Z" } : Jvm.MethodName)) ∈ tbG := tv_of (tv_2 (i := 25) rfl) rfl
theorem tw_2_26 : (Jvm.Cond.code ({ cls := "SmellHowLong$Telling", name := "isDigit", desc := "(I)Z" } : Jvm.MethodName) prog_2_method_7_code (3 : Nat) (Option.some Jvm.ClassFile.FieldType.boolean)) ∈ tbG := tv_of (tv_2 (i := 26) rfl) rfl
theorem tw_2_27 : (Jvm.Cond.methodLink "SmellHowLong" (148 : Nat) ({ cls := "SmellHowLong$Town", name := "become", desc := "(LSmellHowLong$Town;)V" } : Jvm.MethodName)) ∈ tbG := tv_of (tv_2 (i := 27) rfl) rfl
theorem tw_2_28 : (Jvm.Cond.instanceMethod ({ cls := "SmellHowLong$Town", name := "become", desc := "(LSmellHowLong$Town;)V" } : Jvm.MethodName)) ∈ tbG := tv_of (tv_2 (i := 28) rfl) rfl
theorem tw_2_29 : (Jvm.Cond.selects "SmellHowLong$Town" ({ cls := "SmellHowLong$Town", name := "become", desc := "(LSmellHowLong$Town;)V" } : Jvm.MethodName) ({ cls := "SmellHowLong$Town", name := "become", desc := "(LSmellHowLong$Town;)V" } : Jvm.MethodName)) ∈ tbG := tv_of (tv_2 (i := 29) rfl) rfl
theorem tw_2_30 : (Jvm.Cond.code ({ cls := "SmellHowLong$Town", name := "become", desc := "(LSmellHowLong$Town;)V" } : Jvm.MethodName) prog_3_method_2_code (3 : Nat) (Option.none : Option Jvm.ClassFile.FieldType)) ∈ tbG := tv_of (tv_2 (i := 30) rfl) rfl
theorem tw_2_31 : (Jvm.Cond.methodLink "SmellHowLong$Town" (51 : Nat) ({ cls := "java/lang/System", name := "arraycopy", desc := "(Ljava/lang/Object;ILjava/lang/Object;II)V" } : Jvm.MethodName)) ∈ tbG := tv_of (tv_2 (i := 31) rfl) rfl
theorem tw_2_32 : (Jvm.Cond.static ({ cls := "java/lang/System", name := "arraycopy", desc := "(Ljava/lang/Object;ILjava/lang/Object;II)V" } : Jvm.MethodName)) ∈ tbG := tv_of (tv_2 (i := 32) rfl) rfl
theorem tw_2_33 : (Jvm.Cond.native ({ cls := "java/lang/System", name := "arraycopy", desc := "(Ljava/lang/Object;ILjava/lang/Object;II)V" } : Jvm.MethodName)) ∈ tbG := tv_of (tv_2 (i := 33) rfl) rfl
theorem tw_2_34 : (Jvm.Cond.methodLink "SmellHowLong" (200 : Nat) ({ cls := "SmellHowLong$Telling", name := "tell", desc := "(LSmellHowLong$Town;)I" } : Jvm.MethodName)) ∈ tbG := tv_of (tv_2 (i := 34) rfl) rfl
theorem tw_2_35 : (Jvm.Cond.instanceMethod ({ cls := "SmellHowLong$Telling", name := "tell", desc := "(LSmellHowLong$Town;)I" } : Jvm.MethodName)) ∈ tbG := tv_of (tv_2 (i := 35) rfl) rfl
theorem tw_2_36 : (Jvm.Cond.selects "SmellHowLong$Telling" ({ cls := "SmellHowLong$Telling", name := "tell", desc := "(LSmellHowLong$Town;)I" } : Jvm.MethodName) ({ cls := "SmellHowLong$Telling", name := "tell", desc := "(LSmellHowLong$Town;)I" } : Jvm.MethodName)) ∈ tbG := tv_of (tv_2 (i := 36) rfl) rfl
theorem tw_2_37 : (Jvm.Cond.code ({ cls := "SmellHowLong$Telling", name := "tell", desc := "(LSmellHowLong$Town;)I" } : Jvm.MethodName) prog_2_method_14_code (5 : Nat) (Option.some Jvm.ClassFile.FieldType.int)) ∈ tbG := tv_of (tv_2 (i := 37) rfl) rfl
theorem tw_2_38 : (Jvm.Cond.methodLink "SmellHowLong$Telling" (51 : Nat) ({ cls := "SmellHowLong$Telling", name := "tellStatement", desc := "(LSmellHowLong$Town;II)Z" } : Jvm.MethodName)) ∈ tbG := tv_of (tv_2 (i := 38) rfl) rfl
theorem tw_2_40 : (Jvm.Cond.instanceMethod ({ cls := "SmellHowLong$Telling", name := "tellStatement", desc := "(LSmellHowLong$Town;II)Z" } : Jvm.MethodName)) ∈ tbG := tv_of (tv_2 (i := 40) rfl) rfl
theorem tw_2_41 : (Jvm.Cond.code ({ cls := "SmellHowLong$Telling", name := "tellStatement", desc := "(LSmellHowLong$Town;II)Z" } : Jvm.MethodName) prog_2_method_15_code (4 : Nat) (Option.some Jvm.ClassFile.FieldType.boolean)) ∈ tbG := tv_of (tv_2 (i := 41) rfl) rfl
theorem tw_2_42 : (Jvm.Cond.methodLink "SmellHowLong$Telling" (55 : Nat) ({ cls := "SmellHowLong$Telling", name := "tellPath", desc := "(LSmellHowLong$Town;I)Z" } : Jvm.MethodName)) ∈ tbG := tv_of (tv_2 (i := 42) rfl) rfl
theorem tw_2_44 : (Jvm.Cond.instanceMethod ({ cls := "SmellHowLong$Telling", name := "tellPath", desc := "(LSmellHowLong$Town;I)Z" } : Jvm.MethodName)) ∈ tbG := tv_of (tv_2 (i := 44) rfl) rfl
theorem tw_2_45 : (Jvm.Cond.code ({ cls := "SmellHowLong$Telling", name := "tellPath", desc := "(LSmellHowLong$Town;I)Z" } : Jvm.MethodName) prog_2_method_16_code (5 : Nat) (Option.some Jvm.ClassFile.FieldType.boolean)) ∈ tbG := tv_of (tv_2 (i := 45) rfl) rfl
theorem tw_2_46 : (Jvm.Cond.methodLink "SmellHowLong$Telling" (71 : Nat) ({ cls := "SmellHowLong$Telling", name := "digitAt", desc := "(I)I" } : Jvm.MethodName)) ∈ tbG := tv_of (tv_2 (i := 46) rfl) rfl
theorem tw_2_48 : (Jvm.Cond.instanceMethod ({ cls := "SmellHowLong$Telling", name := "digitAt", desc := "(I)I" } : Jvm.MethodName)) ∈ tbG := tv_of (tv_2 (i := 48) rfl) rfl
theorem tw_2_49 : (Jvm.Cond.code ({ cls := "SmellHowLong$Telling", name := "digitAt", desc := "(I)I" } : Jvm.MethodName) prog_2_method_8_code (2 : Nat) (Option.some Jvm.ClassFile.FieldType.int)) ∈ tbG := tv_of (tv_2 (i := 49) rfl) rfl
theorem tv_2_50 : (Jvm.Cond.methodLinkNest "SmellHowLong$Telling" (74 : Nat) ({ cls := "SmellHowLong", name := "isRoom", desc := "(I)Z" } : Jvm.MethodName) "SmellHowLong") ∈ lw_tbl := tv_2 (i := 50) rfl
theorem tw_2_51 : (Jvm.Cond.static ({ cls := "SmellHowLong", name := "isRoom", desc := "(I)Z" } : Jvm.MethodName)) ∈ tbG := tv_of (tv_2 (i := 51) rfl) rfl
theorem tw_2_52 : (Jvm.Cond.code ({ cls := "SmellHowLong", name := "isRoom", desc := "(I)Z" } : Jvm.MethodName) prog_1_method_31_code (1 : Nat) (Option.some Jvm.ClassFile.FieldType.boolean)) ∈ tbG := tv_of (tv_2 (i := 52) rfl) rfl
theorem tw_2_53 : (Jvm.Cond.methodLink "SmellHowLong$Telling" (77 : Nat) ({ cls := "SmellHowLong$Town", name := "turnPath", desc := "(II)V" } : Jvm.MethodName)) ∈ tbG := tv_of (tv_2 (i := 53) rfl) rfl
theorem tw_2_54 : (Jvm.Cond.instanceMethod ({ cls := "SmellHowLong$Town", name := "turnPath", desc := "(II)V" } : Jvm.MethodName)) ∈ tbG := tv_of (tv_2 (i := 54) rfl) rfl
theorem tw_2_55 : (Jvm.Cond.selects "SmellHowLong$Town" ({ cls := "SmellHowLong$Town", name := "turnPath", desc := "(II)V" } : Jvm.MethodName) ({ cls := "SmellHowLong$Town", name := "turnPath", desc := "(II)V" } : Jvm.MethodName)) ∈ tbG := tv_of (tv_2 (i := 55) rfl) rfl
theorem tw_2_56 : (Jvm.Cond.code ({ cls := "SmellHowLong$Town", name := "turnPath", desc := "(II)V" } : Jvm.MethodName) prog_3_method_15_code (3 : Nat) (Option.none : Option Jvm.ClassFile.FieldType)) ∈ tbG := tv_of (tv_2 (i := 56) rfl) rfl
theorem tw_2_57 : (Jvm.Cond.methodLink "SmellHowLong$Telling" (59 : Nat) ({ cls := "SmellHowLong$Telling", name := "tellWind", desc := "(LSmellHowLong$Town;I)Z" } : Jvm.MethodName)) ∈ tbG := tv_of (tv_2 (i := 57) rfl) rfl
theorem tw_2_59 : (Jvm.Cond.instanceMethod ({ cls := "SmellHowLong$Telling", name := "tellWind", desc := "(LSmellHowLong$Town;I)Z" } : Jvm.MethodName)) ∈ tbG := tv_of (tv_2 (i := 59) rfl) rfl
theorem tw_2_60 : (Jvm.Cond.code ({ cls := "SmellHowLong$Telling", name := "tellWind", desc := "(LSmellHowLong$Town;I)Z" } : Jvm.MethodName) prog_2_method_17_code (5 : Nat) (Option.some Jvm.ClassFile.FieldType.boolean)) ∈ tbG := tv_of (tv_2 (i := 60) rfl) rfl
theorem tw_2_61 : (Jvm.Cond.methodLink "SmellHowLong$Telling" (83 : Nat) ({ cls := "SmellHowLong$Town", name := "setWind", desc := "(II)V" } : Jvm.MethodName)) ∈ tbG := tv_of (tv_2 (i := 61) rfl) rfl
theorem tw_2_62 : (Jvm.Cond.instanceMethod ({ cls := "SmellHowLong$Town", name := "setWind", desc := "(II)V" } : Jvm.MethodName)) ∈ tbG := tv_of (tv_2 (i := 62) rfl) rfl
theorem tw_2_63 : (Jvm.Cond.selects "SmellHowLong$Town" ({ cls := "SmellHowLong$Town", name := "setWind", desc := "(II)V" } : Jvm.MethodName) ({ cls := "SmellHowLong$Town", name := "setWind", desc := "(II)V" } : Jvm.MethodName)) ∈ tbG := tv_of (tv_2 (i := 63) rfl) rfl
theorem tw_2_64 : (Jvm.Cond.code ({ cls := "SmellHowLong$Town", name := "setWind", desc := "(II)V" } : Jvm.MethodName) prog_3_method_10_code (3 : Nat) (Option.none : Option Jvm.ClassFile.FieldType)) ∈ tbG := tv_of (tv_2 (i := 64) rfl) rfl
theorem tw_2_65 : (Jvm.Cond.methodLink "SmellHowLong$Telling" (62 : Nat) ({ cls := "SmellHowLong$Telling", name := "tellRoof", desc := "(LSmellHowLong$Town;I)Z" } : Jvm.MethodName)) ∈ tbG := tv_of (tv_2 (i := 65) rfl) rfl
theorem tw_2_67 : (Jvm.Cond.instanceMethod ({ cls := "SmellHowLong$Telling", name := "tellRoof", desc := "(LSmellHowLong$Town;I)Z" } : Jvm.MethodName)) ∈ tbG := tv_of (tv_2 (i := 67) rfl) rfl
theorem tw_2_68 : (Jvm.Cond.code ({ cls := "SmellHowLong$Telling", name := "tellRoof", desc := "(LSmellHowLong$Town;I)Z" } : Jvm.MethodName) prog_2_method_18_code (3 : Nat) (Option.some Jvm.ClassFile.FieldType.boolean)) ∈ tbG := tv_of (tv_2 (i := 68) rfl) rfl
theorem tw_2_69 : (Jvm.Cond.methodLink "SmellHowLong$Telling" (86 : Nat) ({ cls := "SmellHowLong$Town", name := "turnRoof", desc := "(I)V" } : Jvm.MethodName)) ∈ tbG := tv_of (tv_2 (i := 69) rfl) rfl
theorem tw_2_70 : (Jvm.Cond.instanceMethod ({ cls := "SmellHowLong$Town", name := "turnRoof", desc := "(I)V" } : Jvm.MethodName)) ∈ tbG := tv_of (tv_2 (i := 70) rfl) rfl
theorem tw_2_71 : (Jvm.Cond.selects "SmellHowLong$Town" ({ cls := "SmellHowLong$Town", name := "turnRoof", desc := "(I)V" } : Jvm.MethodName) ({ cls := "SmellHowLong$Town", name := "turnRoof", desc := "(I)V" } : Jvm.MethodName)) ∈ tbG := tv_of (tv_2 (i := 71) rfl) rfl
theorem tw_2_72 : (Jvm.Cond.code ({ cls := "SmellHowLong$Town", name := "turnRoof", desc := "(I)V" } : Jvm.MethodName) prog_3_method_12_code (2 : Nat) (Option.none : Option Jvm.ClassFile.FieldType)) ∈ tbG := tv_of (tv_2 (i := 72) rfl) rfl
theorem tw_2_73 : (Jvm.Cond.methodLink "SmellHowLong$Telling" (65 : Nat) ({ cls := "SmellHowLong$Telling", name := "tellNose", desc := "(LSmellHowLong$Town;I)Z" } : Jvm.MethodName)) ∈ tbG := tv_of (tv_2 (i := 73) rfl) rfl
theorem tw_2_75 : (Jvm.Cond.instanceMethod ({ cls := "SmellHowLong$Telling", name := "tellNose", desc := "(LSmellHowLong$Town;I)Z" } : Jvm.MethodName)) ∈ tbG := tv_of (tv_2 (i := 75) rfl) rfl
theorem tw_2_76 : (Jvm.Cond.code ({ cls := "SmellHowLong$Telling", name := "tellNose", desc := "(LSmellHowLong$Town;I)Z" } : Jvm.MethodName) prog_2_method_19_code (4 : Nat) (Option.some Jvm.ClassFile.FieldType.boolean)) ∈ tbG := tv_of (tv_2 (i := 76) rfl) rfl
theorem tw_2_77 : (Jvm.Cond.methodLink "SmellHowLong$Telling" (90 : Nat) ({ cls := "SmellHowLong$Town", name := "setNose", desc := "(I)V" } : Jvm.MethodName)) ∈ tbG := tv_of (tv_2 (i := 77) rfl) rfl
theorem tw_2_78 : (Jvm.Cond.instanceMethod ({ cls := "SmellHowLong$Town", name := "setNose", desc := "(I)V" } : Jvm.MethodName)) ∈ tbG := tv_of (tv_2 (i := 78) rfl) rfl
theorem tw_2_79 : (Jvm.Cond.selects "SmellHowLong$Town" ({ cls := "SmellHowLong$Town", name := "setNose", desc := "(I)V" } : Jvm.MethodName) ({ cls := "SmellHowLong$Town", name := "setNose", desc := "(I)V" } : Jvm.MethodName)) ∈ tbG := tv_of (tv_2 (i := 79) rfl) rfl
theorem tw_2_80 : (Jvm.Cond.code ({ cls := "SmellHowLong$Town", name := "setNose", desc := "(I)V" } : Jvm.MethodName) prog_3_method_8_code (2 : Nat) (Option.none : Option Jvm.ClassFile.FieldType)) ∈ tbG := tv_of (tv_2 (i := 80) rfl) rfl
theorem tw_2_81 : (Jvm.Cond.methodLink "SmellHowLong$Telling" (68 : Nat) ({ cls := "SmellHowLong$Telling", name := "tellWalker", desc := "(LSmellHowLong$Town;II)Z" } : Jvm.MethodName)) ∈ tbG := tv_of (tv_2 (i := 81) rfl) rfl
theorem tw_2_83 : (Jvm.Cond.instanceMethod ({ cls := "SmellHowLong$Telling", name := "tellWalker", desc := "(LSmellHowLong$Town;II)Z" } : Jvm.MethodName)) ∈ tbG := tv_of (tv_2 (i := 83) rfl) rfl
theorem tw_2_84 : (Jvm.Cond.code ({ cls := "SmellHowLong$Telling", name := "tellWalker", desc := "(LSmellHowLong$Town;II)Z" } : Jvm.MethodName) prog_2_method_20_code (6 : Nat) (Option.some Jvm.ClassFile.FieldType.boolean)) ∈ tbG := tv_of (tv_2 (i := 84) rfl) rfl
theorem tw_2_85 : (Jvm.Cond.methodLink "SmellHowLong$Telling" (93 : Nat) ({ cls := "SmellHowLong$Town", name := "hasSpace", desc := "()Z" } : Jvm.MethodName)) ∈ tbG := tv_of (tv_2 (i := 85) rfl) rfl
theorem tw_2_86 : (Jvm.Cond.instanceMethod ({ cls := "SmellHowLong$Town", name := "hasSpace", desc := "()Z" } : Jvm.MethodName)) ∈ tbG := tv_of (tv_2 (i := 86) rfl) rfl
theorem tw_2_87 : (Jvm.Cond.selects "SmellHowLong$Town" ({ cls := "SmellHowLong$Town", name := "hasSpace", desc := "()Z" } : Jvm.MethodName) ({ cls := "SmellHowLong$Town", name := "hasSpace", desc := "()Z" } : Jvm.MethodName)) ∈ tbG := tv_of (tv_2 (i := 87) rfl) rfl
theorem tw_2_88 : (Jvm.Cond.code ({ cls := "SmellHowLong$Town", name := "hasSpace", desc := "()Z" } : Jvm.MethodName) prog_3_method_4_code (1 : Nat) (Option.some Jvm.ClassFile.FieldType.boolean)) ∈ tbG := tv_of (tv_2 (i := 88) rfl) rfl
theorem tw_2_89 : (Jvm.Cond.methodLink "SmellHowLong$Telling" (96 : Nat) ({ cls := "SmellHowLong$Town", name := "addWalker", desc := "(II)V" } : Jvm.MethodName)) ∈ tbG := tv_of (tv_2 (i := 89) rfl) rfl
theorem tw_2_90 : (Jvm.Cond.instanceMethod ({ cls := "SmellHowLong$Town", name := "addWalker", desc := "(II)V" } : Jvm.MethodName)) ∈ tbG := tv_of (tv_2 (i := 90) rfl) rfl
theorem tw_2_91 : (Jvm.Cond.selects "SmellHowLong$Town" ({ cls := "SmellHowLong$Town", name := "addWalker", desc := "(II)V" } : Jvm.MethodName) ({ cls := "SmellHowLong$Town", name := "addWalker", desc := "(II)V" } : Jvm.MethodName)) ∈ tbG := tv_of (tv_2 (i := 91) rfl) rfl
theorem tw_2_92 : (Jvm.Cond.code ({ cls := "SmellHowLong$Town", name := "addWalker", desc := "(II)V" } : Jvm.MethodName) prog_3_method_18_code (5 : Nat) (Option.none : Option Jvm.ClassFile.FieldType)) ∈ tbG := tv_of (tv_2 (i := 92) rfl) rfl
theorem tw_2_93 : (Jvm.Cond.methodLink "SmellHowLong$Town" (63 : Nat) ({ cls := "SmellHowLong$Town", name := "leaveTrace", desc := "(I)V" } : Jvm.MethodName)) ∈ tbG := tv_of (tv_2 (i := 93) rfl) rfl
theorem tw_2_95 : (Jvm.Cond.instanceMethod ({ cls := "SmellHowLong$Town", name := "leaveTrace", desc := "(I)V" } : Jvm.MethodName)) ∈ tbG := tv_of (tv_2 (i := 95) rfl) rfl
theorem tw_2_96 : (Jvm.Cond.code ({ cls := "SmellHowLong$Town", name := "leaveTrace", desc := "(I)V" } : Jvm.MethodName) prog_3_method_29_code (2 : Nat) (Option.none : Option Jvm.ClassFile.FieldType)) ∈ tbG := tv_of (tv_2 (i := 96) rfl) rfl
theorem tw_2_97 : (Jvm.Cond.methodLink "SmellHowLong$Telling" (99 : Nat) ({ cls := "SmellHowLong$Town", name := "addToLastPlan", desc := "(I)V" } : Jvm.MethodName)) ∈ tbG := tv_of (tv_2 (i := 97) rfl) rfl
theorem tw_2_98 : (Jvm.Cond.instanceMethod ({ cls := "SmellHowLong$Town", name := "addToLastPlan", desc := "(I)V" } : Jvm.MethodName)) ∈ tbG := tv_of (tv_2 (i := 98) rfl) rfl
theorem tw_2_99 : (Jvm.Cond.selects "SmellHowLong$Town" ({ cls := "SmellHowLong$Town", name := "addToLastPlan", desc := "(I)V" } : Jvm.MethodName) ({ cls := "SmellHowLong$Town", name := "addToLastPlan", desc := "(I)V" } : Jvm.MethodName)) ∈ tbG := tv_of (tv_2 (i := 99) rfl) rfl
theorem tw_2_100 : (Jvm.Cond.code ({ cls := "SmellHowLong$Town", name := "addToLastPlan", desc := "(I)V" } : Jvm.MethodName) prog_3_method_19_code (3 : Nat) (Option.none : Option Jvm.ClassFile.FieldType)) ∈ tbG := tv_of (tv_2 (i := 100) rfl) rfl
theorem tw_2_101 : (Jvm.Cond.methodLink "SmellHowLong" (66 : Nat) ({ cls := "SmellHowLong$Telling", name := "forget", desc := "()V" } : Jvm.MethodName)) ∈ tbG := tv_of (tv_2 (i := 101) rfl) rfl
theorem tw_2_102 : (Jvm.Cond.instanceMethod ({ cls := "SmellHowLong$Telling", name := "forget", desc := "()V" } : Jvm.MethodName)) ∈ tbG := tv_of (tv_2 (i := 102) rfl) rfl
theorem tw_2_103 : (Jvm.Cond.selects "SmellHowLong$Telling" ({ cls := "SmellHowLong$Telling", name := "forget", desc := "()V" } : Jvm.MethodName) ({ cls := "SmellHowLong$Telling", name := "forget", desc := "()V" } : Jvm.MethodName)) ∈ tbG := tv_of (tv_2 (i := 103) rfl) rfl
theorem tw_2_104 : (Jvm.Cond.code ({ cls := "SmellHowLong$Telling", name := "forget", desc := "()V" } : Jvm.MethodName) prog_2_method_5_code (1 : Nat) (Option.none : Option Jvm.ClassFile.FieldType)) ∈ tbG := tv_of (tv_2 (i := 104) rfl) rfl
theorem tw_2_105 : (Jvm.Cond.arrayClass Jvm.ClassFile.FieldType.byte) ∈ tbG := tv_of (tv_2 (i := 105) rfl) rfl
theorem tw_2_106 : (Jvm.Cond.methodLink "SmellHowLongLaw" (23 : Nat) ({ cls := "SmellHowLong", name := "room", desc := "(II)I" } : Jvm.MethodName)) ∈ tbG := tv_of (tv_2 (i := 106) rfl) rfl
theorem tw_2_107 : (Jvm.Cond.instanceMethod ({ cls := "SmellHowLong", name := "room", desc := "(II)I" } : Jvm.MethodName)) ∈ tbG := tv_of (tv_2 (i := 107) rfl) rfl
theorem tw_2_108 : (Jvm.Cond.selects "SmellHowLong" ({ cls := "SmellHowLong", name := "room", desc := "(II)I" } : Jvm.MethodName) ({ cls := "SmellHowLong", name := "room", desc := "(II)I" } : Jvm.MethodName)) ∈ tbG := tv_of (tv_2 (i := 108) rfl) rfl
theorem tw_2_109 : (Jvm.Cond.code ({ cls := "SmellHowLong", name := "room", desc := "(II)I" } : Jvm.MethodName) prog_1_method_4_code (3 : Nat) (Option.some Jvm.ClassFile.FieldType.int)) ∈ tbG := tv_of (tv_2 (i := 109) rfl) rfl
theorem tw_2_110 : (Jvm.Cond.methodLink "SmellHowLong" (69 : Nat) ({ cls := "SmellHowLong", name := "isRoom", desc := "(I)Z" } : Jvm.MethodName)) ∈ tbG := tv_of (tv_2 (i := 110) rfl) rfl
theorem tw_2_111 : (Jvm.Cond.methodLink "SmellHowLong" (73 : Nat) ({ cls := "SmellHowLong$Town", name := "windIn", desc := "(I)I" } : Jvm.MethodName)) ∈ tbG := tv_of (tv_2 (i := 111) rfl) rfl
theorem tw_2_112 : (Jvm.Cond.instanceMethod ({ cls := "SmellHowLong$Town", name := "windIn", desc := "(I)I" } : Jvm.MethodName)) ∈ tbG := tv_of (tv_2 (i := 112) rfl) rfl
theorem tw_2_113 : (Jvm.Cond.selects "SmellHowLong$Town" ({ cls := "SmellHowLong$Town", name := "windIn", desc := "(I)I" } : Jvm.MethodName) ({ cls := "SmellHowLong$Town", name := "windIn", desc := "(I)I" } : Jvm.MethodName)) ∈ tbG := tv_of (tv_2 (i := 113) rfl) rfl
theorem tw_2_114 : (Jvm.Cond.code ({ cls := "SmellHowLong$Town", name := "windIn", desc := "(I)I" } : Jvm.MethodName) prog_3_method_9_code (2 : Nat) (Option.some Jvm.ClassFile.FieldType.int)) ∈ tbG := tv_of (tv_2 (i := 114) rfl) rfl
theorem tw_2_115 : (Jvm.Cond.methodLink "SmellHowLong" (76 : Nat) ({ cls := "SmellHowLong$Town", name := "hasRoof", desc := "(I)Z" } : Jvm.MethodName)) ∈ tbG := tv_of (tv_2 (i := 115) rfl) rfl
theorem tw_2_116 : (Jvm.Cond.instanceMethod ({ cls := "SmellHowLong$Town", name := "hasRoof", desc := "(I)Z" } : Jvm.MethodName)) ∈ tbG := tv_of (tv_2 (i := 116) rfl) rfl
theorem tw_2_117 : (Jvm.Cond.selects "SmellHowLong$Town" ({ cls := "SmellHowLong$Town", name := "hasRoof", desc := "(I)Z" } : Jvm.MethodName) ({ cls := "SmellHowLong$Town", name := "hasRoof", desc := "(I)Z" } : Jvm.MethodName)) ∈ tbG := tv_of (tv_2 (i := 117) rfl) rfl
theorem tw_2_118 : (Jvm.Cond.code ({ cls := "SmellHowLong$Town", name := "hasRoof", desc := "(I)Z" } : Jvm.MethodName) prog_3_method_11_code (2 : Nat) (Option.some Jvm.ClassFile.FieldType.boolean)) ∈ tbG := tv_of (tv_2 (i := 118) rfl) rfl
theorem tw_2_119 : (Jvm.Cond.methodLink "SmellHowLong" (79 : Nat) ({ cls := "SmellHowLong$Town", name := "pathsFrom", desc := "(I)I" } : Jvm.MethodName)) ∈ tbG := tv_of (tv_2 (i := 119) rfl) rfl
theorem tw_2_120 : (Jvm.Cond.instanceMethod ({ cls := "SmellHowLong$Town", name := "pathsFrom", desc := "(I)I" } : Jvm.MethodName)) ∈ tbG := tv_of (tv_2 (i := 120) rfl) rfl
theorem tw_2_121 : (Jvm.Cond.selects "SmellHowLong$Town" ({ cls := "SmellHowLong$Town", name := "pathsFrom", desc := "(I)I" } : Jvm.MethodName) ({ cls := "SmellHowLong$Town", name := "pathsFrom", desc := "(I)I" } : Jvm.MethodName)) ∈ tbG := tv_of (tv_2 (i := 121) rfl) rfl
theorem tw_2_122 : (Jvm.Cond.code ({ cls := "SmellHowLong$Town", name := "pathsFrom", desc := "(I)I" } : Jvm.MethodName) prog_3_method_13_code (2 : Nat) (Option.some Jvm.ClassFile.FieldType.int)) ∈ tbG := tv_of (tv_2 (i := 122) rfl) rfl
theorem tw_2_123 : (Jvm.Cond.methodLink "SmellHowLongLaw" (28 : Nat) ({ cls := "SmellHowLong", name := "walker", desc := "(II)I" } : Jvm.MethodName)) ∈ tbG := tv_of (tv_2 (i := 123) rfl) rfl
theorem tw_2_124 : (Jvm.Cond.instanceMethod ({ cls := "SmellHowLong", name := "walker", desc := "(II)I" } : Jvm.MethodName)) ∈ tbG := tv_of (tv_2 (i := 124) rfl) rfl
theorem tw_2_125 : (Jvm.Cond.selects "SmellHowLong" ({ cls := "SmellHowLong", name := "walker", desc := "(II)I" } : Jvm.MethodName) ({ cls := "SmellHowLong", name := "walker", desc := "(II)I" } : Jvm.MethodName)) ∈ tbG := tv_of (tv_2 (i := 125) rfl) rfl
theorem tw_2_126 : (Jvm.Cond.code ({ cls := "SmellHowLong", name := "walker", desc := "(II)I" } : Jvm.MethodName) prog_1_method_5_code (3 : Nat) (Option.some Jvm.ClassFile.FieldType.int)) ∈ tbG := tv_of (tv_2 (i := 126) rfl) rfl
theorem tw_2_127 : (Jvm.Cond.methodLink "SmellHowLong" (82 : Nat) ({ cls := "SmellHowLong$Town", name := "isWalker", desc := "(I)Z" } : Jvm.MethodName)) ∈ tbG := tv_of (tv_2 (i := 127) rfl) rfl
theorem tw_2_128 : (Jvm.Cond.instanceMethod ({ cls := "SmellHowLong$Town", name := "isWalker", desc := "(I)Z" } : Jvm.MethodName)) ∈ tbG := tv_of (tv_2 (i := 128) rfl) rfl
theorem tw_2_129 : (Jvm.Cond.selects "SmellHowLong$Town" ({ cls := "SmellHowLong$Town", name := "isWalker", desc := "(I)Z" } : Jvm.MethodName) ({ cls := "SmellHowLong$Town", name := "isWalker", desc := "(I)Z" } : Jvm.MethodName)) ∈ tbG := tv_of (tv_2 (i := 129) rfl) rfl
theorem tw_2_130 : (Jvm.Cond.code ({ cls := "SmellHowLong$Town", name := "isWalker", desc := "(I)Z" } : Jvm.MethodName) prog_3_method_3_code (2 : Nat) (Option.some Jvm.ClassFile.FieldType.boolean)) ∈ tbG := tv_of (tv_2 (i := 130) rfl) rfl
theorem tw_2_131 : (Jvm.Cond.methodLink "SmellHowLong" (85 : Nat) ({ cls := "SmellHowLong$Town", name := "kindOf", desc := "(I)I" } : Jvm.MethodName)) ∈ tbG := tv_of (tv_2 (i := 131) rfl) rfl
theorem tw_2_132 : (Jvm.Cond.instanceMethod ({ cls := "SmellHowLong$Town", name := "kindOf", desc := "(I)I" } : Jvm.MethodName)) ∈ tbG := tv_of (tv_2 (i := 132) rfl) rfl
theorem tw_2_133 : (Jvm.Cond.selects "SmellHowLong$Town" ({ cls := "SmellHowLong$Town", name := "kindOf", desc := "(I)I" } : Jvm.MethodName) ({ cls := "SmellHowLong$Town", name := "kindOf", desc := "(I)I" } : Jvm.MethodName)) ∈ tbG := tv_of (tv_2 (i := 133) rfl) rfl
theorem tw_2_134 : (Jvm.Cond.code ({ cls := "SmellHowLong$Town", name := "kindOf", desc := "(I)I" } : Jvm.MethodName) prog_3_method_20_code (2 : Nat) (Option.some Jvm.ClassFile.FieldType.int)) ∈ tbG := tv_of (tv_2 (i := 134) rfl) rfl
theorem tw_2_135 : (Jvm.Cond.methodLink "SmellHowLong" (88 : Nat) ({ cls := "SmellHowLong$Town", name := "placeOf", desc := "(I)I" } : Jvm.MethodName)) ∈ tbG := tv_of (tv_2 (i := 135) rfl) rfl
theorem tw_2_136 : (Jvm.Cond.instanceMethod ({ cls := "SmellHowLong$Town", name := "placeOf", desc := "(I)I" } : Jvm.MethodName)) ∈ tbG := tv_of (tv_2 (i := 136) rfl) rfl
theorem tw_2_137 : (Jvm.Cond.selects "SmellHowLong$Town" ({ cls := "SmellHowLong$Town", name := "placeOf", desc := "(I)I" } : Jvm.MethodName) ({ cls := "SmellHowLong$Town", name := "placeOf", desc := "(I)I" } : Jvm.MethodName)) ∈ tbG := tv_of (tv_2 (i := 137) rfl) rfl
theorem tw_2_138 : (Jvm.Cond.code ({ cls := "SmellHowLong$Town", name := "placeOf", desc := "(I)I" } : Jvm.MethodName) prog_3_method_21_code (2 : Nat) (Option.some Jvm.ClassFile.FieldType.int)) ∈ tbG := tv_of (tv_2 (i := 138) rfl) rfl
theorem tw_2_139 : (Jvm.Cond.methodLink "SmellHowLong" (91 : Nat) ({ cls := "SmellHowLong$Town", name := "planLengthOf", desc := "(I)I" } : Jvm.MethodName)) ∈ tbG := tv_of (tv_2 (i := 139) rfl) rfl
theorem tw_2_140 : (Jvm.Cond.instanceMethod ({ cls := "SmellHowLong$Town", name := "planLengthOf", desc := "(I)I" } : Jvm.MethodName)) ∈ tbG := tv_of (tv_2 (i := 140) rfl) rfl
theorem tw_2_141 : (Jvm.Cond.selects "SmellHowLong$Town" ({ cls := "SmellHowLong$Town", name := "planLengthOf", desc := "(I)I" } : Jvm.MethodName) ({ cls := "SmellHowLong$Town", name := "planLengthOf", desc := "(I)I" } : Jvm.MethodName)) ∈ tbG := tv_of (tv_2 (i := 141) rfl) rfl
theorem tw_2_142 : (Jvm.Cond.code ({ cls := "SmellHowLong$Town", name := "planLengthOf", desc := "(I)I" } : Jvm.MethodName) prog_3_method_23_code (2 : Nat) (Option.some Jvm.ClassFile.FieldType.int)) ∈ tbG := tv_of (tv_2 (i := 142) rfl) rfl
theorem tw_2_143 : (Jvm.Cond.methodLink "SmellHowLong" (94 : Nat) ({ cls := "SmellHowLong$Town", name := "goalOf", desc := "(I)I" } : Jvm.MethodName)) ∈ tbG := tv_of (tv_2 (i := 143) rfl) rfl
theorem tw_2_144 : (Jvm.Cond.instanceMethod ({ cls := "SmellHowLong$Town", name := "goalOf", desc := "(I)I" } : Jvm.MethodName)) ∈ tbG := tv_of (tv_2 (i := 144) rfl) rfl
theorem tw_2_145 : (Jvm.Cond.selects "SmellHowLong$Town" ({ cls := "SmellHowLong$Town", name := "goalOf", desc := "(I)I" } : Jvm.MethodName) ({ cls := "SmellHowLong$Town", name := "goalOf", desc := "(I)I" } : Jvm.MethodName)) ∈ tbG := tv_of (tv_2 (i := 145) rfl) rfl
theorem tw_2_146 : (Jvm.Cond.code ({ cls := "SmellHowLong$Town", name := "goalOf", desc := "(I)I" } : Jvm.MethodName) prog_3_method_24_code (2 : Nat) (Option.some Jvm.ClassFile.FieldType.int)) ∈ tbG := tv_of (tv_2 (i := 146) rfl) rfl
theorem tw_2_147 : (Jvm.Cond.methodLink "SmellHowLong$Town" (67 : Nat) ({ cls := "SmellHowLong$Town", name := "smeltGoal", desc := "(IZ)I" } : Jvm.MethodName)) ∈ tbG := tv_of (tv_2 (i := 147) rfl) rfl
theorem tw_2_149 : (Jvm.Cond.instanceMethod ({ cls := "SmellHowLong$Town", name := "smeltGoal", desc := "(IZ)I" } : Jvm.MethodName)) ∈ tbG := tv_of (tv_2 (i := 149) rfl) rfl
theorem tw_2_150 : (Jvm.Cond.code ({ cls := "SmellHowLong$Town", name := "smeltGoal", desc := "(IZ)I" } : Jvm.MethodName) prog_3_method_26_code (8 : Nat) (Option.some Jvm.ClassFile.FieldType.int)) ∈ tbG := tv_of (tv_2 (i := 150) rfl) rfl
theorem tw_2_151 : (Jvm.Cond.methodLink "SmellHowLong$Town" (78 : Nat) ({ cls := "SmellHowLong$Town", name := "ageAmong", desc := "(IIZ)I" } : Jvm.MethodName)) ∈ tbG := tv_of (tv_2 (i := 151) rfl) rfl
theorem tw_2_153 : (Jvm.Cond.instanceMethod ({ cls := "SmellHowLong$Town", name := "ageAmong", desc := "(IIZ)I" } : Jvm.MethodName)) ∈ tbG := tv_of (tv_2 (i := 153) rfl) rfl
theorem tw_2_154 : (Jvm.Cond.code ({ cls := "SmellHowLong$Town", name := "ageAmong", desc := "(IIZ)I" } : Jvm.MethodName) prog_3_method_40_code (7 : Nat) (Option.some Jvm.ClassFile.FieldType.int)) ∈ tbG := tv_of (tv_2 (i := 154) rfl) rfl
theorem tw_2_155 : (Jvm.Cond.methodLink "SmellHowLong$Town" (106 : Nat) ({ cls := "SmellHowLong$Town", name := "ageOf", desc := "(III)I" } : Jvm.MethodName)) ∈ tbG := tv_of (tv_2 (i := 155) rfl) rfl
theorem tw_2_156 : (Jvm.Cond.instanceMethod ({ cls := "SmellHowLong$Town", name := "ageOf", desc := "(III)I" } : Jvm.MethodName)) ∈ tbG := tv_of (tv_2 (i := 156) rfl) rfl
theorem tw_2_157 : (Jvm.Cond.selects "SmellHowLong$Town" ({ cls := "SmellHowLong$Town", name := "ageOf", desc := "(III)I" } : Jvm.MethodName) ({ cls := "SmellHowLong$Town", name := "ageOf", desc := "(III)I" } : Jvm.MethodName)) ∈ tbG := tv_of (tv_2 (i := 157) rfl) rfl
theorem tw_2_158 : (Jvm.Cond.code ({ cls := "SmellHowLong$Town", name := "ageOf", desc := "(III)I" } : Jvm.MethodName) prog_3_method_34_code (5 : Nat) (Option.some Jvm.ClassFile.FieldType.int)) ∈ tbG := tv_of (tv_2 (i := 158) rfl) rfl
theorem tw_2_159 : (Jvm.Cond.methodLink "SmellHowLong$Town" (82 : Nat) ({ cls := "SmellHowLong$Town", name := "isBeyond", desc := "(IIZ)Z" } : Jvm.MethodName)) ∈ tbG := tv_of (tv_2 (i := 159) rfl) rfl
theorem tw_2_160 : (Jvm.Cond.static ({ cls := "SmellHowLong$Town", name := "isBeyond", desc := "(IIZ)Z" } : Jvm.MethodName)) ∈ tbG := tv_of (tv_2 (i := 160) rfl) rfl
theorem tw_2_161 : (Jvm.Cond.code ({ cls := "SmellHowLong$Town", name := "isBeyond", desc := "(IIZ)Z" } : Jvm.MethodName) prog_3_method_41_code (3 : Nat) (Option.some Jvm.ClassFile.FieldType.boolean)) ∈ tbG := tv_of (tv_2 (i := 161) rfl) rfl
theorem tw_2_162 : (Jvm.Cond.methodLink "SmellHowLong$Town" (74 : Nat) ({ cls := "SmellHowLong$Town", name := "isPath", desc := "(II)Z" } : Jvm.MethodName)) ∈ tbG := tv_of (tv_2 (i := 162) rfl) rfl
theorem tw_2_163 : (Jvm.Cond.instanceMethod ({ cls := "SmellHowLong$Town", name := "isPath", desc := "(II)Z" } : Jvm.MethodName)) ∈ tbG := tv_of (tv_2 (i := 163) rfl) rfl
theorem tw_2_164 : (Jvm.Cond.selects "SmellHowLong$Town" ({ cls := "SmellHowLong$Town", name := "isPath", desc := "(II)Z" } : Jvm.MethodName) ({ cls := "SmellHowLong$Town", name := "isPath", desc := "(II)Z" } : Jvm.MethodName)) ∈ tbG := tv_of (tv_2 (i := 164) rfl) rfl
theorem tw_2_165 : (Jvm.Cond.code ({ cls := "SmellHowLong$Town", name := "isPath", desc := "(II)Z" } : Jvm.MethodName) prog_3_method_14_code (3 : Nat) (Option.some Jvm.ClassFile.FieldType.boolean)) ∈ tbG := tv_of (tv_2 (i := 165) rfl) rfl
theorem tw_2_166 : (Jvm.Cond.methodLink "SmellHowLong$Town" (71 : Nat) ({ cls := "SmellHowLong$Town", name := "plannedGoal", desc := "(I)I" } : Jvm.MethodName)) ∈ tbG := tv_of (tv_2 (i := 166) rfl) rfl
theorem tw_2_168 : (Jvm.Cond.instanceMethod ({ cls := "SmellHowLong$Town", name := "plannedGoal", desc := "(I)I" } : Jvm.MethodName)) ∈ tbG := tv_of (tv_2 (i := 168) rfl) rfl
theorem tw_2_169 : (Jvm.Cond.code ({ cls := "SmellHowLong$Town", name := "plannedGoal", desc := "(I)I" } : Jvm.MethodName) prog_3_method_25_code (5 : Nat) (Option.some Jvm.ClassFile.FieldType.int)) ∈ tbG := tv_of (tv_2 (i := 169) rfl) rfl
theorem tw_2_170 : (Jvm.Cond.methodLink "SmellHowLongLaw" (32 : Nat) ({ cls := "SmellHowLong", name := "put", desc := "(II)I" } : Jvm.MethodName)) ∈ tbG := tv_of (tv_2 (i := 170) rfl) rfl
theorem tw_2_171 : (Jvm.Cond.instanceMethod ({ cls := "SmellHowLong", name := "put", desc := "(II)I" } : Jvm.MethodName)) ∈ tbG := tv_of (tv_2 (i := 171) rfl) rfl
theorem tw_2_172 : (Jvm.Cond.selects "SmellHowLong" ({ cls := "SmellHowLong", name := "put", desc := "(II)I" } : Jvm.MethodName) ({ cls := "SmellHowLong", name := "put", desc := "(II)I" } : Jvm.MethodName)) ∈ tbG := tv_of (tv_2 (i := 172) rfl) rfl
theorem tw_2_173 : (Jvm.Cond.code ({ cls := "SmellHowLong", name := "put", desc := "(II)I" } : Jvm.MethodName) prog_1_method_6_code (4 : Nat) (Option.some Jvm.ClassFile.FieldType.int)) ∈ tbG := tv_of (tv_2 (i := 173) rfl) rfl
theorem tw_2_174 : (Jvm.Cond.methodLink "SmellHowLong" (97 : Nat) ({ cls := "SmellHowLong$Town", name := "place", desc := "(II)V" } : Jvm.MethodName)) ∈ tbG := tv_of (tv_2 (i := 174) rfl) rfl
theorem tw_2_175 : (Jvm.Cond.instanceMethod ({ cls := "SmellHowLong$Town", name := "place", desc := "(II)V" } : Jvm.MethodName)) ∈ tbG := tv_of (tv_2 (i := 175) rfl) rfl
theorem tw_2_176 : (Jvm.Cond.selects "SmellHowLong$Town" ({ cls := "SmellHowLong$Town", name := "place", desc := "(II)V" } : Jvm.MethodName) ({ cls := "SmellHowLong$Town", name := "place", desc := "(II)V" } : Jvm.MethodName)) ∈ tbG := tv_of (tv_2 (i := 176) rfl) rfl
theorem tw_2_177 : (Jvm.Cond.code ({ cls := "SmellHowLong$Town", name := "place", desc := "(II)V" } : Jvm.MethodName) prog_3_method_22_code (3 : Nat) (Option.none : Option Jvm.ClassFile.FieldType)) ∈ tbG := tv_of (tv_2 (i := 177) rfl) rfl
theorem tw_2_178 : (Jvm.Cond.methodLink "SmellHowLongLaw" (36 : Nat) ({ cls := "SmellHowLong", name := "wind", desc := "(II)I" } : Jvm.MethodName)) ∈ tbG := tv_of (tv_2 (i := 178) rfl) rfl
theorem tw_2_179 : (Jvm.Cond.instanceMethod ({ cls := "SmellHowLong", name := "wind", desc := "(II)I" } : Jvm.MethodName)) ∈ tbG := tv_of (tv_2 (i := 179) rfl) rfl
theorem tw_2_180 : (Jvm.Cond.selects "SmellHowLong" ({ cls := "SmellHowLong", name := "wind", desc := "(II)I" } : Jvm.MethodName) ({ cls := "SmellHowLong", name := "wind", desc := "(II)I" } : Jvm.MethodName)) ∈ tbG := tv_of (tv_2 (i := 180) rfl) rfl
theorem tw_2_181 : (Jvm.Cond.code ({ cls := "SmellHowLong", name := "wind", desc := "(II)I" } : Jvm.MethodName) prog_1_method_7_code (5 : Nat) (Option.some Jvm.ClassFile.FieldType.int)) ∈ tbG := tv_of (tv_2 (i := 181) rfl) rfl
theorem tw_2_182 : (Jvm.Cond.methodLink "SmellHowLong" (101 : Nat) ({ cls := "SmellHowLong", name := "outside", desc := "(III)I" } : Jvm.MethodName)) ∈ tbG := tv_of (tv_2 (i := 182) rfl) rfl
theorem tw_2_183 : (Jvm.Cond.static ({ cls := "SmellHowLong", name := "outside", desc := "(III)I" } : Jvm.MethodName)) ∈ tbG := tv_of (tv_2 (i := 183) rfl) rfl
theorem tw_2_184 : (Jvm.Cond.code ({ cls := "SmellHowLong", name := "outside", desc := "(III)I" } : Jvm.MethodName) prog_1_method_32_code (3 : Nat) (Option.some Jvm.ClassFile.FieldType.int)) ∈ tbG := tv_of (tv_2 (i := 184) rfl) rfl
theorem tw_2_185 : (Jvm.Cond.methodLink "SmellHowLong" (105 : Nat) ({ cls := "SmellHowLong$Town", name := "setWind", desc := "(II)V" } : Jvm.MethodName)) ∈ tbG := tv_of (tv_2 (i := 185) rfl) rfl
theorem tw_2_186 : (Jvm.Cond.methodLink "SmellHowLongLaw" (40 : Nat) ({ cls := "SmellHowLong", name := "nose", desc := "(I)I" } : Jvm.MethodName)) ∈ tbG := tv_of (tv_2 (i := 186) rfl) rfl
theorem tw_2_187 : (Jvm.Cond.instanceMethod ({ cls := "SmellHowLong", name := "nose", desc := "(I)I" } : Jvm.MethodName)) ∈ tbG := tv_of (tv_2 (i := 187) rfl) rfl
theorem tw_2_188 : (Jvm.Cond.selects "SmellHowLong" ({ cls := "SmellHowLong", name := "nose", desc := "(I)I" } : Jvm.MethodName) ({ cls := "SmellHowLong", name := "nose", desc := "(I)I" } : Jvm.MethodName)) ∈ tbG := tv_of (tv_2 (i := 188) rfl) rfl
theorem tw_2_189 : (Jvm.Cond.code ({ cls := "SmellHowLong", name := "nose", desc := "(I)I" } : Jvm.MethodName) prog_1_method_8_code (4 : Nat) (Option.some Jvm.ClassFile.FieldType.int)) ∈ tbG := tv_of (tv_2 (i := 189) rfl) rfl
theorem tw_2_190 : (Jvm.Cond.methodLink "SmellHowLong" (108 : Nat) ({ cls := "SmellHowLong$Town", name := "noseNow", desc := "()I" } : Jvm.MethodName)) ∈ tbG := tv_of (tv_2 (i := 190) rfl) rfl
theorem tw_2_191 : (Jvm.Cond.instanceMethod ({ cls := "SmellHowLong$Town", name := "noseNow", desc := "()I" } : Jvm.MethodName)) ∈ tbG := tv_of (tv_2 (i := 191) rfl) rfl
theorem tw_2_192 : (Jvm.Cond.selects "SmellHowLong$Town" ({ cls := "SmellHowLong$Town", name := "noseNow", desc := "()I" } : Jvm.MethodName) ({ cls := "SmellHowLong$Town", name := "noseNow", desc := "()I" } : Jvm.MethodName)) ∈ tbG := tv_of (tv_2 (i := 192) rfl) rfl
theorem tw_2_193 : (Jvm.Cond.code ({ cls := "SmellHowLong$Town", name := "noseNow", desc := "()I" } : Jvm.MethodName) prog_3_method_7_code (1 : Nat) (Option.some Jvm.ClassFile.FieldType.int)) ∈ tbG := tv_of (tv_2 (i := 193) rfl) rfl
theorem tw_2_194 : (Jvm.Cond.methodLink "SmellHowLong" (111 : Nat) ({ cls := "SmellHowLong$Town", name := "setNose", desc := "(I)V" } : Jvm.MethodName)) ∈ tbG := tv_of (tv_2 (i := 194) rfl) rfl
theorem tw_2_195 : (Jvm.Cond.methodLink "SmellHowLongLaw" (44 : Nat) ({ cls := "SmellHowLong", name := "pass", desc := "(I)I" } : Jvm.MethodName)) ∈ tbG := tv_of (tv_2 (i := 195) rfl) rfl
theorem tw_2_196 : (Jvm.Cond.instanceMethod ({ cls := "SmellHowLong", name := "pass", desc := "(I)I" } : Jvm.MethodName)) ∈ tbG := tv_of (tv_2 (i := 196) rfl) rfl
theorem tw_2_197 : (Jvm.Cond.selects "SmellHowLong" ({ cls := "SmellHowLong", name := "pass", desc := "(I)I" } : Jvm.MethodName) ({ cls := "SmellHowLong", name := "pass", desc := "(I)I" } : Jvm.MethodName)) ∈ tbG := tv_of (tv_2 (i := 197) rfl) rfl
theorem tw_2_198 : (Jvm.Cond.code ({ cls := "SmellHowLong", name := "pass", desc := "(I)I" } : Jvm.MethodName) prog_1_method_9_code (3 : Nat) (Option.some Jvm.ClassFile.FieldType.int)) ∈ tbG := tv_of (tv_2 (i := 198) rfl) rfl
theorem tw_2_199 : (Jvm.Cond.methodLink "SmellHowLong" (115 : Nat) ({ cls := "SmellHowLong$Town", name := "minuteNow", desc := "()I" } : Jvm.MethodName)) ∈ tbG := tv_of (tv_2 (i := 199) rfl) rfl
theorem tw_2_200 : (Jvm.Cond.instanceMethod ({ cls := "SmellHowLong$Town", name := "minuteNow", desc := "()I" } : Jvm.MethodName)) ∈ tbG := tv_of (tv_2 (i := 200) rfl) rfl
theorem tw_2_201 : (Jvm.Cond.selects "SmellHowLong$Town" ({ cls := "SmellHowLong$Town", name := "minuteNow", desc := "()I" } : Jvm.MethodName) ({ cls := "SmellHowLong$Town", name := "minuteNow", desc := "()I" } : Jvm.MethodName)) ∈ tbG := tv_of (tv_2 (i := 201) rfl) rfl
theorem tw_2_202 : (Jvm.Cond.code ({ cls := "SmellHowLong$Town", name := "minuteNow", desc := "()I" } : Jvm.MethodName) prog_3_method_6_code (1 : Nat) (Option.some Jvm.ClassFile.FieldType.int)) ∈ tbG := tv_of (tv_2 (i := 202) rfl) rfl
theorem tw_2_203 : (Jvm.Cond.methodLink "SmellHowLong" (118 : Nat) ({ cls := "java/lang/Math", name := "min", desc := "(II)I" } : Jvm.MethodName)) ∈ tbG := tv_of (tv_2 (i := 203) rfl) rfl
theorem tw_2_204 : (Jvm.Cond.methodLink "SmellHowLong" (124 : Nat) ({ cls := "SmellHowLong$Town", name := "goOn", desc := "(I)V" } : Jvm.MethodName)) ∈ tbG := tv_of (tv_2 (i := 204) rfl) rfl
theorem tw_2_205 : (Jvm.Cond.instanceMethod ({ cls := "SmellHowLong$Town", name := "goOn", desc := "(I)V" } : Jvm.MethodName)) ∈ tbG := tv_of (tv_2 (i := 205) rfl) rfl
theorem tw_2_206 : (Jvm.Cond.selects "SmellHowLong$Town" ({ cls := "SmellHowLong$Town", name := "goOn", desc := "(I)V" } : Jvm.MethodName) ({ cls := "SmellHowLong$Town", name := "goOn", desc := "(I)V" } : Jvm.MethodName)) ∈ tbG := tv_of (tv_2 (i := 206) rfl) rfl
theorem tw_2_207 : (Jvm.Cond.code ({ cls := "SmellHowLong$Town", name := "goOn", desc := "(I)V" } : Jvm.MethodName) prog_3_method_27_code (4 : Nat) (Option.none : Option Jvm.ClassFile.FieldType)) ∈ tbG := tv_of (tv_2 (i := 207) rfl) rfl
theorem tw_2_208 : (Jvm.Cond.methodLink "SmellHowLong$Town" (86 : Nat) ({ cls := "SmellHowLong$Town", name := "goalOf", desc := "(I)I" } : Jvm.MethodName)) ∈ tbG := tv_of (tv_2 (i := 208) rfl) rfl
theorem tw_2_209 : (Jvm.Cond.methodLink "SmellHowLong$Town" (89 : Nat) ({ cls := "SmellHowLong$Town", name := "arrive", desc := "(II)V" } : Jvm.MethodName)) ∈ tbG := tv_of (tv_2 (i := 209) rfl) rfl
theorem tw_2_211 : (Jvm.Cond.instanceMethod ({ cls := "SmellHowLong$Town", name := "arrive", desc := "(II)V" } : Jvm.MethodName)) ∈ tbG := tv_of (tv_2 (i := 211) rfl) rfl
theorem tw_2_212 : (Jvm.Cond.code ({ cls := "SmellHowLong$Town", name := "arrive", desc := "(II)V" } : Jvm.MethodName) prog_3_method_28_code (4 : Nat) (Option.none : Option Jvm.ClassFile.FieldType)) ∈ tbG := tv_of (tv_2 (i := 212) rfl) rfl
theorem tw_2_213 : (Jvm.Cond.methodLink "SmellHowLongLaw" (48 : Nat) ({ cls := "SmellHowLong", name := "rain", desc := "()I" } : Jvm.MethodName)) ∈ tbG := tv_of (tv_2 (i := 213) rfl) rfl
theorem tw_2_214 : (Jvm.Cond.instanceMethod ({ cls := "SmellHowLong", name := "rain", desc := "()I" } : Jvm.MethodName)) ∈ tbG := tv_of (tv_2 (i := 214) rfl) rfl
theorem tw_2_215 : (Jvm.Cond.selects "SmellHowLong" ({ cls := "SmellHowLong", name := "rain", desc := "()I" } : Jvm.MethodName) ({ cls := "SmellHowLong", name := "rain", desc := "()I" } : Jvm.MethodName)) ∈ tbG := tv_of (tv_2 (i := 215) rfl) rfl
theorem tw_2_216 : (Jvm.Cond.code ({ cls := "SmellHowLong", name := "rain", desc := "()I" } : Jvm.MethodName) prog_1_method_10_code (1 : Nat) (Option.some Jvm.ClassFile.FieldType.int)) ∈ tbG := tv_of (tv_2 (i := 216) rfl) rfl
theorem tw_2_217 : (Jvm.Cond.methodLink "SmellHowLong" (127 : Nat) ({ cls := "SmellHowLong$Town", name := "washOut", desc := "()I" } : Jvm.MethodName)) ∈ tbG := tv_of (tv_2 (i := 217) rfl) rfl
theorem tw_2_218 : (Jvm.Cond.instanceMethod ({ cls := "SmellHowLong$Town", name := "washOut", desc := "()I" } : Jvm.MethodName)) ∈ tbG := tv_of (tv_2 (i := 218) rfl) rfl
theorem tw_2_219 : (Jvm.Cond.selects "SmellHowLong$Town" ({ cls := "SmellHowLong$Town", name := "washOut", desc := "()I" } : Jvm.MethodName) ({ cls := "SmellHowLong$Town", name := "washOut", desc := "()I" } : Jvm.MethodName)) ∈ tbG := tv_of (tv_2 (i := 219) rfl) rfl
theorem tw_2_220 : (Jvm.Cond.code ({ cls := "SmellHowLong$Town", name := "washOut", desc := "()I" } : Jvm.MethodName) prog_3_method_31_code (3 : Nat) (Option.some Jvm.ClassFile.FieldType.int)) ∈ tbG := tv_of (tv_2 (i := 220) rfl) rfl
theorem tw_2_221 : (Jvm.Cond.methodLink "SmellHowLong$Town" (96 : Nat) ({ cls := "SmellHowLong$Town", name := "hasRoof", desc := "(I)Z" } : Jvm.MethodName)) ∈ tbG := tv_of (tv_2 (i := 221) rfl) rfl
theorem tw_2_222 : (Jvm.Cond.methodLink "SmellHowLong$Town" (100 : Nat) ({ cls := "SmellHowLong$Town", name := "tracesIn", desc := "(I)I" } : Jvm.MethodName)) ∈ tbG := tv_of (tv_2 (i := 222) rfl) rfl
theorem tw_2_223 : (Jvm.Cond.instanceMethod ({ cls := "SmellHowLong$Town", name := "tracesIn", desc := "(I)I" } : Jvm.MethodName)) ∈ tbG := tv_of (tv_2 (i := 223) rfl) rfl
theorem tw_2_224 : (Jvm.Cond.selects "SmellHowLong$Town" ({ cls := "SmellHowLong$Town", name := "tracesIn", desc := "(I)I" } : Jvm.MethodName) ({ cls := "SmellHowLong$Town", name := "tracesIn", desc := "(I)I" } : Jvm.MethodName)) ∈ tbG := tv_of (tv_2 (i := 224) rfl) rfl
theorem tw_2_225 : (Jvm.Cond.code ({ cls := "SmellHowLong$Town", name := "tracesIn", desc := "(I)I" } : Jvm.MethodName) prog_3_method_36_code (4 : Nat) (Option.some Jvm.ClassFile.FieldType.int)) ∈ tbG := tv_of (tv_2 (i := 225) rfl) rfl
theorem tw_2_226 : (Jvm.Cond.methodLink "SmellHowLong$Town" (110 : Nat) ({ cls := "SmellHowLong$Town", name := "hasTrace", desc := "(II)Z" } : Jvm.MethodName)) ∈ tbG := tv_of (tv_2 (i := 226) rfl) rfl
theorem tw_2_228 : (Jvm.Cond.instanceMethod ({ cls := "SmellHowLong$Town", name := "hasTrace", desc := "(II)Z" } : Jvm.MethodName)) ∈ tbG := tv_of (tv_2 (i := 228) rfl) rfl
theorem tw_2_229 : (Jvm.Cond.code ({ cls := "SmellHowLong$Town", name := "hasTrace", desc := "(II)Z" } : Jvm.MethodName) prog_3_method_33_code (3 : Nat) (Option.some Jvm.ClassFile.FieldType.boolean)) ∈ tbG := tv_of (tv_2 (i := 229) rfl) rfl
theorem tw_2_230 : (Jvm.Cond.methodLink "SmellHowLong$Town" (103 : Nat) ({ cls := "SmellHowLong$Town", name := "forgetTraces", desc := "(I)V" } : Jvm.MethodName)) ∈ tbG := tv_of (tv_2 (i := 230) rfl) rfl
theorem tw_2_232 : (Jvm.Cond.instanceMethod ({ cls := "SmellHowLong$Town", name := "forgetTraces", desc := "(I)V" } : Jvm.MethodName)) ∈ tbG := tv_of (tv_2 (i := 232) rfl) rfl
theorem tw_2_233 : (Jvm.Cond.code ({ cls := "SmellHowLong$Town", name := "forgetTraces", desc := "(I)V" } : Jvm.MethodName) prog_3_method_32_code (3 : Nat) (Option.none : Option Jvm.ClassFile.FieldType)) ∈ tbG := tv_of (tv_2 (i := 233) rfl) rfl
theorem tw_2_234 : (Jvm.Cond.methodLink "SmellHowLongLaw" (52 : Nat) ({ cls := "SmellHowLong", name := "age", desc := "(II)I" } : Jvm.MethodName)) ∈ tbG := tv_of (tv_2 (i := 234) rfl) rfl
theorem tw_2_235 : (Jvm.Cond.instanceMethod ({ cls := "SmellHowLong", name := "age", desc := "(II)I" } : Jvm.MethodName)) ∈ tbG := tv_of (tv_2 (i := 235) rfl) rfl
theorem tw_2_236 : (Jvm.Cond.selects "SmellHowLong" ({ cls := "SmellHowLong", name := "age", desc := "(II)I" } : Jvm.MethodName) ({ cls := "SmellHowLong", name := "age", desc := "(II)I" } : Jvm.MethodName)) ∈ tbG := tv_of (tv_2 (i := 236) rfl) rfl
theorem tw_2_237 : (Jvm.Cond.code ({ cls := "SmellHowLong", name := "age", desc := "(II)I" } : Jvm.MethodName) prog_1_method_11_code (3 : Nat) (Option.some Jvm.ClassFile.FieldType.int)) ∈ tbG := tv_of (tv_2 (i := 237) rfl) rfl
theorem tw_2_238 : (Jvm.Cond.methodLink "SmellHowLong" (130 : Nat) ({ cls := "SmellHowLong$Town", name := "ageOf", desc := "(III)I" } : Jvm.MethodName)) ∈ tbG := tv_of (tv_2 (i := 238) rfl) rfl
theorem tw_2_239 : (Jvm.Cond.methodLink "SmellHowLongLaw" (56 : Nat) ({ cls := "SmellHowLong", name := "smelt", desc := "(II)I" } : Jvm.MethodName)) ∈ tbG := tv_of (tv_2 (i := 239) rfl) rfl
theorem tw_3_0 : (Jvm.Cond.instanceMethod ({ cls := "SmellHowLong", name := "smelt", desc := "(II)I" } : Jvm.MethodName)) ∈ tbG := tv_of (tv_3 (i := 0) rfl) rfl
theorem tw_3_1 : (Jvm.Cond.selects "SmellHowLong" ({ cls := "SmellHowLong", name := "smelt", desc := "(II)I" } : Jvm.MethodName) ({ cls := "SmellHowLong", name := "smelt", desc := "(II)I" } : Jvm.MethodName)) ∈ tbG := tv_of (tv_3 (i := 1) rfl) rfl
theorem tw_3_2 : (Jvm.Cond.code ({ cls := "SmellHowLong", name := "smelt", desc := "(II)I" } : Jvm.MethodName) prog_1_method_12_code (3 : Nat) (Option.some Jvm.ClassFile.FieldType.int)) ∈ tbG := tv_of (tv_3 (i := 2) rfl) rfl
theorem tw_3_3 : (Jvm.Cond.methodLink "SmellHowLong" (133 : Nat) ({ cls := "SmellHowLong$Town", name := "tracesIn", desc := "(I)I" } : Jvm.MethodName)) ∈ tbG := tv_of (tv_3 (i := 3) rfl) rfl
theorem tw_3_4 : (Jvm.Cond.methodLink "SmellHowLong" (136 : Nat) ({ cls := "SmellHowLong$Town", name := "leastAge", desc := "(I)I" } : Jvm.MethodName)) ∈ tbG := tv_of (tv_3 (i := 4) rfl) rfl
theorem tw_3_5 : (Jvm.Cond.instanceMethod ({ cls := "SmellHowLong$Town", name := "leastAge", desc := "(I)I" } : Jvm.MethodName)) ∈ tbG := tv_of (tv_3 (i := 5) rfl) rfl
theorem tw_3_6 : (Jvm.Cond.selects "SmellHowLong$Town" ({ cls := "SmellHowLong$Town", name := "leastAge", desc := "(I)I" } : Jvm.MethodName) ({ cls := "SmellHowLong$Town", name := "leastAge", desc := "(I)I" } : Jvm.MethodName)) ∈ tbG := tv_of (tv_3 (i := 6) rfl) rfl
theorem tw_3_7 : (Jvm.Cond.code ({ cls := "SmellHowLong$Town", name := "leastAge", desc := "(I)I" } : Jvm.MethodName) prog_3_method_38_code (2 : Nat) (Option.some Jvm.ClassFile.FieldType.int)) ∈ tbG := tv_of (tv_3 (i := 7) rfl) rfl
theorem tw_3_8 : (Jvm.Cond.methodLink "SmellHowLong" (139 : Nat) ({ cls := "SmellHowLong$Town", name := "greatestAge", desc := "(I)I" } : Jvm.MethodName)) ∈ tbG := tv_of (tv_3 (i := 8) rfl) rfl
theorem tw_3_9 : (Jvm.Cond.instanceMethod ({ cls := "SmellHowLong$Town", name := "greatestAge", desc := "(I)I" } : Jvm.MethodName)) ∈ tbG := tv_of (tv_3 (i := 9) rfl) rfl
theorem tw_3_10 : (Jvm.Cond.selects "SmellHowLong$Town" ({ cls := "SmellHowLong$Town", name := "greatestAge", desc := "(I)I" } : Jvm.MethodName) ({ cls := "SmellHowLong$Town", name := "greatestAge", desc := "(I)I" } : Jvm.MethodName)) ∈ tbG := tv_of (tv_3 (i := 10) rfl) rfl
theorem tw_3_11 : (Jvm.Cond.code ({ cls := "SmellHowLong$Town", name := "greatestAge", desc := "(I)I" } : Jvm.MethodName) prog_3_method_39_code (2 : Nat) (Option.some Jvm.ClassFile.FieldType.int)) ∈ tbG := tv_of (tv_3 (i := 11) rfl) rfl
theorem tw_3_12 : (Jvm.Cond.methodLink "SmellHowLong" (142 : Nat) ({ cls := "SmellHowLong$Town", name := "toldApartIn", desc := "(I)I" } : Jvm.MethodName)) ∈ tbG := tv_of (tv_3 (i := 12) rfl) rfl
theorem tw_3_13 : (Jvm.Cond.instanceMethod ({ cls := "SmellHowLong$Town", name := "toldApartIn", desc := "(I)I" } : Jvm.MethodName)) ∈ tbG := tv_of (tv_3 (i := 13) rfl) rfl
theorem tw_3_14 : (Jvm.Cond.selects "SmellHowLong$Town" ({ cls := "SmellHowLong$Town", name := "toldApartIn", desc := "(I)I" } : Jvm.MethodName) ({ cls := "SmellHowLong$Town", name := "toldApartIn", desc := "(I)I" } : Jvm.MethodName)) ∈ tbG := tv_of (tv_3 (i := 14) rfl) rfl
theorem tw_3_15 : (Jvm.Cond.code ({ cls := "SmellHowLong$Town", name := "toldApartIn", desc := "(I)I" } : Jvm.MethodName) prog_3_method_42_code (4 : Nat) (Option.some Jvm.ClassFile.FieldType.int)) ∈ tbG := tv_of (tv_3 (i := 15) rfl) rfl
theorem tw_3_16 : (Jvm.Cond.methodLink "SmellHowLong$Town" (113 : Nat) ({ cls := "SmellHowLong$Town", name := "smellsAsOneBefore", desc := "(II)Z" } : Jvm.MethodName)) ∈ tbG := tv_of (tv_3 (i := 16) rfl) rfl
theorem tw_3_18 : (Jvm.Cond.instanceMethod ({ cls := "SmellHowLong$Town", name := "smellsAsOneBefore", desc := "(II)Z" } : Jvm.MethodName)) ∈ tbG := tv_of (tv_3 (i := 18) rfl) rfl
theorem tw_3_19 : (Jvm.Cond.code ({ cls := "SmellHowLong$Town", name := "smellsAsOneBefore", desc := "(II)Z" } : Jvm.MethodName) prog_3_method_43_code (5 : Nat) (Option.some Jvm.ClassFile.FieldType.boolean)) ∈ tbG := tv_of (tv_3 (i := 19) rfl) rfl
theorem tw_3_20 : (Jvm.Cond.methodLink "SmellHowLong$Town" (116 : Nat) ({ cls := "SmellHowLong$Town", name := "smellOf", desc := "(III)I" } : Jvm.MethodName)) ∈ tbG := tv_of (tv_3 (i := 20) rfl) rfl
theorem tw_3_22 : (Jvm.Cond.instanceMethod ({ cls := "SmellHowLong$Town", name := "smellOf", desc := "(III)I" } : Jvm.MethodName)) ∈ tbG := tv_of (tv_3 (i := 22) rfl) rfl
theorem tw_3_23 : (Jvm.Cond.code ({ cls := "SmellHowLong$Town", name := "smellOf", desc := "(III)I" } : Jvm.MethodName) prog_3_method_35_code (4 : Nat) (Option.some Jvm.ClassFile.FieldType.int)) ∈ tbG := tv_of (tv_3 (i := 23) rfl) rfl
theorem tw_3_24 : (Jvm.Cond.methodLink "SmellHowLongLaw" (60 : Nat) ({ cls := "SmellHowLong", name := "behind", desc := "(II)I" } : Jvm.MethodName)) ∈ tbG := tv_of (tv_3 (i := 24) rfl) rfl
theorem tw_3_25 : (Jvm.Cond.instanceMethod ({ cls := "SmellHowLong", name := "behind", desc := "(II)I" } : Jvm.MethodName)) ∈ tbG := tv_of (tv_3 (i := 25) rfl) rfl
theorem tw_3_26 : (Jvm.Cond.selects "SmellHowLong" ({ cls := "SmellHowLong", name := "behind", desc := "(II)I" } : Jvm.MethodName) ({ cls := "SmellHowLong", name := "behind", desc := "(II)I" } : Jvm.MethodName)) ∈ tbG := tv_of (tv_3 (i := 26) rfl) rfl
theorem tw_3_27 : (Jvm.Cond.code ({ cls := "SmellHowLong", name := "behind", desc := "(II)I" } : Jvm.MethodName) prog_1_method_13_code (4 : Nat) (Option.some Jvm.ClassFile.FieldType.int)) ∈ tbG := tv_of (tv_3 (i := 27) rfl) rfl
theorem tw_3_28 : (Jvm.Cond.methodLink "SmellHowLong" (145 : Nat) ({ cls := "SmellHowLong", name := "think", desc := "(I)V" } : Jvm.MethodName)) ∈ tbG := tv_of (tv_3 (i := 28) rfl) rfl
theorem tw_3_30 : (Jvm.Cond.instanceMethod ({ cls := "SmellHowLong", name := "think", desc := "(I)V" } : Jvm.MethodName)) ∈ tbG := tv_of (tv_3 (i := 30) rfl) rfl
theorem tw_3_31 : (Jvm.Cond.code ({ cls := "SmellHowLong", name := "think", desc := "(I)V" } : Jvm.MethodName) prog_1_method_35_code (2 : Nat) (Option.none : Option Jvm.ClassFile.FieldType)) ∈ tbG := tv_of (tv_3 (i := 31) rfl) rfl
theorem tw_3_32 : (Jvm.Cond.methodLink "SmellHowLongLaw" (64 : Nat) ({ cls := "SmellHowLong", name := "freshest", desc := "(II)I" } : Jvm.MethodName)) ∈ tbG := tv_of (tv_3 (i := 32) rfl) rfl
theorem tw_3_33 : (Jvm.Cond.instanceMethod ({ cls := "SmellHowLong", name := "freshest", desc := "(II)I" } : Jvm.MethodName)) ∈ tbG := tv_of (tv_3 (i := 33) rfl) rfl
theorem tw_3_34 : (Jvm.Cond.selects "SmellHowLong" ({ cls := "SmellHowLong", name := "freshest", desc := "(II)I" } : Jvm.MethodName) ({ cls := "SmellHowLong", name := "freshest", desc := "(II)I" } : Jvm.MethodName)) ∈ tbG := tv_of (tv_3 (i := 34) rfl) rfl
theorem tw_3_35 : (Jvm.Cond.code ({ cls := "SmellHowLong", name := "freshest", desc := "(II)I" } : Jvm.MethodName) prog_1_method_14_code (4 : Nat) (Option.some Jvm.ClassFile.FieldType.int)) ∈ tbG := tv_of (tv_3 (i := 35) rfl) rfl
theorem tw_3_36 : (Jvm.Cond.methodLink "SmellHowLongLaw" (68 : Nat) ({ cls := "SmellHowLong", name := "meet", desc := "(II)I" } : Jvm.MethodName)) ∈ tbG := tv_of (tv_3 (i := 36) rfl) rfl
theorem tw_3_37 : (Jvm.Cond.instanceMethod ({ cls := "SmellHowLong", name := "meet", desc := "(II)I" } : Jvm.MethodName)) ∈ tbG := tv_of (tv_3 (i := 37) rfl) rfl
theorem tw_3_38 : (Jvm.Cond.selects "SmellHowLong" ({ cls := "SmellHowLong", name := "meet", desc := "(II)I" } : Jvm.MethodName) ({ cls := "SmellHowLong", name := "meet", desc := "(II)I" } : Jvm.MethodName)) ∈ tbG := tv_of (tv_3 (i := 38) rfl) rfl
theorem tw_3_39 : (Jvm.Cond.code ({ cls := "SmellHowLong", name := "meet", desc := "(II)I" } : Jvm.MethodName) prog_1_method_15_code (4 : Nat) (Option.some Jvm.ClassFile.FieldType.int)) ∈ tbG := tv_of (tv_3 (i := 39) rfl) rfl
theorem tw_3_40 : (Jvm.Cond.methodLink "SmellHowLongLaw" (72 : Nat) ({ cls := "SmellHowLong", name := "scented", desc := "(I)I" } : Jvm.MethodName)) ∈ tbG := tv_of (tv_3 (i := 40) rfl) rfl
theorem tw_3_41 : (Jvm.Cond.instanceMethod ({ cls := "SmellHowLong", name := "scented", desc := "(I)I" } : Jvm.MethodName)) ∈ tbG := tv_of (tv_3 (i := 41) rfl) rfl
theorem tw_3_42 : (Jvm.Cond.selects "SmellHowLong" ({ cls := "SmellHowLong", name := "scented", desc := "(I)I" } : Jvm.MethodName) ({ cls := "SmellHowLong", name := "scented", desc := "(I)I" } : Jvm.MethodName)) ∈ tbG := tv_of (tv_3 (i := 42) rfl) rfl
theorem tw_3_43 : (Jvm.Cond.code ({ cls := "SmellHowLong", name := "scented", desc := "(I)I" } : Jvm.MethodName) prog_1_method_16_code (3 : Nat) (Option.some Jvm.ClassFile.FieldType.int)) ∈ tbG := tv_of (tv_3 (i := 43) rfl) rfl
theorem tw_3_44 : (Jvm.Cond.methodLink "SmellHowLong" (152 : Nat) ({ cls := "SmellHowLong$Town", name := "walkersAmongOthersTraces", desc := "()I" } : Jvm.MethodName)) ∈ tbG := tv_of (tv_3 (i := 44) rfl) rfl
theorem tw_3_45 : (Jvm.Cond.instanceMethod ({ cls := "SmellHowLong$Town", name := "walkersAmongOthersTraces", desc := "()I" } : Jvm.MethodName)) ∈ tbG := tv_of (tv_3 (i := 45) rfl) rfl
theorem tw_3_46 : (Jvm.Cond.selects "SmellHowLong$Town" ({ cls := "SmellHowLong$Town", name := "walkersAmongOthersTraces", desc := "()I" } : Jvm.MethodName) ({ cls := "SmellHowLong$Town", name := "walkersAmongOthersTraces", desc := "()I" } : Jvm.MethodName)) ∈ tbG := tv_of (tv_3 (i := 46) rfl) rfl
theorem tw_3_47 : (Jvm.Cond.code ({ cls := "SmellHowLong$Town", name := "walkersAmongOthersTraces", desc := "()I" } : Jvm.MethodName) prog_3_method_45_code (3 : Nat) (Option.some Jvm.ClassFile.FieldType.int)) ∈ tbG := tv_of (tv_3 (i := 47) rfl) rfl
theorem tw_3_48 : (Jvm.Cond.methodLink "SmellHowLongLaw" (76 : Nat) ({ cls := "SmellHowLong", name := "walked", desc := "(I)I" } : Jvm.MethodName)) ∈ tbG := tv_of (tv_3 (i := 48) rfl) rfl
theorem tw_3_49 : (Jvm.Cond.instanceMethod ({ cls := "SmellHowLong", name := "walked", desc := "(I)I" } : Jvm.MethodName)) ∈ tbG := tv_of (tv_3 (i := 49) rfl) rfl
theorem tw_3_50 : (Jvm.Cond.selects "SmellHowLong" ({ cls := "SmellHowLong", name := "walked", desc := "(I)I" } : Jvm.MethodName) ({ cls := "SmellHowLong", name := "walked", desc := "(I)I" } : Jvm.MethodName)) ∈ tbG := tv_of (tv_3 (i := 50) rfl) rfl
theorem tw_3_51 : (Jvm.Cond.code ({ cls := "SmellHowLong", name := "walked", desc := "(I)I" } : Jvm.MethodName) prog_1_method_17_code (3 : Nat) (Option.some Jvm.ClassFile.FieldType.int)) ∈ tbG := tv_of (tv_3 (i := 51) rfl) rfl
theorem tw_3_52 : (Jvm.Cond.methodLink "SmellHowLong" (155 : Nat) ({ cls := "SmellHowLong", name := "walksRefusal", desc := "(II)I" } : Jvm.MethodName)) ∈ tbG := tv_of (tv_3 (i := 52) rfl) rfl
theorem tw_3_54 : (Jvm.Cond.instanceMethod ({ cls := "SmellHowLong", name := "walksRefusal", desc := "(II)I" } : Jvm.MethodName)) ∈ tbG := tv_of (tv_3 (i := 54) rfl) rfl
theorem tw_3_55 : (Jvm.Cond.code ({ cls := "SmellHowLong", name := "walksRefusal", desc := "(II)I" } : Jvm.MethodName) prog_1_method_33_code (3 : Nat) (Option.some Jvm.ClassFile.FieldType.int)) ∈ tbG := tv_of (tv_3 (i := 55) rfl) rfl
theorem tw_3_56 : (Jvm.Cond.methodLink "SmellHowLong" (158 : Nat) ({ cls := "SmellHowLong$Walks", name := "find", desc := "([IILSmellHowLong$Town;)V" } : Jvm.MethodName)) ∈ tbG := tv_of (tv_3 (i := 56) rfl) rfl
theorem tw_3_57 : (Jvm.Cond.instanceMethod ({ cls := "SmellHowLong$Walks", name := "find", desc := "([IILSmellHowLong$Town;)V" } : Jvm.MethodName)) ∈ tbG := tv_of (tv_3 (i := 57) rfl) rfl
theorem tw_3_58 : (Jvm.Cond.selects "SmellHowLong$Walks" ({ cls := "SmellHowLong$Walks", name := "find", desc := "([IILSmellHowLong$Town;)V" } : Jvm.MethodName) ({ cls := "SmellHowLong$Walks", name := "find", desc := "([IILSmellHowLong$Town;)V" } : Jvm.MethodName)) ∈ tbG := tv_of (tv_3 (i := 58) rfl) rfl
theorem tw_3_59 : (Jvm.Cond.code ({ cls := "SmellHowLong$Walks", name := "find", desc := "([IILSmellHowLong$Town;)V" } : Jvm.MethodName) prog_4_method_2_code (6 : Nat) (Option.none : Option Jvm.ClassFile.FieldType)) ∈ tbG := tv_of (tv_3 (i := 59) rfl) rfl
theorem tw_3_60 : (Jvm.Cond.methodLink "SmellHowLong$Walks" (27 : Nat) ({ cls := "SmellHowLong$Walks", name := "openRooms", desc := "([II)I" } : Jvm.MethodName)) ∈ tbG := tv_of (tv_3 (i := 60) rfl) rfl
theorem tw_3_62 : (Jvm.Cond.instanceMethod ({ cls := "SmellHowLong$Walks", name := "openRooms", desc := "([II)I" } : Jvm.MethodName)) ∈ tbG := tv_of (tv_3 (i := 62) rfl) rfl
theorem tw_3_63 : (Jvm.Cond.code ({ cls := "SmellHowLong$Walks", name := "openRooms", desc := "([II)I" } : Jvm.MethodName) prog_4_method_3_code (7 : Nat) (Option.some Jvm.ClassFile.FieldType.int)) ∈ tbG := tv_of (tv_3 (i := 63) rfl) rfl
theorem tw_3_64 : (Jvm.Cond.methodLink "SmellHowLong$Walks" (39 : Nat) ({ cls := "java/lang/Integer", name := "bitCount", desc := "(I)I" } : Jvm.MethodName)) ∈ tbG := tv_of (tv_3 (i := 64) rfl) rfl
theorem tw_3_65 : (Jvm.Cond.static ({ cls := "java/lang/Integer", name := "bitCount", desc := "(I)I" } : Jvm.MethodName)) ∈ tbG := tv_of (tv_3 (i := 65) rfl) rfl
theorem tw_3_66 : (Jvm.Cond.code ({ cls := "java/lang/Integer", name := "bitCount", desc := "(I)I" } : Jvm.MethodName) prog_8_method_49_code (1 : Nat) (Option.some Jvm.ClassFile.FieldType.int)) ∈ tbG := tv_of (tv_3 (i := 66) rfl) rfl
theorem tw_3_67 : (Jvm.Cond.constant "java/lang/Integer" (265 : Nat) (1431655765 : Int32)) ∈ tbG := tv_of (tv_3 (i := 67) rfl) rfl
theorem tw_3_68 : (Jvm.Cond.constant "java/lang/Integer" (266 : Nat) (858993459 : Int32)) ∈ tbG := tv_of (tv_3 (i := 68) rfl) rfl
theorem tw_3_69 : (Jvm.Cond.constant "java/lang/Integer" (267 : Nat) (252645135 : Int32)) ∈ tbG := tv_of (tv_3 (i := 69) rfl) rfl
theorem tw_3_70 : (Jvm.Cond.methodLink "SmellHowLong$Walks" (31 : Nat) ({ cls := "SmellHowLong$Walks", name := "openWays", desc := "(III)I" } : Jvm.MethodName)) ∈ tbG := tv_of (tv_3 (i := 70) rfl) rfl
theorem tw_3_72 : (Jvm.Cond.instanceMethod ({ cls := "SmellHowLong$Walks", name := "openWays", desc := "(III)I" } : Jvm.MethodName)) ∈ tbG := tv_of (tv_3 (i := 72) rfl) rfl
theorem tw_3_73 : (Jvm.Cond.code ({ cls := "SmellHowLong$Walks", name := "openWays", desc := "(III)I" } : Jvm.MethodName) prog_4_method_4_code (4 : Nat) (Option.some Jvm.ClassFile.FieldType.int)) ∈ tbG := tv_of (tv_3 (i := 73) rfl) rfl
theorem tw_3_74 : (Jvm.Cond.methodLink "SmellHowLong$Walks" (35 : Nat) ({ cls := "SmellHowLong$Walks", name := "sumWithin", desc := "([IILSmellHowLong$Town;)I" } : Jvm.MethodName)) ∈ tbG := tv_of (tv_3 (i := 74) rfl) rfl
theorem tw_3_75 : (Jvm.Cond.static ({ cls := "SmellHowLong$Walks", name := "sumWithin", desc := "([IILSmellHowLong$Town;)I" } : Jvm.MethodName)) ∈ tbG := tv_of (tv_3 (i := 75) rfl) rfl
theorem tw_3_76 : (Jvm.Cond.code ({ cls := "SmellHowLong$Walks", name := "sumWithin", desc := "([IILSmellHowLong$Town;)I" } : Jvm.MethodName) prog_4_method_5_code (5 : Nat) (Option.some Jvm.ClassFile.FieldType.int)) ∈ tbG := tv_of (tv_3 (i := 76) rfl) rfl
theorem tw_3_77 : (Jvm.Cond.methodLink "SmellHowLong$Walks" (45 : Nat) ({ cls := "SmellHowLong$Town", name := "isPath", desc := "(II)Z" } : Jvm.MethodName)) ∈ tbG := tv_of (tv_3 (i := 77) rfl) rfl
theorem tw_3_78 : (Jvm.Cond.methodLink "SmellHowLong" (162 : Nat) ({ cls := "SmellHowLong$Walks", name := "ways", desc := "()I" } : Jvm.MethodName)) ∈ tbG := tv_of (tv_3 (i := 78) rfl) rfl
theorem tw_3_79 : (Jvm.Cond.instanceMethod ({ cls := "SmellHowLong$Walks", name := "ways", desc := "()I" } : Jvm.MethodName)) ∈ tbG := tv_of (tv_3 (i := 79) rfl) rfl
theorem tw_3_80 : (Jvm.Cond.selects "SmellHowLong$Walks" ({ cls := "SmellHowLong$Walks", name := "ways", desc := "()I" } : Jvm.MethodName) ({ cls := "SmellHowLong$Walks", name := "ways", desc := "()I" } : Jvm.MethodName)) ∈ tbG := tv_of (tv_3 (i := 80) rfl) rfl
theorem tw_3_81 : (Jvm.Cond.code ({ cls := "SmellHowLong$Walks", name := "ways", desc := "()I" } : Jvm.MethodName) prog_4_method_7_code (3 : Nat) (Option.some Jvm.ClassFile.FieldType.int)) ∈ tbG := tv_of (tv_3 (i := 81) rfl) rfl
theorem tw_3_82 : (Jvm.Cond.methodLink "SmellHowLongLaw" (80 : Nat) ({ cls := "SmellHowLong", name := "likeliest", desc := "(II)I" } : Jvm.MethodName)) ∈ tbG := tv_of (tv_3 (i := 82) rfl) rfl
theorem tw_3_83 : (Jvm.Cond.instanceMethod ({ cls := "SmellHowLong", name := "likeliest", desc := "(II)I" } : Jvm.MethodName)) ∈ tbG := tv_of (tv_3 (i := 83) rfl) rfl
theorem tw_3_84 : (Jvm.Cond.selects "SmellHowLong" ({ cls := "SmellHowLong", name := "likeliest", desc := "(II)I" } : Jvm.MethodName) ({ cls := "SmellHowLong", name := "likeliest", desc := "(II)I" } : Jvm.MethodName)) ∈ tbG := tv_of (tv_3 (i := 84) rfl) rfl
theorem tw_3_85 : (Jvm.Cond.code ({ cls := "SmellHowLong", name := "likeliest", desc := "(II)I" } : Jvm.MethodName) prog_1_method_18_code (4 : Nat) (Option.some Jvm.ClassFile.FieldType.int)) ∈ tbG := tv_of (tv_3 (i := 85) rfl) rfl
theorem tw_3_86 : (Jvm.Cond.methodLink "SmellHowLong" (165 : Nat) ({ cls := "SmellHowLong$Walks", name := "commonestRoom", desc := "(I)I" } : Jvm.MethodName)) ∈ tbG := tv_of (tv_3 (i := 86) rfl) rfl
theorem tw_3_87 : (Jvm.Cond.instanceMethod ({ cls := "SmellHowLong$Walks", name := "commonestRoom", desc := "(I)I" } : Jvm.MethodName)) ∈ tbG := tv_of (tv_3 (i := 87) rfl) rfl
theorem tw_3_88 : (Jvm.Cond.selects "SmellHowLong$Walks" ({ cls := "SmellHowLong$Walks", name := "commonestRoom", desc := "(I)I" } : Jvm.MethodName) ({ cls := "SmellHowLong$Walks", name := "commonestRoom", desc := "(I)I" } : Jvm.MethodName)) ∈ tbG := tv_of (tv_3 (i := 88) rfl) rfl
theorem tw_3_89 : (Jvm.Cond.code ({ cls := "SmellHowLong$Walks", name := "commonestRoom", desc := "(I)I" } : Jvm.MethodName) prog_4_method_8_code (6 : Nat) (Option.some Jvm.ClassFile.FieldType.int)) ∈ tbG := tv_of (tv_3 (i := 89) rfl) rfl
theorem tw_3_90 : (Jvm.Cond.methodLink "SmellHowLong$Walks" (51 : Nat) ({ cls := "SmellHowLong$Walks", name := "waysThrough", desc := "(II)I" } : Jvm.MethodName)) ∈ tbG := tv_of (tv_3 (i := 90) rfl) rfl
theorem tw_3_92 : (Jvm.Cond.instanceMethod ({ cls := "SmellHowLong$Walks", name := "waysThrough", desc := "(II)I" } : Jvm.MethodName)) ∈ tbG := tv_of (tv_3 (i := 92) rfl) rfl
theorem tw_3_93 : (Jvm.Cond.code ({ cls := "SmellHowLong$Walks", name := "waysThrough", desc := "(II)I" } : Jvm.MethodName) prog_4_method_6_code (3 : Nat) (Option.some Jvm.ClassFile.FieldType.int)) ∈ tbG := tv_of (tv_3 (i := 93) rfl) rfl
theorem tw_3_94 : (Jvm.Cond.methodLink "SmellHowLongLaw" (84 : Nat) ({ cls := "SmellHowLong", name := "sure", desc := "(II)I" } : Jvm.MethodName)) ∈ tbG := tv_of (tv_3 (i := 94) rfl) rfl
theorem tw_3_95 : (Jvm.Cond.instanceMethod ({ cls := "SmellHowLong", name := "sure", desc := "(II)I" } : Jvm.MethodName)) ∈ tbG := tv_of (tv_3 (i := 95) rfl) rfl
theorem tw_3_96 : (Jvm.Cond.selects "SmellHowLong" ({ cls := "SmellHowLong", name := "sure", desc := "(II)I" } : Jvm.MethodName) ({ cls := "SmellHowLong", name := "sure", desc := "(II)I" } : Jvm.MethodName)) ∈ tbG := tv_of (tv_3 (i := 96) rfl) rfl
theorem tw_3_97 : (Jvm.Cond.code ({ cls := "SmellHowLong", name := "sure", desc := "(II)I" } : Jvm.MethodName) prog_1_method_19_code (4 : Nat) (Option.some Jvm.ClassFile.FieldType.int)) ∈ tbG := tv_of (tv_3 (i := 97) rfl) rfl
theorem tw_3_98 : (Jvm.Cond.methodLink "SmellHowLong" (168 : Nat) ({ cls := "SmellHowLong$Walks", name := "roomsThen", desc := "(I)I" } : Jvm.MethodName)) ∈ tbG := tv_of (tv_3 (i := 98) rfl) rfl
theorem tw_3_99 : (Jvm.Cond.instanceMethod ({ cls := "SmellHowLong$Walks", name := "roomsThen", desc := "(I)I" } : Jvm.MethodName)) ∈ tbG := tv_of (tv_3 (i := 99) rfl) rfl
theorem tw_3_100 : (Jvm.Cond.selects "SmellHowLong$Walks" ({ cls := "SmellHowLong$Walks", name := "roomsThen", desc := "(I)I" } : Jvm.MethodName) ({ cls := "SmellHowLong$Walks", name := "roomsThen", desc := "(I)I" } : Jvm.MethodName)) ∈ tbG := tv_of (tv_3 (i := 100) rfl) rfl
theorem tw_3_101 : (Jvm.Cond.code ({ cls := "SmellHowLong$Walks", name := "roomsThen", desc := "(I)I" } : Jvm.MethodName) prog_4_method_9_code (4 : Nat) (Option.some Jvm.ClassFile.FieldType.int)) ∈ tbG := tv_of (tv_3 (i := 101) rfl) rfl
theorem tw_3_102 : (Jvm.Cond.methodLink "SmellHowLongLaw" (88 : Nat) ({ cls := "SmellHowLong", name := "across", desc := "(II)I" } : Jvm.MethodName)) ∈ tbG := tv_of (tv_3 (i := 102) rfl) rfl
theorem tw_3_103 : (Jvm.Cond.instanceMethod ({ cls := "SmellHowLong", name := "across", desc := "(II)I" } : Jvm.MethodName)) ∈ tbG := tv_of (tv_3 (i := 103) rfl) rfl
theorem tw_3_104 : (Jvm.Cond.selects "SmellHowLong" ({ cls := "SmellHowLong", name := "across", desc := "(II)I" } : Jvm.MethodName) ({ cls := "SmellHowLong", name := "across", desc := "(II)I" } : Jvm.MethodName)) ∈ tbG := tv_of (tv_3 (i := 104) rfl) rfl
theorem tw_3_105 : (Jvm.Cond.code ({ cls := "SmellHowLong", name := "across", desc := "(II)I" } : Jvm.MethodName) prog_1_method_20_code (3 : Nat) (Option.some Jvm.ClassFile.FieldType.int)) ∈ tbG := tv_of (tv_3 (i := 105) rfl) rfl
theorem tw_3_106 : (Jvm.Cond.methodLink "SmellHowLong" (171 : Nat) ({ cls := "SmellHowLong", name := "soonest", desc := "(IIZ)I" } : Jvm.MethodName)) ∈ tbG := tv_of (tv_3 (i := 106) rfl) rfl
theorem tw_3_108 : (Jvm.Cond.instanceMethod ({ cls := "SmellHowLong", name := "soonest", desc := "(IIZ)I" } : Jvm.MethodName)) ∈ tbG := tv_of (tv_3 (i := 108) rfl) rfl
theorem tw_3_109 : (Jvm.Cond.code ({ cls := "SmellHowLong", name := "soonest", desc := "(IIZ)I" } : Jvm.MethodName) prog_1_method_36_code (7 : Nat) (Option.some Jvm.ClassFile.FieldType.int)) ∈ tbG := tv_of (tv_3 (i := 109) rfl) rfl
theorem tw_3_110 : (Jvm.Cond.methodLink "SmellHowLong" (204 : Nat) ({ cls := "SmellHowLong$Town", name := "roomsWithTraceUpTo", desc := "(I)I" } : Jvm.MethodName)) ∈ tbG := tv_of (tv_3 (i := 110) rfl) rfl
theorem tw_3_111 : (Jvm.Cond.instanceMethod ({ cls := "SmellHowLong$Town", name := "roomsWithTraceUpTo", desc := "(I)I" } : Jvm.MethodName)) ∈ tbG := tv_of (tv_3 (i := 111) rfl) rfl
theorem tw_3_112 : (Jvm.Cond.selects "SmellHowLong$Town" ({ cls := "SmellHowLong$Town", name := "roomsWithTraceUpTo", desc := "(I)I" } : Jvm.MethodName) ({ cls := "SmellHowLong$Town", name := "roomsWithTraceUpTo", desc := "(I)I" } : Jvm.MethodName)) ∈ tbG := tv_of (tv_3 (i := 112) rfl) rfl
theorem tw_3_113 : (Jvm.Cond.code ({ cls := "SmellHowLong$Town", name := "roomsWithTraceUpTo", desc := "(I)I" } : Jvm.MethodName) prog_3_method_47_code (5 : Nat) (Option.some Jvm.ClassFile.FieldType.int)) ∈ tbG := tv_of (tv_3 (i := 113) rfl) rfl
theorem tw_3_114 : (Jvm.Cond.methodLink "SmellHowLong$Town" (119 : Nat) ({ cls := "SmellHowLong$Town", name := "leastAge", desc := "(I)I" } : Jvm.MethodName)) ∈ tbG := tv_of (tv_3 (i := 114) rfl) rfl
theorem tw_3_115 : (Jvm.Cond.methodLink "SmellHowLong" (207 : Nat) ({ cls := "SmellHowLong$Town", name := "emptyRooms", desc := "()I" } : Jvm.MethodName)) ∈ tbG := tv_of (tv_3 (i := 115) rfl) rfl
theorem tw_3_116 : (Jvm.Cond.instanceMethod ({ cls := "SmellHowLong$Town", name := "emptyRooms", desc := "()I" } : Jvm.MethodName)) ∈ tbG := tv_of (tv_3 (i := 116) rfl) rfl
theorem tw_3_117 : (Jvm.Cond.selects "SmellHowLong$Town" ({ cls := "SmellHowLong$Town", name := "emptyRooms", desc := "()I" } : Jvm.MethodName) ({ cls := "SmellHowLong$Town", name := "emptyRooms", desc := "()I" } : Jvm.MethodName)) ∈ tbG := tv_of (tv_3 (i := 117) rfl) rfl
theorem tw_3_118 : (Jvm.Cond.code ({ cls := "SmellHowLong$Town", name := "emptyRooms", desc := "()I" } : Jvm.MethodName) prog_3_method_46_code (3 : Nat) (Option.some Jvm.ClassFile.FieldType.int)) ∈ tbG := tv_of (tv_3 (i := 118) rfl) rfl
theorem tw_3_119 : (Jvm.Cond.methodLink "SmellHowLong" (210 : Nat) ({ cls := "SmellHowLong$Town", name := "within", desc := "(I)I" } : Jvm.MethodName)) ∈ tbG := tv_of (tv_3 (i := 119) rfl) rfl
theorem tw_3_120 : (Jvm.Cond.instanceMethod ({ cls := "SmellHowLong$Town", name := "within", desc := "(I)I" } : Jvm.MethodName)) ∈ tbG := tv_of (tv_3 (i := 120) rfl) rfl
theorem tw_3_121 : (Jvm.Cond.selects "SmellHowLong$Town" ({ cls := "SmellHowLong$Town", name := "within", desc := "(I)I" } : Jvm.MethodName) ({ cls := "SmellHowLong$Town", name := "within", desc := "(I)I" } : Jvm.MethodName)) ∈ tbG := tv_of (tv_3 (i := 121) rfl) rfl
theorem tw_3_122 : (Jvm.Cond.code ({ cls := "SmellHowLong$Town", name := "within", desc := "(I)I" } : Jvm.MethodName) prog_3_method_17_code (4 : Nat) (Option.some Jvm.ClassFile.FieldType.int)) ∈ tbG := tv_of (tv_3 (i := 122) rfl) rfl
theorem tw_3_123 : (Jvm.Cond.methodLink "SmellHowLongLaw" (92 : Nat) ({ cls := "SmellHowLong", name := "covered", desc := "(II)I" } : Jvm.MethodName)) ∈ tbG := tv_of (tv_3 (i := 123) rfl) rfl
theorem tw_3_124 : (Jvm.Cond.instanceMethod ({ cls := "SmellHowLong", name := "covered", desc := "(II)I" } : Jvm.MethodName)) ∈ tbG := tv_of (tv_3 (i := 124) rfl) rfl
theorem tw_3_125 : (Jvm.Cond.selects "SmellHowLong" ({ cls := "SmellHowLong", name := "covered", desc := "(II)I" } : Jvm.MethodName) ({ cls := "SmellHowLong", name := "covered", desc := "(II)I" } : Jvm.MethodName)) ∈ tbG := tv_of (tv_3 (i := 125) rfl) rfl
theorem tw_3_126 : (Jvm.Cond.code ({ cls := "SmellHowLong", name := "covered", desc := "(II)I" } : Jvm.MethodName) prog_1_method_21_code (3 : Nat) (Option.some Jvm.ClassFile.FieldType.int)) ∈ tbG := tv_of (tv_3 (i := 126) rfl) rfl
theorem tw_3_127 : (Jvm.Cond.methodLink "SmellHowLongLaw" (96 : Nat) ({ cls := "SmellHowLong", name := "told", desc := "(I)I" } : Jvm.MethodName)) ∈ tbG := tv_of (tv_3 (i := 127) rfl) rfl
theorem tw_3_128 : (Jvm.Cond.instanceMethod ({ cls := "SmellHowLong", name := "told", desc := "(I)I" } : Jvm.MethodName)) ∈ tbG := tv_of (tv_3 (i := 128) rfl) rfl
theorem tw_3_129 : (Jvm.Cond.selects "SmellHowLong" ({ cls := "SmellHowLong", name := "told", desc := "(I)I" } : Jvm.MethodName) ({ cls := "SmellHowLong", name := "told", desc := "(I)I" } : Jvm.MethodName)) ∈ tbG := tv_of (tv_3 (i := 129) rfl) rfl
theorem tw_3_130 : (Jvm.Cond.code ({ cls := "SmellHowLong", name := "told", desc := "(I)I" } : Jvm.MethodName) prog_1_method_22_code (3 : Nat) (Option.some Jvm.ClassFile.FieldType.int)) ∈ tbG := tv_of (tv_3 (i := 130) rfl) rfl
theorem tw_3_131 : (Jvm.Cond.methodLink "SmellHowLong" (175 : Nat) ({ cls := "SmellHowLong$Town", name := "isFreshestApart", desc := "(II)Z" } : Jvm.MethodName)) ∈ tbG := tv_of (tv_3 (i := 131) rfl) rfl
theorem tw_3_132 : (Jvm.Cond.instanceMethod ({ cls := "SmellHowLong$Town", name := "isFreshestApart", desc := "(II)Z" } : Jvm.MethodName)) ∈ tbG := tv_of (tv_3 (i := 132) rfl) rfl
theorem tw_3_133 : (Jvm.Cond.selects "SmellHowLong$Town" ({ cls := "SmellHowLong$Town", name := "isFreshestApart", desc := "(II)Z" } : Jvm.MethodName) ({ cls := "SmellHowLong$Town", name := "isFreshestApart", desc := "(II)Z" } : Jvm.MethodName)) ∈ tbG := tv_of (tv_3 (i := 133) rfl) rfl
theorem tw_3_134 : (Jvm.Cond.code ({ cls := "SmellHowLong$Town", name := "isFreshestApart", desc := "(II)Z" } : Jvm.MethodName) prog_3_method_44_code (7 : Nat) (Option.some Jvm.ClassFile.FieldType.boolean)) ∈ tbG := tv_of (tv_3 (i := 134) rfl) rfl
theorem tw_3_135 : (Jvm.Cond.methodLink "SmellHowLongLaw" (100 : Nat) ({ cls := "SmellHowLong", name := "row", desc := "(I)I" } : Jvm.MethodName)) ∈ tbG := tv_of (tv_3 (i := 135) rfl) rfl
theorem tw_3_136 : (Jvm.Cond.instanceMethod ({ cls := "SmellHowLong", name := "row", desc := "(I)I" } : Jvm.MethodName)) ∈ tbG := tv_of (tv_3 (i := 136) rfl) rfl
theorem tw_3_137 : (Jvm.Cond.selects "SmellHowLong" ({ cls := "SmellHowLong", name := "row", desc := "(I)I" } : Jvm.MethodName) ({ cls := "SmellHowLong", name := "row", desc := "(I)I" } : Jvm.MethodName)) ∈ tbG := tv_of (tv_3 (i := 137) rfl) rfl
theorem tw_3_138 : (Jvm.Cond.code ({ cls := "SmellHowLong", name := "row", desc := "(I)I" } : Jvm.MethodName) prog_1_method_23_code (2 : Nat) (Option.some Jvm.ClassFile.FieldType.int)) ∈ tbG := tv_of (tv_3 (i := 138) rfl) rfl
theorem tw_3_139 : (Jvm.Cond.methodLink "SmellHowLongLaw" (104 : Nat) ({ cls := "SmellHowLong", name := "judge", desc := "()I" } : Jvm.MethodName)) ∈ tbG := tv_of (tv_3 (i := 139) rfl) rfl
theorem tw_3_140 : (Jvm.Cond.instanceMethod ({ cls := "SmellHowLong", name := "judge", desc := "()I" } : Jvm.MethodName)) ∈ tbG := tv_of (tv_3 (i := 140) rfl) rfl
theorem tw_3_141 : (Jvm.Cond.selects "SmellHowLong" ({ cls := "SmellHowLong", name := "judge", desc := "()I" } : Jvm.MethodName) ({ cls := "SmellHowLong", name := "judge", desc := "()I" } : Jvm.MethodName)) ∈ tbG := tv_of (tv_3 (i := 141) rfl) rfl
theorem tw_3_142 : (Jvm.Cond.code ({ cls := "SmellHowLong", name := "judge", desc := "()I" } : Jvm.MethodName) prog_1_method_24_code (2 : Nat) (Option.some Jvm.ClassFile.FieldType.int)) ∈ tbG := tv_of (tv_3 (i := 142) rfl) rfl
theorem tw_3_143 : (Jvm.Cond.methodLink "SmellHowLong" (179 : Nat) ({ cls := "SmellHowLong", name := "firstWrong", desc := "()I" } : Jvm.MethodName)) ∈ tbG := tv_of (tv_3 (i := 143) rfl) rfl
theorem tw_3_145 : (Jvm.Cond.instanceMethod ({ cls := "SmellHowLong", name := "firstWrong", desc := "()I" } : Jvm.MethodName)) ∈ tbG := tv_of (tv_3 (i := 145) rfl) rfl
theorem tw_3_146 : (Jvm.Cond.code ({ cls := "SmellHowLong", name := "firstWrong", desc := "()I" } : Jvm.MethodName) prog_1_method_37_code (5 : Nat) (Option.some Jvm.ClassFile.FieldType.int)) ∈ tbG := tv_of (tv_3 (i := 146) rfl) rfl
theorem tw_3_147 : (Jvm.Cond.methodLink "SmellHowLongLaw" (108 : Nat) ({ cls := "SmellHowLong", name := "clear", desc := "()I" } : Jvm.MethodName)) ∈ tbG := tv_of (tv_3 (i := 147) rfl) rfl
theorem tw_3_148 : (Jvm.Cond.instanceMethod ({ cls := "SmellHowLong", name := "clear", desc := "()I" } : Jvm.MethodName)) ∈ tbG := tv_of (tv_3 (i := 148) rfl) rfl
theorem tw_3_149 : (Jvm.Cond.selects "SmellHowLong" ({ cls := "SmellHowLong", name := "clear", desc := "()I" } : Jvm.MethodName) ({ cls := "SmellHowLong", name := "clear", desc := "()I" } : Jvm.MethodName)) ∈ tbG := tv_of (tv_3 (i := 149) rfl) rfl
theorem tw_3_150 : (Jvm.Cond.code ({ cls := "SmellHowLong", name := "clear", desc := "()I" } : Jvm.MethodName) prog_1_method_25_code (2 : Nat) (Option.some Jvm.ClassFile.FieldType.int)) ∈ tbG := tv_of (tv_3 (i := 150) rfl) rfl
theorem tw_3_151 : (Jvm.Cond.methodLink "SmellHowLongLaw" (112 : Nat) ({ cls := "SmellHowLong", name := "seeds", desc := "(III)I" } : Jvm.MethodName)) ∈ tbG := tv_of (tv_3 (i := 151) rfl) rfl
theorem tw_3_152 : (Jvm.Cond.instanceMethod ({ cls := "SmellHowLong", name := "seeds", desc := "(III)I" } : Jvm.MethodName)) ∈ tbG := tv_of (tv_3 (i := 152) rfl) rfl
theorem tw_3_153 : (Jvm.Cond.selects "SmellHowLong" ({ cls := "SmellHowLong", name := "seeds", desc := "(III)I" } : Jvm.MethodName) ({ cls := "SmellHowLong", name := "seeds", desc := "(III)I" } : Jvm.MethodName)) ∈ tbG := tv_of (tv_3 (i := 153) rfl) rfl
theorem tw_3_154 : (Jvm.Cond.code ({ cls := "SmellHowLong", name := "seeds", desc := "(III)I" } : Jvm.MethodName) prog_1_method_26_code (7 : Nat) (Option.some Jvm.ClassFile.FieldType.int)) ∈ tbG := tv_of (tv_3 (i := 154) rfl) rfl
theorem tw_3_155 : (Jvm.Cond.methodLink "SmellHowLong" (182 : Nat) ({ cls := "SmellHowLong$Town", name := "scatter", desc := "(I)I" } : Jvm.MethodName)) ∈ tbG := tv_of (tv_3 (i := 155) rfl) rfl
theorem tw_3_156 : (Jvm.Cond.instanceMethod ({ cls := "SmellHowLong$Town", name := "scatter", desc := "(I)I" } : Jvm.MethodName)) ∈ tbG := tv_of (tv_3 (i := 156) rfl) rfl
theorem tw_3_157 : (Jvm.Cond.selects "SmellHowLong$Town" ({ cls := "SmellHowLong$Town", name := "scatter", desc := "(I)I" } : Jvm.MethodName) ({ cls := "SmellHowLong$Town", name := "scatter", desc := "(I)I" } : Jvm.MethodName)) ∈ tbG := tv_of (tv_3 (i := 157) rfl) rfl
theorem tw_3_158 : (Jvm.Cond.code ({ cls := "SmellHowLong$Town", name := "scatter", desc := "(I)I" } : Jvm.MethodName) prog_3_method_30_code (4 : Nat) (Option.some Jvm.ClassFile.FieldType.int)) ∈ tbG := tv_of (tv_3 (i := 158) rfl) rfl
theorem tw_3_159 : (Jvm.Cond.constant "SmellHowLong$Town" (93 : Nat) (1664525 : Int32)) ∈ tbG := tv_of (tv_3 (i := 159) rfl) rfl
theorem tw_3_160 : (Jvm.Cond.constant "SmellHowLong$Town" (94 : Nat) (1013904223 : Int32)) ∈ tbG := tv_of (tv_3 (i := 160) rfl) rfl
theorem tw_3_161 : (Jvm.Cond.constant "SmellHowLong$Town" (95 : Nat) (2147483647 : Int32)) ∈ tbG := tv_of (tv_3 (i := 161) rfl) rfl
theorem tw_3_162 : (Jvm.Cond.methodLink "SmellHowLongLaw" (117 : Nat) ({ cls := "SmellHowLong", name := "image", desc := "()I" } : Jvm.MethodName)) ∈ tbG := tv_of (tv_3 (i := 162) rfl) rfl
theorem tw_3_163 : (Jvm.Cond.instanceMethod ({ cls := "SmellHowLong", name := "image", desc := "()I" } : Jvm.MethodName)) ∈ tbG := tv_of (tv_3 (i := 163) rfl) rfl
theorem tw_3_164 : (Jvm.Cond.selects "SmellHowLong" ({ cls := "SmellHowLong", name := "image", desc := "()I" } : Jvm.MethodName) ({ cls := "SmellHowLong", name := "image", desc := "()I" } : Jvm.MethodName)) ∈ tbG := tv_of (tv_3 (i := 164) rfl) rfl
theorem tw_3_165 : (Jvm.Cond.code ({ cls := "SmellHowLong", name := "image", desc := "()I" } : Jvm.MethodName) prog_1_method_27_code (1 : Nat) (Option.some Jvm.ClassFile.FieldType.int)) ∈ tbG := tv_of (tv_3 (i := 165) rfl) rfl
theorem tw_3_166 : (Jvm.Cond.methodLink "SmellHowLongLaw" (121 : Nat) ({ cls := "SmellHowLong", name := "on", desc := "()I" } : Jvm.MethodName)) ∈ tbG := tv_of (tv_3 (i := 166) rfl) rfl
theorem tw_3_167 : (Jvm.Cond.instanceMethod ({ cls := "SmellHowLong", name := "on", desc := "()I" } : Jvm.MethodName)) ∈ tbG := tv_of (tv_3 (i := 167) rfl) rfl
theorem tw_3_168 : (Jvm.Cond.selects "SmellHowLong" ({ cls := "SmellHowLong", name := "on", desc := "()I" } : Jvm.MethodName) ({ cls := "SmellHowLong", name := "on", desc := "()I" } : Jvm.MethodName)) ∈ tbG := tv_of (tv_3 (i := 168) rfl) rfl
theorem tw_3_169 : (Jvm.Cond.code ({ cls := "SmellHowLong", name := "on", desc := "()I" } : Jvm.MethodName) prog_1_method_28_code (1 : Nat) (Option.some Jvm.ClassFile.FieldType.int)) ∈ tbG := tv_of (tv_3 (i := 169) rfl) rfl
theorem tw_3_170 : (Jvm.Cond.methodLink "SmellHowLongLaw" (125 : Nat) ({ cls := "SmellHowLong", name := "count", desc := "(I)I" } : Jvm.MethodName)) ∈ tbG := tv_of (tv_3 (i := 170) rfl) rfl
theorem tw_3_171 : (Jvm.Cond.instanceMethod ({ cls := "SmellHowLong", name := "count", desc := "(I)I" } : Jvm.MethodName)) ∈ tbG := tv_of (tv_3 (i := 171) rfl) rfl
theorem tw_3_172 : (Jvm.Cond.selects "SmellHowLong" ({ cls := "SmellHowLong", name := "count", desc := "(I)I" } : Jvm.MethodName) ({ cls := "SmellHowLong", name := "count", desc := "(I)I" } : Jvm.MethodName)) ∈ tbG := tv_of (tv_3 (i := 172) rfl) rfl
theorem tw_3_173 : (Jvm.Cond.code ({ cls := "SmellHowLong", name := "count", desc := "(I)I" } : Jvm.MethodName) prog_1_method_29_code (2 : Nat) (Option.some Jvm.ClassFile.FieldType.int)) ∈ tbG := tv_of (tv_3 (i := 173) rfl) rfl
theorem tw_3_174 : (Jvm.Cond.methodLink "SmellHowLong" (185 : Nat) ({ cls := "SmellHowLong$Town", name := "walkersIn", desc := "()I" } : Jvm.MethodName)) ∈ tbG := tv_of (tv_3 (i := 174) rfl) rfl
theorem tw_3_175 : (Jvm.Cond.instanceMethod ({ cls := "SmellHowLong$Town", name := "walkersIn", desc := "()I" } : Jvm.MethodName)) ∈ tbG := tv_of (tv_3 (i := 175) rfl) rfl
theorem tw_3_176 : (Jvm.Cond.selects "SmellHowLong$Town" ({ cls := "SmellHowLong$Town", name := "walkersIn", desc := "()I" } : Jvm.MethodName) ({ cls := "SmellHowLong$Town", name := "walkersIn", desc := "()I" } : Jvm.MethodName)) ∈ tbG := tv_of (tv_3 (i := 176) rfl) rfl
theorem tw_3_177 : (Jvm.Cond.code ({ cls := "SmellHowLong$Town", name := "walkersIn", desc := "()I" } : Jvm.MethodName) prog_3_method_5_code (1 : Nat) (Option.some Jvm.ClassFile.FieldType.int)) ∈ tbG := tv_of (tv_3 (i := 177) rfl) rfl
theorem tw_3_178 : (Jvm.Cond.methodLink "SmellHowLong" (188 : Nat) ({ cls := "SmellHowLong$Town", name := "pathsIn", desc := "()I" } : Jvm.MethodName)) ∈ tbG := tv_of (tv_3 (i := 178) rfl) rfl
theorem tw_3_179 : (Jvm.Cond.instanceMethod ({ cls := "SmellHowLong$Town", name := "pathsIn", desc := "()I" } : Jvm.MethodName)) ∈ tbG := tv_of (tv_3 (i := 179) rfl) rfl
theorem tw_3_180 : (Jvm.Cond.selects "SmellHowLong$Town" ({ cls := "SmellHowLong$Town", name := "pathsIn", desc := "()I" } : Jvm.MethodName) ({ cls := "SmellHowLong$Town", name := "pathsIn", desc := "()I" } : Jvm.MethodName)) ∈ tbG := tv_of (tv_3 (i := 180) rfl) rfl
theorem tw_3_181 : (Jvm.Cond.code ({ cls := "SmellHowLong$Town", name := "pathsIn", desc := "()I" } : Jvm.MethodName) prog_3_method_16_code (3 : Nat) (Option.some Jvm.ClassFile.FieldType.int)) ∈ tbG := tv_of (tv_3 (i := 181) rfl) rfl
theorem tw_3_182 : (Jvm.Cond.methodLink "SmellHowLong$Town" (57 : Nat) ({ cls := "java/lang/Integer", name := "bitCount", desc := "(I)I" } : Jvm.MethodName)) ∈ tbG := tv_of (tv_3 (i := 182) rfl) rfl
theorem tw_3_183 : (Jvm.Cond.methodLink "SmellHowLong" (191 : Nat) ({ cls := "SmellHowLong$Town", name := "allTraces", desc := "()I" } : Jvm.MethodName)) ∈ tbG := tv_of (tv_3 (i := 183) rfl) rfl
theorem tw_3_184 : (Jvm.Cond.instanceMethod ({ cls := "SmellHowLong$Town", name := "allTraces", desc := "()I" } : Jvm.MethodName)) ∈ tbG := tv_of (tv_3 (i := 184) rfl) rfl
theorem tw_3_185 : (Jvm.Cond.selects "SmellHowLong$Town" ({ cls := "SmellHowLong$Town", name := "allTraces", desc := "()I" } : Jvm.MethodName) ({ cls := "SmellHowLong$Town", name := "allTraces", desc := "()I" } : Jvm.MethodName)) ∈ tbG := tv_of (tv_3 (i := 185) rfl) rfl
theorem tw_3_186 : (Jvm.Cond.code ({ cls := "SmellHowLong$Town", name := "allTraces", desc := "()I" } : Jvm.MethodName) prog_3_method_37_code (3 : Nat) (Option.some Jvm.ClassFile.FieldType.int)) ∈ tbG := tv_of (tv_3 (i := 186) rfl) rfl
theorem tw_3_187 : (Jvm.Cond.methodLink "SmellHowLong" (194 : Nat) ({ cls := "SmellHowLong$Telling", name := "lettersIn", desc := "()I" } : Jvm.MethodName)) ∈ tbG := tv_of (tv_3 (i := 187) rfl) rfl
theorem tw_3_188 : (Jvm.Cond.instanceMethod ({ cls := "SmellHowLong$Telling", name := "lettersIn", desc := "()I" } : Jvm.MethodName)) ∈ tbG := tv_of (tv_3 (i := 188) rfl) rfl
theorem tw_3_189 : (Jvm.Cond.selects "SmellHowLong$Telling" ({ cls := "SmellHowLong$Telling", name := "lettersIn", desc := "()I" } : Jvm.MethodName) ({ cls := "SmellHowLong$Telling", name := "lettersIn", desc := "()I" } : Jvm.MethodName)) ∈ tbG := tv_of (tv_3 (i := 189) rfl) rfl
theorem tw_3_190 : (Jvm.Cond.code ({ cls := "SmellHowLong$Telling", name := "lettersIn", desc := "()I" } : Jvm.MethodName) prog_2_method_3_code (1 : Nat) (Option.some Jvm.ClassFile.FieldType.int)) ∈ tbG := tv_of (tv_3 (i := 190) rfl) rfl
theorem tw_3_191 : (Jvm.Cond.classLink "SmellHowLongLaw" (10 : Nat) "SmellHowLongModel") ∈ tbG := tv_of (tv_3 (i := 191) rfl) rfl
theorem tw_3_192 : (Jvm.Cond.instantiable "SmellHowLongModel" (30 : Nat)) ∈ tbG := tv_of (tv_3 (i := 192) rfl) rfl
theorem tw_3_193 : (Jvm.Cond.methodLink "SmellHowLongLaw" (12 : Nat) ({ cls := "SmellHowLongModel", name := "<init>", desc := "()V" } : Jvm.MethodName)) ∈ tbG := tv_of (tv_3 (i := 193) rfl) rfl
theorem tw_3_194 : (Jvm.Cond.instanceMethod ({ cls := "SmellHowLongModel", name := "<init>", desc := "()V" } : Jvm.MethodName)) ∈ tbG := tv_of (tv_3 (i := 194) rfl) rfl
theorem tw_3_195 : (Jvm.Cond.code ({ cls := "SmellHowLongModel", name := "<init>", desc := "()V" } : Jvm.MethodName) prog_6_method_1_code (2 : Nat) (Option.none : Option Jvm.ClassFile.FieldType)) ∈ tbG := tv_of (tv_3 (i := 195) rfl) rfl
theorem tw_3_196 : (Jvm.Cond.methodLink "SmellHowLongModel" (1 : Nat) ({ cls := "java/lang/Object", name := "<init>", desc := "()V" } : Jvm.MethodName)) ∈ tbG := tv_of (tv_3 (i := 196) rfl) rfl
theorem tw_3_197 : (Jvm.Cond.fieldLink "SmellHowLongModel" (7 : Nat) "SmellHowLongModel" "refused" "[I") ∈ tbG := tv_of (tv_3 (i := 197) rfl) rfl
theorem tw_3_198 : (Jvm.Cond.fieldLink "SmellHowLongModel" (13 : Nat) "SmellHowLongModel" "windOf" "[I") ∈ tbG := tv_of (tv_3 (i := 198) rfl) rfl
theorem tw_3_199 : (Jvm.Cond.fieldLink "SmellHowLongModel" (16 : Nat) "SmellHowLongModel" "roof" "[I") ∈ tbG := tv_of (tv_3 (i := 199) rfl) rfl
theorem tw_3_200 : (Jvm.Cond.fieldLink "SmellHowLongModel" (19 : Nat) "SmellHowLongModel" "paths" "[I") ∈ tbG := tv_of (tv_3 (i := 200) rfl) rfl
theorem tw_3_201 : (Jvm.Cond.fieldLink "SmellHowLongModel" (22 : Nat) "SmellHowLongModel" "kind" "[I") ∈ tbG := tv_of (tv_3 (i := 201) rfl) rfl
theorem tw_3_202 : (Jvm.Cond.fieldLink "SmellHowLongModel" (25 : Nat) "SmellHowLongModel" "place" "[I") ∈ tbG := tv_of (tv_3 (i := 202) rfl) rfl
theorem tw_3_203 : (Jvm.Cond.fieldLink "SmellHowLongModel" (28 : Nat) "SmellHowLongModel" "planLong" "[I") ∈ tbG := tv_of (tv_3 (i := 203) rfl) rfl
theorem tw_3_204 : (Jvm.Cond.fieldLink "SmellHowLongModel" (31 : Nat) "SmellHowLongModel" "plan" "[I") ∈ tbG := tv_of (tv_3 (i := 204) rfl) rfl
theorem tw_3_205 : (Jvm.Cond.fieldLink "SmellHowLongModel" (34 : Nat) "SmellHowLongModel" "trace" "[I") ∈ tbG := tv_of (tv_3 (i := 205) rfl) rfl
theorem tw_3_206 : (Jvm.Cond.fieldLink "SmellHowLongModel" (75 : Nat) "SmellHowLongModel" "walkers" "I") ∈ tbG := tv_of (tv_3 (i := 206) rfl) rfl
theorem tw_3_207 : (Jvm.Cond.fieldLink "SmellHowLongModel" (120 : Nat) "SmellHowLongModel" "minute" "I") ∈ tbG := tv_of (tv_3 (i := 207) rfl) rfl
theorem tw_3_208 : (Jvm.Cond.fieldLink "SmellHowLongModel" (37 : Nat) "SmellHowLongModel" "nose" "I") ∈ tbG := tv_of (tv_3 (i := 208) rfl) rfl
theorem tw_3_209 : (Jvm.Cond.fieldLink "SmellHowLongModel" (41 : Nat) "SmellHowLongModel" "tape" "[I") ∈ tbG := tv_of (tv_3 (i := 209) rfl) rfl
theorem tw_3_210 : (Jvm.Cond.fieldLink "SmellHowLongModel" (44 : Nat) "SmellHowLongModel" "letter" "[I") ∈ tbG := tv_of (tv_3 (i := 210) rfl) rfl
theorem tw_3_211 : (Jvm.Cond.fieldLink "SmellHowLongModel" (47 : Nat) "SmellHowLongModel" "letterAt" "[I") ∈ tbG := tv_of (tv_3 (i := 211) rfl) rfl
theorem tw_3_212 : (Jvm.Cond.fieldLink "SmellHowLongModel" (50 : Nat) "SmellHowLongModel" "told" "[I") ∈ tbG := tv_of (tv_3 (i := 212) rfl) rfl
theorem tw_3_213 : (Jvm.Cond.fieldLink "SmellHowLongModel" (53 : Nat) "SmellHowLongModel" "from" "[I") ∈ tbG := tv_of (tv_3 (i := 213) rfl) rfl
theorem tw_3_214 : (Jvm.Cond.fieldLink "SmellHowLongModel" (56 : Nat) "SmellHowLongModel" "till" "[I") ∈ tbG := tv_of (tv_3 (i := 214) rfl) rfl
theorem tw_3_215 : (Jvm.Cond.fieldLink "SmellHowLongModel" (82 : Nat) "SmellHowLongModel" "taped" "I") ∈ tbG := tv_of (tv_3 (i := 215) rfl) rfl
theorem tw_3_216 : (Jvm.Cond.fieldLink "SmellHowLongModel" (89 : Nat) "SmellHowLongModel" "at" "I") ∈ tbG := tv_of (tv_3 (i := 216) rfl) rfl
theorem tw_3_217 : (Jvm.Cond.fieldLink "SmellHowLongModel" (111 : Nat) "SmellHowLongModel" "statements" "I") ∈ tbG := tv_of (tv_3 (i := 217) rfl) rfl
theorem tw_3_218 : (Jvm.Cond.fieldLink "SmellHowLongModel" (59 : Nat) "SmellHowLongModel" "kept" "[I") ∈ tbG := tv_of (tv_3 (i := 218) rfl) rfl
theorem tw_3_219 : (Jvm.Cond.fieldLink "SmellHowLongModel" (150 : Nat) "SmellHowLongModel" "hasImage" "Z") ∈ tbG := tv_of (tv_3 (i := 219) rfl) rfl
theorem tw_3_220 : (Jvm.Cond.fieldLink "SmellHowLongModel" (136 : Nat) "SmellHowLongModel" "isKeeping" "Z") ∈ tbG := tv_of (tv_3 (i := 220) rfl) rfl
theorem tw_3_221 : (Jvm.Cond.fieldLink "SmellHowLongModel" (140 : Nat) "SmellHowLongModel" "cursor" "I") ∈ tbG := tv_of (tv_3 (i := 221) rfl) rfl
theorem tw_3_222 : (Jvm.Cond.fieldLink "SmellHowLongModel" (62 : Nat) "SmellHowLongModel" "going" "[I") ∈ tbG := tv_of (tv_3 (i := 222) rfl) rfl
theorem tw_3_223 : (Jvm.Cond.fieldLink "SmellHowLongModel" (65 : Nat) "SmellHowLongModel" "row" "[I") ∈ tbG := tv_of (tv_3 (i := 223) rfl) rfl
theorem tw_3_224 : (Jvm.Cond.fieldLink "SmellHowLongModel" (199 : Nat) "SmellHowLongModel" "rowMany" "I") ∈ tbG := tv_of (tv_3 (i := 224) rfl) rfl
theorem tw_3_225 : (Jvm.Cond.fieldLink "SmellHowLongModel" (68 : Nat) "SmellHowLongModel" "upTo" "[J") ∈ tbG := tv_of (tv_3 (i := 225) rfl) rfl
theorem tw_3_226 : (Jvm.Cond.fieldLink "SmellHowLongModel" (72 : Nat) "SmellHowLongModel" "fromOn" "[J") ∈ tbG := tv_of (tv_3 (i := 226) rfl) rfl
theorem tw_3_227 : (Jvm.Cond.laysFinal "SmellHowLongModel" "SmellHowLongModel" "refused" "[I") ∈ tbG := tv_of (tv_3 (i := 227) rfl) rfl
theorem tw_3_229 : (Jvm.Cond.laysFinal "SmellHowLongModel" "SmellHowLongModel" "windOf" "[I") ∈ tbG := tv_of (tv_3 (i := 229) rfl) rfl
theorem tw_3_231 : (Jvm.Cond.laysFinal "SmellHowLongModel" "SmellHowLongModel" "roof" "[I") ∈ tbG := tv_of (tv_3 (i := 231) rfl) rfl
theorem tw_3_233 : (Jvm.Cond.laysFinal "SmellHowLongModel" "SmellHowLongModel" "paths" "[I") ∈ tbG := tv_of (tv_3 (i := 233) rfl) rfl
theorem tw_3_235 : (Jvm.Cond.laysFinal "SmellHowLongModel" "SmellHowLongModel" "kind" "[I") ∈ tbG := tv_of (tv_3 (i := 235) rfl) rfl
theorem tw_3_237 : (Jvm.Cond.laysFinal "SmellHowLongModel" "SmellHowLongModel" "place" "[I") ∈ tbG := tv_of (tv_3 (i := 237) rfl) rfl
theorem tw_3_239 : (Jvm.Cond.laysFinal "SmellHowLongModel" "SmellHowLongModel" "planLong" "[I") ∈ tbG := tv_of (tv_3 (i := 239) rfl) rfl
theorem tw_4_1 : (Jvm.Cond.laysFinal "SmellHowLongModel" "SmellHowLongModel" "plan" "[I") ∈ tbG := tv_of (tv_4 (i := 1) rfl) rfl
theorem tw_4_3 : (Jvm.Cond.laysFinal "SmellHowLongModel" "SmellHowLongModel" "trace" "[I") ∈ tbG := tv_of (tv_4 (i := 3) rfl) rfl
theorem tw_4_5 : (Jvm.Cond.lays "SmellHowLongModel" "SmellHowLongModel" "walkers" "I") ∈ tbG := tv_of (tv_4 (i := 5) rfl) rfl
theorem tw_4_7 : (Jvm.Cond.lays "SmellHowLongModel" "SmellHowLongModel" "minute" "I") ∈ tbG := tv_of (tv_4 (i := 7) rfl) rfl
theorem tw_4_9 : (Jvm.Cond.lays "SmellHowLongModel" "SmellHowLongModel" "nose" "I") ∈ tbG := tv_of (tv_4 (i := 9) rfl) rfl
theorem tw_4_11 : (Jvm.Cond.laysFinal "SmellHowLongModel" "SmellHowLongModel" "tape" "[I") ∈ tbG := tv_of (tv_4 (i := 11) rfl) rfl
theorem tw_4_13 : (Jvm.Cond.laysFinal "SmellHowLongModel" "SmellHowLongModel" "letter" "[I") ∈ tbG := tv_of (tv_4 (i := 13) rfl) rfl
theorem tw_4_15 : (Jvm.Cond.laysFinal "SmellHowLongModel" "SmellHowLongModel" "letterAt" "[I") ∈ tbG := tv_of (tv_4 (i := 15) rfl) rfl
theorem tw_4_17 : (Jvm.Cond.laysFinal "SmellHowLongModel" "SmellHowLongModel" "told" "[I") ∈ tbG := tv_of (tv_4 (i := 17) rfl) rfl
theorem tw_4_19 : (Jvm.Cond.laysFinal "SmellHowLongModel" "SmellHowLongModel" "from" "[I") ∈ tbG := tv_of (tv_4 (i := 19) rfl) rfl
theorem tw_4_21 : (Jvm.Cond.laysFinal "SmellHowLongModel" "SmellHowLongModel" "till" "[I") ∈ tbG := tv_of (tv_4 (i := 21) rfl) rfl
theorem tw_4_23 : (Jvm.Cond.lays "SmellHowLongModel" "SmellHowLongModel" "taped" "I") ∈ tbG := tv_of (tv_4 (i := 23) rfl) rfl
theorem tw_4_25 : (Jvm.Cond.lays "SmellHowLongModel" "SmellHowLongModel" "at" "I") ∈ tbG := tv_of (tv_4 (i := 25) rfl) rfl
theorem tw_4_27 : (Jvm.Cond.lays "SmellHowLongModel" "SmellHowLongModel" "statements" "I") ∈ tbG := tv_of (tv_4 (i := 27) rfl) rfl
theorem tw_4_29 : (Jvm.Cond.laysFinal "SmellHowLongModel" "SmellHowLongModel" "kept" "[I") ∈ tbG := tv_of (tv_4 (i := 29) rfl) rfl
theorem tw_4_31 : (Jvm.Cond.lays "SmellHowLongModel" "SmellHowLongModel" "hasImage" "Z") ∈ tbG := tv_of (tv_4 (i := 31) rfl) rfl
theorem tw_4_33 : (Jvm.Cond.lays "SmellHowLongModel" "SmellHowLongModel" "isKeeping" "Z") ∈ tbG := tv_of (tv_4 (i := 33) rfl) rfl
theorem tw_4_35 : (Jvm.Cond.lays "SmellHowLongModel" "SmellHowLongModel" "cursor" "I") ∈ tbG := tv_of (tv_4 (i := 35) rfl) rfl
theorem tw_4_37 : (Jvm.Cond.laysFinal "SmellHowLongModel" "SmellHowLongModel" "going" "[I") ∈ tbG := tv_of (tv_4 (i := 37) rfl) rfl
theorem tw_4_39 : (Jvm.Cond.laysFinal "SmellHowLongModel" "SmellHowLongModel" "row" "[I") ∈ tbG := tv_of (tv_4 (i := 39) rfl) rfl
theorem tw_4_41 : (Jvm.Cond.lays "SmellHowLongModel" "SmellHowLongModel" "rowMany" "I") ∈ tbG := tv_of (tv_4 (i := 41) rfl) rfl
theorem tw_4_43 : (Jvm.Cond.laysFinal "SmellHowLongModel" "SmellHowLongModel" "upTo" "[J") ∈ tbG := tv_of (tv_4 (i := 43) rfl) rfl
theorem tw_4_45 : (Jvm.Cond.laysFinal "SmellHowLongModel" "SmellHowLongModel" "fromOn" "[J") ∈ tbG := tv_of (tv_4 (i := 45) rfl) rfl
theorem tw_4_48 : (Jvm.Cond.arrayClass Jvm.ClassFile.FieldType.long) ∈ tbG := tv_of (tv_4 (i := 48) rfl) rfl
theorem tw_4_49 : (Jvm.Cond.methodLink "SmellHowLongLaw" (17 : Nat) ({ cls := "SmellHowLongModel", name := "letter", desc := "(I)I" } : Jvm.MethodName)) ∈ tbG := tv_of (tv_4 (i := 49) rfl) rfl
theorem tw_4_50 : (Jvm.Cond.instanceMethod ({ cls := "SmellHowLongModel", name := "letter", desc := "(I)I" } : Jvm.MethodName)) ∈ tbG := tv_of (tv_4 (i := 50) rfl) rfl
theorem tw_4_51 : (Jvm.Cond.selects "SmellHowLongModel" ({ cls := "SmellHowLongModel", name := "letter", desc := "(I)I" } : Jvm.MethodName) ({ cls := "SmellHowLongModel", name := "letter", desc := "(I)I" } : Jvm.MethodName)) ∈ tbG := tv_of (tv_4 (i := 51) rfl) rfl
theorem tw_4_52 : (Jvm.Cond.code ({ cls := "SmellHowLongModel", name := "letter", desc := "(I)I" } : Jvm.MethodName) prog_6_method_7_code (3 : Nat) (Option.some Jvm.ClassFile.FieldType.int)) ∈ tbG := tv_of (tv_4 (i := 52) rfl) rfl
theorem tw_4_53 : (Jvm.Cond.methodLink "SmellHowLongModel" (78 : Nat) ({ cls := "SmellHowLongModel", name := "bound", desc := "(III)I" } : Jvm.MethodName)) ∈ tbG := tv_of (tv_4 (i := 53) rfl) rfl
theorem tw_4_54 : (Jvm.Cond.static ({ cls := "SmellHowLongModel", name := "bound", desc := "(III)I" } : Jvm.MethodName)) ∈ tbG := tv_of (tv_4 (i := 54) rfl) rfl
theorem tw_4_55 : (Jvm.Cond.code ({ cls := "SmellHowLongModel", name := "bound", desc := "(III)I" } : Jvm.MethodName) prog_6_method_4_code (3 : Nat) (Option.some Jvm.ClassFile.FieldType.int)) ∈ tbG := tv_of (tv_4 (i := 55) rfl) rfl
theorem tw_4_56 : (Jvm.Cond.methodLink "SmellHowLongModel" (85 : Nat) ({ cls := "SmellHowLongModel", name := "no", desc := "(I)I" } : Jvm.MethodName)) ∈ tbG := tv_of (tv_4 (i := 56) rfl) rfl
theorem tw_4_58 : (Jvm.Cond.instanceMethod ({ cls := "SmellHowLongModel", name := "no", desc := "(I)I" } : Jvm.MethodName)) ∈ tbG := tv_of (tv_4 (i := 58) rfl) rfl
theorem tw_4_59 : (Jvm.Cond.code ({ cls := "SmellHowLongModel", name := "no", desc := "(I)I" } : Jvm.MethodName) prog_6_method_2_code (2 : Nat) (Option.some Jvm.ClassFile.FieldType.int)) ∈ tbG := tv_of (tv_4 (i := 59) rfl) rfl
theorem tw_4_60 : (Jvm.Cond.methodLink "SmellHowLongLaw" (22 : Nat) ({ cls := "SmellHowLongModel", name := "town", desc := "()I" } : Jvm.MethodName)) ∈ tbG := tv_of (tv_4 (i := 60) rfl) rfl
theorem tw_4_61 : (Jvm.Cond.instanceMethod ({ cls := "SmellHowLongModel", name := "town", desc := "()I" } : Jvm.MethodName)) ∈ tbG := tv_of (tv_4 (i := 61) rfl) rfl
theorem tw_4_62 : (Jvm.Cond.selects "SmellHowLongModel" ({ cls := "SmellHowLongModel", name := "town", desc := "()I" } : Jvm.MethodName) ({ cls := "SmellHowLongModel", name := "town", desc := "()I" } : Jvm.MethodName)) ∈ tbG := tv_of (tv_4 (i := 62) rfl) rfl
theorem tw_4_63 : (Jvm.Cond.code ({ cls := "SmellHowLongModel", name := "town", desc := "()I" } : Jvm.MethodName) prog_6_method_16_code (3 : Nat) (Option.some Jvm.ClassFile.FieldType.int)) ∈ tbG := tv_of (tv_4 (i := 63) rfl) rfl
theorem tw_4_64 : (Jvm.Cond.methodLink "SmellHowLongModel" (126 : Nat) ({ cls := "SmellHowLongModel", name := "statement", desc := "()Z" } : Jvm.MethodName)) ∈ tbG := tv_of (tv_4 (i := 64) rfl) rfl
theorem tw_4_66 : (Jvm.Cond.instanceMethod ({ cls := "SmellHowLongModel", name := "statement", desc := "()Z" } : Jvm.MethodName)) ∈ tbG := tv_of (tv_4 (i := 66) rfl) rfl
theorem tw_4_67 : (Jvm.Cond.code ({ cls := "SmellHowLongModel", name := "statement", desc := "()Z" } : Jvm.MethodName) prog_6_method_13_code (4 : Nat) (Option.some Jvm.ClassFile.FieldType.boolean)) ∈ tbG := tv_of (tv_4 (i := 67) rfl) rfl
theorem tw_4_68 : (Jvm.Cond.methodLink "SmellHowLongModel" (92 : Nat) ({ cls := "SmellHowLongModel", name := "next", desc := "()I" } : Jvm.MethodName)) ∈ tbG := tv_of (tv_4 (i := 68) rfl) rfl
theorem tw_4_70 : (Jvm.Cond.instanceMethod ({ cls := "SmellHowLongModel", name := "next", desc := "()I" } : Jvm.MethodName)) ∈ tbG := tv_of (tv_4 (i := 70) rfl) rfl
theorem tw_4_71 : (Jvm.Cond.code ({ cls := "SmellHowLongModel", name := "next", desc := "()I" } : Jvm.MethodName) prog_6_method_8_code (1 : Nat) (Option.some Jvm.ClassFile.FieldType.int)) ∈ tbG := tv_of (tv_4 (i := 71) rfl) rfl
theorem tw_4_72 : (Jvm.Cond.methodLink "SmellHowLongModel" (114 : Nat) ({ cls := "SmellHowLongModel", name := "readsWalker", desc := "(I)Z" } : Jvm.MethodName)) ∈ tbG := tv_of (tv_4 (i := 72) rfl) rfl
theorem tw_4_74 : (Jvm.Cond.instanceMethod ({ cls := "SmellHowLongModel", name := "readsWalker", desc := "(I)Z" } : Jvm.MethodName)) ∈ tbG := tv_of (tv_4 (i := 74) rfl) rfl
theorem tw_4_75 : (Jvm.Cond.code ({ cls := "SmellHowLongModel", name := "readsWalker", desc := "(I)Z" } : Jvm.MethodName) prog_6_method_12_code (2 : Nat) (Option.some Jvm.ClassFile.FieldType.boolean)) ∈ tbG := tv_of (tv_4 (i := 75) rfl) rfl
theorem tw_4_76 : (Jvm.Cond.methodLink "SmellHowLongModel" (104 : Nat) ({ cls := "SmellHowLongModel", name := "kindOf", desc := "(I)I" } : Jvm.MethodName)) ∈ tbG := tv_of (tv_4 (i := 76) rfl) rfl
theorem tw_4_77 : (Jvm.Cond.static ({ cls := "SmellHowLongModel", name := "kindOf", desc := "(I)I" } : Jvm.MethodName)) ∈ tbG := tv_of (tv_4 (i := 77) rfl) rfl
theorem tw_4_78 : (Jvm.Cond.code ({ cls := "SmellHowLongModel", name := "kindOf", desc := "(I)I" } : Jvm.MethodName) prog_6_method_11_code (1 : Nat) (Option.some Jvm.ClassFile.FieldType.int)) ∈ tbG := tv_of (tv_4 (i := 78) rfl) rfl
theorem tw_4_79 : (Jvm.Cond.methodLink "SmellHowLongModel" (107 : Nat) ({ cls := "SmellHowLongModel", name := "readsDigit", desc := "(I)Z" } : Jvm.MethodName)) ∈ tbG := tv_of (tv_4 (i := 79) rfl) rfl
theorem tw_4_81 : (Jvm.Cond.instanceMethod ({ cls := "SmellHowLongModel", name := "readsDigit", desc := "(I)Z" } : Jvm.MethodName)) ∈ tbG := tv_of (tv_4 (i := 81) rfl) rfl
theorem tw_4_82 : (Jvm.Cond.code ({ cls := "SmellHowLongModel", name := "readsDigit", desc := "(I)Z" } : Jvm.MethodName) prog_6_method_10_code (2 : Nat) (Option.some Jvm.ClassFile.FieldType.boolean)) ∈ tbG := tv_of (tv_4 (i := 82) rfl) rfl
theorem tw_4_83 : (Jvm.Cond.methodLink "SmellHowLongModel" (100 : Nat) ({ cls := "SmellHowLongModel", name := "isDigit", desc := "()Z" } : Jvm.MethodName)) ∈ tbG := tv_of (tv_4 (i := 83) rfl) rfl
theorem tw_4_85 : (Jvm.Cond.instanceMethod ({ cls := "SmellHowLongModel", name := "isDigit", desc := "()Z" } : Jvm.MethodName)) ∈ tbG := tv_of (tv_4 (i := 85) rfl) rfl
theorem tw_4_86 : (Jvm.Cond.code ({ cls := "SmellHowLongModel", name := "isDigit", desc := "()Z" } : Jvm.MethodName) prog_6_method_9_code (1 : Nat) (Option.some Jvm.ClassFile.FieldType.boolean)) ∈ tbG := tv_of (tv_4 (i := 86) rfl) rfl
theorem tw_4_87 : (Jvm.Cond.methodLink "SmellHowLongModel" (96 : Nat) ({ cls := "SmellHowLongModel", name := "isIn", desc := "(III)Z" } : Jvm.MethodName)) ∈ tbG := tv_of (tv_4 (i := 87) rfl) rfl
theorem tw_4_88 : (Jvm.Cond.static ({ cls := "SmellHowLongModel", name := "isIn", desc := "(III)Z" } : Jvm.MethodName)) ∈ tbG := tv_of (tv_4 (i := 88) rfl) rfl
theorem tw_4_89 : (Jvm.Cond.code ({ cls := "SmellHowLongModel", name := "isIn", desc := "(III)Z" } : Jvm.MethodName) prog_6_method_3_code (3 : Nat) (Option.some Jvm.ClassFile.FieldType.boolean)) ∈ tbG := tv_of (tv_4 (i := 89) rfl) rfl
theorem tw_4_90 : (Jvm.Cond.methodLink "SmellHowLongModel" (129 : Nat) ({ cls := "SmellHowLongModel", name := "passesAll", desc := "(IZ)V" } : Jvm.MethodName)) ∈ tbG := tv_of (tv_4 (i := 90) rfl) rfl
theorem tw_4_92 : (Jvm.Cond.instanceMethod ({ cls := "SmellHowLongModel", name := "passesAll", desc := "(IZ)V" } : Jvm.MethodName)) ∈ tbG := tv_of (tv_4 (i := 92) rfl) rfl
theorem tw_4_93 : (Jvm.Cond.code ({ cls := "SmellHowLongModel", name := "passesAll", desc := "(IZ)V" } : Jvm.MethodName) prog_6_method_19_code (3 : Nat) (Option.none : Option Jvm.ClassFile.FieldType)) ∈ tbG := tv_of (tv_4 (i := 93) rfl) rfl
theorem tw_4_94 : (Jvm.Cond.methodLink "SmellHowLongModel" (143 : Nat) ({ cls := "SmellHowLongModel", name := "passes", desc := "([I)V" } : Jvm.MethodName)) ∈ tbG := tv_of (tv_4 (i := 94) rfl) rfl
theorem tw_4_96 : (Jvm.Cond.instanceMethod ({ cls := "SmellHowLongModel", name := "passes", desc := "([I)V" } : Jvm.MethodName)) ∈ tbG := tv_of (tv_4 (i := 96) rfl) rfl
theorem tw_4_97 : (Jvm.Cond.code ({ cls := "SmellHowLongModel", name := "passes", desc := "([I)V" } : Jvm.MethodName) prog_6_method_17_code (3 : Nat) (Option.none : Option Jvm.ClassFile.FieldType)) ∈ tbG := tv_of (tv_4 (i := 97) rfl) rfl
theorem tw_4_98 : (Jvm.Cond.methodLink "SmellHowLongModel" (147 : Nat) ({ cls := "SmellHowLongModel", name := "passOne", desc := "(I)I" } : Jvm.MethodName)) ∈ tbG := tv_of (tv_4 (i := 98) rfl) rfl
theorem tw_4_100 : (Jvm.Cond.instanceMethod ({ cls := "SmellHowLongModel", name := "passOne", desc := "(I)I" } : Jvm.MethodName)) ∈ tbG := tv_of (tv_4 (i := 100) rfl) rfl
theorem tw_4_101 : (Jvm.Cond.code ({ cls := "SmellHowLongModel", name := "passOne", desc := "(I)I" } : Jvm.MethodName) prog_6_method_18_code (3 : Nat) (Option.some Jvm.ClassFile.FieldType.int)) ∈ tbG := tv_of (tv_4 (i := 101) rfl) rfl
theorem tw_4_102 : (Jvm.Cond.methodLink "SmellHowLongModel" (133 : Nat) ({ cls := "SmellHowLongModel", name := "comes", desc := "(I)Z" } : Jvm.MethodName)) ∈ tbG := tv_of (tv_4 (i := 102) rfl) rfl
theorem tw_4_104 : (Jvm.Cond.instanceMethod ({ cls := "SmellHowLongModel", name := "comes", desc := "(I)Z" } : Jvm.MethodName)) ∈ tbG := tv_of (tv_4 (i := 104) rfl) rfl
theorem tw_4_105 : (Jvm.Cond.code ({ cls := "SmellHowLongModel", name := "comes", desc := "(I)Z" } : Jvm.MethodName) prog_6_method_15_code (4 : Nat) (Option.some Jvm.ClassFile.FieldType.boolean)) ∈ tbG := tv_of (tv_4 (i := 105) rfl) rfl
theorem tw_4_106 : (Jvm.Cond.methodLink "SmellHowLongModel" (117 : Nat) ({ cls := "SmellHowLongModel", name := "isRoom", desc := "(I)Z" } : Jvm.MethodName)) ∈ tbG := tv_of (tv_4 (i := 106) rfl) rfl
theorem tw_4_107 : (Jvm.Cond.static ({ cls := "SmellHowLongModel", name := "isRoom", desc := "(I)Z" } : Jvm.MethodName)) ∈ tbG := tv_of (tv_4 (i := 107) rfl) rfl
theorem tw_4_108 : (Jvm.Cond.code ({ cls := "SmellHowLongModel", name := "isRoom", desc := "(I)Z" } : Jvm.MethodName) prog_6_method_5_code (1 : Nat) (Option.some Jvm.ClassFile.FieldType.boolean)) ∈ tbG := tv_of (tv_4 (i := 108) rfl) rfl
theorem tw_4_109 : (Jvm.Cond.methodLink "SmellHowLongModel" (123 : Nat) ({ cls := "SmellHowLongModel", name := "comesWalker", desc := "(I)Z" } : Jvm.MethodName)) ∈ tbG := tv_of (tv_4 (i := 109) rfl) rfl
theorem tw_4_111 : (Jvm.Cond.instanceMethod ({ cls := "SmellHowLongModel", name := "comesWalker", desc := "(I)Z" } : Jvm.MethodName)) ∈ tbG := tv_of (tv_4 (i := 111) rfl) rfl
theorem tw_4_112 : (Jvm.Cond.code ({ cls := "SmellHowLongModel", name := "comesWalker", desc := "(I)Z" } : Jvm.MethodName) prog_6_method_14_code (5 : Nat) (Option.some Jvm.ClassFile.FieldType.boolean)) ∈ tbG := tv_of (tv_4 (i := 112) rfl) rfl
theorem tw_4_113 : (Jvm.Cond.methodLink "SmellHowLongLaw" (120 : Nat) ({ cls := "SmellHowLongModel", name := "image", desc := "()I" } : Jvm.MethodName)) ∈ tbG := tv_of (tv_4 (i := 113) rfl) rfl
theorem tw_4_114 : (Jvm.Cond.instanceMethod ({ cls := "SmellHowLongModel", name := "image", desc := "()I" } : Jvm.MethodName)) ∈ tbG := tv_of (tv_4 (i := 114) rfl) rfl
theorem tw_4_115 : (Jvm.Cond.selects "SmellHowLongModel" ({ cls := "SmellHowLongModel", name := "image", desc := "()I" } : Jvm.MethodName) ({ cls := "SmellHowLongModel", name := "image", desc := "()I" } : Jvm.MethodName)) ∈ tbG := tv_of (tv_4 (i := 115) rfl) rfl
theorem tw_4_116 : (Jvm.Cond.code ({ cls := "SmellHowLongModel", name := "image", desc := "()I" } : Jvm.MethodName) prog_6_method_20_code (1 : Nat) (Option.some Jvm.ClassFile.FieldType.int)) ∈ tbG := tv_of (tv_4 (i := 116) rfl) rfl
theorem tw_4_117 : (Jvm.Cond.methodLink "SmellHowLongLaw" (124 : Nat) ({ cls := "SmellHowLongModel", name := "on", desc := "()I" } : Jvm.MethodName)) ∈ tbG := tv_of (tv_4 (i := 117) rfl) rfl
theorem tw_4_118 : (Jvm.Cond.instanceMethod ({ cls := "SmellHowLongModel", name := "on", desc := "()I" } : Jvm.MethodName)) ∈ tbG := tv_of (tv_4 (i := 118) rfl) rfl
theorem tw_4_119 : (Jvm.Cond.selects "SmellHowLongModel" ({ cls := "SmellHowLongModel", name := "on", desc := "()I" } : Jvm.MethodName) ({ cls := "SmellHowLongModel", name := "on", desc := "()I" } : Jvm.MethodName)) ∈ tbG := tv_of (tv_4 (i := 119) rfl) rfl
theorem tw_4_120 : (Jvm.Cond.code ({ cls := "SmellHowLongModel", name := "on", desc := "()I" } : Jvm.MethodName) prog_6_method_21_code (1 : Nat) (Option.some Jvm.ClassFile.FieldType.int)) ∈ tbG := tv_of (tv_4 (i := 120) rfl) rfl
theorem tw_4_121 : (Jvm.Cond.methodLink "SmellHowLongLaw" (27 : Nat) ({ cls := "SmellHowLongModel", name := "room", desc := "(II)I" } : Jvm.MethodName)) ∈ tbG := tv_of (tv_4 (i := 121) rfl) rfl
theorem tw_4_122 : (Jvm.Cond.instanceMethod ({ cls := "SmellHowLongModel", name := "room", desc := "(II)I" } : Jvm.MethodName)) ∈ tbG := tv_of (tv_4 (i := 122) rfl) rfl
theorem tw_4_123 : (Jvm.Cond.selects "SmellHowLongModel" ({ cls := "SmellHowLongModel", name := "room", desc := "(II)I" } : Jvm.MethodName) ({ cls := "SmellHowLongModel", name := "room", desc := "(II)I" } : Jvm.MethodName)) ∈ tbG := tv_of (tv_4 (i := 123) rfl) rfl
theorem tw_4_124 : (Jvm.Cond.code ({ cls := "SmellHowLongModel", name := "room", desc := "(II)I" } : Jvm.MethodName) prog_6_method_31_code (3 : Nat) (Option.some Jvm.ClassFile.FieldType.int)) ∈ tbG := tv_of (tv_4 (i := 124) rfl) rfl
theorem tw_4_125 : (Jvm.Cond.methodLink "SmellHowLongLaw" (31 : Nat) ({ cls := "SmellHowLongModel", name := "walker", desc := "(II)I" } : Jvm.MethodName)) ∈ tbG := tv_of (tv_4 (i := 125) rfl) rfl
theorem tw_4_126 : (Jvm.Cond.instanceMethod ({ cls := "SmellHowLongModel", name := "walker", desc := "(II)I" } : Jvm.MethodName)) ∈ tbG := tv_of (tv_4 (i := 126) rfl) rfl
theorem tw_4_127 : (Jvm.Cond.selects "SmellHowLongModel" ({ cls := "SmellHowLongModel", name := "walker", desc := "(II)I" } : Jvm.MethodName) ({ cls := "SmellHowLongModel", name := "walker", desc := "(II)I" } : Jvm.MethodName)) ∈ tbG := tv_of (tv_4 (i := 127) rfl) rfl
theorem tw_4_128 : (Jvm.Cond.code ({ cls := "SmellHowLongModel", name := "walker", desc := "(II)I" } : Jvm.MethodName) prog_6_method_32_code (3 : Nat) (Option.some Jvm.ClassFile.FieldType.int)) ∈ tbG := tv_of (tv_4 (i := 128) rfl) rfl
theorem tw_4_129 : (Jvm.Cond.methodLink "SmellHowLongModel" (174 : Nat) ({ cls := "SmellHowLongModel", name := "isWalker", desc := "(I)Z" } : Jvm.MethodName)) ∈ tbG := tv_of (tv_4 (i := 129) rfl) rfl
theorem tw_4_131 : (Jvm.Cond.instanceMethod ({ cls := "SmellHowLongModel", name := "isWalker", desc := "(I)Z" } : Jvm.MethodName)) ∈ tbG := tv_of (tv_4 (i := 131) rfl) rfl
theorem tw_4_132 : (Jvm.Cond.code ({ cls := "SmellHowLongModel", name := "isWalker", desc := "(I)Z" } : Jvm.MethodName) prog_6_method_6_code (2 : Nat) (Option.some Jvm.ClassFile.FieldType.boolean)) ∈ tbG := tv_of (tv_4 (i := 132) rfl) rfl
theorem tw_4_133 : (Jvm.Cond.methodLink "SmellHowLongModel" (171 : Nat) ({ cls := "SmellHowLongModel", name := "wouldGo", desc := "(I)I" } : Jvm.MethodName)) ∈ tbG := tv_of (tv_4 (i := 133) rfl) rfl
theorem tw_4_135 : (Jvm.Cond.instanceMethod ({ cls := "SmellHowLongModel", name := "wouldGo", desc := "(I)I" } : Jvm.MethodName)) ∈ tbG := tv_of (tv_4 (i := 135) rfl) rfl
theorem tw_4_136 : (Jvm.Cond.code ({ cls := "SmellHowLongModel", name := "wouldGo", desc := "(I)I" } : Jvm.MethodName) prog_6_method_29_code (3 : Nat) (Option.some Jvm.ClassFile.FieldType.int)) ∈ tbG := tv_of (tv_4 (i := 136) rfl) rfl
theorem tw_4_137 : (Jvm.Cond.methodLink "SmellHowLongModel" (168 : Nat) ({ cls := "SmellHowLongModel", name := "followed", desc := "(I)I" } : Jvm.MethodName)) ∈ tbG := tv_of (tv_4 (i := 137) rfl) rfl
theorem tw_4_139 : (Jvm.Cond.instanceMethod ({ cls := "SmellHowLongModel", name := "followed", desc := "(I)I" } : Jvm.MethodName)) ∈ tbG := tv_of (tv_4 (i := 139) rfl) rfl
theorem tw_4_140 : (Jvm.Cond.code ({ cls := "SmellHowLongModel", name := "followed", desc := "(I)I" } : Jvm.MethodName) prog_6_method_28_code (7 : Nat) (Option.some Jvm.ClassFile.FieldType.int)) ∈ tbG := tv_of (tv_4 (i := 140) rfl) rfl
theorem tw_4_141 : (Jvm.Cond.methodLink "SmellHowLongModel" (161 : Nat) ({ cls := "SmellHowLongModel", name := "endAge", desc := "(IIZ)I" } : Jvm.MethodName)) ∈ tbG := tv_of (tv_4 (i := 141) rfl) rfl
theorem tw_4_143 : (Jvm.Cond.instanceMethod ({ cls := "SmellHowLongModel", name := "endAge", desc := "(IIZ)I" } : Jvm.MethodName)) ∈ tbG := tv_of (tv_4 (i := 143) rfl) rfl
theorem tw_4_144 : (Jvm.Cond.code ({ cls := "SmellHowLongModel", name := "endAge", desc := "(IIZ)I" } : Jvm.MethodName) prog_6_method_25_code (7 : Nat) (Option.some Jvm.ClassFile.FieldType.int)) ∈ tbG := tv_of (tv_4 (i := 144) rfl) rfl
theorem tw_4_145 : (Jvm.Cond.methodLink "SmellHowLongModel" (153 : Nat) ({ cls := "SmellHowLongModel", name := "isTrace", desc := "(II)Z" } : Jvm.MethodName)) ∈ tbG := tv_of (tv_4 (i := 145) rfl) rfl
theorem tw_4_147 : (Jvm.Cond.instanceMethod ({ cls := "SmellHowLongModel", name := "isTrace", desc := "(II)Z" } : Jvm.MethodName)) ∈ tbG := tv_of (tv_4 (i := 147) rfl) rfl
theorem tw_4_148 : (Jvm.Cond.code ({ cls := "SmellHowLongModel", name := "isTrace", desc := "(II)Z" } : Jvm.MethodName) prog_6_method_22_code (3 : Nat) (Option.some Jvm.ClassFile.FieldType.boolean)) ∈ tbG := tv_of (tv_4 (i := 148) rfl) rfl
theorem tw_4_149 : (Jvm.Cond.methodLink "SmellHowLongModel" (157 : Nat) ({ cls := "SmellHowLongModel", name := "ageOf", desc := "(II)I" } : Jvm.MethodName)) ∈ tbG := tv_of (tv_4 (i := 149) rfl) rfl
theorem tw_4_151 : (Jvm.Cond.instanceMethod ({ cls := "SmellHowLongModel", name := "ageOf", desc := "(II)I" } : Jvm.MethodName)) ∈ tbG := tv_of (tv_4 (i := 151) rfl) rfl
theorem tw_4_152 : (Jvm.Cond.code ({ cls := "SmellHowLongModel", name := "ageOf", desc := "(II)I" } : Jvm.MethodName) prog_6_method_23_code (4 : Nat) (Option.some Jvm.ClassFile.FieldType.int)) ∈ tbG := tv_of (tv_4 (i := 152) rfl) rfl
theorem tw_4_153 : (Jvm.Cond.methodLink "SmellHowLongModel" (165 : Nat) ({ cls := "SmellHowLongModel", name := "isPath", desc := "(II)Z" } : Jvm.MethodName)) ∈ tbG := tv_of (tv_4 (i := 153) rfl) rfl
theorem tw_4_155 : (Jvm.Cond.instanceMethod ({ cls := "SmellHowLongModel", name := "isPath", desc := "(II)Z" } : Jvm.MethodName)) ∈ tbG := tv_of (tv_4 (i := 155) rfl) rfl
theorem tw_4_156 : (Jvm.Cond.code ({ cls := "SmellHowLongModel", name := "isPath", desc := "(II)Z" } : Jvm.MethodName) prog_6_method_27_code (3 : Nat) (Option.some Jvm.ClassFile.FieldType.boolean)) ∈ tbG := tv_of (tv_4 (i := 156) rfl) rfl
theorem tw_4_157 : (Jvm.Cond.methodLink "SmellHowLongLaw" (35 : Nat) ({ cls := "SmellHowLongModel", name := "put", desc := "(II)I" } : Jvm.MethodName)) ∈ tbG := tv_of (tv_4 (i := 157) rfl) rfl
theorem tw_4_158 : (Jvm.Cond.instanceMethod ({ cls := "SmellHowLongModel", name := "put", desc := "(II)I" } : Jvm.MethodName)) ∈ tbG := tv_of (tv_4 (i := 158) rfl) rfl
theorem tw_4_159 : (Jvm.Cond.selects "SmellHowLongModel" ({ cls := "SmellHowLongModel", name := "put", desc := "(II)I" } : Jvm.MethodName) ({ cls := "SmellHowLongModel", name := "put", desc := "(II)I" } : Jvm.MethodName)) ∈ tbG := tv_of (tv_4 (i := 159) rfl) rfl
theorem tw_4_160 : (Jvm.Cond.code ({ cls := "SmellHowLongModel", name := "put", desc := "(II)I" } : Jvm.MethodName) prog_6_method_33_code (4 : Nat) (Option.some Jvm.ClassFile.FieldType.int)) ∈ tbG := tv_of (tv_4 (i := 160) rfl) rfl
theorem tw_4_161 : (Jvm.Cond.methodLink "SmellHowLongLaw" (39 : Nat) ({ cls := "SmellHowLongModel", name := "wind", desc := "(II)I" } : Jvm.MethodName)) ∈ tbG := tv_of (tv_4 (i := 161) rfl) rfl
theorem tw_4_162 : (Jvm.Cond.instanceMethod ({ cls := "SmellHowLongModel", name := "wind", desc := "(II)I" } : Jvm.MethodName)) ∈ tbG := tv_of (tv_4 (i := 162) rfl) rfl
theorem tw_4_163 : (Jvm.Cond.selects "SmellHowLongModel" ({ cls := "SmellHowLongModel", name := "wind", desc := "(II)I" } : Jvm.MethodName) ({ cls := "SmellHowLongModel", name := "wind", desc := "(II)I" } : Jvm.MethodName)) ∈ tbG := tv_of (tv_4 (i := 163) rfl) rfl
theorem tw_4_164 : (Jvm.Cond.code ({ cls := "SmellHowLongModel", name := "wind", desc := "(II)I" } : Jvm.MethodName) prog_6_method_34_code (5 : Nat) (Option.some Jvm.ClassFile.FieldType.int)) ∈ tbG := tv_of (tv_4 (i := 164) rfl) rfl
theorem tw_4_165 : (Jvm.Cond.methodLink "SmellHowLongLaw" (43 : Nat) ({ cls := "SmellHowLongModel", name := "nose", desc := "(I)I" } : Jvm.MethodName)) ∈ tbG := tv_of (tv_4 (i := 165) rfl) rfl
theorem tw_4_166 : (Jvm.Cond.instanceMethod ({ cls := "SmellHowLongModel", name := "nose", desc := "(I)I" } : Jvm.MethodName)) ∈ tbG := tv_of (tv_4 (i := 166) rfl) rfl
theorem tw_4_167 : (Jvm.Cond.selects "SmellHowLongModel" ({ cls := "SmellHowLongModel", name := "nose", desc := "(I)I" } : Jvm.MethodName) ({ cls := "SmellHowLongModel", name := "nose", desc := "(I)I" } : Jvm.MethodName)) ∈ tbG := tv_of (tv_4 (i := 167) rfl) rfl
theorem tw_4_168 : (Jvm.Cond.code ({ cls := "SmellHowLongModel", name := "nose", desc := "(I)I" } : Jvm.MethodName) prog_6_method_35_code (4 : Nat) (Option.some Jvm.ClassFile.FieldType.int)) ∈ tbG := tv_of (tv_4 (i := 168) rfl) rfl
theorem tw_4_169 : (Jvm.Cond.methodLink "SmellHowLongLaw" (47 : Nat) ({ cls := "SmellHowLongModel", name := "pass", desc := "(I)I" } : Jvm.MethodName)) ∈ tbG := tv_of (tv_4 (i := 169) rfl) rfl
theorem tw_4_170 : (Jvm.Cond.instanceMethod ({ cls := "SmellHowLongModel", name := "pass", desc := "(I)I" } : Jvm.MethodName)) ∈ tbG := tv_of (tv_4 (i := 170) rfl) rfl
theorem tw_4_171 : (Jvm.Cond.selects "SmellHowLongModel" ({ cls := "SmellHowLongModel", name := "pass", desc := "(I)I" } : Jvm.MethodName) ({ cls := "SmellHowLongModel", name := "pass", desc := "(I)I" } : Jvm.MethodName)) ∈ tbG := tv_of (tv_4 (i := 171) rfl) rfl
theorem tw_4_172 : (Jvm.Cond.code ({ cls := "SmellHowLongModel", name := "pass", desc := "(I)I" } : Jvm.MethodName) prog_6_method_36_code (4 : Nat) (Option.some Jvm.ClassFile.FieldType.int)) ∈ tbG := tv_of (tv_4 (i := 172) rfl) rfl
theorem tw_4_173 : (Jvm.Cond.methodLink "SmellHowLongModel" (177 : Nat) ({ cls := "SmellHowLongModel", name := "goesMinute", desc := "()V" } : Jvm.MethodName)) ∈ tbG := tv_of (tv_4 (i := 173) rfl) rfl
theorem tw_4_175 : (Jvm.Cond.instanceMethod ({ cls := "SmellHowLongModel", name := "goesMinute", desc := "()V" } : Jvm.MethodName)) ∈ tbG := tv_of (tv_4 (i := 175) rfl) rfl
theorem tw_4_176 : (Jvm.Cond.code ({ cls := "SmellHowLongModel", name := "goesMinute", desc := "()V" } : Jvm.MethodName) prog_6_method_30_code (3 : Nat) (Option.none : Option Jvm.ClassFile.FieldType)) ∈ tbG := tv_of (tv_4 (i := 176) rfl) rfl
theorem tw_4_177 : (Jvm.Cond.methodLink "SmellHowLongLaw" (51 : Nat) ({ cls := "SmellHowLongModel", name := "rain", desc := "()I" } : Jvm.MethodName)) ∈ tbG := tv_of (tv_4 (i := 177) rfl) rfl
theorem tw_4_178 : (Jvm.Cond.instanceMethod ({ cls := "SmellHowLongModel", name := "rain", desc := "()I" } : Jvm.MethodName)) ∈ tbG := tv_of (tv_4 (i := 178) rfl) rfl
theorem tw_4_179 : (Jvm.Cond.selects "SmellHowLongModel" ({ cls := "SmellHowLongModel", name := "rain", desc := "()I" } : Jvm.MethodName) ({ cls := "SmellHowLongModel", name := "rain", desc := "()I" } : Jvm.MethodName)) ∈ tbG := tv_of (tv_4 (i := 179) rfl) rfl
theorem tw_4_180 : (Jvm.Cond.code ({ cls := "SmellHowLongModel", name := "rain", desc := "()I" } : Jvm.MethodName) prog_6_method_37_code (4 : Nat) (Option.some Jvm.ClassFile.FieldType.int)) ∈ tbG := tv_of (tv_4 (i := 180) rfl) rfl
theorem tw_4_181 : (Jvm.Cond.methodLink "SmellHowLongLaw" (55 : Nat) ({ cls := "SmellHowLongModel", name := "age", desc := "(II)I" } : Jvm.MethodName)) ∈ tbG := tv_of (tv_4 (i := 181) rfl) rfl
theorem tw_4_182 : (Jvm.Cond.instanceMethod ({ cls := "SmellHowLongModel", name := "age", desc := "(II)I" } : Jvm.MethodName)) ∈ tbG := tv_of (tv_4 (i := 182) rfl) rfl
theorem tw_4_183 : (Jvm.Cond.selects "SmellHowLongModel" ({ cls := "SmellHowLongModel", name := "age", desc := "(II)I" } : Jvm.MethodName) ({ cls := "SmellHowLongModel", name := "age", desc := "(II)I" } : Jvm.MethodName)) ∈ tbG := tv_of (tv_4 (i := 183) rfl) rfl
theorem tw_4_184 : (Jvm.Cond.code ({ cls := "SmellHowLongModel", name := "age", desc := "(II)I" } : Jvm.MethodName) prog_6_method_38_code (3 : Nat) (Option.some Jvm.ClassFile.FieldType.int)) ∈ tbG := tv_of (tv_4 (i := 184) rfl) rfl
theorem tw_4_185 : (Jvm.Cond.methodLink "SmellHowLongLaw" (59 : Nat) ({ cls := "SmellHowLongModel", name := "smelt", desc := "(II)I" } : Jvm.MethodName)) ∈ tbG := tv_of (tv_4 (i := 185) rfl) rfl
theorem tw_4_186 : (Jvm.Cond.instanceMethod ({ cls := "SmellHowLongModel", name := "smelt", desc := "(II)I" } : Jvm.MethodName)) ∈ tbG := tv_of (tv_4 (i := 186) rfl) rfl
theorem tw_4_187 : (Jvm.Cond.selects "SmellHowLongModel" ({ cls := "SmellHowLongModel", name := "smelt", desc := "(II)I" } : Jvm.MethodName) ({ cls := "SmellHowLongModel", name := "smelt", desc := "(II)I" } : Jvm.MethodName)) ∈ tbG := tv_of (tv_4 (i := 187) rfl) rfl
theorem tw_4_188 : (Jvm.Cond.code ({ cls := "SmellHowLongModel", name := "smelt", desc := "(II)I" } : Jvm.MethodName) prog_6_method_39_code (3 : Nat) (Option.some Jvm.ClassFile.FieldType.int)) ∈ tbG := tv_of (tv_4 (i := 188) rfl) rfl
theorem tw_4_189 : (Jvm.Cond.methodLink "SmellHowLongModel" (180 : Nat) ({ cls := "SmellHowLongModel", name := "tracesIn", desc := "(I)I" } : Jvm.MethodName)) ∈ tbG := tv_of (tv_4 (i := 189) rfl) rfl
theorem tw_4_191 : (Jvm.Cond.instanceMethod ({ cls := "SmellHowLongModel", name := "tracesIn", desc := "(I)I" } : Jvm.MethodName)) ∈ tbG := tv_of (tv_4 (i := 191) rfl) rfl
theorem tw_4_192 : (Jvm.Cond.code ({ cls := "SmellHowLongModel", name := "tracesIn", desc := "(I)I" } : Jvm.MethodName) prog_6_method_24_code (4 : Nat) (Option.some Jvm.ClassFile.FieldType.int)) ∈ tbG := tv_of (tv_4 (i := 192) rfl) rfl
theorem tw_4_193 : (Jvm.Cond.methodLink "SmellHowLongModel" (183 : Nat) ({ cls := "SmellHowLongModel", name := "toldApart", desc := "(I)I" } : Jvm.MethodName)) ∈ tbG := tv_of (tv_4 (i := 193) rfl) rfl
theorem tw_4_195 : (Jvm.Cond.instanceMethod ({ cls := "SmellHowLongModel", name := "toldApart", desc := "(I)I" } : Jvm.MethodName)) ∈ tbG := tv_of (tv_4 (i := 195) rfl) rfl
theorem tw_4_196 : (Jvm.Cond.code ({ cls := "SmellHowLongModel", name := "toldApart", desc := "(I)I" } : Jvm.MethodName) prog_6_method_26_code (6 : Nat) (Option.some Jvm.ClassFile.FieldType.int)) ∈ tbG := tv_of (tv_4 (i := 196) rfl) rfl
theorem tw_4_197 : (Jvm.Cond.methodLink "SmellHowLongLaw" (63 : Nat) ({ cls := "SmellHowLongModel", name := "behind", desc := "(II)I" } : Jvm.MethodName)) ∈ tbG := tv_of (tv_4 (i := 197) rfl) rfl
theorem tw_4_198 : (Jvm.Cond.instanceMethod ({ cls := "SmellHowLongModel", name := "behind", desc := "(II)I" } : Jvm.MethodName)) ∈ tbG := tv_of (tv_4 (i := 198) rfl) rfl
theorem tw_4_199 : (Jvm.Cond.selects "SmellHowLongModel" ({ cls := "SmellHowLongModel", name := "behind", desc := "(II)I" } : Jvm.MethodName) ({ cls := "SmellHowLongModel", name := "behind", desc := "(II)I" } : Jvm.MethodName)) ∈ tbG := tv_of (tv_4 (i := 199) rfl) rfl
theorem tw_4_200 : (Jvm.Cond.code ({ cls := "SmellHowLongModel", name := "behind", desc := "(II)I" } : Jvm.MethodName) prog_6_method_41_code (5 : Nat) (Option.some Jvm.ClassFile.FieldType.int)) ∈ tbG := tv_of (tv_4 (i := 200) rfl) rfl
theorem tw_4_201 : (Jvm.Cond.methodLink "SmellHowLongModel" (186 : Nat) ({ cls := "SmellHowLongModel", name := "goesAhead", desc := "(I)V" } : Jvm.MethodName)) ∈ tbG := tv_of (tv_4 (i := 201) rfl) rfl
theorem tw_4_203 : (Jvm.Cond.instanceMethod ({ cls := "SmellHowLongModel", name := "goesAhead", desc := "(I)V" } : Jvm.MethodName)) ∈ tbG := tv_of (tv_4 (i := 203) rfl) rfl
theorem tw_4_204 : (Jvm.Cond.code ({ cls := "SmellHowLongModel", name := "goesAhead", desc := "(I)V" } : Jvm.MethodName) prog_6_method_40_code (3 : Nat) (Option.none : Option Jvm.ClassFile.FieldType)) ∈ tbG := tv_of (tv_4 (i := 204) rfl) rfl
theorem tw_4_205 : (Jvm.Cond.methodLink "SmellHowLongLaw" (67 : Nat) ({ cls := "SmellHowLongModel", name := "freshest", desc := "(II)I" } : Jvm.MethodName)) ∈ tbG := tv_of (tv_4 (i := 205) rfl) rfl
theorem tw_4_206 : (Jvm.Cond.instanceMethod ({ cls := "SmellHowLongModel", name := "freshest", desc := "(II)I" } : Jvm.MethodName)) ∈ tbG := tv_of (tv_4 (i := 206) rfl) rfl
theorem tw_4_207 : (Jvm.Cond.selects "SmellHowLongModel" ({ cls := "SmellHowLongModel", name := "freshest", desc := "(II)I" } : Jvm.MethodName) ({ cls := "SmellHowLongModel", name := "freshest", desc := "(II)I" } : Jvm.MethodName)) ∈ tbG := tv_of (tv_4 (i := 207) rfl) rfl
theorem tw_4_208 : (Jvm.Cond.code ({ cls := "SmellHowLongModel", name := "freshest", desc := "(II)I" } : Jvm.MethodName) prog_6_method_42_code (5 : Nat) (Option.some Jvm.ClassFile.FieldType.int)) ∈ tbG := tv_of (tv_4 (i := 208) rfl) rfl
theorem tw_4_209 : (Jvm.Cond.methodLink "SmellHowLongLaw" (71 : Nat) ({ cls := "SmellHowLongModel", name := "meet", desc := "(II)I" } : Jvm.MethodName)) ∈ tbG := tv_of (tv_4 (i := 209) rfl) rfl
theorem tw_4_210 : (Jvm.Cond.instanceMethod ({ cls := "SmellHowLongModel", name := "meet", desc := "(II)I" } : Jvm.MethodName)) ∈ tbG := tv_of (tv_4 (i := 210) rfl) rfl
theorem tw_4_211 : (Jvm.Cond.selects "SmellHowLongModel" ({ cls := "SmellHowLongModel", name := "meet", desc := "(II)I" } : Jvm.MethodName) ({ cls := "SmellHowLongModel", name := "meet", desc := "(II)I" } : Jvm.MethodName)) ∈ tbG := tv_of (tv_4 (i := 211) rfl) rfl
theorem tw_4_212 : (Jvm.Cond.code ({ cls := "SmellHowLongModel", name := "meet", desc := "(II)I" } : Jvm.MethodName) prog_6_method_43_code (5 : Nat) (Option.some Jvm.ClassFile.FieldType.int)) ∈ tbG := tv_of (tv_4 (i := 212) rfl) rfl
theorem tw_4_213 : (Jvm.Cond.methodLink "SmellHowLongLaw" (75 : Nat) ({ cls := "SmellHowLongModel", name := "scented", desc := "(I)I" } : Jvm.MethodName)) ∈ tbG := tv_of (tv_4 (i := 213) rfl) rfl
theorem tw_4_214 : (Jvm.Cond.instanceMethod ({ cls := "SmellHowLongModel", name := "scented", desc := "(I)I" } : Jvm.MethodName)) ∈ tbG := tv_of (tv_4 (i := 214) rfl) rfl
theorem tw_4_215 : (Jvm.Cond.selects "SmellHowLongModel" ({ cls := "SmellHowLongModel", name := "scented", desc := "(I)I" } : Jvm.MethodName) ({ cls := "SmellHowLongModel", name := "scented", desc := "(I)I" } : Jvm.MethodName)) ∈ tbG := tv_of (tv_4 (i := 215) rfl) rfl
theorem tw_4_216 : (Jvm.Cond.code ({ cls := "SmellHowLongModel", name := "scented", desc := "(I)I" } : Jvm.MethodName) prog_6_method_44_code (5 : Nat) (Option.some Jvm.ClassFile.FieldType.int)) ∈ tbG := tv_of (tv_4 (i := 216) rfl) rfl
theorem tw_4_217 : (Jvm.Cond.methodLink "SmellHowLongLaw" (79 : Nat) ({ cls := "SmellHowLongModel", name := "walked", desc := "(I)I" } : Jvm.MethodName)) ∈ tbG := tv_of (tv_4 (i := 217) rfl) rfl
theorem tw_4_218 : (Jvm.Cond.instanceMethod ({ cls := "SmellHowLongModel", name := "walked", desc := "(I)I" } : Jvm.MethodName)) ∈ tbG := tv_of (tv_4 (i := 218) rfl) rfl
theorem tw_4_219 : (Jvm.Cond.selects "SmellHowLongModel" ({ cls := "SmellHowLongModel", name := "walked", desc := "(I)I" } : Jvm.MethodName) ({ cls := "SmellHowLongModel", name := "walked", desc := "(I)I" } : Jvm.MethodName)) ∈ tbG := tv_of (tv_4 (i := 219) rfl) rfl
theorem tw_4_220 : (Jvm.Cond.code ({ cls := "SmellHowLongModel", name := "walked", desc := "(I)I" } : Jvm.MethodName) prog_6_method_49_code (6 : Nat) (Option.some Jvm.ClassFile.FieldType.int)) ∈ tbG := tv_of (tv_4 (i := 220) rfl) rfl
theorem tw_4_221 : (Jvm.Cond.methodLink "SmellHowLongModel" (202 : Nat) ({ cls := "SmellHowLongModel", name := "findWays", desc := "(I)V" } : Jvm.MethodName)) ∈ tbG := tv_of (tv_4 (i := 221) rfl) rfl
theorem tw_4_223 : (Jvm.Cond.instanceMethod ({ cls := "SmellHowLongModel", name := "findWays", desc := "(I)V" } : Jvm.MethodName)) ∈ tbG := tv_of (tv_4 (i := 223) rfl) rfl
theorem tw_4_224 : (Jvm.Cond.code ({ cls := "SmellHowLongModel", name := "findWays", desc := "(I)V" } : Jvm.MethodName) prog_6_method_48_code (8 : Nat) (Option.none : Option Jvm.ClassFile.FieldType)) ∈ tbG := tv_of (tv_4 (i := 224) rfl) rfl
theorem tw_4_225 : (Jvm.Cond.methodLink "SmellHowLongModel" (190 : Nat) ({ cls := "SmellHowLongModel", name := "areMinutes", desc := "(I)Z" } : Jvm.MethodName)) ∈ tbG := tv_of (tv_4 (i := 225) rfl) rfl
theorem tw_4_227 : (Jvm.Cond.instanceMethod ({ cls := "SmellHowLongModel", name := "areMinutes", desc := "(I)Z" } : Jvm.MethodName)) ∈ tbG := tv_of (tv_4 (i := 227) rfl) rfl
theorem tw_4_228 : (Jvm.Cond.code ({ cls := "SmellHowLongModel", name := "areMinutes", desc := "(I)Z" } : Jvm.MethodName) prog_6_method_46_code (3 : Nat) (Option.some Jvm.ClassFile.FieldType.boolean)) ∈ tbG := tv_of (tv_4 (i := 228) rfl) rfl
theorem tw_4_229 : (Jvm.Cond.methodLink "SmellHowLongModel" (193 : Nat) ({ cls := "SmellHowLongModel", name := "isStep", desc := "(II)Z" } : Jvm.MethodName)) ∈ tbG := tv_of (tv_4 (i := 229) rfl) rfl
theorem tw_4_231 : (Jvm.Cond.instanceMethod ({ cls := "SmellHowLongModel", name := "isStep", desc := "(II)Z" } : Jvm.MethodName)) ∈ tbG := tv_of (tv_4 (i := 231) rfl) rfl
theorem tw_4_232 : (Jvm.Cond.code ({ cls := "SmellHowLongModel", name := "isStep", desc := "(II)Z" } : Jvm.MethodName) prog_6_method_47_code (3 : Nat) (Option.some Jvm.ClassFile.FieldType.boolean)) ∈ tbG := tv_of (tv_4 (i := 232) rfl) rfl
theorem tw_4_233 : (Jvm.Cond.methodLink "SmellHowLongModel" (196 : Nat) ({ cls := "SmellHowLongModel", name := "mayBe", desc := "(III)Z" } : Jvm.MethodName)) ∈ tbG := tv_of (tv_4 (i := 233) rfl) rfl
theorem tw_4_235 : (Jvm.Cond.instanceMethod ({ cls := "SmellHowLongModel", name := "mayBe", desc := "(III)Z" } : Jvm.MethodName)) ∈ tbG := tv_of (tv_4 (i := 235) rfl) rfl
theorem tw_4_236 : (Jvm.Cond.code ({ cls := "SmellHowLongModel", name := "mayBe", desc := "(III)Z" } : Jvm.MethodName) prog_6_method_45_code (5 : Nat) (Option.some Jvm.ClassFile.FieldType.boolean)) ∈ tbG := tv_of (tv_4 (i := 236) rfl) rfl
theorem tw_4_237 : (Jvm.Cond.methodLink "SmellHowLongLaw" (83 : Nat) ({ cls := "SmellHowLongModel", name := "likeliest", desc := "(II)I" } : Jvm.MethodName)) ∈ tbG := tv_of (tv_4 (i := 237) rfl) rfl
theorem tw_4_238 : (Jvm.Cond.instanceMethod ({ cls := "SmellHowLongModel", name := "likeliest", desc := "(II)I" } : Jvm.MethodName)) ∈ tbG := tv_of (tv_4 (i := 238) rfl) rfl
theorem tw_4_239 : (Jvm.Cond.selects "SmellHowLongModel" ({ cls := "SmellHowLongModel", name := "likeliest", desc := "(II)I" } : Jvm.MethodName) ({ cls := "SmellHowLongModel", name := "likeliest", desc := "(II)I" } : Jvm.MethodName)) ∈ tbG := tv_of (tv_4 (i := 239) rfl) rfl
theorem tw_5_0 : (Jvm.Cond.code ({ cls := "SmellHowLongModel", name := "likeliest", desc := "(II)I" } : Jvm.MethodName) prog_6_method_52_code (6 : Nat) (Option.some Jvm.ClassFile.FieldType.int)) ∈ tbG := tv_of (tv_5 (i := 0) rfl) rfl
theorem tw_5_1 : (Jvm.Cond.methodLink "SmellHowLongModel" (205 : Nat) ({ cls := "SmellHowLongModel", name := "notAsked", desc := "(II)I" } : Jvm.MethodName)) ∈ tbG := tv_of (tv_5 (i := 1) rfl) rfl
theorem tw_5_3 : (Jvm.Cond.instanceMethod ({ cls := "SmellHowLongModel", name := "notAsked", desc := "(II)I" } : Jvm.MethodName)) ∈ tbG := tv_of (tv_5 (i := 3) rfl) rfl
theorem tw_5_4 : (Jvm.Cond.code ({ cls := "SmellHowLongModel", name := "notAsked", desc := "(II)I" } : Jvm.MethodName) prog_6_method_50_code (4 : Nat) (Option.some Jvm.ClassFile.FieldType.int)) ∈ tbG := tv_of (tv_5 (i := 4) rfl) rfl
theorem tw_5_5 : (Jvm.Cond.methodLink "SmellHowLongModel" (208 : Nat) ({ cls := "SmellHowLongModel", name := "waysBy", desc := "(II)J" } : Jvm.MethodName)) ∈ tbG := tv_of (tv_5 (i := 5) rfl) rfl
theorem tw_5_7 : (Jvm.Cond.instanceMethod ({ cls := "SmellHowLongModel", name := "waysBy", desc := "(II)J" } : Jvm.MethodName)) ∈ tbG := tv_of (tv_5 (i := 7) rfl) rfl
theorem tw_5_8 : (Jvm.Cond.code ({ cls := "SmellHowLongModel", name := "waysBy", desc := "(II)J" } : Jvm.MethodName) prog_6_method_51_code (3 : Nat) (Option.some Jvm.ClassFile.FieldType.long)) ∈ tbG := tv_of (tv_5 (i := 8) rfl) rfl
theorem tw_5_9 : (Jvm.Cond.methodLink "SmellHowLongLaw" (87 : Nat) ({ cls := "SmellHowLongModel", name := "sure", desc := "(II)I" } : Jvm.MethodName)) ∈ tbG := tv_of (tv_5 (i := 9) rfl) rfl
theorem tw_5_10 : (Jvm.Cond.instanceMethod ({ cls := "SmellHowLongModel", name := "sure", desc := "(II)I" } : Jvm.MethodName)) ∈ tbG := tv_of (tv_5 (i := 10) rfl) rfl
theorem tw_5_11 : (Jvm.Cond.selects "SmellHowLongModel" ({ cls := "SmellHowLongModel", name := "sure", desc := "(II)I" } : Jvm.MethodName) ({ cls := "SmellHowLongModel", name := "sure", desc := "(II)I" } : Jvm.MethodName)) ∈ tbG := tv_of (tv_5 (i := 11) rfl) rfl
theorem tw_5_12 : (Jvm.Cond.code ({ cls := "SmellHowLongModel", name := "sure", desc := "(II)I" } : Jvm.MethodName) prog_6_method_53_code (6 : Nat) (Option.some Jvm.ClassFile.FieldType.int)) ∈ tbG := tv_of (tv_5 (i := 12) rfl) rfl
theorem tw_5_13 : (Jvm.Cond.methodLink "SmellHowLongLaw" (91 : Nat) ({ cls := "SmellHowLongModel", name := "across", desc := "(II)I" } : Jvm.MethodName)) ∈ tbG := tv_of (tv_5 (i := 13) rfl) rfl
theorem tw_5_14 : (Jvm.Cond.instanceMethod ({ cls := "SmellHowLongModel", name := "across", desc := "(II)I" } : Jvm.MethodName)) ∈ tbG := tv_of (tv_5 (i := 14) rfl) rfl
theorem tw_5_15 : (Jvm.Cond.selects "SmellHowLongModel" ({ cls := "SmellHowLongModel", name := "across", desc := "(II)I" } : Jvm.MethodName) ({ cls := "SmellHowLongModel", name := "across", desc := "(II)I" } : Jvm.MethodName)) ∈ tbG := tv_of (tv_5 (i := 15) rfl) rfl
theorem tw_5_16 : (Jvm.Cond.code ({ cls := "SmellHowLongModel", name := "across", desc := "(II)I" } : Jvm.MethodName) prog_6_method_56_code (3 : Nat) (Option.some Jvm.ClassFile.FieldType.int)) ∈ tbG := tv_of (tv_5 (i := 16) rfl) rfl
theorem tw_5_17 : (Jvm.Cond.methodLink "SmellHowLongModel" (216 : Nat) ({ cls := "SmellHowLongModel", name := "soonest", desc := "(IIZ)I" } : Jvm.MethodName)) ∈ tbG := tv_of (tv_5 (i := 17) rfl) rfl
theorem tw_5_19 : (Jvm.Cond.instanceMethod ({ cls := "SmellHowLongModel", name := "soonest", desc := "(IIZ)I" } : Jvm.MethodName)) ∈ tbG := tv_of (tv_5 (i := 19) rfl) rfl
theorem tw_5_20 : (Jvm.Cond.code ({ cls := "SmellHowLongModel", name := "soonest", desc := "(IIZ)I" } : Jvm.MethodName) prog_6_method_55_code (9 : Nat) (Option.some Jvm.ClassFile.FieldType.int)) ∈ tbG := tv_of (tv_5 (i := 20) rfl) rfl
theorem tw_5_21 : (Jvm.Cond.methodLink "SmellHowLongModel" (212 : Nat) ({ cls := "SmellHowLongModel", name := "isLet", desc := "(IZ)Z" } : Jvm.MethodName)) ∈ tbG := tv_of (tv_5 (i := 21) rfl) rfl
theorem tw_5_23 : (Jvm.Cond.instanceMethod ({ cls := "SmellHowLongModel", name := "isLet", desc := "(IZ)Z" } : Jvm.MethodName)) ∈ tbG := tv_of (tv_5 (i := 23) rfl) rfl
theorem tw_5_24 : (Jvm.Cond.code ({ cls := "SmellHowLongModel", name := "isLet", desc := "(IZ)Z" } : Jvm.MethodName) prog_6_method_54_code (4 : Nat) (Option.some Jvm.ClassFile.FieldType.boolean)) ∈ tbG := tv_of (tv_5 (i := 24) rfl) rfl
theorem tw_5_25 : (Jvm.Cond.methodLink "SmellHowLongLaw" (95 : Nat) ({ cls := "SmellHowLongModel", name := "covered", desc := "(II)I" } : Jvm.MethodName)) ∈ tbG := tv_of (tv_5 (i := 25) rfl) rfl
theorem tw_5_26 : (Jvm.Cond.instanceMethod ({ cls := "SmellHowLongModel", name := "covered", desc := "(II)I" } : Jvm.MethodName)) ∈ tbG := tv_of (tv_5 (i := 26) rfl) rfl
theorem tw_5_27 : (Jvm.Cond.selects "SmellHowLongModel" ({ cls := "SmellHowLongModel", name := "covered", desc := "(II)I" } : Jvm.MethodName) ({ cls := "SmellHowLongModel", name := "covered", desc := "(II)I" } : Jvm.MethodName)) ∈ tbG := tv_of (tv_5 (i := 27) rfl) rfl
theorem tw_5_28 : (Jvm.Cond.code ({ cls := "SmellHowLongModel", name := "covered", desc := "(II)I" } : Jvm.MethodName) prog_6_method_57_code (3 : Nat) (Option.some Jvm.ClassFile.FieldType.int)) ∈ tbG := tv_of (tv_5 (i := 28) rfl) rfl
theorem tw_5_29 : (Jvm.Cond.methodLink "SmellHowLongLaw" (99 : Nat) ({ cls := "SmellHowLongModel", name := "told", desc := "(I)I" } : Jvm.MethodName)) ∈ tbG := tv_of (tv_5 (i := 29) rfl) rfl
theorem tw_5_30 : (Jvm.Cond.instanceMethod ({ cls := "SmellHowLongModel", name := "told", desc := "(I)I" } : Jvm.MethodName)) ∈ tbG := tv_of (tv_5 (i := 30) rfl) rfl
theorem tw_5_31 : (Jvm.Cond.selects "SmellHowLongModel" ({ cls := "SmellHowLongModel", name := "told", desc := "(I)I" } : Jvm.MethodName) ({ cls := "SmellHowLongModel", name := "told", desc := "(I)I" } : Jvm.MethodName)) ∈ tbG := tv_of (tv_5 (i := 31) rfl) rfl
theorem tw_5_32 : (Jvm.Cond.code ({ cls := "SmellHowLongModel", name := "told", desc := "(I)I" } : Jvm.MethodName) prog_6_method_59_code (4 : Nat) (Option.some Jvm.ClassFile.FieldType.int)) ∈ tbG := tv_of (tv_5 (i := 32) rfl) rfl
theorem tw_5_33 : (Jvm.Cond.methodLink "SmellHowLongModel" (219 : Nat) ({ cls := "SmellHowLongModel", name := "isAlone", desc := "(I)Z" } : Jvm.MethodName)) ∈ tbG := tv_of (tv_5 (i := 33) rfl) rfl
theorem tw_5_35 : (Jvm.Cond.instanceMethod ({ cls := "SmellHowLongModel", name := "isAlone", desc := "(I)Z" } : Jvm.MethodName)) ∈ tbG := tv_of (tv_5 (i := 35) rfl) rfl
theorem tw_5_36 : (Jvm.Cond.code ({ cls := "SmellHowLongModel", name := "isAlone", desc := "(I)Z" } : Jvm.MethodName) prog_6_method_58_code (5 : Nat) (Option.some Jvm.ClassFile.FieldType.boolean)) ∈ tbG := tv_of (tv_5 (i := 36) rfl) rfl
theorem tw_5_37 : (Jvm.Cond.methodLink "SmellHowLongLaw" (103 : Nat) ({ cls := "SmellHowLongModel", name := "row", desc := "(I)I" } : Jvm.MethodName)) ∈ tbG := tv_of (tv_5 (i := 37) rfl) rfl
theorem tw_5_38 : (Jvm.Cond.instanceMethod ({ cls := "SmellHowLongModel", name := "row", desc := "(I)I" } : Jvm.MethodName)) ∈ tbG := tv_of (tv_5 (i := 38) rfl) rfl
theorem tw_5_39 : (Jvm.Cond.selects "SmellHowLongModel" ({ cls := "SmellHowLongModel", name := "row", desc := "(I)I" } : Jvm.MethodName) ({ cls := "SmellHowLongModel", name := "row", desc := "(I)I" } : Jvm.MethodName)) ∈ tbG := tv_of (tv_5 (i := 39) rfl) rfl
theorem tw_5_40 : (Jvm.Cond.code ({ cls := "SmellHowLongModel", name := "row", desc := "(I)I" } : Jvm.MethodName) prog_6_method_60_code (3 : Nat) (Option.some Jvm.ClassFile.FieldType.int)) ∈ tbG := tv_of (tv_5 (i := 40) rfl) rfl
theorem tw_5_41 : (Jvm.Cond.methodLink "SmellHowLongLaw" (111 : Nat) ({ cls := "SmellHowLongModel", name := "clear", desc := "()I" } : Jvm.MethodName)) ∈ tbG := tv_of (tv_5 (i := 41) rfl) rfl
theorem tw_5_42 : (Jvm.Cond.instanceMethod ({ cls := "SmellHowLongModel", name := "clear", desc := "()I" } : Jvm.MethodName)) ∈ tbG := tv_of (tv_5 (i := 42) rfl) rfl
theorem tw_5_43 : (Jvm.Cond.selects "SmellHowLongModel" ({ cls := "SmellHowLongModel", name := "clear", desc := "()I" } : Jvm.MethodName) ({ cls := "SmellHowLongModel", name := "clear", desc := "()I" } : Jvm.MethodName)) ∈ tbG := tv_of (tv_5 (i := 43) rfl) rfl
theorem tw_5_44 : (Jvm.Cond.code ({ cls := "SmellHowLongModel", name := "clear", desc := "()I" } : Jvm.MethodName) prog_6_method_61_code (2 : Nat) (Option.some Jvm.ClassFile.FieldType.int)) ∈ tbG := tv_of (tv_5 (i := 44) rfl) rfl
theorem tw_5_45 : (Jvm.Cond.methodLink "SmellHowLongLaw" (107 : Nat) ({ cls := "SmellHowLongModel", name := "judge", desc := "()I" } : Jvm.MethodName)) ∈ tbG := tv_of (tv_5 (i := 45) rfl) rfl
theorem tw_5_46 : (Jvm.Cond.instanceMethod ({ cls := "SmellHowLongModel", name := "judge", desc := "()I" } : Jvm.MethodName)) ∈ tbG := tv_of (tv_5 (i := 46) rfl) rfl
theorem tw_5_47 : (Jvm.Cond.selects "SmellHowLongModel" ({ cls := "SmellHowLongModel", name := "judge", desc := "()I" } : Jvm.MethodName) ({ cls := "SmellHowLongModel", name := "judge", desc := "()I" } : Jvm.MethodName)) ∈ tbG := tv_of (tv_5 (i := 47) rfl) rfl
theorem tw_5_48 : (Jvm.Cond.code ({ cls := "SmellHowLongModel", name := "judge", desc := "()I" } : Jvm.MethodName) prog_6_method_62_code (4 : Nat) (Option.some Jvm.ClassFile.FieldType.int)) ∈ tbG := tv_of (tv_5 (i := 48) rfl) rfl
theorem tw_5_49 : (Jvm.Cond.methodLink "SmellHowLongLaw" (116 : Nat) ({ cls := "SmellHowLongModel", name := "seeds", desc := "(III)I" } : Jvm.MethodName)) ∈ tbG := tv_of (tv_5 (i := 49) rfl) rfl
theorem tw_5_50 : (Jvm.Cond.instanceMethod ({ cls := "SmellHowLongModel", name := "seeds", desc := "(III)I" } : Jvm.MethodName)) ∈ tbG := tv_of (tv_5 (i := 50) rfl) rfl
theorem tw_5_51 : (Jvm.Cond.selects "SmellHowLongModel" ({ cls := "SmellHowLongModel", name := "seeds", desc := "(III)I" } : Jvm.MethodName) ({ cls := "SmellHowLongModel", name := "seeds", desc := "(III)I" } : Jvm.MethodName)) ∈ tbG := tv_of (tv_5 (i := 51) rfl) rfl
theorem tw_5_52 : (Jvm.Cond.code ({ cls := "SmellHowLongModel", name := "seeds", desc := "(III)I" } : Jvm.MethodName) prog_6_method_63_code (8 : Nat) (Option.some Jvm.ClassFile.FieldType.int)) ∈ tbG := tv_of (tv_5 (i := 52) rfl) rfl
theorem tw_5_53 : (Jvm.Cond.constant "SmellHowLongModel" (222 : Nat) (1664525 : Int32)) ∈ tbG := tv_of (tv_5 (i := 53) rfl) rfl
theorem tw_5_54 : (Jvm.Cond.constant "SmellHowLongModel" (223 : Nat) (1013904223 : Int32)) ∈ tbG := tv_of (tv_5 (i := 54) rfl) rfl
theorem tw_5_55 : (Jvm.Cond.constant "SmellHowLongModel" (224 : Nat) (2147483647 : Int32)) ∈ tbG := tv_of (tv_5 (i := 55) rfl) rfl
theorem tw_5_56 : (Jvm.Cond.methodLink "SmellHowLongLaw" (128 : Nat) ({ cls := "SmellHowLongModel", name := "count", desc := "(I)I" } : Jvm.MethodName)) ∈ tbG := tv_of (tv_5 (i := 56) rfl) rfl
theorem tw_5_57 : (Jvm.Cond.instanceMethod ({ cls := "SmellHowLongModel", name := "count", desc := "(I)I" } : Jvm.MethodName)) ∈ tbG := tv_of (tv_5 (i := 57) rfl) rfl
theorem tw_5_58 : (Jvm.Cond.selects "SmellHowLongModel" ({ cls := "SmellHowLongModel", name := "count", desc := "(I)I" } : Jvm.MethodName) ({ cls := "SmellHowLongModel", name := "count", desc := "(I)I" } : Jvm.MethodName)) ∈ tbG := tv_of (tv_5 (i := 58) rfl) rfl
theorem tw_5_59 : (Jvm.Cond.code ({ cls := "SmellHowLongModel", name := "count", desc := "(I)I" } : Jvm.MethodName) prog_6_method_66_code (2 : Nat) (Option.some Jvm.ClassFile.FieldType.int)) ∈ tbG := tv_of (tv_5 (i := 59) rfl) rfl
theorem tw_5_60 : (Jvm.Cond.methodLink "SmellHowLongModel" (225 : Nat) ({ cls := "SmellHowLongModel", name := "pathMany", desc := "()I" } : Jvm.MethodName)) ∈ tbG := tv_of (tv_5 (i := 60) rfl) rfl
theorem tw_5_62 : (Jvm.Cond.instanceMethod ({ cls := "SmellHowLongModel", name := "pathMany", desc := "()I" } : Jvm.MethodName)) ∈ tbG := tv_of (tv_5 (i := 62) rfl) rfl
theorem tw_5_63 : (Jvm.Cond.code ({ cls := "SmellHowLongModel", name := "pathMany", desc := "()I" } : Jvm.MethodName) prog_6_method_64_code (4 : Nat) (Option.some Jvm.ClassFile.FieldType.int)) ∈ tbG := tv_of (tv_5 (i := 63) rfl) rfl
theorem tw_5_64 : (Jvm.Cond.methodLink "SmellHowLongModel" (228 : Nat) ({ cls := "SmellHowLongModel", name := "traceMany", desc := "()I" } : Jvm.MethodName)) ∈ tbG := tv_of (tv_5 (i := 64) rfl) rfl
theorem tw_5_66 : (Jvm.Cond.instanceMethod ({ cls := "SmellHowLongModel", name := "traceMany", desc := "()I" } : Jvm.MethodName)) ∈ tbG := tv_of (tv_5 (i := 66) rfl) rfl
theorem tw_5_67 : (Jvm.Cond.code ({ cls := "SmellHowLongModel", name := "traceMany", desc := "()I" } : Jvm.MethodName) prog_6_method_65_code (3 : Nat) (Option.some Jvm.ClassFile.FieldType.int)) ∈ tbG := tv_of (tv_5 (i := 67) rfl) rfl
theorem tw_5_68 : (Jvm.Cond.fieldLink "java/lang/String" (15 : Nat) "java/lang/String" "coder" "B") ∈ tbG := tv_of (tv_5 (i := 68) rfl) rfl
theorem tw_5_69 : (Jvm.Cond.fieldLink "java/lang/String" (9 : Nat) "java/lang/String" "value" "[B") ∈ tbG := tv_of (tv_5 (i := 69) rfl) rfl
theorem ts_1_0 : Cond.selects "SmellHowLong" ⟨"SmellHowLong", "refuse", "(I)I"⟩ ⟨"SmellHowLong", "refuse", "(I)I"⟩ ∈ tbG := tv_sel (tp_1 (i := 0) (q := (⟨"SmellHowLong", "refuse", "(I)I"⟩, 9)) rfl)
theorem ts_1_1 : Cond.selects "SmellHowLong" ⟨"SmellHowLong", "toldTown", "()I"⟩ ⟨"SmellHowLong", "toldTown", "()I"⟩ ∈ tbG := tv_sel (tp_1 (i := 1) (q := (⟨"SmellHowLong", "toldTown", "()I"⟩, 9)) rfl)
theorem ts_1_2 : Cond.selects "SmellHowLong$Telling" ⟨"SmellHowLong$Telling", "letterAt", "(I)I"⟩ ⟨"SmellHowLong$Telling", "letterAt", "(I)I"⟩ ∈ tbG := tv_sel (tp_1 (i := 2) (q := (⟨"SmellHowLong$Telling", "letterAt", "(I)I"⟩, 2)) rfl)
theorem ts_1_3 : Cond.selects "SmellHowLong$Telling" ⟨"SmellHowLong$Telling", "kindAt", "(I)I"⟩ ⟨"SmellHowLong$Telling", "kindAt", "(I)I"⟩ ∈ tbG := tv_sel (tp_1 (i := 3) (q := (⟨"SmellHowLong$Telling", "kindAt", "(I)I"⟩, 2)) rfl)
theorem ts_1_4 : Cond.selects "SmellHowLong$Telling" ⟨"SmellHowLong$Telling", "digitsFrom", "(II)I"⟩ ⟨"SmellHowLong$Telling", "digitsFrom", "(II)I"⟩ ∈ tbG := tv_sel (tp_1 (i := 4) (q := (⟨"SmellHowLong$Telling", "digitsFrom", "(II)I"⟩, 2)) rfl)
theorem ts_1_5 : Cond.selects "SmellHowLong$Telling" ⟨"SmellHowLong$Telling", "isDigit", "(I)Z"⟩ ⟨"SmellHowLong$Telling", "isDigit", "(I)Z"⟩ ∈ tbG := tv_sel (tp_1 (i := 5) (q := (⟨"SmellHowLong$Telling", "isDigit", "(I)Z"⟩, 2)) rfl)
theorem ts_1_6 : Cond.selects "SmellHowLong$Telling" ⟨"SmellHowLong$Telling", "tellStatement", "(LSmellHowLong$Town;II)Z"⟩ ⟨"SmellHowLong$Telling", "tellStatement", "(LSmellHowLong$Town;II)Z"⟩ ∈ tbG := tv_sel (tp_1 (i := 6) (q := (⟨"SmellHowLong$Telling", "tellStatement", "(LSmellHowLong$Town;II)Z"⟩, 2)) rfl)
theorem ts_1_7 : Cond.selects "SmellHowLong$Telling" ⟨"SmellHowLong$Telling", "tellPath", "(LSmellHowLong$Town;I)Z"⟩ ⟨"SmellHowLong$Telling", "tellPath", "(LSmellHowLong$Town;I)Z"⟩ ∈ tbG := tv_sel (tp_1 (i := 7) (q := (⟨"SmellHowLong$Telling", "tellPath", "(LSmellHowLong$Town;I)Z"⟩, 2)) rfl)
theorem ts_1_8 : Cond.selects "SmellHowLong$Telling" ⟨"SmellHowLong$Telling", "digitAt", "(I)I"⟩ ⟨"SmellHowLong$Telling", "digitAt", "(I)I"⟩ ∈ tbG := tv_sel (tp_1 (i := 8) (q := (⟨"SmellHowLong$Telling", "digitAt", "(I)I"⟩, 2)) rfl)
theorem ts_1_9 : Cond.selects "SmellHowLong$Telling" ⟨"SmellHowLong$Telling", "tellWind", "(LSmellHowLong$Town;I)Z"⟩ ⟨"SmellHowLong$Telling", "tellWind", "(LSmellHowLong$Town;I)Z"⟩ ∈ tbG := tv_sel (tp_1 (i := 9) (q := (⟨"SmellHowLong$Telling", "tellWind", "(LSmellHowLong$Town;I)Z"⟩, 2)) rfl)
theorem ts_1_10 : Cond.selects "SmellHowLong$Telling" ⟨"SmellHowLong$Telling", "tellRoof", "(LSmellHowLong$Town;I)Z"⟩ ⟨"SmellHowLong$Telling", "tellRoof", "(LSmellHowLong$Town;I)Z"⟩ ∈ tbG := tv_sel (tp_1 (i := 10) (q := (⟨"SmellHowLong$Telling", "tellRoof", "(LSmellHowLong$Town;I)Z"⟩, 2)) rfl)
theorem ts_1_11 : Cond.selects "SmellHowLong$Telling" ⟨"SmellHowLong$Telling", "tellNose", "(LSmellHowLong$Town;I)Z"⟩ ⟨"SmellHowLong$Telling", "tellNose", "(LSmellHowLong$Town;I)Z"⟩ ∈ tbG := tv_sel (tp_1 (i := 11) (q := (⟨"SmellHowLong$Telling", "tellNose", "(LSmellHowLong$Town;I)Z"⟩, 2)) rfl)
theorem ts_1_12 : Cond.selects "SmellHowLong$Telling" ⟨"SmellHowLong$Telling", "tellWalker", "(LSmellHowLong$Town;II)Z"⟩ ⟨"SmellHowLong$Telling", "tellWalker", "(LSmellHowLong$Town;II)Z"⟩ ∈ tbG := tv_sel (tp_1 (i := 12) (q := (⟨"SmellHowLong$Telling", "tellWalker", "(LSmellHowLong$Town;II)Z"⟩, 2)) rfl)
theorem ts_1_13 : Cond.selects "SmellHowLong$Town" ⟨"SmellHowLong$Town", "leaveTrace", "(I)V"⟩ ⟨"SmellHowLong$Town", "leaveTrace", "(I)V"⟩ ∈ tbG := tv_sel (tp_1 (i := 13) (q := (⟨"SmellHowLong$Town", "leaveTrace", "(I)V"⟩, 12)) rfl)
theorem ts_1_14 : Cond.selects "SmellHowLong$Town" ⟨"SmellHowLong$Town", "smeltGoal", "(IZ)I"⟩ ⟨"SmellHowLong$Town", "smeltGoal", "(IZ)I"⟩ ∈ tbG := tv_sel (tp_1 (i := 14) (q := (⟨"SmellHowLong$Town", "smeltGoal", "(IZ)I"⟩, 12)) rfl)
theorem ts_1_15 : Cond.selects "SmellHowLong$Town" ⟨"SmellHowLong$Town", "ageAmong", "(IIZ)I"⟩ ⟨"SmellHowLong$Town", "ageAmong", "(IIZ)I"⟩ ∈ tbG := tv_sel (tp_1 (i := 15) (q := (⟨"SmellHowLong$Town", "ageAmong", "(IIZ)I"⟩, 12)) rfl)
theorem ts_2_0 : Cond.selects "SmellHowLong$Town" ⟨"SmellHowLong$Town", "plannedGoal", "(I)I"⟩ ⟨"SmellHowLong$Town", "plannedGoal", "(I)I"⟩ ∈ tbG := tv_sel (tp_2 (i := 0) (q := (⟨"SmellHowLong$Town", "plannedGoal", "(I)I"⟩, 12)) rfl)
theorem ts_2_1 : Cond.selects "SmellHowLong$Town" ⟨"SmellHowLong$Town", "arrive", "(II)V"⟩ ⟨"SmellHowLong$Town", "arrive", "(II)V"⟩ ∈ tbG := tv_sel (tp_2 (i := 1) (q := (⟨"SmellHowLong$Town", "arrive", "(II)V"⟩, 12)) rfl)
theorem ts_2_2 : Cond.selects "SmellHowLong$Town" ⟨"SmellHowLong$Town", "hasTrace", "(II)Z"⟩ ⟨"SmellHowLong$Town", "hasTrace", "(II)Z"⟩ ∈ tbG := tv_sel (tp_2 (i := 2) (q := (⟨"SmellHowLong$Town", "hasTrace", "(II)Z"⟩, 12)) rfl)
theorem ts_2_3 : Cond.selects "SmellHowLong$Town" ⟨"SmellHowLong$Town", "forgetTraces", "(I)V"⟩ ⟨"SmellHowLong$Town", "forgetTraces", "(I)V"⟩ ∈ tbG := tv_sel (tp_2 (i := 3) (q := (⟨"SmellHowLong$Town", "forgetTraces", "(I)V"⟩, 12)) rfl)
theorem ts_2_4 : Cond.selects "SmellHowLong$Town" ⟨"SmellHowLong$Town", "smellsAsOneBefore", "(II)Z"⟩ ⟨"SmellHowLong$Town", "smellsAsOneBefore", "(II)Z"⟩ ∈ tbG := tv_sel (tp_2 (i := 4) (q := (⟨"SmellHowLong$Town", "smellsAsOneBefore", "(II)Z"⟩, 12)) rfl)
theorem ts_2_5 : Cond.selects "SmellHowLong$Town" ⟨"SmellHowLong$Town", "smellOf", "(III)I"⟩ ⟨"SmellHowLong$Town", "smellOf", "(III)I"⟩ ∈ tbG := tv_sel (tp_2 (i := 5) (q := (⟨"SmellHowLong$Town", "smellOf", "(III)I"⟩, 12)) rfl)
theorem ts_2_6 : Cond.selects "SmellHowLong" ⟨"SmellHowLong", "think", "(I)V"⟩ ⟨"SmellHowLong", "think", "(I)V"⟩ ∈ tbG := tv_sel (tp_2 (i := 6) (q := (⟨"SmellHowLong", "think", "(I)V"⟩, 9)) rfl)
theorem ts_2_7 : Cond.selects "SmellHowLong" ⟨"SmellHowLong", "walksRefusal", "(II)I"⟩ ⟨"SmellHowLong", "walksRefusal", "(II)I"⟩ ∈ tbG := tv_sel (tp_2 (i := 7) (q := (⟨"SmellHowLong", "walksRefusal", "(II)I"⟩, 9)) rfl)
theorem ts_2_8 : Cond.selects "SmellHowLong$Walks" ⟨"SmellHowLong$Walks", "openRooms", "([II)I"⟩ ⟨"SmellHowLong$Walks", "openRooms", "([II)I"⟩ ∈ tbG := tv_sel (tp_2 (i := 8) (q := (⟨"SmellHowLong$Walks", "openRooms", "([II)I"⟩, 4)) rfl)
theorem ts_2_9 : Cond.selects "SmellHowLong$Walks" ⟨"SmellHowLong$Walks", "openWays", "(III)I"⟩ ⟨"SmellHowLong$Walks", "openWays", "(III)I"⟩ ∈ tbG := tv_sel (tp_2 (i := 9) (q := (⟨"SmellHowLong$Walks", "openWays", "(III)I"⟩, 4)) rfl)
theorem ts_2_10 : Cond.selects "SmellHowLong$Walks" ⟨"SmellHowLong$Walks", "waysThrough", "(II)I"⟩ ⟨"SmellHowLong$Walks", "waysThrough", "(II)I"⟩ ∈ tbG := tv_sel (tp_2 (i := 10) (q := (⟨"SmellHowLong$Walks", "waysThrough", "(II)I"⟩, 4)) rfl)
theorem ts_2_11 : Cond.selects "SmellHowLong" ⟨"SmellHowLong", "soonest", "(IIZ)I"⟩ ⟨"SmellHowLong", "soonest", "(IIZ)I"⟩ ∈ tbG := tv_sel (tp_2 (i := 11) (q := (⟨"SmellHowLong", "soonest", "(IIZ)I"⟩, 9)) rfl)
theorem ts_2_12 : Cond.selects "SmellHowLong" ⟨"SmellHowLong", "firstWrong", "()I"⟩ ⟨"SmellHowLong", "firstWrong", "()I"⟩ ∈ tbG := tv_sel (tp_2 (i := 12) (q := (⟨"SmellHowLong", "firstWrong", "()I"⟩, 9)) rfl)
theorem ts_2_13 : Cond.selects "SmellHowLongModel" ⟨"SmellHowLongModel", "no", "(I)I"⟩ ⟨"SmellHowLongModel", "no", "(I)I"⟩ ∈ tbG := tv_sel (tp_2 (i := 13) (q := (⟨"SmellHowLongModel", "no", "(I)I"⟩, 30)) rfl)
theorem ts_2_14 : Cond.selects "SmellHowLongModel" ⟨"SmellHowLongModel", "statement", "()Z"⟩ ⟨"SmellHowLongModel", "statement", "()Z"⟩ ∈ tbG := tv_sel (tp_2 (i := 14) (q := (⟨"SmellHowLongModel", "statement", "()Z"⟩, 30)) rfl)
theorem ts_2_15 : Cond.selects "SmellHowLongModel" ⟨"SmellHowLongModel", "next", "()I"⟩ ⟨"SmellHowLongModel", "next", "()I"⟩ ∈ tbG := tv_sel (tp_2 (i := 15) (q := (⟨"SmellHowLongModel", "next", "()I"⟩, 30)) rfl)
theorem ts_3_0 : Cond.selects "SmellHowLongModel" ⟨"SmellHowLongModel", "readsWalker", "(I)Z"⟩ ⟨"SmellHowLongModel", "readsWalker", "(I)Z"⟩ ∈ tbG := tv_sel (tp_3 (i := 0) (q := (⟨"SmellHowLongModel", "readsWalker", "(I)Z"⟩, 30)) rfl)
theorem ts_3_1 : Cond.selects "SmellHowLongModel" ⟨"SmellHowLongModel", "readsDigit", "(I)Z"⟩ ⟨"SmellHowLongModel", "readsDigit", "(I)Z"⟩ ∈ tbG := tv_sel (tp_3 (i := 1) (q := (⟨"SmellHowLongModel", "readsDigit", "(I)Z"⟩, 30)) rfl)
theorem ts_3_2 : Cond.selects "SmellHowLongModel" ⟨"SmellHowLongModel", "isDigit", "()Z"⟩ ⟨"SmellHowLongModel", "isDigit", "()Z"⟩ ∈ tbG := tv_sel (tp_3 (i := 2) (q := (⟨"SmellHowLongModel", "isDigit", "()Z"⟩, 30)) rfl)
theorem ts_3_3 : Cond.selects "SmellHowLongModel" ⟨"SmellHowLongModel", "passesAll", "(IZ)V"⟩ ⟨"SmellHowLongModel", "passesAll", "(IZ)V"⟩ ∈ tbG := tv_sel (tp_3 (i := 3) (q := (⟨"SmellHowLongModel", "passesAll", "(IZ)V"⟩, 30)) rfl)
theorem ts_3_4 : Cond.selects "SmellHowLongModel" ⟨"SmellHowLongModel", "passes", "([I)V"⟩ ⟨"SmellHowLongModel", "passes", "([I)V"⟩ ∈ tbG := tv_sel (tp_3 (i := 4) (q := (⟨"SmellHowLongModel", "passes", "([I)V"⟩, 30)) rfl)
theorem ts_3_5 : Cond.selects "SmellHowLongModel" ⟨"SmellHowLongModel", "passOne", "(I)I"⟩ ⟨"SmellHowLongModel", "passOne", "(I)I"⟩ ∈ tbG := tv_sel (tp_3 (i := 5) (q := (⟨"SmellHowLongModel", "passOne", "(I)I"⟩, 30)) rfl)
theorem ts_3_6 : Cond.selects "SmellHowLongModel" ⟨"SmellHowLongModel", "comes", "(I)Z"⟩ ⟨"SmellHowLongModel", "comes", "(I)Z"⟩ ∈ tbG := tv_sel (tp_3 (i := 6) (q := (⟨"SmellHowLongModel", "comes", "(I)Z"⟩, 30)) rfl)
theorem ts_3_7 : Cond.selects "SmellHowLongModel" ⟨"SmellHowLongModel", "comesWalker", "(I)Z"⟩ ⟨"SmellHowLongModel", "comesWalker", "(I)Z"⟩ ∈ tbG := tv_sel (tp_3 (i := 7) (q := (⟨"SmellHowLongModel", "comesWalker", "(I)Z"⟩, 30)) rfl)
theorem ts_3_8 : Cond.selects "SmellHowLongModel" ⟨"SmellHowLongModel", "isWalker", "(I)Z"⟩ ⟨"SmellHowLongModel", "isWalker", "(I)Z"⟩ ∈ tbG := tv_sel (tp_3 (i := 8) (q := (⟨"SmellHowLongModel", "isWalker", "(I)Z"⟩, 30)) rfl)
theorem ts_3_9 : Cond.selects "SmellHowLongModel" ⟨"SmellHowLongModel", "wouldGo", "(I)I"⟩ ⟨"SmellHowLongModel", "wouldGo", "(I)I"⟩ ∈ tbG := tv_sel (tp_3 (i := 9) (q := (⟨"SmellHowLongModel", "wouldGo", "(I)I"⟩, 30)) rfl)
theorem ts_3_10 : Cond.selects "SmellHowLongModel" ⟨"SmellHowLongModel", "followed", "(I)I"⟩ ⟨"SmellHowLongModel", "followed", "(I)I"⟩ ∈ tbG := tv_sel (tp_3 (i := 10) (q := (⟨"SmellHowLongModel", "followed", "(I)I"⟩, 30)) rfl)
theorem ts_3_11 : Cond.selects "SmellHowLongModel" ⟨"SmellHowLongModel", "endAge", "(IIZ)I"⟩ ⟨"SmellHowLongModel", "endAge", "(IIZ)I"⟩ ∈ tbG := tv_sel (tp_3 (i := 11) (q := (⟨"SmellHowLongModel", "endAge", "(IIZ)I"⟩, 30)) rfl)
theorem ts_3_12 : Cond.selects "SmellHowLongModel" ⟨"SmellHowLongModel", "isTrace", "(II)Z"⟩ ⟨"SmellHowLongModel", "isTrace", "(II)Z"⟩ ∈ tbG := tv_sel (tp_3 (i := 12) (q := (⟨"SmellHowLongModel", "isTrace", "(II)Z"⟩, 30)) rfl)
theorem ts_3_13 : Cond.selects "SmellHowLongModel" ⟨"SmellHowLongModel", "ageOf", "(II)I"⟩ ⟨"SmellHowLongModel", "ageOf", "(II)I"⟩ ∈ tbG := tv_sel (tp_3 (i := 13) (q := (⟨"SmellHowLongModel", "ageOf", "(II)I"⟩, 30)) rfl)
theorem ts_3_14 : Cond.selects "SmellHowLongModel" ⟨"SmellHowLongModel", "isPath", "(II)Z"⟩ ⟨"SmellHowLongModel", "isPath", "(II)Z"⟩ ∈ tbG := tv_sel (tp_3 (i := 14) (q := (⟨"SmellHowLongModel", "isPath", "(II)Z"⟩, 30)) rfl)
theorem ts_3_15 : Cond.selects "SmellHowLongModel" ⟨"SmellHowLongModel", "goesMinute", "()V"⟩ ⟨"SmellHowLongModel", "goesMinute", "()V"⟩ ∈ tbG := tv_sel (tp_3 (i := 15) (q := (⟨"SmellHowLongModel", "goesMinute", "()V"⟩, 30)) rfl)
theorem ts_4_0 : Cond.selects "SmellHowLongModel" ⟨"SmellHowLongModel", "tracesIn", "(I)I"⟩ ⟨"SmellHowLongModel", "tracesIn", "(I)I"⟩ ∈ tbG := tv_sel (tp_4 (i := 0) (q := (⟨"SmellHowLongModel", "tracesIn", "(I)I"⟩, 30)) rfl)
theorem ts_4_1 : Cond.selects "SmellHowLongModel" ⟨"SmellHowLongModel", "toldApart", "(I)I"⟩ ⟨"SmellHowLongModel", "toldApart", "(I)I"⟩ ∈ tbG := tv_sel (tp_4 (i := 1) (q := (⟨"SmellHowLongModel", "toldApart", "(I)I"⟩, 30)) rfl)
theorem ts_4_2 : Cond.selects "SmellHowLongModel" ⟨"SmellHowLongModel", "goesAhead", "(I)V"⟩ ⟨"SmellHowLongModel", "goesAhead", "(I)V"⟩ ∈ tbG := tv_sel (tp_4 (i := 2) (q := (⟨"SmellHowLongModel", "goesAhead", "(I)V"⟩, 30)) rfl)
theorem ts_4_3 : Cond.selects "SmellHowLongModel" ⟨"SmellHowLongModel", "findWays", "(I)V"⟩ ⟨"SmellHowLongModel", "findWays", "(I)V"⟩ ∈ tbG := tv_sel (tp_4 (i := 3) (q := (⟨"SmellHowLongModel", "findWays", "(I)V"⟩, 30)) rfl)
theorem ts_4_4 : Cond.selects "SmellHowLongModel" ⟨"SmellHowLongModel", "areMinutes", "(I)Z"⟩ ⟨"SmellHowLongModel", "areMinutes", "(I)Z"⟩ ∈ tbG := tv_sel (tp_4 (i := 4) (q := (⟨"SmellHowLongModel", "areMinutes", "(I)Z"⟩, 30)) rfl)
theorem ts_4_5 : Cond.selects "SmellHowLongModel" ⟨"SmellHowLongModel", "isStep", "(II)Z"⟩ ⟨"SmellHowLongModel", "isStep", "(II)Z"⟩ ∈ tbG := tv_sel (tp_4 (i := 5) (q := (⟨"SmellHowLongModel", "isStep", "(II)Z"⟩, 30)) rfl)
theorem ts_4_6 : Cond.selects "SmellHowLongModel" ⟨"SmellHowLongModel", "mayBe", "(III)Z"⟩ ⟨"SmellHowLongModel", "mayBe", "(III)Z"⟩ ∈ tbG := tv_sel (tp_4 (i := 6) (q := (⟨"SmellHowLongModel", "mayBe", "(III)Z"⟩, 30)) rfl)
theorem ts_4_7 : Cond.selects "SmellHowLongModel" ⟨"SmellHowLongModel", "notAsked", "(II)I"⟩ ⟨"SmellHowLongModel", "notAsked", "(II)I"⟩ ∈ tbG := tv_sel (tp_4 (i := 7) (q := (⟨"SmellHowLongModel", "notAsked", "(II)I"⟩, 30)) rfl)
theorem ts_4_8 : Cond.selects "SmellHowLongModel" ⟨"SmellHowLongModel", "waysBy", "(II)J"⟩ ⟨"SmellHowLongModel", "waysBy", "(II)J"⟩ ∈ tbG := tv_sel (tp_4 (i := 8) (q := (⟨"SmellHowLongModel", "waysBy", "(II)J"⟩, 30)) rfl)
theorem ts_4_9 : Cond.selects "SmellHowLongModel" ⟨"SmellHowLongModel", "soonest", "(IIZ)I"⟩ ⟨"SmellHowLongModel", "soonest", "(IIZ)I"⟩ ∈ tbG := tv_sel (tp_4 (i := 9) (q := (⟨"SmellHowLongModel", "soonest", "(IIZ)I"⟩, 30)) rfl)
theorem ts_4_10 : Cond.selects "SmellHowLongModel" ⟨"SmellHowLongModel", "isLet", "(IZ)Z"⟩ ⟨"SmellHowLongModel", "isLet", "(IZ)Z"⟩ ∈ tbG := tv_sel (tp_4 (i := 10) (q := (⟨"SmellHowLongModel", "isLet", "(IZ)Z"⟩, 30)) rfl)
theorem ts_4_11 : Cond.selects "SmellHowLongModel" ⟨"SmellHowLongModel", "isAlone", "(I)Z"⟩ ⟨"SmellHowLongModel", "isAlone", "(I)Z"⟩ ∈ tbG := tv_sel (tp_4 (i := 11) (q := (⟨"SmellHowLongModel", "isAlone", "(I)Z"⟩, 30)) rfl)
theorem ts_4_12 : Cond.selects "SmellHowLongModel" ⟨"SmellHowLongModel", "pathMany", "()I"⟩ ⟨"SmellHowLongModel", "pathMany", "()I"⟩ ∈ tbG := tv_sel (tp_4 (i := 12) (q := (⟨"SmellHowLongModel", "pathMany", "()I"⟩, 30)) rfl)
theorem ts_4_13 : Cond.selects "SmellHowLongModel" ⟨"SmellHowLongModel", "traceMany", "()I"⟩ ⟨"SmellHowLongModel", "traceMany", "()I"⟩ ∈ tbG := tv_sel (tp_4 (i := 13) (q := (⟨"SmellHowLongModel", "traceMany", "()I"⟩, 30)) rfl)
