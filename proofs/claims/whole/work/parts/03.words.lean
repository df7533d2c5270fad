theorem k_0 : (Cond.initialized "RedactCheckLaw") ∈ x_tbl := x_in0 0 rfl rfl
theorem k_1 : (Cond.initialized "RedactCheck") ∈ x_tbl := x_in0 1 rfl rfl
theorem k_2 : (Cond.initialized "java/util/AbstractCollection") ∈ x_tbl := x_in0 2 rfl rfl
theorem k_3 : (Cond.initialized "java/util/AbstractList") ∈ x_tbl := x_in0 3 rfl rfl
theorem k_4 : (Cond.initialized "java/util/ArrayList") ∈ x_tbl := x_in0 4 rfl rfl
theorem k_5 : (Cond.initialized "RedactCheck$Findings") ∈ x_tbl := x_in0 5 rfl rfl
theorem k_6 : (Cond.initialized "RedactCheck$Row") ∈ x_tbl := x_in0 6 rfl rfl
theorem k_7 : (Cond.initialized "RedactCheck$Codes") ∈ x_tbl := x_in0 7 rfl rfl
theorem k_8 : (Cond.initialized "RedactCheck$SignRow") ∈ x_tbl := x_in0 8 rfl rfl
theorem k_9 : (Cond.initialized "jdk/internal/util/ArraysSupport") ∈ x_tbl := x_in0 9 rfl rfl
theorem k_10 : (Cond.initialized "java/lang/Math") ∈ x_tbl := x_in0 10 rfl rfl
theorem k_11 : (Cond.initialized "java/util/Arrays") ∈ x_tbl := x_in0 11 rfl rfl
theorem k_12 : (Cond.initialized "java/lang/System") ∈ x_tbl := x_in0 12 rfl rfl
theorem k_13 : (Cond.initialized "RedactCheckModel") ∈ x_tbl := x_in0 13 rfl rfl
theorem k_14 : (Cond.initialized "java/lang/Throwable") ∈ x_tbl := x_in0 14 rfl rfl
theorem k_15 : (Cond.initialized "java/lang/Exception") ∈ x_tbl := x_in0 15 rfl rfl
theorem k_16 : (Cond.initialized "java/lang/RuntimeException") ∈ x_tbl := x_in0 16 rfl rfl
theorem k_17 : (Cond.initialized "java/lang/IndexOutOfBoundsException") ∈ x_tbl := x_in0 17 rfl rfl
theorem k_18 : (Cond.initialized "java/util/Objects") ∈ x_tbl := x_in0 18 rfl rfl
theorem k_19 : (Cond.initialized "jdk/internal/util/Preconditions") ∈ x_tbl := x_in0 19 rfl rfl
theorem k_20 : (Cond.initialized "java/lang/IllegalArgumentException") ∈ x_tbl := x_in0 20 rfl rfl
theorem k_21 : (Cond.initialized "java/lang/UnsupportedOperationException") ∈ x_tbl := x_in0 21 rfl rfl
theorem k_22 : (Cond.initialized "RedactCheck$Use") ∈ x_tbl := x_in0 22 rfl rfl
theorem k_23 : (Cond.initialized "RedactCheck$Word") ∈ x_tbl := x_in0 23 rfl rfl
theorem k_24 : (Cond.initialized "RedactCheck$Area") ∈ x_tbl := x_in0 24 rfl rfl
theorem k_25 : (Cond.initialized "RedactCheck$Store") ∈ x_tbl := x_in0 25 rfl rfl
theorem k_26 : (Cond.initialized "java/lang/Long") ∈ x_tbl := x_in0 26 rfl rfl
theorem k_27 : (Cond.classLink "RedactCheckLaw" (8 : Nat) "RedactCheck") ∈ x_tbl := x_in0 27 rfl rfl
theorem k_28 : (Cond.instantiable "RedactCheck" (8 : Nat)) ∈ x_tbl := x_in0 28 rfl rfl
theorem k_29 : (Cond.methodLink "RedactCheckLaw" (67 : Nat) ({ cls := "RedactCheck", name := "<init>", desc := "()V" } : Jvm.MethodName)) ∈ x_tbl := x_in0 29 rfl rfl
theorem k_30 : (Cond.instanceMethod ({ cls := "RedactCheck", name := "<init>", desc := "()V" } : Jvm.MethodName)) ∈ x_tbl := x_in0 30 rfl rfl
theorem k_31 : (Cond.code ({ cls := "RedactCheck", name := "<init>", desc := "()V" } : Jvm.MethodName) prog_1_method_1_code (2 : Nat) (Option.none : Option Jvm.ClassFile.FieldType)) ∈ x_tbl := x_in0 31 rfl rfl
theorem k_32 : (Cond.methodLink "RedactCheck" (1 : Nat) ({ cls := "java/lang/Object", name := "<init>", desc := "()V" } : Jvm.MethodName)) ∈ x_tbl := x_in0 32 rfl rfl
theorem k_33 : (Cond.instanceMethod ({ cls := "java/lang/Object", name := "<init>", desc := "()V" } : Jvm.MethodName)) ∈ x_tbl := x_in0 33 rfl rfl
theorem k_34 : (Cond.code ({ cls := "java/lang/Object", name := "<init>", desc := "()V" } : Jvm.MethodName) object_method_1_code (1 : Nat) (Option.none : Option Jvm.ClassFile.FieldType)) ∈ x_tbl := x_in0 34 rfl rfl
theorem k_35 : (Cond.classLink "RedactCheck" (7 : Nat) "java/util/ArrayList") ∈ x_tbl := x_in0 35 rfl rfl
theorem k_36 : (Cond.instantiable "java/util/ArrayList" (3 : Nat)) ∈ x_tbl := x_in0 36 rfl rfl
theorem k_37 : (Cond.methodLink "RedactCheck" (9 : Nat) ({ cls := "java/util/ArrayList", name := "<init>", desc := "()V" } : Jvm.MethodName)) ∈ x_tbl := x_in0 37 rfl rfl
theorem k_38 : (Cond.instanceMethod ({ cls := "java/util/ArrayList", name := "<init>", desc := "()V" } : Jvm.MethodName)) ∈ x_tbl := x_in0 38 rfl rfl
theorem k_39 : (Cond.code ({ cls := "java/util/ArrayList", name := "<init>", desc := "()V" } : Jvm.MethodName) prog_27_method_2_code (1 : Nat) (Option.none : Option Jvm.ClassFile.FieldType)) ∈ x_tbl := x_in0 39 rfl rfl
theorem k_40 : (Cond.methodLink "java/util/ArrayList" (1 : Nat) ({ cls := "java/util/AbstractList", name := "<init>", desc := "()V" } : Jvm.MethodName)) ∈ x_tbl := x_in0 40 rfl rfl
theorem k_41 : (Cond.instanceMethod ({ cls := "java/util/AbstractList", name := "<init>", desc := "()V" } : Jvm.MethodName)) ∈ x_tbl := x_in0 41 rfl rfl
theorem k_42 : (Cond.code ({ cls := "java/util/AbstractList", name := "<init>", desc := "()V" } : Jvm.MethodName) prog_26_method_1_code (1 : Nat) (Option.none : Option Jvm.ClassFile.FieldType)) ∈ x_tbl := x_in0 42 rfl rfl
theorem k_43 : (Cond.methodLink "java/util/AbstractList" (1 : Nat) ({ cls := "java/util/AbstractCollection", name := "<init>", desc := "()V" } : Jvm.MethodName)) ∈ x_tbl := x_in0 43 rfl rfl
theorem k_44 : (Cond.instanceMethod ({ cls := "java/util/AbstractCollection", name := "<init>", desc := "()V" } : Jvm.MethodName)) ∈ x_tbl := x_in0 44 rfl rfl
theorem k_45 : (Cond.code ({ cls := "java/util/AbstractCollection", name := "<init>", desc := "()V" } : Jvm.MethodName) prog_25_method_1_code (1 : Nat) (Option.none : Option Jvm.ClassFile.FieldType)) ∈ x_tbl := x_in0 45 rfl rfl
theorem k_46 : (Cond.methodLink "java/util/AbstractCollection" (1 : Nat) ({ cls := "java/lang/Object", name := "<init>", desc := "()V" } : Jvm.MethodName)) ∈ x_tbl := x_in0 46 rfl rfl
theorem k_47 : (Cond.fieldLink "java/util/ArrayList" (39 : Nat) "java/util/ArrayList" "DEFAULTCAPACITY_EMPTY_ELEMENTDATA" "[Ljava/lang/Object;") ∈ x_tbl := x_in0 47 rfl rfl
theorem k_49 : (Cond.fieldLink "java/util/ArrayList" (9 : Nat) "java/util/ArrayList" "elementData" "[Ljava/lang/Object;") ∈ x_tbl := x_in0 49 rfl rfl
theorem k_50 : (Cond.fieldLink "java/util/ArrayList" (48 : Nat) "java/util/ArrayList" "size" "I") ∈ x_tbl := x_in0 50 rfl rfl
theorem k_51 : (Cond.fieldLink "java/util/AbstractList" (7 : Nat) "java/util/AbstractList" "modCount" "I") ∈ x_tbl := x_in0 51 rfl rfl
theorem k_52 : (Cond.fieldLink "java/util/ArrayList" (63 : Nat) "java/util/ArrayList" "modCount" "I") ∈ x_tbl := x_in0 52 rfl rfl
theorem k_53 : (Cond.sameField "java/util/ArrayList" "java/util/AbstractList" "modCount" "I") ∈ x_tbl := x_in0 53 rfl rfl
theorem k_54 : (Cond.lays "java/util/ArrayList" "java/util/ArrayList" "elementData" "[Ljava/lang/Object;") ∈ x_tbl := x_in0 54 rfl rfl
theorem k_56 : (Cond.lays "java/util/ArrayList" "java/util/ArrayList" "size" "I") ∈ x_tbl := x_in0 56 rfl rfl
theorem k_58 : (Cond.lays "java/util/ArrayList" "java/util/AbstractList" "modCount" "I") ∈ x_tbl := x_in0 58 rfl rfl
theorem k_60 : (Cond.superclass "java/util/ArrayList" "java/util/AbstractList") ∈ x_tbl := x_in0 60 rfl rfl
theorem k_61 : (Cond.classLink "RedactCheck" (31 : Nat) "RedactCheck$Findings") ∈ x_tbl := x_in0 61 rfl rfl
theorem k_62 : (Cond.instantiable "RedactCheck$Findings" (2 : Nat)) ∈ x_tbl := x_in0 62 rfl rfl
theorem k_63 : (Cond.methodLinkNest "RedactCheck" (33 : Nat) ({ cls := "RedactCheck$Findings", name := "<init>", desc := "()V" } : Jvm.MethodName) "RedactCheck") ∈ x_tbl := x_in0 63 rfl rfl
theorem k_64 : (Cond.instanceMethod ({ cls := "RedactCheck$Findings", name := "<init>", desc := "()V" } : Jvm.MethodName)) ∈ x_tbl := x_in0 64 rfl rfl
theorem k_65 : (Cond.code ({ cls := "RedactCheck$Findings", name := "<init>", desc := "()V" } : Jvm.MethodName) prog_4_method_1_code (1 : Nat) (Option.none : Option Jvm.ClassFile.FieldType)) ∈ x_tbl := x_in0 65 rfl rfl
theorem k_66 : (Cond.methodLink "RedactCheck$Findings" (3 : Nat) ({ cls := "java/lang/Object", name := "<init>", desc := "()V" } : Jvm.MethodName)) ∈ x_tbl := x_in0 66 rfl rfl
theorem k_67 : (Cond.fieldLink "RedactCheck$Findings" (15 : Nat) "RedactCheck$Findings" "count" "I") ∈ x_tbl := x_in0 67 rfl rfl
theorem k_68 : (Cond.fieldLink "RedactCheck" (156 : Nat) "RedactCheck$Findings" "count" "I") ∈ x_tbl := x_in0 68 rfl rfl
theorem k_69 : (Cond.fieldLink "RedactCheck$Findings" (9 : Nat) "RedactCheck$Findings" "parts" "[I") ∈ x_tbl := x_in0 69 rfl rfl
theorem k_70 : (Cond.lays "RedactCheck$Findings" "RedactCheck$Findings" "count" "I") ∈ x_tbl := x_in0 70 rfl rfl
theorem k_72 : (Cond.laysFinal "RedactCheck$Findings" "RedactCheck$Findings" "parts" "[I") ∈ x_tbl := x_in0 72 rfl rfl
theorem k_74 : (Cond.superclass "RedactCheck$Findings" "java/lang/Object") ∈ x_tbl := x_in0 74 rfl rfl
theorem k_75 : (Cond.arrayClass Jvm.ClassFile.FieldType.int) ∈ x_tbl := x_in0 75 rfl rfl
theorem k_76 : (Cond.classLink "RedactCheck" (38 : Nat) "RedactCheck$Codes") ∈ x_tbl := x_in0 76 rfl rfl
theorem k_77 : (Cond.instantiable "RedactCheck$Codes" (2 : Nat)) ∈ x_tbl := x_in0 77 rfl rfl
theorem k_78 : (Cond.methodLinkNest "RedactCheck" (40 : Nat) ({ cls := "RedactCheck$Codes", name := "<init>", desc := "()V" } : Jvm.MethodName) "RedactCheck") ∈ x_tbl := x_in0 78 rfl rfl
theorem k_79 : (Cond.instanceMethod ({ cls := "RedactCheck$Codes", name := "<init>", desc := "()V" } : Jvm.MethodName)) ∈ x_tbl := x_in0 79 rfl rfl
theorem k_80 : (Cond.code ({ cls := "RedactCheck$Codes", name := "<init>", desc := "()V" } : Jvm.MethodName) prog_3_method_1_code (1 : Nat) (Option.none : Option Jvm.ClassFile.FieldType)) ∈ x_tbl := x_in0 80 rfl rfl
theorem k_81 : (Cond.methodLinkNest "RedactCheck$Codes" (3 : Nat) ({ cls := "RedactCheck$Row", name := "<init>", desc := "()V" } : Jvm.MethodName) "RedactCheck") ∈ x_tbl := x_in0 81 rfl rfl
theorem k_82 : (Cond.instanceMethod ({ cls := "RedactCheck$Row", name := "<init>", desc := "()V" } : Jvm.MethodName)) ∈ x_tbl := x_in0 82 rfl rfl
theorem k_83 : (Cond.code ({ cls := "RedactCheck$Row", name := "<init>", desc := "()V" } : Jvm.MethodName) prog_5_method_1_code (1 : Nat) (Option.none : Option Jvm.ClassFile.FieldType)) ∈ x_tbl := x_in0 83 rfl rfl
theorem k_84 : (Cond.methodLink "RedactCheck$Row" (1 : Nat) ({ cls := "java/lang/Object", name := "<init>", desc := "()V" } : Jvm.MethodName)) ∈ x_tbl := x_in0 84 rfl rfl
theorem k_85 : (Cond.fieldLink "RedactCheck$Codes" (9 : Nat) "RedactCheck$Codes" "values" "[I") ∈ x_tbl := x_in0 85 rfl rfl
theorem k_86 : (Cond.fieldLink "RedactCheck$SignRow" (19 : Nat) "RedactCheck$SignRow" "count" "I") ∈ x_tbl := x_in0 86 rfl rfl
theorem k_87 : (Cond.sameField "RedactCheck$SignRow" "RedactCheck$Row" "count" "I") ∈ x_tbl := x_in0 87 rfl rfl
theorem k_88 : (Cond.fieldLink "RedactCheck$Codes" (15 : Nat) "RedactCheck$Codes" "count" "I") ∈ x_tbl := x_in0 88 rfl rfl
theorem k_89 : (Cond.sameField "RedactCheck$Codes" "RedactCheck$Row" "count" "I") ∈ x_tbl := x_in0 89 rfl rfl
theorem k_90 : (Cond.fieldLink "RedactCheck$Word" (19 : Nat) "RedactCheck$Codes" "count" "I") ∈ x_tbl := x_in0 90 rfl rfl
theorem k_91 : (Cond.fieldLink "RedactCheck$SignRow" (26 : Nat) "RedactCheck$Codes" "count" "I") ∈ x_tbl := x_in0 91 rfl rfl
theorem k_92 : (Cond.fieldLink "RedactCheck$Store" (22 : Nat) "RedactCheck$Codes" "count" "I") ∈ x_tbl := x_in0 92 rfl rfl
theorem k_93 : (Cond.fieldLink "RedactCheck$Row" (7 : Nat) "RedactCheck$Row" "count" "I") ∈ x_tbl := x_in0 93 rfl rfl
theorem k_94 : (Cond.fieldLink "RedactCheck" (161 : Nat) "RedactCheck$SignRow" "count" "I") ∈ x_tbl := x_in0 94 rfl rfl
theorem k_95 : (Cond.fieldLink "RedactCheck" (261 : Nat) "RedactCheck$Codes" "count" "I") ∈ x_tbl := x_in0 95 rfl rfl
theorem k_96 : (Cond.laysFinal "RedactCheck$Codes" "RedactCheck$Codes" "values" "[I") ∈ x_tbl := x_in0 96 rfl rfl
theorem k_98 : (Cond.lays "RedactCheck$Codes" "RedactCheck$Row" "count" "I") ∈ x_tbl := x_in0 98 rfl rfl
theorem k_100 : (Cond.superclass "RedactCheck$Codes" "RedactCheck$Row") ∈ x_tbl := x_in0 100 rfl rfl
theorem k_101 : (Cond.classLink "RedactCheck" (45 : Nat) "RedactCheck$SignRow") ∈ x_tbl := x_in0 101 rfl rfl
theorem k_102 : (Cond.instantiable "RedactCheck$SignRow" (3 : Nat)) ∈ x_tbl := x_in0 102 rfl rfl
theorem k_103 : (Cond.methodLink "RedactCheck" (47 : Nat) ({ cls := "RedactCheck$SignRow", name := "<init>", desc := "(I)V" } : Jvm.MethodName)) ∈ x_tbl := x_in0 103 rfl rfl
theorem k_104 : (Cond.instanceMethod ({ cls := "RedactCheck$SignRow", name := "<init>", desc := "(I)V" } : Jvm.MethodName)) ∈ x_tbl := x_in0 104 rfl rfl
theorem k_105 : (Cond.code ({ cls := "RedactCheck$SignRow", name := "<init>", desc := "(I)V" } : Jvm.MethodName) prog_6_method_1_code (2 : Nat) (Option.none : Option Jvm.ClassFile.FieldType)) ∈ x_tbl := x_in0 105 rfl rfl
theorem k_106 : (Cond.methodLinkNest "RedactCheck$SignRow" (3 : Nat) ({ cls := "RedactCheck$Row", name := "<init>", desc := "()V" } : Jvm.MethodName) "RedactCheck") ∈ x_tbl := x_in0 106 rfl rfl
theorem k_107 : (Cond.fieldLink "RedactCheck$SignRow" (15 : Nat) "RedactCheck$SignRow" "number" "I") ∈ x_tbl := x_in0 107 rfl rfl
theorem k_108 : (Cond.fieldLink "RedactCheck" (172 : Nat) "RedactCheck$SignRow" "number" "I") ∈ x_tbl := x_in0 108 rfl rfl
theorem k_109 : (Cond.fieldLink "RedactCheck$SignRow" (9 : Nat) "RedactCheck$SignRow" "parts" "[I") ∈ x_tbl := x_in0 109 rfl rfl
theorem k_110 : (Cond.laysFinal "RedactCheck$SignRow" "RedactCheck$SignRow" "number" "I") ∈ x_tbl := x_in0 110 rfl rfl
theorem k_112 : (Cond.laysFinal "RedactCheck$SignRow" "RedactCheck$SignRow" "parts" "[I") ∈ x_tbl := x_in0 112 rfl rfl
theorem k_114 : (Cond.lays "RedactCheck$SignRow" "RedactCheck$Row" "count" "I") ∈ x_tbl := x_in0 114 rfl rfl
theorem k_115 : (Cond.superclass "RedactCheck$SignRow" "RedactCheck$Row") ∈ x_tbl := x_in0 115 rfl rfl
theorem k_116 : (Cond.methodLink "RedactCheck" (50 : Nat) ({ cls := "java/util/ArrayList", name := "add", desc := "(Ljava/lang/Object;)Z" } : Jvm.MethodName)) ∈ x_tbl := x_in0 116 rfl rfl
theorem k_117 : (Cond.instanceMethod ({ cls := "java/util/ArrayList", name := "add", desc := "(Ljava/lang/Object;)Z" } : Jvm.MethodName)) ∈ x_tbl := x_in0 117 rfl rfl
theorem k_118 : (Cond.selects "java/util/ArrayList" ({ cls := "java/util/ArrayList", name := "add", desc := "(Ljava/lang/Object;)Z" } : Jvm.MethodName) ({ cls := "java/util/ArrayList", name := "add", desc := "(Ljava/lang/Object;)Z" } : Jvm.MethodName)) ∈ x_tbl := x_in0 118 rfl rfl
theorem k_119 : (Cond.code ({ cls := "java/util/ArrayList", name := "add", desc := "(Ljava/lang/Object;)Z" } : Jvm.MethodName) prog_27_method_25_code (2 : Nat) (Option.some Jvm.ClassFile.FieldType.boolean)) ∈ x_tbl := x_in0 119 rfl rfl
theorem k_120 : (Cond.methodLink "java/util/ArrayList" (131 : Nat) ({ cls := "java/util/ArrayList", name := "add", desc := "(Ljava/lang/Object;[Ljava/lang/Object;I)V" } : Jvm.MethodName)) ∈ x_tbl := x_in0 120 rfl rfl
theorem k_122 : (Cond.instanceMethod ({ cls := "java/util/ArrayList", name := "add", desc := "(Ljava/lang/Object;[Ljava/lang/Object;I)V" } : Jvm.MethodName)) ∈ x_tbl := x_in0 122 rfl rfl
theorem k_123 : (Cond.code ({ cls := "java/util/ArrayList", name := "add", desc := "(Ljava/lang/Object;[Ljava/lang/Object;I)V" } : Jvm.MethodName) prog_27_method_24_code (4 : Nat) (Option.none : Option Jvm.ClassFile.FieldType)) ∈ x_tbl := x_in0 123 rfl rfl
theorem k_124 : (Cond.methodLink "java/util/ArrayList" (129 : Nat) ({ cls := "java/util/ArrayList", name := "grow", desc := "()[Ljava/lang/Object;" } : Jvm.MethodName)) ∈ x_tbl := x_in0 124 rfl rfl
theorem k_126 : (Cond.instanceMethod ({ cls := "java/util/ArrayList", name := "grow", desc := "()[Ljava/lang/Object;" } : Jvm.MethodName)) ∈ x_tbl := x_in0 126 rfl rfl
theorem k_127 : (Cond.code ({ cls := "java/util/ArrayList", name := "grow", desc := "()[Ljava/lang/Object;" } : Jvm.MethodName) prog_27_method_7_code (1 : Nat) (Option.some (Jvm.ClassFile.FieldType.array (Jvm.ClassFile.FieldType.object "java/lang/Object")))) ∈ x_tbl := x_in0 127 rfl rfl
theorem k_128 : (Cond.methodLink "java/util/ArrayList" (69 : Nat) ({ cls := "java/util/ArrayList", name := "grow", desc := "(I)[Ljava/lang/Object;" } : Jvm.MethodName)) ∈ x_tbl := x_in0 128 rfl rfl
theorem k_130 : (Cond.instanceMethod ({ cls := "java/util/ArrayList", name := "grow", desc := "(I)[Ljava/lang/Object;" } : Jvm.MethodName)) ∈ x_tbl := x_in0 130 rfl rfl
theorem k_131 : (Cond.code ({ cls := "java/util/ArrayList", name := "grow", desc := "(I)[Ljava/lang/Object;" } : Jvm.MethodName) prog_27_method_6_code (4 : Nat) (Option.some (Jvm.ClassFile.FieldType.array (Jvm.ClassFile.FieldType.object "java/lang/Object")))) ∈ x_tbl := x_in0 131 rfl rfl
theorem k_132 : (Cond.methodLink "java/util/ArrayList" (73 : Nat) ({ cls := "jdk/internal/util/ArraysSupport", name := "newLength", desc := "(III)I" } : Jvm.MethodName)) ∈ x_tbl := x_in0 132 rfl rfl
theorem k_133 : (Cond.static ({ cls := "jdk/internal/util/ArraysSupport", name := "newLength", desc := "(III)I" } : Jvm.MethodName)) ∈ x_tbl := x_in0 133 rfl rfl
theorem k_134 : (Cond.code ({ cls := "jdk/internal/util/ArraysSupport", name := "newLength", desc := "(III)I" } : Jvm.MethodName) prog_34_method_27_code (4 : Nat) (Option.some Jvm.ClassFile.FieldType.int)) ∈ x_tbl := x_in0 134 rfl rfl
theorem k_135 : (Cond.methodLink "jdk/internal/util/ArraysSupport" (194 : Nat) ({ cls := "java/lang/Math", name := "max", desc := "(II)I" } : Jvm.MethodName)) ∈ x_tbl := x_in0 135 rfl rfl
theorem k_136 : (Cond.static ({ cls := "java/lang/Math", name := "max", desc := "(II)I" } : Jvm.MethodName)) ∈ x_tbl := x_in0 136 rfl rfl
theorem k_137 : (Cond.code ({ cls := "java/lang/Math", name := "max", desc := "(II)I" } : Jvm.MethodName) prog_19_method_65_code (2 : Nat) (Option.some Jvm.ClassFile.FieldType.int)) ∈ x_tbl := x_in0 137 rfl rfl
theorem k_138 : (Cond.constant "jdk/internal/util/ArraysSupport" (200 : Nat) (2147483639 : Int32)) ∈ x_tbl := x_in0 138 rfl rfl
theorem k_139 : (Cond.methodLink "jdk/internal/util/ArraysSupport" (201 : Nat) ({ cls := "jdk/internal/util/ArraysSupport", name := "hugeLength", desc := "(II)I" } : Jvm.MethodName)) ∈ x_tbl := x_in0 139 rfl rfl
theorem k_140 : (Cond.static ({ cls := "jdk/internal/util/ArraysSupport", name := "hugeLength", desc := "(II)I" } : Jvm.MethodName)) ∈ x_tbl := x_in0 140 rfl rfl
theorem k_141 : (Cond.code ({ cls := "jdk/internal/util/ArraysSupport", name := "hugeLength", desc := "(II)I" } : Jvm.MethodName) prog_34_method_28_code (3 : Nat) (Option.some Jvm.ClassFile.FieldType.int)) ∈ x_tbl := x_in0 141 rfl rfl
theorem k_142 : (Cond.methodLink "java/util/ArrayList" (66 : Nat) ({ cls := "java/util/Arrays", name := "copyOf", desc := "([Ljava/lang/Object;I)[Ljava/lang/Object;" } : Jvm.MethodName)) ∈ x_tbl := x_in0 142 rfl rfl
theorem k_143 : (Cond.static ({ cls := "java/util/Arrays", name := "copyOf", desc := "([Ljava/lang/Object;I)[Ljava/lang/Object;" } : Jvm.MethodName)) ∈ x_tbl := x_in0 143 rfl rfl
theorem k_144 : (Cond.code ({ cls := "java/util/Arrays", name := "copyOf", desc := "([Ljava/lang/Object;I)[Ljava/lang/Object;" } : Jvm.MethodName) prog_28_method_119_code (2 : Nat) (Option.some (Jvm.ClassFile.FieldType.array (Jvm.ClassFile.FieldType.object "java/lang/Object")))) ∈ x_tbl := x_in0 144 rfl rfl
theorem k_145 : (Cond.methodLink "java/util/Arrays" (86 : Nat) ({ cls := "java/lang/Object", name := "getClass", desc := "()Ljava/lang/Class;" } : Jvm.MethodName)) ∈ x_tbl := x_in0 145 rfl rfl
theorem k_146 : (Cond.instanceMethod ({ cls := "java/lang/Object", name := "getClass", desc := "()Ljava/lang/Class;" } : Jvm.MethodName)) ∈ x_tbl := x_in0 146 rfl rfl
theorem k_147 : (Cond.sameMethod "java/lang/Object" "java/lang/Object" "getClass" "()Ljava/lang/Class;") ∈ x_tbl := x_in0 147 rfl rfl
theorem k_148 : (Cond.selects "RedactCheck" ({ cls := "java/lang/Object", name := "getClass", desc := "()Ljava/lang/Class;" } : Jvm.MethodName) ({ cls := "java/lang/Object", name := "getClass", desc := "()Ljava/lang/Class;" } : Jvm.MethodName)) ∈ x_tbl := x_in0 148 rfl rfl
theorem k_149 : (Cond.selects "RedactCheck$Area" ({ cls := "java/lang/Object", name := "getClass", desc := "()Ljava/lang/Class;" } : Jvm.MethodName) ({ cls := "java/lang/Object", name := "getClass", desc := "()Ljava/lang/Class;" } : Jvm.MethodName)) ∈ x_tbl := x_in0 149 rfl rfl
theorem k_150 : (Cond.selects "RedactCheck$Codes" ({ cls := "java/lang/Object", name := "getClass", desc := "()Ljava/lang/Class;" } : Jvm.MethodName) ({ cls := "java/lang/Object", name := "getClass", desc := "()Ljava/lang/Class;" } : Jvm.MethodName)) ∈ x_tbl := x_in0 150 rfl rfl
theorem k_151 : (Cond.selects "RedactCheck$Findings" ({ cls := "java/lang/Object", name := "getClass", desc := "()Ljava/lang/Class;" } : Jvm.MethodName) ({ cls := "java/lang/Object", name := "getClass", desc := "()Ljava/lang/Class;" } : Jvm.MethodName)) ∈ x_tbl := x_in0 151 rfl rfl
theorem k_152 : (Cond.selects "RedactCheck$SignRow" ({ cls := "java/lang/Object", name := "getClass", desc := "()Ljava/lang/Class;" } : Jvm.MethodName) ({ cls := "java/lang/Object", name := "getClass", desc := "()Ljava/lang/Class;" } : Jvm.MethodName)) ∈ x_tbl := x_in0 152 rfl rfl
theorem k_153 : (Cond.selects "RedactCheck$Store" ({ cls := "java/lang/Object", name := "getClass", desc := "()Ljava/lang/Class;" } : Jvm.MethodName) ({ cls := "java/lang/Object", name := "getClass", desc := "()Ljava/lang/Class;" } : Jvm.MethodName)) ∈ x_tbl := x_in0 153 rfl rfl
theorem k_154 : (Cond.selects "RedactCheck$Use" ({ cls := "java/lang/Object", name := "getClass", desc := "()Ljava/lang/Class;" } : Jvm.MethodName) ({ cls := "java/lang/Object", name := "getClass", desc := "()Ljava/lang/Class;" } : Jvm.MethodName)) ∈ x_tbl := x_in0 154 rfl rfl
theorem k_155 : (Cond.selects "RedactCheck$Word" ({ cls := "java/lang/Object", name := "getClass", desc := "()Ljava/lang/Class;" } : Jvm.MethodName) ({ cls := "java/lang/Object", name := "getClass", desc := "()Ljava/lang/Class;" } : Jvm.MethodName)) ∈ x_tbl := x_in0 155 rfl rfl
theorem k_156 : (Cond.selects "RedactCheckModel" ({ cls := "java/lang/Object", name := "getClass", desc := "()Ljava/lang/Class;" } : Jvm.MethodName) ({ cls := "java/lang/Object", name := "getClass", desc := "()Ljava/lang/Class;" } : Jvm.MethodName)) ∈ x_tbl := x_in0 156 rfl rfl
theorem k_157 : (Cond.selects "java/lang/IllegalArgumentException" ({ cls := "java/lang/Object", name := "getClass", desc := "()Ljava/lang/Class;" } : Jvm.MethodName) ({ cls := "java/lang/Object", name := "getClass", desc := "()Ljava/lang/Class;" } : Jvm.MethodName)) ∈ x_tbl := x_in0 157 rfl rfl
theorem k_158 : (Cond.selects "java/lang/IndexOutOfBoundsException" ({ cls := "java/lang/Object", name := "getClass", desc := "()Ljava/lang/Class;" } : Jvm.MethodName) ({ cls := "java/lang/Object", name := "getClass", desc := "()Ljava/lang/Class;" } : Jvm.MethodName)) ∈ x_tbl := x_in0 158 rfl rfl
theorem k_159 : (Cond.selects "java/lang/UnsupportedOperationException" ({ cls := "java/lang/Object", name := "getClass", desc := "()Ljava/lang/Class;" } : Jvm.MethodName) ({ cls := "java/lang/Object", name := "getClass", desc := "()Ljava/lang/Class;" } : Jvm.MethodName)) ∈ x_tbl := x_in0 159 rfl rfl
theorem k_160 : (Cond.selects "java/util/ArrayList" ({ cls := "java/lang/Object", name := "getClass", desc := "()Ljava/lang/Class;" } : Jvm.MethodName) ({ cls := "java/lang/Object", name := "getClass", desc := "()Ljava/lang/Class;" } : Jvm.MethodName)) ∈ x_tbl := x_in0 160 rfl rfl
theorem k_161 : (Cond.native ({ cls := "java/lang/Object", name := "getClass", desc := "()Ljava/lang/Class;" } : Jvm.MethodName)) ∈ x_tbl := x_in0 161 rfl rfl
theorem k_162 : (Cond.methodLink "java/util/Arrays" (300 : Nat) ({ cls := "java/util/Arrays", name := "copyOf", desc := "([Ljava/lang/Object;ILjava/lang/Class;)[Ljava/lang/Object;" } : Jvm.MethodName)) ∈ x_tbl := x_in0 162 rfl rfl
theorem k_163 : (Cond.static ({ cls := "java/util/Arrays", name := "copyOf", desc := "([Ljava/lang/Object;ILjava/lang/Class;)[Ljava/lang/Object;" } : Jvm.MethodName)) ∈ x_tbl := x_in0 163 rfl rfl
theorem k_164 : (Cond.code ({ cls := "java/util/Arrays", name := "copyOf", desc := "([Ljava/lang/Object;ILjava/lang/Class;)[Ljava/lang/Object;" } : Jvm.MethodName) prog_28_method_120_code (4 : Nat) (Option.some (Jvm.ClassFile.FieldType.array (Jvm.ClassFile.FieldType.object "java/lang/Object")))) ∈ x_tbl := x_in0 164 rfl rfl
theorem k_165 : (Cond.classLink "java/util/Arrays" (110 : Nat) "[Ljava/lang/Object;") ∈ x_tbl := x_in0 165 rfl rfl
theorem k_166 : (Cond.arrayOver (Jvm.ClassFile.FieldType.object "java/lang/Object")) ∈ x_tbl := x_in0 166 rfl rfl
theorem k_167 : (Cond.classLink "java/util/Arrays" (2 : Nat) "java/lang/Object") ∈ x_tbl := x_in0 167 rfl rfl
theorem k_168 : (Cond.methodLink "java/util/Arrays" (304 : Nat) ({ cls := "java/lang/Math", name := "min", desc := "(II)I" } : Jvm.MethodName)) ∈ x_tbl := x_in0 168 rfl rfl
theorem k_169 : (Cond.static ({ cls := "java/lang/Math", name := "min", desc := "(II)I" } : Jvm.MethodName)) ∈ x_tbl := x_in0 169 rfl rfl
theorem k_170 : (Cond.code ({ cls := "java/lang/Math", name := "min", desc := "(II)I" } : Jvm.MethodName) prog_19_method_69_code (2 : Nat) (Option.some Jvm.ClassFile.FieldType.int)) ∈ x_tbl := x_in0 170 rfl rfl
theorem k_171 : (Cond.methodLink "java/util/Arrays" (150 : Nat) ({ cls := "java/lang/System", name := "arraycopy", desc := "(Ljava/lang/Object;ILjava/lang/Object;II)V" } : Jvm.MethodName)) ∈ x_tbl := x_in0 171 rfl rfl
theorem k_172 : (Cond.static ({ cls := "java/lang/System", name := "arraycopy", desc := "(Ljava/lang/Object;ILjava/lang/Object;II)V" } : Jvm.MethodName)) ∈ x_tbl := x_in0 172 rfl rfl
theorem k_173 : (Cond.native ({ cls := "java/lang/System", name := "arraycopy", desc := "(Ljava/lang/Object;ILjava/lang/Object;II)V" } : Jvm.MethodName)) ∈ x_tbl := x_in0 173 rfl rfl
theorem k_174 : (Cond.methodLink "java/util/ArrayList" (79 : Nat) ({ cls := "java/lang/Math", name := "max", desc := "(II)I" } : Jvm.MethodName)) ∈ x_tbl := x_in0 174 rfl rfl
theorem k_175 : (Cond.classLink "java/util/ArrayList" (7 : Nat) "java/lang/Object") ∈ x_tbl := x_in0 175 rfl rfl
theorem k_176 : (Cond.fieldLink "RedactCheck" (10 : Nat) "RedactCheck" "pages" "Ljava/util/ArrayList;") ∈ x_tbl := x_in0 176 rfl rfl
theorem k_177 : (Cond.fieldLink "RedactCheck" (16 : Nat) "RedactCheck" "forms" "Ljava/util/ArrayList;") ∈ x_tbl := x_in0 177 rfl rfl
theorem k_178 : (Cond.fieldLink "RedactCheck" (19 : Nat) "RedactCheck" "uses" "Ljava/util/ArrayList;") ∈ x_tbl := x_in0 178 rfl rfl
theorem k_179 : (Cond.fieldLink "RedactCheck" (22 : Nat) "RedactCheck" "words" "Ljava/util/ArrayList;") ∈ x_tbl := x_in0 179 rfl rfl
theorem k_180 : (Cond.fieldLink "RedactCheck" (25 : Nat) "RedactCheck" "areas" "Ljava/util/ArrayList;") ∈ x_tbl := x_in0 180 rfl rfl
theorem k_181 : (Cond.fieldLink "RedactCheck" (28 : Nat) "RedactCheck" "stores" "Ljava/util/ArrayList;") ∈ x_tbl := x_in0 181 rfl rfl
theorem k_182 : (Cond.fieldLink "RedactCheck" (34 : Nat) "RedactCheck" "findings" "LRedactCheck$Findings;") ∈ x_tbl := x_in0 182 rfl rfl
theorem k_183 : (Cond.fieldLink "RedactCheck" (41 : Nat) "RedactCheck" "codes" "LRedactCheck$Codes;") ∈ x_tbl := x_in0 183 rfl rfl
theorem k_184 : (Cond.laysFinal "RedactCheck" "RedactCheck" "pages" "Ljava/util/ArrayList;") ∈ x_tbl := x_in0 184 rfl rfl
theorem k_186 : (Cond.laysFinal "RedactCheck" "RedactCheck" "forms" "Ljava/util/ArrayList;") ∈ x_tbl := x_in0 186 rfl rfl
theorem k_188 : (Cond.laysFinal "RedactCheck" "RedactCheck" "uses" "Ljava/util/ArrayList;") ∈ x_tbl := x_in0 188 rfl rfl
theorem k_190 : (Cond.laysFinal "RedactCheck" "RedactCheck" "words" "Ljava/util/ArrayList;") ∈ x_tbl := x_in0 190 rfl rfl
theorem k_192 : (Cond.laysFinal "RedactCheck" "RedactCheck" "areas" "Ljava/util/ArrayList;") ∈ x_tbl := x_in0 192 rfl rfl
theorem k_194 : (Cond.laysFinal "RedactCheck" "RedactCheck" "stores" "Ljava/util/ArrayList;") ∈ x_tbl := x_in0 194 rfl rfl
theorem k_196 : (Cond.laysFinal "RedactCheck" "RedactCheck" "findings" "LRedactCheck$Findings;") ∈ x_tbl := x_in0 196 rfl rfl
theorem k_198 : (Cond.laysFinal "RedactCheck" "RedactCheck" "codes" "LRedactCheck$Codes;") ∈ x_tbl := x_in0 198 rfl rfl
theorem k_200 : (Cond.superclass "RedactCheck" "java/lang/Object") ∈ x_tbl := x_in0 200 rfl rfl
theorem k_201 : (Cond.methodLink "RedactCheckLaw" (112 : Nat) ({ cls := "RedactCheck", name := "look", desc := "()I" } : Jvm.MethodName)) ∈ x_tbl := x_in0 201 rfl rfl
theorem k_202 : (Cond.instanceMethod ({ cls := "RedactCheck", name := "look", desc := "()I" } : Jvm.MethodName)) ∈ x_tbl := x_in0 202 rfl rfl
theorem k_203 : (Cond.selects "RedactCheck" ({ cls := "RedactCheck", name := "look", desc := "()I" } : Jvm.MethodName) ({ cls := "RedactCheck", name := "look", desc := "()I" } : Jvm.MethodName)) ∈ x_tbl := x_in0 203 rfl rfl
theorem k_204 : (Cond.code ({ cls := "RedactCheck", name := "look", desc := "()I" } : Jvm.MethodName) prog_1_method_12_code (2 : Nat) (Option.some Jvm.ClassFile.FieldType.int)) ∈ x_tbl := x_in0 204 rfl rfl
theorem k_205 : (Cond.methodLink "RedactCheck" (135 : Nat) ({ cls := "RedactCheck$Findings", name := "clear", desc := "()V" } : Jvm.MethodName)) ∈ x_tbl := x_in0 205 rfl rfl
theorem k_206 : (Cond.instanceMethod ({ cls := "RedactCheck$Findings", name := "clear", desc := "()V" } : Jvm.MethodName)) ∈ x_tbl := x_in0 206 rfl rfl
theorem k_207 : (Cond.selects "RedactCheck$Findings" ({ cls := "RedactCheck$Findings", name := "clear", desc := "()V" } : Jvm.MethodName) ({ cls := "RedactCheck$Findings", name := "clear", desc := "()V" } : Jvm.MethodName)) ∈ x_tbl := x_in0 207 rfl rfl
theorem k_208 : (Cond.code ({ cls := "RedactCheck$Findings", name := "clear", desc := "()V" } : Jvm.MethodName) prog_4_method_2_code (1 : Nat) (Option.none : Option Jvm.ClassFile.FieldType)) ∈ x_tbl := x_in0 208 rfl rfl
theorem k_209 : (Cond.methodLink "RedactCheck" (62 : Nat) ({ cls := "java/util/ArrayList", name := "size", desc := "()I" } : Jvm.MethodName)) ∈ x_tbl := x_in0 209 rfl rfl
theorem k_210 : (Cond.instanceMethod ({ cls := "java/util/ArrayList", name := "size", desc := "()I" } : Jvm.MethodName)) ∈ x_tbl := x_in0 210 rfl rfl
theorem k_211 : (Cond.selects "java/util/ArrayList" ({ cls := "java/util/ArrayList", name := "size", desc := "()I" } : Jvm.MethodName) ({ cls := "java/util/ArrayList", name := "size", desc := "()I" } : Jvm.MethodName)) ∈ x_tbl := x_in0 211 rfl rfl
theorem k_212 : (Cond.code ({ cls := "java/util/ArrayList", name := "size", desc := "()I" } : Jvm.MethodName) prog_27_method_8_code (1 : Nat) (Option.some Jvm.ClassFile.FieldType.int)) ∈ x_tbl := x_in0 212 rfl rfl
theorem k_213 : (Cond.methodLink "RedactCheck" (138 : Nat) ({ cls := "java/util/ArrayList", name := "get", desc := "(I)Ljava/lang/Object;" } : Jvm.MethodName)) ∈ x_tbl := x_in0 213 rfl rfl
theorem k_214 : (Cond.instanceMethod ({ cls := "java/util/ArrayList", name := "get", desc := "(I)Ljava/lang/Object;" } : Jvm.MethodName)) ∈ x_tbl := x_in0 214 rfl rfl
theorem k_215 : (Cond.selects "java/util/ArrayList" ({ cls := "java/util/ArrayList", name := "get", desc := "(I)Ljava/lang/Object;" } : Jvm.MethodName) ({ cls := "java/util/ArrayList", name := "get", desc := "(I)Ljava/lang/Object;" } : Jvm.MethodName)) ∈ x_tbl := x_in0 215 rfl rfl
theorem k_216 : (Cond.code ({ cls := "java/util/ArrayList", name := "get", desc := "(I)Ljava/lang/Object;" } : Jvm.MethodName) prog_27_method_20_code (2 : Nat) (Option.some (Jvm.ClassFile.FieldType.object "java/lang/Object"))) ∈ x_tbl := x_in0 216 rfl rfl
theorem k_217 : (Cond.methodLink "java/util/ArrayList" (118 : Nat) ({ cls := "java/util/Objects", name := "checkIndex", desc := "(II)I" } : Jvm.MethodName)) ∈ x_tbl := x_in0 217 rfl rfl
theorem k_218 : (Cond.static ({ cls := "java/util/Objects", name := "checkIndex", desc := "(II)I" } : Jvm.MethodName)) ∈ x_tbl := x_in0 218 rfl rfl
theorem k_219 : (Cond.code ({ cls := "java/util/Objects", name := "checkIndex", desc := "(II)I" } : Jvm.MethodName) prog_31_method_17_code (2 : Nat) (Option.some Jvm.ClassFile.FieldType.int)) ∈ x_tbl := x_in0 219 rfl rfl
theorem k_220 : (Cond.methodLink "java/util/Objects" (105 : Nat) ({ cls := "jdk/internal/util/Preconditions", name := "checkIndex", desc := "(IILjava/util/function/BiFunction;)I" } : Jvm.MethodName)) ∈ x_tbl := x_in0 220 rfl rfl
theorem k_221 : (Cond.static ({ cls := "jdk/internal/util/Preconditions", name := "checkIndex", desc := "(IILjava/util/function/BiFunction;)I" } : Jvm.MethodName)) ∈ x_tbl := x_in0 221 rfl rfl
theorem k_222 : (Cond.code ({ cls := "jdk/internal/util/Preconditions", name := "checkIndex", desc := "(IILjava/util/function/BiFunction;)I" } : Jvm.MethodName) prog_35_method_11_code (3 : Nat) (Option.some Jvm.ClassFile.FieldType.int)) ∈ x_tbl := x_in0 222 rfl rfl
theorem k_223 : (Cond.methodLink "java/util/ArrayList" (123 : Nat) ({ cls := "java/util/ArrayList", name := "elementData", desc := "(I)Ljava/lang/Object;" } : Jvm.MethodName)) ∈ x_tbl := x_in0 223 rfl rfl
theorem k_224 : (Cond.instanceMethod ({ cls := "java/util/ArrayList", name := "elementData", desc := "(I)Ljava/lang/Object;" } : Jvm.MethodName)) ∈ x_tbl := x_in0 224 rfl rfl
theorem k_225 : (Cond.selects "java/util/ArrayList" ({ cls := "java/util/ArrayList", name := "elementData", desc := "(I)Ljava/lang/Object;" } : Jvm.MethodName) ({ cls := "java/util/ArrayList", name := "elementData", desc := "(I)Ljava/lang/Object;" } : Jvm.MethodName)) ∈ x_tbl := x_in0 225 rfl rfl
theorem k_226 : (Cond.code ({ cls := "java/util/ArrayList", name := "elementData", desc := "(I)Ljava/lang/Object;" } : Jvm.MethodName) prog_27_method_18_code (2 : Nat) (Option.some (Jvm.ClassFile.FieldType.object "java/lang/Object"))) ∈ x_tbl := x_in0 226 rfl rfl
theorem k_227 : (Cond.methodLink "RedactCheck" (142 : Nat) ({ cls := "RedactCheck$SignRow", name := "readInto", desc := "(LRedactCheck$Codes;)V" } : Jvm.MethodName)) ∈ x_tbl := x_in0 227 rfl rfl
theorem k_228 : (Cond.instanceMethod ({ cls := "RedactCheck$SignRow", name := "readInto", desc := "(LRedactCheck$Codes;)V" } : Jvm.MethodName)) ∈ x_tbl := x_in0 228 rfl rfl
theorem k_229 : (Cond.selects "RedactCheck$SignRow" ({ cls := "RedactCheck$SignRow", name := "readInto", desc := "(LRedactCheck$Codes;)V" } : Jvm.MethodName) ({ cls := "RedactCheck$SignRow", name := "readInto", desc := "(LRedactCheck$Codes;)V" } : Jvm.MethodName)) ∈ x_tbl := x_in0 229 rfl rfl
theorem k_230 : (Cond.code ({ cls := "RedactCheck$SignRow", name := "readInto", desc := "(LRedactCheck$Codes;)V" } : Jvm.MethodName) prog_6_method_4_code (3 : Nat) (Option.none : Option Jvm.ClassFile.FieldType)) ∈ x_tbl := x_in0 230 rfl rfl
theorem k_231 : (Cond.methodLink "RedactCheck$SignRow" (29 : Nat) ({ cls := "RedactCheck$SignRow", name := "part", desc := "(II)I" } : Jvm.MethodName)) ∈ x_tbl := x_in0 231 rfl rfl
theorem k_232 : (Cond.instanceMethod ({ cls := "RedactCheck$SignRow", name := "part", desc := "(II)I" } : Jvm.MethodName)) ∈ x_tbl := x_in0 232 rfl rfl
theorem k_233 : (Cond.selects "RedactCheck$SignRow" ({ cls := "RedactCheck$SignRow", name := "part", desc := "(II)I" } : Jvm.MethodName) ({ cls := "RedactCheck$SignRow", name := "part", desc := "(II)I" } : Jvm.MethodName)) ∈ x_tbl := x_in0 233 rfl rfl
theorem k_234 : (Cond.code ({ cls := "RedactCheck$SignRow", name := "part", desc := "(II)I" } : Jvm.MethodName) prog_6_method_3_code (3 : Nat) (Option.some Jvm.ClassFile.FieldType.int)) ∈ x_tbl := x_in0 234 rfl rfl
theorem k_235 : (Cond.methodLink "RedactCheck$SignRow" (33 : Nat) ({ cls := "RedactCheck$Codes", name := "add", desc := "(I)V" } : Jvm.MethodName)) ∈ x_tbl := x_in0 235 rfl rfl
theorem k_236 : (Cond.instanceMethod ({ cls := "RedactCheck$Codes", name := "add", desc := "(I)V" } : Jvm.MethodName)) ∈ x_tbl := x_in0 236 rfl rfl
theorem k_237 : (Cond.selects "RedactCheck$Codes" ({ cls := "RedactCheck$Codes", name := "add", desc := "(I)V" } : Jvm.MethodName) ({ cls := "RedactCheck$Codes", name := "add", desc := "(I)V" } : Jvm.MethodName)) ∈ x_tbl := x_in0 237 rfl rfl
theorem k_238 : (Cond.code ({ cls := "RedactCheck$Codes", name := "add", desc := "(I)V" } : Jvm.MethodName) prog_3_method_2_code (2 : Nat) (Option.none : Option Jvm.ClassFile.FieldType)) ∈ x_tbl := x_in0 238 rfl rfl
theorem k_239 : (Cond.methodLink "RedactCheck" (146 : Nat) ({ cls := "RedactCheck", name := "findWords", desc := "(III)V" } : Jvm.MethodName)) ∈ x_tbl := x_in0 239 rfl rfl
theorem k_241 : (Cond.instanceMethod ({ cls := "RedactCheck", name := "findWords", desc := "(III)V" } : Jvm.MethodName)) ∈ x_tbl := x_in1 1 rfl rfl
theorem k_242 : (Cond.code ({ cls := "RedactCheck", name := "findWords", desc := "(III)V" } : Jvm.MethodName) prog_1_method_37_code (6 : Nat) (Option.none : Option Jvm.ClassFile.FieldType)) ∈ x_tbl := x_in1 2 rfl rfl
theorem k_243 : (Cond.classLink "RedactCheck" (82 : Nat) "RedactCheck$Word") ∈ x_tbl := x_in1 3 rfl rfl
theorem k_244 : (Cond.methodLink "RedactCheck" (262 : Nat) ({ cls := "RedactCheck$Word", name := "standsIn", desc := "(LRedactCheck$Codes;I)Z" } : Jvm.MethodName)) ∈ x_tbl := x_in1 4 rfl rfl
theorem k_245 : (Cond.instanceMethod ({ cls := "RedactCheck$Word", name := "standsIn", desc := "(LRedactCheck$Codes;I)Z" } : Jvm.MethodName)) ∈ x_tbl := x_in1 5 rfl rfl
theorem k_246 : (Cond.selects "RedactCheck$Word" ({ cls := "RedactCheck$Word", name := "standsIn", desc := "(LRedactCheck$Codes;I)Z" } : Jvm.MethodName) ({ cls := "RedactCheck$Word", name := "standsIn", desc := "(LRedactCheck$Codes;I)Z" } : Jvm.MethodName)) ∈ x_tbl := x_in1 6 rfl rfl
theorem k_247 : (Cond.code ({ cls := "RedactCheck$Word", name := "standsIn", desc := "(LRedactCheck$Codes;I)Z" } : Jvm.MethodName) prog_9_method_3_code (4 : Nat) (Option.some Jvm.ClassFile.FieldType.boolean)) ∈ x_tbl := x_in1 7 rfl rfl
theorem k_248 : (Cond.methodLink "RedactCheck$Word" (22 : Nat) ({ cls := "RedactCheck$Codes", name := "value", desc := "(I)I" } : Jvm.MethodName)) ∈ x_tbl := x_in1 8 rfl rfl
theorem k_249 : (Cond.instanceMethod ({ cls := "RedactCheck$Codes", name := "value", desc := "(I)I" } : Jvm.MethodName)) ∈ x_tbl := x_in1 9 rfl rfl
theorem k_250 : (Cond.selects "RedactCheck$Codes" ({ cls := "RedactCheck$Codes", name := "value", desc := "(I)I" } : Jvm.MethodName) ({ cls := "RedactCheck$Codes", name := "value", desc := "(I)I" } : Jvm.MethodName)) ∈ x_tbl := x_in1 10 rfl rfl
theorem k_251 : (Cond.code ({ cls := "RedactCheck$Codes", name := "value", desc := "(I)I" } : Jvm.MethodName) prog_3_method_3_code (2 : Nat) (Option.some Jvm.ClassFile.FieldType.int)) ∈ x_tbl := x_in1 11 rfl rfl
theorem k_252 : (Cond.methodLink "RedactCheck" (265 : Nat) ({ cls := "RedactCheck$Findings", name := "add", desc := "(IIIII)V" } : Jvm.MethodName)) ∈ x_tbl := x_in1 12 rfl rfl
theorem k_253 : (Cond.instanceMethod ({ cls := "RedactCheck$Findings", name := "add", desc := "(IIIII)V" } : Jvm.MethodName)) ∈ x_tbl := x_in1 13 rfl rfl
theorem k_254 : (Cond.selects "RedactCheck$Findings" ({ cls := "RedactCheck$Findings", name := "add", desc := "(IIIII)V" } : Jvm.MethodName) ({ cls := "RedactCheck$Findings", name := "add", desc := "(IIIII)V" } : Jvm.MethodName)) ∈ x_tbl := x_in1 14 rfl rfl
theorem k_255 : (Cond.code ({ cls := "RedactCheck$Findings", name := "add", desc := "(IIIII)V" } : Jvm.MethodName) prog_4_method_3_code (7 : Nat) (Option.none : Option Jvm.ClassFile.FieldType)) ∈ x_tbl := x_in1 15 rfl rfl
theorem k_256 : (Cond.classLink "RedactCheck" (77 : Nat) "RedactCheck$Use") ∈ x_tbl := x_in1 16 rfl rfl
theorem k_257 : (Cond.methodLink "RedactCheck" (153 : Nat) ({ cls := "RedactCheck", name := "lookThroughStore", desc := "(I)V" } : Jvm.MethodName)) ∈ x_tbl := x_in1 17 rfl rfl
theorem k_259 : (Cond.instanceMethod ({ cls := "RedactCheck", name := "lookThroughStore", desc := "(I)V" } : Jvm.MethodName)) ∈ x_tbl := x_in1 19 rfl rfl
theorem k_260 : (Cond.code ({ cls := "RedactCheck", name := "lookThroughStore", desc := "(I)V" } : Jvm.MethodName) prog_1_method_36_code (4 : Nat) (Option.none : Option Jvm.ClassFile.FieldType)) ∈ x_tbl := x_in1 20 rfl rfl
theorem k_261 : (Cond.classLink "RedactCheck" (107 : Nat) "RedactCheck$Store") ∈ x_tbl := x_in1 21 rfl rfl
theorem k_262 : (Cond.methodLink "RedactCheck" (238 : Nat) ({ cls := "RedactCheck$Store", name := "readInto", desc := "(LRedactCheck$Codes;I)Z" } : Jvm.MethodName)) ∈ x_tbl := x_in1 22 rfl rfl
theorem k_263 : (Cond.instanceMethod ({ cls := "RedactCheck$Store", name := "readInto", desc := "(LRedactCheck$Codes;I)Z" } : Jvm.MethodName)) ∈ x_tbl := x_in1 23 rfl rfl
theorem k_264 : (Cond.selects "RedactCheck$Store" ({ cls := "RedactCheck$Store", name := "readInto", desc := "(LRedactCheck$Codes;I)Z" } : Jvm.MethodName) ({ cls := "RedactCheck$Store", name := "readInto", desc := "(LRedactCheck$Codes;I)Z" } : Jvm.MethodName)) ∈ x_tbl := x_in1 24 rfl rfl
theorem k_265 : (Cond.code ({ cls := "RedactCheck$Store", name := "readInto", desc := "(LRedactCheck$Codes;I)Z" } : Jvm.MethodName) prog_7_method_4_code (6 : Nat) (Option.some Jvm.ClassFile.FieldType.boolean)) ∈ x_tbl := x_in1 25 rfl rfl
theorem k_266 : (Cond.methodLink "RedactCheck$Store" (25 : Nat) ({ cls := "RedactCheck$Store", name := "unsigned", desc := "(I)I" } : Jvm.MethodName)) ∈ x_tbl := x_in1 26 rfl rfl
theorem k_268 : (Cond.instanceMethod ({ cls := "RedactCheck$Store", name := "unsigned", desc := "(I)I" } : Jvm.MethodName)) ∈ x_tbl := x_in1 28 rfl rfl
theorem k_269 : (Cond.instantiable "RedactCheck$Store" (3 : Nat)) ∈ x_tbl := x_in1 29 rfl rfl
theorem k_270 : (Cond.code ({ cls := "RedactCheck$Store", name := "unsigned", desc := "(I)I" } : Jvm.MethodName) prog_7_method_7_code (2 : Nat) (Option.some Jvm.ClassFile.FieldType.int)) ∈ x_tbl := x_in1 30 rfl rfl
theorem k_271 : (Cond.methodLink "RedactCheck$Store" (50 : Nat) ({ cls := "RedactCheck$Store", name := "value", desc := "(I)B" } : Jvm.MethodName)) ∈ x_tbl := x_in1 31 rfl rfl
theorem k_272 : (Cond.instanceMethod ({ cls := "RedactCheck$Store", name := "value", desc := "(I)B" } : Jvm.MethodName)) ∈ x_tbl := x_in1 32 rfl rfl
theorem k_273 : (Cond.selects "RedactCheck$Store" ({ cls := "RedactCheck$Store", name := "value", desc := "(I)B" } : Jvm.MethodName) ({ cls := "RedactCheck$Store", name := "value", desc := "(I)B" } : Jvm.MethodName)) ∈ x_tbl := x_in1 33 rfl rfl
theorem k_274 : (Cond.code ({ cls := "RedactCheck$Store", name := "value", desc := "(I)B" } : Jvm.MethodName) prog_7_method_3_code (2 : Nat) (Option.some Jvm.ClassFile.FieldType.byte)) ∈ x_tbl := x_in1 34 rfl rfl
theorem k_275 : (Cond.methodLink "RedactCheck$Store" (29 : Nat) ({ cls := "RedactCheck$Store", name := "decode", desc := "(III)I" } : Jvm.MethodName)) ∈ x_tbl := x_in1 35 rfl rfl
theorem k_276 : (Cond.static ({ cls := "RedactCheck$Store", name := "decode", desc := "(III)I" } : Jvm.MethodName)) ∈ x_tbl := x_in1 36 rfl rfl
theorem k_277 : (Cond.code ({ cls := "RedactCheck$Store", name := "decode", desc := "(III)I" } : Jvm.MethodName) prog_7_method_8_code (5 : Nat) (Option.some Jvm.ClassFile.FieldType.int)) ∈ x_tbl := x_in1 37 rfl rfl
theorem k_278 : (Cond.methodLink "RedactCheck$Store" (52 : Nat) ({ cls := "RedactCheck$Store", name := "valueOfDigit", desc := "(I)I" } : Jvm.MethodName)) ∈ x_tbl := x_in1 38 rfl rfl
theorem k_279 : (Cond.static ({ cls := "RedactCheck$Store", name := "valueOfDigit", desc := "(I)I" } : Jvm.MethodName)) ∈ x_tbl := x_in1 39 rfl rfl
theorem k_280 : (Cond.code ({ cls := "RedactCheck$Store", name := "valueOfDigit", desc := "(I)I" } : Jvm.MethodName) prog_7_method_9_code (1 : Nat) (Option.some Jvm.ClassFile.FieldType.int)) ∈ x_tbl := x_in1 40 rfl rfl
theorem k_281 : (Cond.methodLink "RedactCheck$Store" (33 : Nat) ({ cls := "RedactCheck$Codes", name := "add", desc := "(I)V" } : Jvm.MethodName)) ∈ x_tbl := x_in1 41 rfl rfl
theorem k_282 : (Cond.methodLink "RedactCheckLaw" (131 : Nat) ({ cls := "RedactCheck", name := "told", desc := "(I)I" } : Jvm.MethodName)) ∈ x_tbl := x_in1 42 rfl rfl
theorem k_283 : (Cond.instanceMethod ({ cls := "RedactCheck", name := "told", desc := "(I)I" } : Jvm.MethodName)) ∈ x_tbl := x_in1 43 rfl rfl
theorem k_284 : (Cond.selects "RedactCheck" ({ cls := "RedactCheck", name := "told", desc := "(I)I" } : Jvm.MethodName) ({ cls := "RedactCheck", name := "told", desc := "(I)I" } : Jvm.MethodName)) ∈ x_tbl := x_in1 44 rfl rfl
theorem k_285 : (Cond.code ({ cls := "RedactCheck", name := "told", desc := "(I)I" } : Jvm.MethodName) prog_1_method_18_code (2 : Nat) (Option.some Jvm.ClassFile.FieldType.int)) ∈ x_tbl := x_in1 45 rfl rfl
theorem k_286 : (Cond.methodLink "RedactCheckLaw" (71 : Nat) ({ cls := "RedactCheckLaw", name := "sign", desc := "(LRedactCheck;IIIII[J)I" } : Jvm.MethodName)) ∈ x_tbl := x_in1 46 rfl rfl
theorem k_287 : (Cond.static ({ cls := "RedactCheckLaw", name := "sign", desc := "(LRedactCheck;IIIII[J)I" } : Jvm.MethodName)) ∈ x_tbl := x_in1 47 rfl rfl
theorem k_288 : (Cond.codeWith ({ cls := "RedactCheckLaw", name := "sign", desc := "(LRedactCheck;IIIII[J)I" } : Jvm.MethodName) method_3_code (8 : Nat) (Option.some Jvm.ClassFile.FieldType.int) [((0 : Nat), (16 : Nat), (19 : Nat), (13 : Nat)), ((0 : Nat), (16 : Nat), (23 : Nat), (15 : Nat)), ((0 : Nat), (16 : Nat), (27 : Nat), (17 : Nat))]) ∈ x_tbl := x_in1 48 rfl rfl
theorem k_289 : (Cond.classLink "RedactCheckLaw" (13 : Nat) "java/lang/IndexOutOfBoundsException") ∈ x_tbl := x_in1 49 rfl rfl
theorem k_290 : (Cond.classLink "RedactCheckLaw" (15 : Nat) "java/lang/IllegalArgumentException") ∈ x_tbl := x_in1 50 rfl rfl
theorem k_291 : (Cond.classLink "RedactCheckLaw" (17 : Nat) "java/lang/UnsupportedOperationException") ∈ x_tbl := x_in1 51 rfl rfl
theorem k_292 : (Cond.methodLink "RedactCheckLaw" (7 : Nat) ({ cls := "RedactCheck", name := "sign", desc := "(IIIII)I" } : Jvm.MethodName)) ∈ x_tbl := x_in1 52 rfl rfl
theorem k_293 : (Cond.instanceMethod ({ cls := "RedactCheck", name := "sign", desc := "(IIIII)I" } : Jvm.MethodName)) ∈ x_tbl := x_in1 53 rfl rfl
theorem k_294 : (Cond.selects "RedactCheck" ({ cls := "RedactCheck", name := "sign", desc := "(IIIII)I" } : Jvm.MethodName) ({ cls := "RedactCheck", name := "sign", desc := "(IIIII)I" } : Jvm.MethodName)) ∈ x_tbl := x_in1 54 rfl rfl
theorem k_295 : (Cond.code ({ cls := "RedactCheck", name := "sign", desc := "(IIIII)I" } : Jvm.MethodName) prog_1_method_2_code (6 : Nat) (Option.some Jvm.ClassFile.FieldType.int)) ∈ x_tbl := x_in1 55 rfl rfl
theorem k_296 : (Cond.methodLink "RedactCheck" (54 : Nat) ({ cls := "RedactCheck", name := "rowOf", desc := "(Ljava/util/ArrayList;I)LRedactCheck$SignRow;" } : Jvm.MethodName)) ∈ x_tbl := x_in1 56 rfl rfl
theorem k_297 : (Cond.static ({ cls := "RedactCheck", name := "rowOf", desc := "(Ljava/util/ArrayList;I)LRedactCheck$SignRow;" } : Jvm.MethodName)) ∈ x_tbl := x_in1 57 rfl rfl
theorem k_298 : (Cond.code ({ cls := "RedactCheck", name := "rowOf", desc := "(Ljava/util/ArrayList;I)LRedactCheck$SignRow;" } : Jvm.MethodName) prog_1_method_22_code (2 : Nat) (Option.some (Jvm.ClassFile.FieldType.object "RedactCheck$SignRow"))) ∈ x_tbl := x_in1 58 rfl rfl
theorem k_299 : (Cond.classLink "RedactCheck" (167 : Nat) "java/lang/IndexOutOfBoundsException") ∈ x_tbl := x_in1 59 rfl rfl
theorem k_300 : (Cond.instantiable "java/lang/IndexOutOfBoundsException" (6 : Nat)) ∈ x_tbl := x_in1 60 rfl rfl
theorem k_301 : (Cond.castable "java/lang/IndexOutOfBoundsException" "java/lang/IndexOutOfBoundsException") ∈ x_tbl := x_in1 61 rfl rfl
theorem k_302 : (Cond.declares ({ cls := "java/lang/RuntimeException", name := "<init>", desc := "()V" } : Jvm.MethodName)) ∈ x_tbl := x_in1 62 rfl rfl
theorem k_303 : (Cond.declares ({ cls := "java/lang/RuntimeException", name := "<init>", desc := "(Ljava/lang/String;)V" } : Jvm.MethodName)) ∈ x_tbl := x_in1 63 rfl rfl
theorem k_304 : (Cond.declares ({ cls := "java/lang/Exception", name := "<init>", desc := "()V" } : Jvm.MethodName)) ∈ x_tbl := x_in1 64 rfl rfl
theorem k_305 : (Cond.declares ({ cls := "java/lang/Exception", name := "<init>", desc := "(Ljava/lang/String;)V" } : Jvm.MethodName)) ∈ x_tbl := x_in1 65 rfl rfl
theorem k_306 : (Cond.declares ({ cls := "java/lang/Throwable", name := "<init>", desc := "()V" } : Jvm.MethodName)) ∈ x_tbl := x_in1 66 rfl rfl
theorem k_307 : (Cond.declares ({ cls := "java/lang/Throwable", name := "<init>", desc := "(Ljava/lang/String;)V" } : Jvm.MethodName)) ∈ x_tbl := x_in1 67 rfl rfl
theorem k_308 : (Cond.selects "java/lang/IndexOutOfBoundsException" ({ cls := "java/lang/Throwable", name := "fillInStackTrace", desc := "(I)Ljava/lang/Throwable;" } : Jvm.MethodName) ({ cls := "java/lang/Throwable", name := "fillInStackTrace", desc := "(I)Ljava/lang/Throwable;" } : Jvm.MethodName)) ∈ x_tbl := x_in1 68 rfl rfl
theorem k_309 : (Cond.selects "java/lang/IndexOutOfBoundsException" ({ cls := "java/lang/Throwable", name := "fillInStackTrace", desc := "()Ljava/lang/Throwable;" } : Jvm.MethodName) ({ cls := "java/lang/Throwable", name := "fillInStackTrace", desc := "()Ljava/lang/Throwable;" } : Jvm.MethodName)) ∈ x_tbl := x_in1 69 rfl rfl
theorem k_310 : (Cond.lays "java/lang/IndexOutOfBoundsException" "java/lang/Throwable" "cause" "Ljava/lang/Throwable;") ∈ x_tbl := x_in1 70 rfl rfl
theorem k_311 : (Cond.lays "java/lang/Throwable" "java/lang/Throwable" "cause" "Ljava/lang/Throwable;") ∈ x_tbl := x_in1 71 rfl rfl
theorem k_312 : (Cond.lays "java/lang/IndexOutOfBoundsException" "java/lang/Throwable" "stackTrace" "[Ljava/lang/StackTraceElement;") ∈ x_tbl := x_in1 72 rfl rfl
theorem k_313 : (Cond.lays "java/lang/Throwable" "java/lang/Throwable" "stackTrace" "[Ljava/lang/StackTraceElement;") ∈ x_tbl := x_in1 73 rfl rfl
theorem k_314 : (Cond.lays "java/lang/IndexOutOfBoundsException" "java/lang/Throwable" "suppressedExceptions" "Ljava/util/List;") ∈ x_tbl := x_in1 74 rfl rfl
theorem k_315 : (Cond.lays "java/lang/Throwable" "java/lang/Throwable" "suppressedExceptions" "Ljava/util/List;") ∈ x_tbl := x_in1 75 rfl rfl
theorem k_316 : (Cond.lays "java/lang/IndexOutOfBoundsException" "java/lang/Throwable" "detailMessage" "Ljava/lang/String;") ∈ x_tbl := x_in1 76 rfl rfl
theorem k_317 : (Cond.lays "java/lang/Throwable" "java/lang/Throwable" "detailMessage" "Ljava/lang/String;") ∈ x_tbl := x_in1 77 rfl rfl
theorem k_318 : (Cond.lays "java/lang/IndexOutOfBoundsException" "java/lang/Throwable" "backtrace" "Ljava/lang/Object;") ∈ x_tbl := x_in1 78 rfl rfl
theorem k_319 : (Cond.lays "java/lang/Throwable" "java/lang/Throwable" "backtrace" "Ljava/lang/Object;") ∈ x_tbl := x_in1 79 rfl rfl
theorem k_320 : (Cond.fieldLink "java/lang/Throwable" (198 : Nat) "java/lang/Throwable" "backtrace" "Ljava/lang/Object;") ∈ x_tbl := x_in1 80 rfl rfl
theorem k_321 : (Cond.superclass "java/lang/Throwable" "java/lang/Object") ∈ x_tbl := x_in1 81 rfl rfl
theorem k_322 : (Cond.instanceMethod ({ cls := "java/lang/Throwable", name := "<init>", desc := "()V" } : Jvm.MethodName)) ∈ x_tbl := x_in1 82 rfl rfl
theorem k_323 : (Cond.code ({ cls := "java/lang/Throwable", name := "<init>", desc := "()V" } : Jvm.MethodName) prog_23_method_1_code (1 : Nat) (Option.none : Option Jvm.ClassFile.FieldType)) ∈ x_tbl := x_in1 83 rfl rfl
theorem k_324 : (Cond.methodLink "java/lang/Throwable" (1 : Nat) ({ cls := "java/lang/Object", name := "<init>", desc := "()V" } : Jvm.MethodName)) ∈ x_tbl := x_in1 84 rfl rfl
theorem k_325 : (Cond.fieldLink "java/lang/Throwable" (13 : Nat) "java/lang/Throwable" "UNASSIGNED_STACK" "[Ljava/lang/StackTraceElement;") ∈ x_tbl := x_in1 85 rfl rfl
theorem k_327 : (Cond.fieldLink "java/lang/Throwable" (20 : Nat) "java/lang/Throwable" "SUPPRESSED_SENTINEL" "Ljava/util/List;") ∈ x_tbl := x_in1 87 rfl rfl
theorem k_329 : (Cond.methodLink "java/lang/Throwable" (27 : Nat) ({ cls := "java/lang/Throwable", name := "fillInStackTrace", desc := "()Ljava/lang/Throwable;" } : Jvm.MethodName)) ∈ x_tbl := x_in1 89 rfl rfl
theorem k_330 : (Cond.instanceMethod ({ cls := "java/lang/Throwable", name := "fillInStackTrace", desc := "()Ljava/lang/Throwable;" } : Jvm.MethodName)) ∈ x_tbl := x_in1 90 rfl rfl
theorem k_331 : (Cond.sameMethod "java/lang/Throwable" "java/lang/Throwable" "fillInStackTrace" "()Ljava/lang/Throwable;") ∈ x_tbl := x_in1 91 rfl rfl
theorem k_332 : (Cond.selects "java/lang/IllegalArgumentException" ({ cls := "java/lang/Throwable", name := "fillInStackTrace", desc := "()Ljava/lang/Throwable;" } : Jvm.MethodName) ({ cls := "java/lang/Throwable", name := "fillInStackTrace", desc := "()Ljava/lang/Throwable;" } : Jvm.MethodName)) ∈ x_tbl := x_in1 92 rfl rfl
theorem k_333 : (Cond.selects "java/lang/UnsupportedOperationException" ({ cls := "java/lang/Throwable", name := "fillInStackTrace", desc := "()Ljava/lang/Throwable;" } : Jvm.MethodName) ({ cls := "java/lang/Throwable", name := "fillInStackTrace", desc := "()Ljava/lang/Throwable;" } : Jvm.MethodName)) ∈ x_tbl := x_in1 93 rfl rfl
theorem k_334 : (Cond.codeSync ({ cls := "java/lang/Throwable", name := "fillInStackTrace", desc := "()Ljava/lang/Throwable;" } : Jvm.MethodName) prog_23_method_18_code (1 : Nat) (Option.some (Jvm.ClassFile.FieldType.object "java/lang/Throwable"))) ∈ x_tbl := x_in1 94 rfl rfl
theorem k_335 : (Cond.methodLink "java/lang/Throwable" (202 : Nat) ({ cls := "java/lang/Throwable", name := "fillInStackTrace", desc := "(I)Ljava/lang/Throwable;" } : Jvm.MethodName)) ∈ x_tbl := x_in1 95 rfl rfl
theorem k_337 : (Cond.instanceMethod ({ cls := "java/lang/Throwable", name := "fillInStackTrace", desc := "(I)Ljava/lang/Throwable;" } : Jvm.MethodName)) ∈ x_tbl := x_in1 97 rfl rfl
theorem k_338 : (Cond.instantiable "java/lang/Throwable" (6 : Nat)) ∈ x_tbl := x_in1 98 rfl rfl
theorem k_339 : (Cond.native ({ cls := "java/lang/Throwable", name := "fillInStackTrace", desc := "(I)Ljava/lang/Throwable;" } : Jvm.MethodName)) ∈ x_tbl := x_in1 99 rfl rfl
theorem k_340 : (Cond.stringRef "RedactCheck" (183 : Nat) "there is no such page or form") ∈ x_tbl := x_in1 100 rfl rfl
theorem k_341 : (Cond.methodLink "RedactCheck" (171 : Nat) ({ cls := "java/lang/IndexOutOfBoundsException", name := "<init>", desc := "(Ljava/lang/String;)V" } : Jvm.MethodName)) ∈ x_tbl := x_in1 101 rfl rfl
theorem k_342 : (Cond.instanceMethod ({ cls := "java/lang/IndexOutOfBoundsException", name := "<init>", desc := "(Ljava/lang/String;)V" } : Jvm.MethodName)) ∈ x_tbl := x_in1 102 rfl rfl
theorem k_343 : (Cond.code ({ cls := "java/lang/IndexOutOfBoundsException", name := "<init>", desc := "(Ljava/lang/String;)V" } : Jvm.MethodName) prog_16_method_2_code (2 : Nat) (Option.none : Option Jvm.ClassFile.FieldType)) ∈ x_tbl := x_in1 103 rfl rfl
theorem k_344 : (Cond.methodLink "java/lang/IndexOutOfBoundsException" (7 : Nat) ({ cls := "java/lang/RuntimeException", name := "<init>", desc := "(Ljava/lang/String;)V" } : Jvm.MethodName)) ∈ x_tbl := x_in1 104 rfl rfl
theorem k_345 : (Cond.instanceMethod ({ cls := "java/lang/RuntimeException", name := "<init>", desc := "(Ljava/lang/String;)V" } : Jvm.MethodName)) ∈ x_tbl := x_in1 105 rfl rfl
theorem k_346 : (Cond.code ({ cls := "java/lang/RuntimeException", name := "<init>", desc := "(Ljava/lang/String;)V" } : Jvm.MethodName) prog_20_method_2_code (2 : Nat) (Option.none : Option Jvm.ClassFile.FieldType)) ∈ x_tbl := x_in1 106 rfl rfl
theorem k_347 : (Cond.methodLink "java/lang/RuntimeException" (7 : Nat) ({ cls := "java/lang/Exception", name := "<init>", desc := "(Ljava/lang/String;)V" } : Jvm.MethodName)) ∈ x_tbl := x_in1 107 rfl rfl
theorem k_348 : (Cond.instanceMethod ({ cls := "java/lang/Exception", name := "<init>", desc := "(Ljava/lang/String;)V" } : Jvm.MethodName)) ∈ x_tbl := x_in1 108 rfl rfl
theorem k_349 : (Cond.code ({ cls := "java/lang/Exception", name := "<init>", desc := "(Ljava/lang/String;)V" } : Jvm.MethodName) prog_14_method_2_code (2 : Nat) (Option.none : Option Jvm.ClassFile.FieldType)) ∈ x_tbl := x_in1 109 rfl rfl
theorem k_350 : (Cond.methodLink "java/lang/Exception" (7 : Nat) ({ cls := "java/lang/Throwable", name := "<init>", desc := "(Ljava/lang/String;)V" } : Jvm.MethodName)) ∈ x_tbl := x_in1 110 rfl rfl
theorem k_351 : (Cond.instanceMethod ({ cls := "java/lang/Throwable", name := "<init>", desc := "(Ljava/lang/String;)V" } : Jvm.MethodName)) ∈ x_tbl := x_in1 111 rfl rfl
theorem k_352 : (Cond.code ({ cls := "java/lang/Throwable", name := "<init>", desc := "(Ljava/lang/String;)V" } : Jvm.MethodName) prog_23_method_2_code (2 : Nat) (Option.none : Option Jvm.ClassFile.FieldType)) ∈ x_tbl := x_in1 112 rfl rfl
theorem k_353 : (Cond.fieldLink "java/lang/Throwable" (198 : Nat) "java/lang/Throwable" "backtrace" "Ljava/lang/Object;") ∈ x_tbl := x_in1 113 rfl rfl
theorem k_354 : (Cond.fieldLink "java/lang/Throwable" (31 : Nat) "java/lang/Throwable" "detailMessage" "Ljava/lang/String;") ∈ x_tbl := x_in1 114 rfl rfl
theorem k_355 : (Cond.fieldLink "java/lang/Throwable" (7 : Nat) "java/lang/Throwable" "cause" "Ljava/lang/Throwable;") ∈ x_tbl := x_in1 115 rfl rfl
theorem k_356 : (Cond.fieldLink "java/lang/Throwable" (17 : Nat) "java/lang/Throwable" "stackTrace" "[Ljava/lang/StackTraceElement;") ∈ x_tbl := x_in1 116 rfl rfl
theorem k_357 : (Cond.fieldLink "java/lang/Throwable" (24 : Nat) "java/lang/Throwable" "suppressedExceptions" "Ljava/util/List;") ∈ x_tbl := x_in1 117 rfl rfl
theorem k_362 : (Cond.lays "java/lang/IndexOutOfBoundsException" "java/lang/Throwable" "depth" "I") ∈ x_tbl := x_in1 122 rfl rfl
theorem k_365 : (Cond.superclass "java/lang/IndexOutOfBoundsException" "java/lang/RuntimeException") ∈ x_tbl := x_in1 125 rfl rfl
theorem k_366 : (Cond.arrayClass Jvm.ClassFile.FieldType.byte) ∈ x_tbl := x_in1 126 rfl rfl
theorem k_367 : (Cond.methodLink "RedactCheck" (58 : Nat) ({ cls := "RedactCheck", name := "addSign", desc := "(LRedactCheck$SignRow;IIII)I" } : Jvm.MethodName)) ∈ x_tbl := x_in1 127 rfl rfl
theorem k_368 : (Cond.static ({ cls := "RedactCheck", name := "addSign", desc := "(LRedactCheck$SignRow;IIII)I" } : Jvm.MethodName)) ∈ x_tbl := x_in1 128 rfl rfl
theorem k_369 : (Cond.code ({ cls := "RedactCheck", name := "addSign", desc := "(LRedactCheck$SignRow;IIII)I" } : Jvm.MethodName) prog_1_method_25_code (5 : Nat) (Option.some Jvm.ClassFile.FieldType.int)) ∈ x_tbl := x_in1 129 rfl rfl
theorem k_370 : (Cond.methodLink "RedactCheck" (73 : Nat) ({ cls := "RedactCheck", name := "checkWithin", desc := "(III)V" } : Jvm.MethodName)) ∈ x_tbl := x_in1 130 rfl rfl
theorem k_371 : (Cond.static ({ cls := "RedactCheck", name := "checkWithin", desc := "(III)V" } : Jvm.MethodName)) ∈ x_tbl := x_in1 131 rfl rfl
theorem k_372 : (Cond.code ({ cls := "RedactCheck", name := "checkWithin", desc := "(III)V" } : Jvm.MethodName) prog_1_method_20_code (3 : Nat) (Option.none : Option Jvm.ClassFile.FieldType)) ∈ x_tbl := x_in1 132 rfl rfl
theorem k_373 : (Cond.classLink "RedactCheck" (89 : Nat) "java/lang/IllegalArgumentException") ∈ x_tbl := x_in1 133 rfl rfl
theorem k_374 : (Cond.instantiable "java/lang/IllegalArgumentException" (6 : Nat)) ∈ x_tbl := x_in1 134 rfl rfl
theorem k_375 : (Cond.castable "java/lang/IllegalArgumentException" "java/lang/IllegalArgumentException") ∈ x_tbl := x_in1 135 rfl rfl
theorem k_376 : (Cond.selects "java/lang/IllegalArgumentException" ({ cls := "java/lang/Throwable", name := "fillInStackTrace", desc := "(I)Ljava/lang/Throwable;" } : Jvm.MethodName) ({ cls := "java/lang/Throwable", name := "fillInStackTrace", desc := "(I)Ljava/lang/Throwable;" } : Jvm.MethodName)) ∈ x_tbl := x_in1 136 rfl rfl
theorem k_377 : (Cond.lays "java/lang/IllegalArgumentException" "java/lang/Throwable" "cause" "Ljava/lang/Throwable;") ∈ x_tbl := x_in1 137 rfl rfl
theorem k_378 : (Cond.lays "java/lang/IllegalArgumentException" "java/lang/Throwable" "stackTrace" "[Ljava/lang/StackTraceElement;") ∈ x_tbl := x_in1 138 rfl rfl
theorem k_379 : (Cond.lays "java/lang/IllegalArgumentException" "java/lang/Throwable" "suppressedExceptions" "Ljava/util/List;") ∈ x_tbl := x_in1 139 rfl rfl
theorem k_380 : (Cond.lays "java/lang/IllegalArgumentException" "java/lang/Throwable" "detailMessage" "Ljava/lang/String;") ∈ x_tbl := x_in1 140 rfl rfl
theorem k_381 : (Cond.lays "java/lang/IllegalArgumentException" "java/lang/Throwable" "backtrace" "Ljava/lang/Object;") ∈ x_tbl := x_in1 141 rfl rfl
theorem k_382 : (Cond.stringRef "RedactCheck" (179 : Nat) "a number is outside its bounds") ∈ x_tbl := x_in1 142 rfl rfl
theorem k_383 : (Cond.methodLink "RedactCheck" (93 : Nat) ({ cls := "java/lang/IllegalArgumentException", name := "<init>", desc := "(Ljava/lang/String;)V" } : Jvm.MethodName)) ∈ x_tbl := x_in1 143 rfl rfl
theorem k_384 : (Cond.instanceMethod ({ cls := "java/lang/IllegalArgumentException", name := "<init>", desc := "(Ljava/lang/String;)V" } : Jvm.MethodName)) ∈ x_tbl := x_in1 144 rfl rfl
theorem k_385 : (Cond.code ({ cls := "java/lang/IllegalArgumentException", name := "<init>", desc := "(Ljava/lang/String;)V" } : Jvm.MethodName) prog_15_method_2_code (2 : Nat) (Option.none : Option Jvm.ClassFile.FieldType)) ∈ x_tbl := x_in1 145 rfl rfl
theorem k_386 : (Cond.methodLink "java/lang/IllegalArgumentException" (7 : Nat) ({ cls := "java/lang/RuntimeException", name := "<init>", desc := "(Ljava/lang/String;)V" } : Jvm.MethodName)) ∈ x_tbl := x_in1 146 rfl rfl
theorem k_387 : (Cond.lays "java/lang/IllegalArgumentException" "java/lang/Throwable" "depth" "I") ∈ x_tbl := x_in1 147 rfl rfl
theorem k_388 : (Cond.superclass "java/lang/IllegalArgumentException" "java/lang/RuntimeException") ∈ x_tbl := x_in1 148 rfl rfl
theorem k_389 : (Cond.methodLink "RedactCheck" (66 : Nat) ({ cls := "RedactCheck", name := "checkRoom", desc := "(II)V" } : Jvm.MethodName)) ∈ x_tbl := x_in1 149 rfl rfl
theorem k_390 : (Cond.static ({ cls := "RedactCheck", name := "checkRoom", desc := "(II)V" } : Jvm.MethodName)) ∈ x_tbl := x_in1 150 rfl rfl
theorem k_391 : (Cond.code ({ cls := "RedactCheck", name := "checkRoom", desc := "(II)V" } : Jvm.MethodName) prog_1_method_21_code (2 : Nat) (Option.none : Option Jvm.ClassFile.FieldType)) ∈ x_tbl := x_in1 151 rfl rfl
theorem k_392 : (Cond.classLink "RedactCheck" (121 : Nat) "java/lang/UnsupportedOperationException") ∈ x_tbl := x_in1 152 rfl rfl
theorem k_393 : (Cond.instantiable "java/lang/UnsupportedOperationException" (6 : Nat)) ∈ x_tbl := x_in1 153 rfl rfl
theorem k_394 : (Cond.castable "java/lang/UnsupportedOperationException" "java/lang/UnsupportedOperationException") ∈ x_tbl := x_in1 154 rfl rfl
theorem k_395 : (Cond.selects "java/lang/UnsupportedOperationException" ({ cls := "java/lang/Throwable", name := "fillInStackTrace", desc := "(I)Ljava/lang/Throwable;" } : Jvm.MethodName) ({ cls := "java/lang/Throwable", name := "fillInStackTrace", desc := "(I)Ljava/lang/Throwable;" } : Jvm.MethodName)) ∈ x_tbl := x_in1 155 rfl rfl
theorem k_396 : (Cond.lays "java/lang/UnsupportedOperationException" "java/lang/Throwable" "cause" "Ljava/lang/Throwable;") ∈ x_tbl := x_in1 156 rfl rfl
theorem k_397 : (Cond.lays "java/lang/UnsupportedOperationException" "java/lang/Throwable" "stackTrace" "[Ljava/lang/StackTraceElement;") ∈ x_tbl := x_in1 157 rfl rfl
theorem k_398 : (Cond.lays "java/lang/UnsupportedOperationException" "java/lang/Throwable" "suppressedExceptions" "Ljava/util/List;") ∈ x_tbl := x_in1 158 rfl rfl
theorem k_399 : (Cond.lays "java/lang/UnsupportedOperationException" "java/lang/Throwable" "detailMessage" "Ljava/lang/String;") ∈ x_tbl := x_in1 159 rfl rfl
theorem k_400 : (Cond.lays "java/lang/UnsupportedOperationException" "java/lang/Throwable" "backtrace" "Ljava/lang/Object;") ∈ x_tbl := x_in1 160 rfl rfl
theorem k_401 : (Cond.stringRef "RedactCheck" (181 : Nat) "there may be no more") ∈ x_tbl := x_in1 161 rfl rfl
theorem k_402 : (Cond.methodLink "RedactCheck" (125 : Nat) ({ cls := "java/lang/UnsupportedOperationException", name := "<init>", desc := "(Ljava/lang/String;)V" } : Jvm.MethodName)) ∈ x_tbl := x_in1 162 rfl rfl
theorem k_403 : (Cond.instanceMethod ({ cls := "java/lang/UnsupportedOperationException", name := "<init>", desc := "(Ljava/lang/String;)V" } : Jvm.MethodName)) ∈ x_tbl := x_in1 163 rfl rfl
theorem k_404 : (Cond.code ({ cls := "java/lang/UnsupportedOperationException", name := "<init>", desc := "(Ljava/lang/String;)V" } : Jvm.MethodName) prog_24_method_2_code (2 : Nat) (Option.none : Option Jvm.ClassFile.FieldType)) ∈ x_tbl := x_in1 164 rfl rfl
theorem k_405 : (Cond.methodLink "java/lang/UnsupportedOperationException" (7 : Nat) ({ cls := "java/lang/RuntimeException", name := "<init>", desc := "(Ljava/lang/String;)V" } : Jvm.MethodName)) ∈ x_tbl := x_in1 165 rfl rfl
theorem k_406 : (Cond.lays "java/lang/UnsupportedOperationException" "java/lang/Throwable" "depth" "I") ∈ x_tbl := x_in1 166 rfl rfl
theorem k_407 : (Cond.superclass "java/lang/UnsupportedOperationException" "java/lang/RuntimeException") ∈ x_tbl := x_in1 167 rfl rfl
theorem k_408 : (Cond.methodLink "RedactCheck" (189 : Nat) ({ cls := "RedactCheck$SignRow", name := "add", desc := "(IIII)V" } : Jvm.MethodName)) ∈ x_tbl := x_in1 168 rfl rfl
theorem k_409 : (Cond.instanceMethod ({ cls := "RedactCheck$SignRow", name := "add", desc := "(IIII)V" } : Jvm.MethodName)) ∈ x_tbl := x_in1 169 rfl rfl
theorem k_410 : (Cond.selects "RedactCheck$SignRow" ({ cls := "RedactCheck$SignRow", name := "add", desc := "(IIII)V" } : Jvm.MethodName) ({ cls := "RedactCheck$SignRow", name := "add", desc := "(IIII)V" } : Jvm.MethodName)) ∈ x_tbl := x_in1 170 rfl rfl
theorem k_411 : (Cond.code ({ cls := "RedactCheck$SignRow", name := "add", desc := "(IIII)V" } : Jvm.MethodName) prog_6_method_2_code (5 : Nat) (Option.none : Option Jvm.ClassFile.FieldType)) ∈ x_tbl := x_in1 171 rfl rfl
theorem k_412 : (Cond.methodLink "RedactCheck$SignRow" (22 : Nat) ({ cls := "RedactCheck$SignRow", name := "put", desc := "(IIIII)V" } : Jvm.MethodName)) ∈ x_tbl := x_in1 172 rfl rfl
theorem k_414 : (Cond.instanceMethod ({ cls := "RedactCheck$SignRow", name := "put", desc := "(IIIII)V" } : Jvm.MethodName)) ∈ x_tbl := x_in1 174 rfl rfl
theorem k_415 : (Cond.code ({ cls := "RedactCheck$SignRow", name := "put", desc := "(IIIII)V" } : Jvm.MethodName) prog_6_method_8_code (7 : Nat) (Option.none : Option Jvm.ClassFile.FieldType)) ∈ x_tbl := x_in1 175 rfl rfl
theorem k_416 : (Cond.methodLink "RedactCheckLaw" (80 : Nat) ({ cls := "RedactCheckLaw", name := "form", desc := "(LRedactCheck;[J)I" } : Jvm.MethodName)) ∈ x_tbl := x_in1 176 rfl rfl
theorem k_417 : (Cond.static ({ cls := "RedactCheckLaw", name := "form", desc := "(LRedactCheck;[J)I" } : Jvm.MethodName)) ∈ x_tbl := x_in1 177 rfl rfl
theorem k_418 : (Cond.codeWith ({ cls := "RedactCheckLaw", name := "form", desc := "(LRedactCheck;[J)I" } : Jvm.MethodName) method_4_code (3 : Nat) (Option.some Jvm.ClassFile.FieldType.int) [((0 : Nat), (8 : Nat), (11 : Nat), (17 : Nat))]) ∈ x_tbl := x_in1 178 rfl rfl
theorem k_419 : (Cond.methodLink "RedactCheckLaw" (19 : Nat) ({ cls := "RedactCheck", name := "form", desc := "()I" } : Jvm.MethodName)) ∈ x_tbl := x_in1 179 rfl rfl
theorem k_420 : (Cond.instanceMethod ({ cls := "RedactCheck", name := "form", desc := "()I" } : Jvm.MethodName)) ∈ x_tbl := x_in1 180 rfl rfl
theorem k_421 : (Cond.selects "RedactCheck" ({ cls := "RedactCheck", name := "form", desc := "()I" } : Jvm.MethodName) ({ cls := "RedactCheck", name := "form", desc := "()I" } : Jvm.MethodName)) ∈ x_tbl := x_in1 181 rfl rfl
theorem k_422 : (Cond.code ({ cls := "RedactCheck", name := "form", desc := "()I" } : Jvm.MethodName) prog_1_method_3_code (1 : Nat) (Option.some Jvm.ClassFile.FieldType.int)) ∈ x_tbl := x_in1 182 rfl rfl
theorem k_423 : (Cond.methodLink "RedactCheckLaw" (84 : Nat) ({ cls := "RedactCheckLaw", name := "formSign", desc := "(LRedactCheck;IIIII[J)I" } : Jvm.MethodName)) ∈ x_tbl := x_in1 183 rfl rfl
theorem k_424 : (Cond.static ({ cls := "RedactCheckLaw", name := "formSign", desc := "(LRedactCheck;IIIII[J)I" } : Jvm.MethodName)) ∈ x_tbl := x_in1 184 rfl rfl
theorem k_425 : (Cond.codeWith ({ cls := "RedactCheckLaw", name := "formSign", desc := "(LRedactCheck;IIIII[J)I" } : Jvm.MethodName) method_5_code (8 : Nat) (Option.some Jvm.ClassFile.FieldType.int) [((0 : Nat), (16 : Nat), (19 : Nat), (13 : Nat)), ((0 : Nat), (16 : Nat), (23 : Nat), (15 : Nat)), ((0 : Nat), (16 : Nat), (27 : Nat), (17 : Nat))]) ∈ x_tbl := x_in1 185 rfl rfl
theorem k_426 : (Cond.methodLink "RedactCheckLaw" (23 : Nat) ({ cls := "RedactCheck", name := "formSign", desc := "(IIIII)I" } : Jvm.MethodName)) ∈ x_tbl := x_in1 186 rfl rfl
theorem k_427 : (Cond.instanceMethod ({ cls := "RedactCheck", name := "formSign", desc := "(IIIII)I" } : Jvm.MethodName)) ∈ x_tbl := x_in1 187 rfl rfl
theorem k_428 : (Cond.selects "RedactCheck" ({ cls := "RedactCheck", name := "formSign", desc := "(IIIII)I" } : Jvm.MethodName) ({ cls := "RedactCheck", name := "formSign", desc := "(IIIII)I" } : Jvm.MethodName)) ∈ x_tbl := x_in1 188 rfl rfl
theorem k_429 : (Cond.code ({ cls := "RedactCheck", name := "formSign", desc := "(IIIII)I" } : Jvm.MethodName) prog_1_method_4_code (6 : Nat) (Option.some Jvm.ClassFile.FieldType.int)) ∈ x_tbl := x_in1 189 rfl rfl
theorem k_430 : (Cond.methodLink "RedactCheckLaw" (87 : Nat) ({ cls := "RedactCheckLaw", name := "use", desc := "(LRedactCheck;IIII[J)I" } : Jvm.MethodName)) ∈ x_tbl := x_in1 190 rfl rfl
theorem k_431 : (Cond.static ({ cls := "RedactCheckLaw", name := "use", desc := "(LRedactCheck;IIII[J)I" } : Jvm.MethodName)) ∈ x_tbl := x_in1 191 rfl rfl
theorem k_432 : (Cond.codeWith ({ cls := "RedactCheckLaw", name := "use", desc := "(LRedactCheck;IIII[J)I" } : Jvm.MethodName) method_6_code (7 : Nat) (Option.some Jvm.ClassFile.FieldType.int) [((0 : Nat), (14 : Nat), (17 : Nat), (13 : Nat)), ((0 : Nat), (14 : Nat), (21 : Nat), (15 : Nat)), ((0 : Nat), (14 : Nat), (25 : Nat), (17 : Nat))]) ∈ x_tbl := x_in1 192 rfl rfl
theorem k_433 : (Cond.methodLink "RedactCheckLaw" (26 : Nat) ({ cls := "RedactCheck", name := "use", desc := "(IIII)I" } : Jvm.MethodName)) ∈ x_tbl := x_in1 193 rfl rfl
theorem k_434 : (Cond.instanceMethod ({ cls := "RedactCheck", name := "use", desc := "(IIII)I" } : Jvm.MethodName)) ∈ x_tbl := x_in1 194 rfl rfl
theorem k_435 : (Cond.selects "RedactCheck" ({ cls := "RedactCheck", name := "use", desc := "(IIII)I" } : Jvm.MethodName) ({ cls := "RedactCheck", name := "use", desc := "(IIII)I" } : Jvm.MethodName)) ∈ x_tbl := x_in1 195 rfl rfl
theorem k_436 : (Cond.code ({ cls := "RedactCheck", name := "use", desc := "(IIII)I" } : Jvm.MethodName) prog_1_method_5_code (6 : Nat) (Option.some Jvm.ClassFile.FieldType.int)) ∈ x_tbl := x_in1 196 rfl rfl
theorem k_437 : (Cond.methodLink "RedactCheck" (70 : Nat) ({ cls := "RedactCheck", name := "checkNumber", desc := "(II)V" } : Jvm.MethodName)) ∈ x_tbl := x_in1 197 rfl rfl
theorem k_438 : (Cond.static ({ cls := "RedactCheck", name := "checkNumber", desc := "(II)V" } : Jvm.MethodName)) ∈ x_tbl := x_in1 198 rfl rfl
theorem k_439 : (Cond.code ({ cls := "RedactCheck", name := "checkNumber", desc := "(II)V" } : Jvm.MethodName) prog_1_method_19_code (2 : Nat) (Option.none : Option Jvm.ClassFile.FieldType)) ∈ x_tbl := x_in1 199 rfl rfl
theorem k_440 : (Cond.stringRef "RedactCheck" (177 : Nat) "there is no such number") ∈ x_tbl := x_in1 200 rfl rfl
theorem k_441 : (Cond.instantiable "RedactCheck$Use" (6 : Nat)) ∈ x_tbl := x_in1 201 rfl rfl
theorem k_442 : (Cond.methodLink "RedactCheck" (79 : Nat) ({ cls := "RedactCheck$Use", name := "<init>", desc := "(ILRedactCheck$SignRow;II)V" } : Jvm.MethodName)) ∈ x_tbl := x_in1 202 rfl rfl
theorem k_443 : (Cond.instanceMethod ({ cls := "RedactCheck$Use", name := "<init>", desc := "(ILRedactCheck$SignRow;II)V" } : Jvm.MethodName)) ∈ x_tbl := x_in1 203 rfl rfl
theorem k_444 : (Cond.code ({ cls := "RedactCheck$Use", name := "<init>", desc := "(ILRedactCheck$SignRow;II)V" } : Jvm.MethodName) prog_8_method_1_code (5 : Nat) (Option.none : Option Jvm.ClassFile.FieldType)) ∈ x_tbl := x_in1 204 rfl rfl
theorem k_445 : (Cond.methodLink "RedactCheck$Use" (1 : Nat) ({ cls := "java/lang/Object", name := "<init>", desc := "()V" } : Jvm.MethodName)) ∈ x_tbl := x_in1 205 rfl rfl
theorem k_446 : (Cond.fieldLink "RedactCheck$Use" (7 : Nat) "RedactCheck$Use" "page" "I") ∈ x_tbl := x_in1 206 rfl rfl
theorem k_447 : (Cond.fieldLink "RedactCheck" (192 : Nat) "RedactCheck$Use" "page" "I") ∈ x_tbl := x_in1 207 rfl rfl
theorem k_448 : (Cond.fieldLink "RedactCheck$Use" (17 : Nat) "RedactCheck$Use" "dx" "I") ∈ x_tbl := x_in1 208 rfl rfl
theorem k_449 : (Cond.fieldLink "RedactCheck" (195 : Nat) "RedactCheck$Use" "dx" "I") ∈ x_tbl := x_in1 209 rfl rfl
theorem k_450 : (Cond.fieldLink "RedactCheck$Use" (20 : Nat) "RedactCheck$Use" "dy" "I") ∈ x_tbl := x_in1 210 rfl rfl
theorem k_451 : (Cond.fieldLink "RedactCheck" (198 : Nat) "RedactCheck$Use" "dy" "I") ∈ x_tbl := x_in1 211 rfl rfl
theorem k_452 : (Cond.fieldLink "RedactCheck$Use" (13 : Nat) "RedactCheck$Use" "form" "LRedactCheck$SignRow;") ∈ x_tbl := x_in1 212 rfl rfl
theorem k_453 : (Cond.fieldLink "RedactCheck" (149 : Nat) "RedactCheck$Use" "form" "LRedactCheck$SignRow;") ∈ x_tbl := x_in1 213 rfl rfl
theorem k_454 : (Cond.fieldLink "RedactCheck" (205 : Nat) "RedactCheck$Use" "marks" "J") ∈ x_tbl := x_in1 214 rfl rfl
theorem k_455 : (Cond.fieldLink "RedactCheck" (213 : Nat) "RedactCheck$Use" "twin" "LRedactCheck$Use;") ∈ x_tbl := x_in1 215 rfl rfl
theorem k_456 : (Cond.laysFinal "RedactCheck$Use" "RedactCheck$Use" "page" "I") ∈ x_tbl := x_in1 216 rfl rfl
theorem k_458 : (Cond.laysFinal "RedactCheck$Use" "RedactCheck$Use" "dx" "I") ∈ x_tbl := x_in1 218 rfl rfl
theorem k_460 : (Cond.laysFinal "RedactCheck$Use" "RedactCheck$Use" "dy" "I") ∈ x_tbl := x_in1 220 rfl rfl
theorem k_462 : (Cond.lays "RedactCheck$Use" "RedactCheck$Use" "form" "LRedactCheck$SignRow;") ∈ x_tbl := x_in1 222 rfl rfl
theorem k_464 : (Cond.lays "RedactCheck$Use" "RedactCheck$Use" "marks" "J") ∈ x_tbl := x_in1 224 rfl rfl
theorem k_466 : (Cond.lays "RedactCheck$Use" "RedactCheck$Use" "twin" "LRedactCheck$Use;") ∈ x_tbl := x_in1 226 rfl rfl
theorem k_468 : (Cond.superclass "RedactCheck$Use" "java/lang/Object") ∈ x_tbl := x_in1 228 rfl rfl
theorem k_469 : (Cond.methodLink "RedactCheckLaw" (91 : Nat) ({ cls := "RedactCheckLaw", name := "word", desc := "(LRedactCheck;[J)I" } : Jvm.MethodName)) ∈ x_tbl := x_in1 229 rfl rfl
theorem k_470 : (Cond.static ({ cls := "RedactCheckLaw", name := "word", desc := "(LRedactCheck;[J)I" } : Jvm.MethodName)) ∈ x_tbl := x_in1 230 rfl rfl
theorem k_471 : (Cond.codeWith ({ cls := "RedactCheckLaw", name := "word", desc := "(LRedactCheck;[J)I" } : Jvm.MethodName) method_7_code (3 : Nat) (Option.some Jvm.ClassFile.FieldType.int) [((0 : Nat), (8 : Nat), (11 : Nat), (17 : Nat))]) ∈ x_tbl := x_in1 231 rfl rfl
theorem k_472 : (Cond.methodLink "RedactCheckLaw" (30 : Nat) ({ cls := "RedactCheck", name := "word", desc := "()I" } : Jvm.MethodName)) ∈ x_tbl := x_in1 232 rfl rfl
theorem k_473 : (Cond.instanceMethod ({ cls := "RedactCheck", name := "word", desc := "()I" } : Jvm.MethodName)) ∈ x_tbl := x_in1 233 rfl rfl
theorem k_474 : (Cond.selects "RedactCheck" ({ cls := "RedactCheck", name := "word", desc := "()I" } : Jvm.MethodName) ({ cls := "RedactCheck", name := "word", desc := "()I" } : Jvm.MethodName)) ∈ x_tbl := x_in1 234 rfl rfl
theorem k_475 : (Cond.code ({ cls := "RedactCheck", name := "word", desc := "()I" } : Jvm.MethodName) prog_1_method_6_code (1 : Nat) (Option.some Jvm.ClassFile.FieldType.int)) ∈ x_tbl := x_in1 235 rfl rfl
theorem k_476 : (Cond.instantiable "RedactCheck$Word" (2 : Nat)) ∈ x_tbl := x_in1 236 rfl rfl
theorem k_477 : (Cond.methodLinkNest "RedactCheck" (84 : Nat) ({ cls := "RedactCheck$Word", name := "<init>", desc := "()V" } : Jvm.MethodName) "RedactCheck") ∈ x_tbl := x_in1 237 rfl rfl
theorem k_478 : (Cond.instanceMethod ({ cls := "RedactCheck$Word", name := "<init>", desc := "()V" } : Jvm.MethodName)) ∈ x_tbl := x_in1 238 rfl rfl
theorem k_479 : (Cond.code ({ cls := "RedactCheck$Word", name := "<init>", desc := "()V" } : Jvm.MethodName) prog_9_method_1_code (1 : Nat) (Option.none : Option Jvm.ClassFile.FieldType)) ∈ x_tbl := x_in1 239 rfl rfl
theorem k_480 : (Cond.methodLink "RedactCheck$Word" (3 : Nat) ({ cls := "java/lang/Object", name := "<init>", desc := "()V" } : Jvm.MethodName)) ∈ x_tbl := x_in2 0 rfl rfl
theorem k_481 : (Cond.fieldLink "RedactCheck$Word" (15 : Nat) "RedactCheck$Word" "count" "I") ∈ x_tbl := x_in2 1 rfl rfl
theorem k_482 : (Cond.fieldLink "RedactCheck" (96 : Nat) "RedactCheck$Word" "count" "I") ∈ x_tbl := x_in2 2 rfl rfl
theorem k_483 : (Cond.fieldLink "RedactCheck$Word" (9 : Nat) "RedactCheck$Word" "letters" "[I") ∈ x_tbl := x_in2 3 rfl rfl
theorem k_484 : (Cond.lays "RedactCheck$Word" "RedactCheck$Word" "count" "I") ∈ x_tbl := x_in2 4 rfl rfl
theorem k_486 : (Cond.laysFinal "RedactCheck$Word" "RedactCheck$Word" "letters" "[I") ∈ x_tbl := x_in2 6 rfl rfl
theorem k_488 : (Cond.superclass "RedactCheck$Word" "java/lang/Object") ∈ x_tbl := x_in2 8 rfl rfl
theorem k_489 : (Cond.methodLink "RedactCheckLaw" (94 : Nat) ({ cls := "RedactCheckLaw", name := "letter", desc := "(LRedactCheck;II[J)I" } : Jvm.MethodName)) ∈ x_tbl := x_in2 9 rfl rfl
theorem k_490 : (Cond.static ({ cls := "RedactCheckLaw", name := "letter", desc := "(LRedactCheck;II[J)I" } : Jvm.MethodName)) ∈ x_tbl := x_in2 10 rfl rfl
theorem k_491 : (Cond.codeWith ({ cls := "RedactCheckLaw", name := "letter", desc := "(LRedactCheck;II[J)I" } : Jvm.MethodName) method_8_code (5 : Nat) (Option.some Jvm.ClassFile.FieldType.int) [((0 : Nat), (10 : Nat), (13 : Nat), (13 : Nat)), ((0 : Nat), (10 : Nat), (17 : Nat), (15 : Nat)), ((0 : Nat), (10 : Nat), (21 : Nat), (17 : Nat))]) ∈ x_tbl := x_in2 11 rfl rfl
theorem k_492 : (Cond.methodLink "RedactCheckLaw" (33 : Nat) ({ cls := "RedactCheck", name := "letter", desc := "(II)I" } : Jvm.MethodName)) ∈ x_tbl := x_in2 12 rfl rfl
theorem k_493 : (Cond.instanceMethod ({ cls := "RedactCheck", name := "letter", desc := "(II)I" } : Jvm.MethodName)) ∈ x_tbl := x_in2 13 rfl rfl
theorem k_494 : (Cond.selects "RedactCheck" ({ cls := "RedactCheck", name := "letter", desc := "(II)I" } : Jvm.MethodName) ({ cls := "RedactCheck", name := "letter", desc := "(II)I" } : Jvm.MethodName)) ∈ x_tbl := x_in2 14 rfl rfl
theorem k_495 : (Cond.code ({ cls := "RedactCheck", name := "letter", desc := "(II)I" } : Jvm.MethodName) prog_1_method_7_code (4 : Nat) (Option.some Jvm.ClassFile.FieldType.int)) ∈ x_tbl := x_in2 15 rfl rfl
theorem k_496 : (Cond.methodLink "RedactCheck" (85 : Nat) ({ cls := "RedactCheck", name := "wordOf", desc := "(I)LRedactCheck$Word;" } : Jvm.MethodName)) ∈ x_tbl := x_in2 16 rfl rfl
theorem k_498 : (Cond.instanceMethod ({ cls := "RedactCheck", name := "wordOf", desc := "(I)LRedactCheck$Word;" } : Jvm.MethodName)) ∈ x_tbl := x_in2 18 rfl rfl
theorem k_499 : (Cond.code ({ cls := "RedactCheck", name := "wordOf", desc := "(I)LRedactCheck$Word;" } : Jvm.MethodName) prog_1_method_23_code (2 : Nat) (Option.some (Jvm.ClassFile.FieldType.object "RedactCheck$Word"))) ∈ x_tbl := x_in2 19 rfl rfl
theorem k_500 : (Cond.stringRef "RedactCheck" (185 : Nat) "there is no such word") ∈ x_tbl := x_in2 20 rfl rfl
theorem k_501 : (Cond.stringRef "RedactCheck" (91 : Nat) "42 stands for what went from a store") ∈ x_tbl := x_in2 21 rfl rfl
theorem k_502 : (Cond.methodLink "RedactCheck" (100 : Nat) ({ cls := "RedactCheck$Word", name := "add", desc := "(I)V" } : Jvm.MethodName)) ∈ x_tbl := x_in2 22 rfl rfl
theorem k_503 : (Cond.instanceMethod ({ cls := "RedactCheck$Word", name := "add", desc := "(I)V" } : Jvm.MethodName)) ∈ x_tbl := x_in2 23 rfl rfl
theorem k_504 : (Cond.selects "RedactCheck$Word" ({ cls := "RedactCheck$Word", name := "add", desc := "(I)V" } : Jvm.MethodName) ({ cls := "RedactCheck$Word", name := "add", desc := "(I)V" } : Jvm.MethodName)) ∈ x_tbl := x_in2 24 rfl rfl
theorem k_505 : (Cond.code ({ cls := "RedactCheck$Word", name := "add", desc := "(I)V" } : Jvm.MethodName) prog_9_method_2_code (2 : Nat) (Option.none : Option Jvm.ClassFile.FieldType)) ∈ x_tbl := x_in2 25 rfl rfl
theorem k_506 : (Cond.methodLink "RedactCheckLaw" (98 : Nat) ({ cls := "RedactCheckLaw", name := "area", desc := "(LRedactCheck;IIIII[J)I" } : Jvm.MethodName)) ∈ x_tbl := x_in2 26 rfl rfl
theorem k_507 : (Cond.static ({ cls := "RedactCheckLaw", name := "area", desc := "(LRedactCheck;IIIII[J)I" } : Jvm.MethodName)) ∈ x_tbl := x_in2 27 rfl rfl
theorem k_508 : (Cond.codeWith ({ cls := "RedactCheckLaw", name := "area", desc := "(LRedactCheck;IIIII[J)I" } : Jvm.MethodName) method_9_code (8 : Nat) (Option.some Jvm.ClassFile.FieldType.int) [((0 : Nat), (16 : Nat), (19 : Nat), (13 : Nat)), ((0 : Nat), (16 : Nat), (23 : Nat), (15 : Nat)), ((0 : Nat), (16 : Nat), (27 : Nat), (17 : Nat))]) ∈ x_tbl := x_in2 28 rfl rfl
theorem k_509 : (Cond.methodLink "RedactCheckLaw" (37 : Nat) ({ cls := "RedactCheck", name := "area", desc := "(IIIII)I" } : Jvm.MethodName)) ∈ x_tbl := x_in2 29 rfl rfl
theorem k_510 : (Cond.instanceMethod ({ cls := "RedactCheck", name := "area", desc := "(IIIII)I" } : Jvm.MethodName)) ∈ x_tbl := x_in2 30 rfl rfl
theorem k_511 : (Cond.selects "RedactCheck" ({ cls := "RedactCheck", name := "area", desc := "(IIIII)I" } : Jvm.MethodName) ({ cls := "RedactCheck", name := "area", desc := "(IIIII)I" } : Jvm.MethodName)) ∈ x_tbl := x_in2 31 rfl rfl
theorem k_512 : (Cond.code ({ cls := "RedactCheck", name := "area", desc := "(IIIII)I" } : Jvm.MethodName) prog_1_method_8_code (6 : Nat) (Option.some Jvm.ClassFile.FieldType.int)) ∈ x_tbl := x_in2 32 rfl rfl
theorem k_513 : (Cond.classLink "RedactCheck" (102 : Nat) "RedactCheck$Area") ∈ x_tbl := x_in2 33 rfl rfl
theorem k_514 : (Cond.instantiable "RedactCheck$Area" (5 : Nat)) ∈ x_tbl := x_in2 34 rfl rfl
theorem k_515 : (Cond.methodLink "RedactCheck" (104 : Nat) ({ cls := "RedactCheck$Area", name := "<init>", desc := "(IIIII)V" } : Jvm.MethodName)) ∈ x_tbl := x_in2 35 rfl rfl
theorem k_516 : (Cond.instanceMethod ({ cls := "RedactCheck$Area", name := "<init>", desc := "(IIIII)V" } : Jvm.MethodName)) ∈ x_tbl := x_in2 36 rfl rfl
theorem k_517 : (Cond.code ({ cls := "RedactCheck$Area", name := "<init>", desc := "(IIIII)V" } : Jvm.MethodName) prog_2_method_1_code (6 : Nat) (Option.none : Option Jvm.ClassFile.FieldType)) ∈ x_tbl := x_in2 37 rfl rfl
theorem k_518 : (Cond.methodLink "RedactCheck$Area" (3 : Nat) ({ cls := "java/lang/Object", name := "<init>", desc := "()V" } : Jvm.MethodName)) ∈ x_tbl := x_in2 38 rfl rfl
theorem k_519 : (Cond.fieldLink "RedactCheck$Area" (9 : Nat) "RedactCheck$Area" "page" "I") ∈ x_tbl := x_in2 39 rfl rfl
theorem k_520 : (Cond.fieldLink "RedactCheck" (256 : Nat) "RedactCheck$Area" "page" "I") ∈ x_tbl := x_in2 40 rfl rfl
theorem k_521 : (Cond.fieldLink "RedactCheck$Area" (15 : Nat) "RedactCheck$Area" "x" "I") ∈ x_tbl := x_in2 41 rfl rfl
theorem k_522 : (Cond.fieldLink "RedactCheck$Area" (18 : Nat) "RedactCheck$Area" "y" "I") ∈ x_tbl := x_in2 42 rfl rfl
theorem k_523 : (Cond.fieldLink "RedactCheck$Area" (21 : Nat) "RedactCheck$Area" "wide" "I") ∈ x_tbl := x_in2 43 rfl rfl
theorem k_524 : (Cond.fieldLink "RedactCheck$Area" (24 : Nat) "RedactCheck$Area" "high" "I") ∈ x_tbl := x_in2 44 rfl rfl
theorem k_525 : (Cond.laysFinal "RedactCheck$Area" "RedactCheck$Area" "page" "I") ∈ x_tbl := x_in2 45 rfl rfl
theorem k_527 : (Cond.laysFinal "RedactCheck$Area" "RedactCheck$Area" "x" "I") ∈ x_tbl := x_in2 47 rfl rfl
theorem k_529 : (Cond.laysFinal "RedactCheck$Area" "RedactCheck$Area" "y" "I") ∈ x_tbl := x_in2 49 rfl rfl
theorem k_531 : (Cond.laysFinal "RedactCheck$Area" "RedactCheck$Area" "wide" "I") ∈ x_tbl := x_in2 51 rfl rfl
theorem k_533 : (Cond.laysFinal "RedactCheck$Area" "RedactCheck$Area" "high" "I") ∈ x_tbl := x_in2 53 rfl rfl
theorem k_535 : (Cond.superclass "RedactCheck$Area" "java/lang/Object") ∈ x_tbl := x_in2 55 rfl rfl
theorem k_536 : (Cond.methodLink "RedactCheckLaw" (101 : Nat) ({ cls := "RedactCheckLaw", name := "store", desc := "(LRedactCheck;I[J)I" } : Jvm.MethodName)) ∈ x_tbl := x_in2 56 rfl rfl
theorem k_537 : (Cond.static ({ cls := "RedactCheckLaw", name := "store", desc := "(LRedactCheck;I[J)I" } : Jvm.MethodName)) ∈ x_tbl := x_in2 57 rfl rfl
theorem k_538 : (Cond.codeWith ({ cls := "RedactCheckLaw", name := "store", desc := "(LRedactCheck;I[J)I" } : Jvm.MethodName) method_10_code (4 : Nat) (Option.some Jvm.ClassFile.FieldType.int) [((0 : Nat), (9 : Nat), (12 : Nat), (15 : Nat)), ((0 : Nat), (9 : Nat), (15 : Nat), (17 : Nat))]) ∈ x_tbl := x_in2 58 rfl rfl
theorem k_539 : (Cond.methodLink "RedactCheckLaw" (40 : Nat) ({ cls := "RedactCheck", name := "store", desc := "(I)I" } : Jvm.MethodName)) ∈ x_tbl := x_in2 59 rfl rfl
theorem k_540 : (Cond.instanceMethod ({ cls := "RedactCheck", name := "store", desc := "(I)I" } : Jvm.MethodName)) ∈ x_tbl := x_in2 60 rfl rfl
theorem k_541 : (Cond.selects "RedactCheck" ({ cls := "RedactCheck", name := "store", desc := "(I)I" } : Jvm.MethodName) ({ cls := "RedactCheck", name := "store", desc := "(I)I" } : Jvm.MethodName)) ∈ x_tbl := x_in2 61 rfl rfl
theorem k_542 : (Cond.code ({ cls := "RedactCheck", name := "store", desc := "(I)I" } : Jvm.MethodName) prog_1_method_9_code (2 : Nat) (Option.some Jvm.ClassFile.FieldType.int)) ∈ x_tbl := x_in2 62 rfl rfl
theorem k_543 : (Cond.methodLink "RedactCheck" (109 : Nat) ({ cls := "RedactCheck$Store", name := "<init>", desc := "(I)V" } : Jvm.MethodName)) ∈ x_tbl := x_in2 63 rfl rfl
theorem k_544 : (Cond.instanceMethod ({ cls := "RedactCheck$Store", name := "<init>", desc := "(I)V" } : Jvm.MethodName)) ∈ x_tbl := x_in2 64 rfl rfl
theorem k_545 : (Cond.code ({ cls := "RedactCheck$Store", name := "<init>", desc := "(I)V" } : Jvm.MethodName) prog_7_method_1_code (2 : Nat) (Option.none : Option Jvm.ClassFile.FieldType)) ∈ x_tbl := x_in2 65 rfl rfl
theorem k_546 : (Cond.methodLink "RedactCheck$Store" (3 : Nat) ({ cls := "java/lang/Object", name := "<init>", desc := "()V" } : Jvm.MethodName)) ∈ x_tbl := x_in2 66 rfl rfl
theorem k_547 : (Cond.fieldLink "RedactCheck$Store" (15 : Nat) "RedactCheck$Store" "encoding" "I") ∈ x_tbl := x_in2 67 rfl rfl
theorem k_548 : (Cond.fieldLink "RedactCheck" (235 : Nat) "RedactCheck$Store" "encoding" "I") ∈ x_tbl := x_in2 68 rfl rfl
theorem k_549 : (Cond.fieldLink "RedactCheck$Store" (19 : Nat) "RedactCheck$Store" "count" "I") ∈ x_tbl := x_in2 69 rfl rfl
theorem k_550 : (Cond.fieldLink "RedactCheck" (114 : Nat) "RedactCheck$Store" "count" "I") ∈ x_tbl := x_in2 70 rfl rfl
theorem k_551 : (Cond.fieldLink "RedactCheck$Store" (9 : Nat) "RedactCheck$Store" "bytes" "[B") ∈ x_tbl := x_in2 71 rfl rfl
theorem k_552 : (Cond.laysFinal "RedactCheck$Store" "RedactCheck$Store" "encoding" "I") ∈ x_tbl := x_in2 72 rfl rfl
theorem k_554 : (Cond.lays "RedactCheck$Store" "RedactCheck$Store" "count" "I") ∈ x_tbl := x_in2 74 rfl rfl
theorem k_556 : (Cond.laysFinal "RedactCheck$Store" "RedactCheck$Store" "bytes" "[B") ∈ x_tbl := x_in2 76 rfl rfl
theorem k_558 : (Cond.superclass "RedactCheck$Store" "java/lang/Object") ∈ x_tbl := x_in2 78 rfl rfl
theorem k_559 : (Cond.methodLink "RedactCheckLaw" (105 : Nat) ({ cls := "RedactCheckLaw", name := "octet", desc := "(LRedactCheck;IB[J)I" } : Jvm.MethodName)) ∈ x_tbl := x_in2 79 rfl rfl
theorem k_560 : (Cond.static ({ cls := "RedactCheckLaw", name := "octet", desc := "(LRedactCheck;IB[J)I" } : Jvm.MethodName)) ∈ x_tbl := x_in2 80 rfl rfl
theorem k_561 : (Cond.codeWith ({ cls := "RedactCheckLaw", name := "octet", desc := "(LRedactCheck;IB[J)I" } : Jvm.MethodName) method_11_code (5 : Nat) (Option.some Jvm.ClassFile.FieldType.int) [((0 : Nat), (10 : Nat), (13 : Nat), (13 : Nat)), ((0 : Nat), (10 : Nat), (17 : Nat), (17 : Nat))]) ∈ x_tbl := x_in2 81 rfl rfl
theorem k_562 : (Cond.methodLink "RedactCheckLaw" (44 : Nat) ({ cls := "RedactCheck", name := "octet", desc := "(IB)I" } : Jvm.MethodName)) ∈ x_tbl := x_in2 82 rfl rfl
theorem k_563 : (Cond.instanceMethod ({ cls := "RedactCheck", name := "octet", desc := "(IB)I" } : Jvm.MethodName)) ∈ x_tbl := x_in2 83 rfl rfl
theorem k_564 : (Cond.selects "RedactCheck" ({ cls := "RedactCheck", name := "octet", desc := "(IB)I" } : Jvm.MethodName) ({ cls := "RedactCheck", name := "octet", desc := "(IB)I" } : Jvm.MethodName)) ∈ x_tbl := x_in2 84 rfl rfl
theorem k_565 : (Cond.code ({ cls := "RedactCheck", name := "octet", desc := "(IB)I" } : Jvm.MethodName) prog_1_method_10_code (4 : Nat) (Option.some Jvm.ClassFile.FieldType.int)) ∈ x_tbl := x_in2 85 rfl rfl
theorem k_566 : (Cond.methodLink "RedactCheck" (110 : Nat) ({ cls := "RedactCheck", name := "storeOf", desc := "(I)LRedactCheck$Store;" } : Jvm.MethodName)) ∈ x_tbl := x_in2 86 rfl rfl
theorem k_568 : (Cond.instanceMethod ({ cls := "RedactCheck", name := "storeOf", desc := "(I)LRedactCheck$Store;" } : Jvm.MethodName)) ∈ x_tbl := x_in2 88 rfl rfl
theorem k_569 : (Cond.code ({ cls := "RedactCheck", name := "storeOf", desc := "(I)LRedactCheck$Store;" } : Jvm.MethodName) prog_1_method_24_code (2 : Nat) (Option.some (Jvm.ClassFile.FieldType.object "RedactCheck$Store"))) ∈ x_tbl := x_in2 89 rfl rfl
theorem k_570 : (Cond.stringRef "RedactCheck" (187 : Nat) "there is no such store") ∈ x_tbl := x_in2 90 rfl rfl
theorem k_571 : (Cond.methodLink "RedactCheck" (115 : Nat) ({ cls := "RedactCheck$Store", name := "add", desc := "(B)V" } : Jvm.MethodName)) ∈ x_tbl := x_in2 91 rfl rfl
theorem k_572 : (Cond.instanceMethod ({ cls := "RedactCheck$Store", name := "add", desc := "(B)V" } : Jvm.MethodName)) ∈ x_tbl := x_in2 92 rfl rfl
theorem k_573 : (Cond.selects "RedactCheck$Store" ({ cls := "RedactCheck$Store", name := "add", desc := "(B)V" } : Jvm.MethodName) ({ cls := "RedactCheck$Store", name := "add", desc := "(B)V" } : Jvm.MethodName)) ∈ x_tbl := x_in2 93 rfl rfl
theorem k_574 : (Cond.code ({ cls := "RedactCheck$Store", name := "add", desc := "(B)V" } : Jvm.MethodName) prog_7_method_2_code (2 : Nat) (Option.none : Option Jvm.ClassFile.FieldType)) ∈ x_tbl := x_in2 94 rfl rfl
theorem k_575 : (Cond.methodLink "RedactCheckLaw" (109 : Nat) ({ cls := "RedactCheckLaw", name := "black", desc := "(LRedactCheck;[J)I" } : Jvm.MethodName)) ∈ x_tbl := x_in2 95 rfl rfl
theorem k_576 : (Cond.static ({ cls := "RedactCheckLaw", name := "black", desc := "(LRedactCheck;[J)I" } : Jvm.MethodName)) ∈ x_tbl := x_in2 96 rfl rfl
theorem k_577 : (Cond.codeWith ({ cls := "RedactCheckLaw", name := "black", desc := "(LRedactCheck;[J)I" } : Jvm.MethodName) method_12_code (3 : Nat) (Option.some Jvm.ClassFile.FieldType.int) [((0 : Nat), (8 : Nat), (11 : Nat), (17 : Nat))]) ∈ x_tbl := x_in2 97 rfl rfl
theorem k_578 : (Cond.methodLink "RedactCheckLaw" (48 : Nat) ({ cls := "RedactCheck", name := "black", desc := "()I" } : Jvm.MethodName)) ∈ x_tbl := x_in2 98 rfl rfl
theorem k_579 : (Cond.instanceMethod ({ cls := "RedactCheck", name := "black", desc := "()I" } : Jvm.MethodName)) ∈ x_tbl := x_in2 99 rfl rfl
theorem k_580 : (Cond.selects "RedactCheck" ({ cls := "RedactCheck", name := "black", desc := "()I" } : Jvm.MethodName) ({ cls := "RedactCheck", name := "black", desc := "()I" } : Jvm.MethodName)) ∈ x_tbl := x_in2 100 rfl rfl
theorem k_581 : (Cond.code ({ cls := "RedactCheck", name := "black", desc := "()I" } : Jvm.MethodName) prog_1_method_11_code (1 : Nat) (Option.some Jvm.ClassFile.FieldType.int)) ∈ x_tbl := x_in2 101 rfl rfl
theorem k_582 : (Cond.methodLink "RedactCheck" (118 : Nat) ({ cls := "RedactCheck", name := "markUses", desc := "()I" } : Jvm.MethodName)) ∈ x_tbl := x_in2 102 rfl rfl
theorem k_584 : (Cond.instanceMethod ({ cls := "RedactCheck", name := "markUses", desc := "()I" } : Jvm.MethodName)) ∈ x_tbl := x_in2 104 rfl rfl
theorem k_585 : (Cond.code ({ cls := "RedactCheck", name := "markUses", desc := "()I" } : Jvm.MethodName) prog_1_method_26_code (4 : Nat) (Option.some Jvm.ClassFile.FieldType.int)) ∈ x_tbl := x_in2 105 rfl rfl
theorem k_586 : (Cond.methodLink "RedactCheck" (201 : Nat) ({ cls := "RedactCheck", name := "marksOf", desc := "(LRedactCheck$SignRow;III)J" } : Jvm.MethodName)) ∈ x_tbl := x_in2 106 rfl rfl
theorem k_588 : (Cond.instanceMethod ({ cls := "RedactCheck", name := "marksOf", desc := "(LRedactCheck$SignRow;III)J" } : Jvm.MethodName)) ∈ x_tbl := x_in2 108 rfl rfl
theorem k_589 : (Cond.code ({ cls := "RedactCheck", name := "marksOf", desc := "(LRedactCheck$SignRow;III)J" } : Jvm.MethodName) prog_1_method_32_code (5 : Nat) (Option.some Jvm.ClassFile.FieldType.long)) ∈ x_tbl := x_in2 109 rfl rfl
theorem k_590 : (Cond.methodLink "RedactCheck" (241 : Nat) ({ cls := "RedactCheck", name := "marksOfWords", desc := "()J" } : Jvm.MethodName)) ∈ x_tbl := x_in2 110 rfl rfl
theorem k_592 : (Cond.instanceMethod ({ cls := "RedactCheck", name := "marksOfWords", desc := "()J" } : Jvm.MethodName)) ∈ x_tbl := x_in2 112 rfl rfl
theorem k_593 : (Cond.code ({ cls := "RedactCheck", name := "marksOfWords", desc := "()J" } : Jvm.MethodName) prog_1_method_35_code (6 : Nat) (Option.some Jvm.ClassFile.FieldType.long)) ∈ x_tbl := x_in2 113 rfl rfl
theorem k_594 : (Cond.methodLink "RedactCheck" (249 : Nat) ({ cls := "RedactCheck", name := "marksOfAreas", desc := "(LRedactCheck$SignRow;III)J" } : Jvm.MethodName)) ∈ x_tbl := x_in2 114 rfl rfl
theorem k_596 : (Cond.instanceMethod ({ cls := "RedactCheck", name := "marksOfAreas", desc := "(LRedactCheck$SignRow;III)J" } : Jvm.MethodName)) ∈ x_tbl := x_in2 116 rfl rfl
theorem k_597 : (Cond.code ({ cls := "RedactCheck", name := "marksOfAreas", desc := "(LRedactCheck$SignRow;III)J" } : Jvm.MethodName) prog_1_method_33_code (8 : Nat) (Option.some Jvm.ClassFile.FieldType.long)) ∈ x_tbl := x_in2 117 rfl rfl
theorem k_598 : (Cond.methodLink "RedactCheck" (162 : Nat) ({ cls := "RedactCheck$SignRow", name := "part", desc := "(II)I" } : Jvm.MethodName)) ∈ x_tbl := x_in2 118 rfl rfl
theorem k_599 : (Cond.methodLink "RedactCheck" (252 : Nat) ({ cls := "RedactCheck", name := "isInArea", desc := "(IIII)Z" } : Jvm.MethodName)) ∈ x_tbl := x_in2 119 rfl rfl
theorem k_601 : (Cond.instanceMethod ({ cls := "RedactCheck", name := "isInArea", desc := "(IIII)Z" } : Jvm.MethodName)) ∈ x_tbl := x_in2 121 rfl rfl
theorem k_602 : (Cond.code ({ cls := "RedactCheck", name := "isInArea", desc := "(IIII)Z" } : Jvm.MethodName) prog_1_method_34_code (7 : Nat) (Option.some Jvm.ClassFile.FieldType.boolean)) ∈ x_tbl := x_in2 122 rfl rfl
theorem k_603 : (Cond.methodLink "RedactCheck" (257 : Nat) ({ cls := "RedactCheck$Area", name := "touches", desc := "(III)Z" } : Jvm.MethodName)) ∈ x_tbl := x_in2 123 rfl rfl
theorem k_604 : (Cond.instanceMethod ({ cls := "RedactCheck$Area", name := "touches", desc := "(III)Z" } : Jvm.MethodName)) ∈ x_tbl := x_in2 124 rfl rfl
theorem k_605 : (Cond.selects "RedactCheck$Area" ({ cls := "RedactCheck$Area", name := "touches", desc := "(III)Z" } : Jvm.MethodName) ({ cls := "RedactCheck$Area", name := "touches", desc := "(III)Z" } : Jvm.MethodName)) ∈ x_tbl := x_in2 125 rfl rfl
theorem k_606 : (Cond.code ({ cls := "RedactCheck$Area", name := "touches", desc := "(III)Z" } : Jvm.MethodName) prog_2_method_2_code (4 : Nat) (Option.some Jvm.ClassFile.FieldType.boolean)) ∈ x_tbl := x_in2 126 rfl rfl
theorem k_607 : (Cond.methodLink "RedactCheck" (209 : Nat) ({ cls := "RedactCheck", name := "twinOf", desc := "(LRedactCheck$Use;I)LRedactCheck$Use;" } : Jvm.MethodName)) ∈ x_tbl := x_in2 127 rfl rfl
theorem k_609 : (Cond.instanceMethod ({ cls := "RedactCheck", name := "twinOf", desc := "(LRedactCheck$Use;I)LRedactCheck$Use;" } : Jvm.MethodName)) ∈ x_tbl := x_in2 129 rfl rfl
theorem k_610 : (Cond.code ({ cls := "RedactCheck", name := "twinOf", desc := "(LRedactCheck$Use;I)LRedactCheck$Use;" } : Jvm.MethodName) prog_1_method_27_code (5 : Nat) (Option.some (Jvm.ClassFile.FieldType.object "RedactCheck$Use"))) ∈ x_tbl := x_in2 130 rfl rfl
theorem k_611 : (Cond.stringRef "RedactCheck" (123 : Nat) "there would be too many forms") ∈ x_tbl := x_in2 131 rfl rfl
theorem k_612 : (Cond.methodLink "RedactCheck" (126 : Nat) ({ cls := "RedactCheck", name := "cutPages", desc := "()I" } : Jvm.MethodName)) ∈ x_tbl := x_in2 132 rfl rfl
theorem k_614 : (Cond.instanceMethod ({ cls := "RedactCheck", name := "cutPages", desc := "()I" } : Jvm.MethodName)) ∈ x_tbl := x_in2 134 rfl rfl
theorem k_615 : (Cond.code ({ cls := "RedactCheck", name := "cutPages", desc := "()I" } : Jvm.MethodName) prog_1_method_28_code (6 : Nat) (Option.some Jvm.ClassFile.FieldType.int)) ∈ x_tbl := x_in2 135 rfl rfl
theorem k_616 : (Cond.methodLink "RedactCheck" (217 : Nat) ({ cls := "RedactCheck$SignRow", name := "cut", desc := "(J)V" } : Jvm.MethodName)) ∈ x_tbl := x_in2 136 rfl rfl
theorem k_617 : (Cond.sameMethod "RedactCheck$SignRow" "RedactCheck$Row" "cut" "(J)V") ∈ x_tbl := x_in2 137 rfl rfl
theorem k_618 : (Cond.declares ({ cls := "RedactCheck$Row", name := "cut", desc := "(J)V" } : Jvm.MethodName)) ∈ x_tbl := x_in2 138 rfl rfl
theorem k_619 : (Cond.selects "RedactCheck$SignRow" ({ cls := "RedactCheck$SignRow", name := "cut", desc := "(J)V" } : Jvm.MethodName) ({ cls := "RedactCheck$Row", name := "cut", desc := "(J)V" } : Jvm.MethodName)) ∈ x_tbl := x_in2 139 rfl rfl
theorem k_620 : (Cond.instanceMethod ({ cls := "RedactCheck$Row", name := "cut", desc := "(J)V" } : Jvm.MethodName)) ∈ x_tbl := x_in2 140 rfl rfl
theorem k_621 : (Cond.code ({ cls := "RedactCheck$Row", name := "cut", desc := "(J)V" } : Jvm.MethodName) prog_5_method_4_code (7 : Nat) (Option.none : Option Jvm.ClassFile.FieldType)) ∈ x_tbl := x_in2 141 rfl rfl
theorem k_622 : (Cond.methodLink "RedactCheck$Row" (13 : Nat) ({ cls := "RedactCheck$Row", name := "keep", desc := "(II)V" } : Jvm.MethodName)) ∈ x_tbl := x_in2 142 rfl rfl
theorem k_623 : (Cond.declares ({ cls := "RedactCheck$Row", name := "keep", desc := "(II)V" } : Jvm.MethodName)) ∈ x_tbl := x_in2 143 rfl rfl
theorem k_624 : (Cond.sameMethod "RedactCheck$Row" "RedactCheck$Row" "keep" "(II)V") ∈ x_tbl := x_in2 144 rfl rfl
theorem k_625 : (Cond.selects "RedactCheck$Codes" ({ cls := "RedactCheck$Row", name := "keep", desc := "(II)V" } : Jvm.MethodName) ({ cls := "RedactCheck$Codes", name := "keep", desc := "(II)V" } : Jvm.MethodName)) ∈ x_tbl := x_in2 145 rfl rfl
theorem k_626 : (Cond.instanceMethod ({ cls := "RedactCheck$Codes", name := "keep", desc := "(II)V" } : Jvm.MethodName)) ∈ x_tbl := x_in2 146 rfl rfl
theorem k_627 : (Cond.code ({ cls := "RedactCheck$Codes", name := "keep", desc := "(II)V" } : Jvm.MethodName) prog_3_method_4_code (3 : Nat) (Option.none : Option Jvm.ClassFile.FieldType)) ∈ x_tbl := x_in2 147 rfl rfl
theorem k_628 : (Cond.methodLink "RedactCheck$Codes" (19 : Nat) ({ cls := "RedactCheck$Codes", name := "value", desc := "(I)I" } : Jvm.MethodName)) ∈ x_tbl := x_in2 148 rfl rfl
theorem k_629 : (Cond.methodLink "RedactCheck$Codes" (23 : Nat) ({ cls := "RedactCheck$Codes", name := "put", desc := "(II)V" } : Jvm.MethodName)) ∈ x_tbl := x_in2 149 rfl rfl
theorem k_631 : (Cond.instanceMethod ({ cls := "RedactCheck$Codes", name := "put", desc := "(II)V" } : Jvm.MethodName)) ∈ x_tbl := x_in2 151 rfl rfl
theorem k_632 : (Cond.code ({ cls := "RedactCheck$Codes", name := "put", desc := "(II)V" } : Jvm.MethodName) prog_3_method_6_code (3 : Nat) (Option.none : Option Jvm.ClassFile.FieldType)) ∈ x_tbl := x_in2 152 rfl rfl
theorem k_633 : (Cond.selects "RedactCheck$SignRow" ({ cls := "RedactCheck$Row", name := "keep", desc := "(II)V" } : Jvm.MethodName) ({ cls := "RedactCheck$SignRow", name := "keep", desc := "(II)V" } : Jvm.MethodName)) ∈ x_tbl := x_in2 153 rfl rfl
theorem k_634 : (Cond.instanceMethod ({ cls := "RedactCheck$SignRow", name := "keep", desc := "(II)V" } : Jvm.MethodName)) ∈ x_tbl := x_in2 154 rfl rfl
theorem k_635 : (Cond.code ({ cls := "RedactCheck$SignRow", name := "keep", desc := "(II)V" } : Jvm.MethodName) prog_6_method_6_code (3 : Nat) (Option.none : Option Jvm.ClassFile.FieldType)) ∈ x_tbl := x_in2 155 rfl rfl
theorem k_636 : (Cond.methodLink "RedactCheck$Row" (17 : Nat) ({ cls := "RedactCheck$Row", name := "blot", desc := "(II)V" } : Jvm.MethodName)) ∈ x_tbl := x_in2 156 rfl rfl
theorem k_637 : (Cond.declares ({ cls := "RedactCheck$Row", name := "blot", desc := "(II)V" } : Jvm.MethodName)) ∈ x_tbl := x_in2 157 rfl rfl
theorem k_638 : (Cond.sameMethod "RedactCheck$Row" "RedactCheck$Row" "blot" "(II)V") ∈ x_tbl := x_in2 158 rfl rfl
theorem k_639 : (Cond.selects "RedactCheck$Codes" ({ cls := "RedactCheck$Row", name := "blot", desc := "(II)V" } : Jvm.MethodName) ({ cls := "RedactCheck$Codes", name := "blot", desc := "(II)V" } : Jvm.MethodName)) ∈ x_tbl := x_in2 159 rfl rfl
theorem k_640 : (Cond.instanceMethod ({ cls := "RedactCheck$Codes", name := "blot", desc := "(II)V" } : Jvm.MethodName)) ∈ x_tbl := x_in2 160 rfl rfl
theorem k_641 : (Cond.code ({ cls := "RedactCheck$Codes", name := "blot", desc := "(II)V" } : Jvm.MethodName) prog_3_method_5_code (3 : Nat) (Option.none : Option Jvm.ClassFile.FieldType)) ∈ x_tbl := x_in2 161 rfl rfl
theorem k_642 : (Cond.selects "RedactCheck$SignRow" ({ cls := "RedactCheck$Row", name := "blot", desc := "(II)V" } : Jvm.MethodName) ({ cls := "RedactCheck$SignRow", name := "blot", desc := "(II)V" } : Jvm.MethodName)) ∈ x_tbl := x_in2 162 rfl rfl
theorem k_643 : (Cond.instanceMethod ({ cls := "RedactCheck$SignRow", name := "blot", desc := "(II)V" } : Jvm.MethodName)) ∈ x_tbl := x_in2 163 rfl rfl
theorem k_644 : (Cond.code ({ cls := "RedactCheck$SignRow", name := "blot", desc := "(II)V" } : Jvm.MethodName) prog_6_method_7_code (3 : Nat) (Option.none : Option Jvm.ClassFile.FieldType)) ∈ x_tbl := x_in2 164 rfl rfl
theorem k_645 : (Cond.methodLink "RedactCheck" (221 : Nat) ({ cls := "java/lang/Long", name := "bitCount", desc := "(J)I" } : Jvm.MethodName)) ∈ x_tbl := x_in2 165 rfl rfl
theorem k_646 : (Cond.static ({ cls := "java/lang/Long", name := "bitCount", desc := "(J)I" } : Jvm.MethodName)) ∈ x_tbl := x_in2 166 rfl rfl
theorem k_647 : (Cond.code ({ cls := "java/lang/Long", name := "bitCount", desc := "(J)I" } : Jvm.MethodName) prog_18_method_50_code (2 : Nat) (Option.some Jvm.ClassFile.FieldType.int)) ∈ x_tbl := x_in2 167 rfl rfl
theorem k_648 : (Cond.constantLong "java/lang/Long" (314 : Nat) (6148914691236517205 : Int64)) ∈ x_tbl := x_in2 168 rfl rfl
theorem k_649 : (Cond.constantLong "java/lang/Long" (316 : Nat) (3689348814741910323 : Int64)) ∈ x_tbl := x_in2 169 rfl rfl
theorem k_650 : (Cond.constantLong "java/lang/Long" (318 : Nat) (1085102592571150095 : Int64)) ∈ x_tbl := x_in2 170 rfl rfl
theorem k_651 : (Cond.methodLink "RedactCheck" (129 : Nat) ({ cls := "RedactCheck", name := "cutUses", desc := "()I" } : Jvm.MethodName)) ∈ x_tbl := x_in2 171 rfl rfl
theorem k_653 : (Cond.instanceMethod ({ cls := "RedactCheck", name := "cutUses", desc := "()I" } : Jvm.MethodName)) ∈ x_tbl := x_in2 173 rfl rfl
theorem k_654 : (Cond.code ({ cls := "RedactCheck", name := "cutUses", desc := "()I" } : Jvm.MethodName) prog_1_method_29_code (4 : Nat) (Option.some Jvm.ClassFile.FieldType.int)) ∈ x_tbl := x_in2 174 rfl rfl
theorem k_655 : (Cond.methodLink "RedactCheck" (227 : Nat) ({ cls := "RedactCheck", name := "addCutCopy", desc := "(LRedactCheck$SignRow;J)LRedactCheck$SignRow;" } : Jvm.MethodName)) ∈ x_tbl := x_in2 175 rfl rfl
theorem k_657 : (Cond.instanceMethod ({ cls := "RedactCheck", name := "addCutCopy", desc := "(LRedactCheck$SignRow;J)LRedactCheck$SignRow;" } : Jvm.MethodName)) ∈ x_tbl := x_in2 177 rfl rfl
theorem k_658 : (Cond.code ({ cls := "RedactCheck", name := "addCutCopy", desc := "(LRedactCheck$SignRow;J)LRedactCheck$SignRow;" } : Jvm.MethodName) prog_1_method_30_code (5 : Nat) (Option.some (Jvm.ClassFile.FieldType.object "RedactCheck$SignRow"))) ∈ x_tbl := x_in2 178 rfl rfl
theorem k_659 : (Cond.methodLink "RedactCheck" (231 : Nat) ({ cls := "RedactCheck$SignRow", name := "copyNumbered", desc := "(I)LRedactCheck$SignRow;" } : Jvm.MethodName)) ∈ x_tbl := x_in2 179 rfl rfl
theorem k_660 : (Cond.instanceMethod ({ cls := "RedactCheck$SignRow", name := "copyNumbered", desc := "(I)LRedactCheck$SignRow;" } : Jvm.MethodName)) ∈ x_tbl := x_in2 180 rfl rfl
theorem k_661 : (Cond.selects "RedactCheck$SignRow" ({ cls := "RedactCheck$SignRow", name := "copyNumbered", desc := "(I)LRedactCheck$SignRow;" } : Jvm.MethodName) ({ cls := "RedactCheck$SignRow", name := "copyNumbered", desc := "(I)LRedactCheck$SignRow;" } : Jvm.MethodName)) ∈ x_tbl := x_in2 181 rfl rfl
theorem k_662 : (Cond.code ({ cls := "RedactCheck$SignRow", name := "copyNumbered", desc := "(I)LRedactCheck$SignRow;" } : Jvm.MethodName) prog_6_method_5_code (4 : Nat) (Option.some (Jvm.ClassFile.FieldType.object "RedactCheck$SignRow"))) ∈ x_tbl := x_in2 182 rfl rfl
theorem k_663 : (Cond.classLink "RedactCheck$SignRow" (10 : Nat) "RedactCheck$SignRow") ∈ x_tbl := x_in2 183 rfl rfl
theorem k_664 : (Cond.methodLink "RedactCheck$SignRow" (37 : Nat) ({ cls := "RedactCheck$SignRow", name := "<init>", desc := "(I)V" } : Jvm.MethodName)) ∈ x_tbl := x_in2 184 rfl rfl
theorem k_665 : (Cond.methodLink "RedactCheck$SignRow" (39 : Nat) ({ cls := "RedactCheck$SignRow", name := "add", desc := "(IIII)V" } : Jvm.MethodName)) ∈ x_tbl := x_in2 185 rfl rfl
theorem k_666 : (Cond.methodLink "RedactCheck" (132 : Nat) ({ cls := "RedactCheck", name := "cutStores", desc := "()I" } : Jvm.MethodName)) ∈ x_tbl := x_in2 186 rfl rfl
theorem k_668 : (Cond.instanceMethod ({ cls := "RedactCheck", name := "cutStores", desc := "()I" } : Jvm.MethodName)) ∈ x_tbl := x_in2 188 rfl rfl
theorem k_669 : (Cond.code ({ cls := "RedactCheck", name := "cutStores", desc := "()I" } : Jvm.MethodName) prog_1_method_31_code (6 : Nat) (Option.some Jvm.ClassFile.FieldType.int)) ∈ x_tbl := x_in2 189 rfl rfl
theorem k_670 : (Cond.methodLink "RedactCheck" (245 : Nat) ({ cls := "RedactCheck$Codes", name := "cut", desc := "(J)V" } : Jvm.MethodName)) ∈ x_tbl := x_in2 190 rfl rfl
theorem k_671 : (Cond.sameMethod "RedactCheck$Codes" "RedactCheck$Row" "cut" "(J)V") ∈ x_tbl := x_in2 191 rfl rfl
theorem k_672 : (Cond.selects "RedactCheck$Codes" ({ cls := "RedactCheck$Codes", name := "cut", desc := "(J)V" } : Jvm.MethodName) ({ cls := "RedactCheck$Row", name := "cut", desc := "(J)V" } : Jvm.MethodName)) ∈ x_tbl := x_in2 192 rfl rfl
theorem k_673 : (Cond.methodLink "RedactCheck" (246 : Nat) ({ cls := "RedactCheck$Store", name := "write", desc := "(LRedactCheck$Codes;)V" } : Jvm.MethodName)) ∈ x_tbl := x_in2 193 rfl rfl
theorem k_674 : (Cond.instanceMethod ({ cls := "RedactCheck$Store", name := "write", desc := "(LRedactCheck$Codes;)V" } : Jvm.MethodName)) ∈ x_tbl := x_in2 194 rfl rfl
theorem k_675 : (Cond.selects "RedactCheck$Store" ({ cls := "RedactCheck$Store", name := "write", desc := "(LRedactCheck$Codes;)V" } : Jvm.MethodName) ({ cls := "RedactCheck$Store", name := "write", desc := "(LRedactCheck$Codes;)V" } : Jvm.MethodName)) ∈ x_tbl := x_in2 195 rfl rfl
theorem k_676 : (Cond.code ({ cls := "RedactCheck$Store", name := "write", desc := "(LRedactCheck$Codes;)V" } : Jvm.MethodName) prog_7_method_5_code (3 : Nat) (Option.none : Option Jvm.ClassFile.FieldType)) ∈ x_tbl := x_in2 196 rfl rfl
theorem k_677 : (Cond.methodLink "RedactCheck$Store" (37 : Nat) ({ cls := "RedactCheck$Codes", name := "value", desc := "(I)I" } : Jvm.MethodName)) ∈ x_tbl := x_in2 197 rfl rfl
theorem k_678 : (Cond.methodLink "RedactCheck$Store" (40 : Nat) ({ cls := "RedactCheck$Store", name := "writeCode", desc := "(I)V" } : Jvm.MethodName)) ∈ x_tbl := x_in2 198 rfl rfl
theorem k_680 : (Cond.instanceMethod ({ cls := "RedactCheck$Store", name := "writeCode", desc := "(I)V" } : Jvm.MethodName)) ∈ x_tbl := x_in2 200 rfl rfl
theorem k_681 : (Cond.code ({ cls := "RedactCheck$Store", name := "writeCode", desc := "(I)V" } : Jvm.MethodName) prog_7_method_6_code (2 : Nat) (Option.none : Option Jvm.ClassFile.FieldType)) ∈ x_tbl := x_in2 201 rfl rfl
theorem k_682 : (Cond.methodLink "RedactCheck$Store" (43 : Nat) ({ cls := "RedactCheck$Store", name := "add", desc := "(B)V" } : Jvm.MethodName)) ∈ x_tbl := x_in2 202 rfl rfl
theorem k_683 : (Cond.methodLink "RedactCheck$Store" (46 : Nat) ({ cls := "RedactCheck$Store", name := "digitOf", desc := "(I)B" } : Jvm.MethodName)) ∈ x_tbl := x_in2 203 rfl rfl
theorem k_684 : (Cond.static ({ cls := "RedactCheck$Store", name := "digitOf", desc := "(I)B" } : Jvm.MethodName)) ∈ x_tbl := x_in2 204 rfl rfl
theorem k_685 : (Cond.code ({ cls := "RedactCheck$Store", name := "digitOf", desc := "(I)B" } : Jvm.MethodName) prog_7_method_10_code (1 : Nat) (Option.some Jvm.ClassFile.FieldType.byte)) ∈ x_tbl := x_in2 205 rfl rfl
theorem k_686 : (Cond.methodLink "RedactCheckLaw" (116 : Nat) ({ cls := "RedactCheckLaw", name := "left", desc := "(LRedactCheck;II[J)I" } : Jvm.MethodName)) ∈ x_tbl := x_in2 206 rfl rfl
theorem k_687 : (Cond.static ({ cls := "RedactCheckLaw", name := "left", desc := "(LRedactCheck;II[J)I" } : Jvm.MethodName)) ∈ x_tbl := x_in2 207 rfl rfl
theorem k_688 : (Cond.codeWith ({ cls := "RedactCheckLaw", name := "left", desc := "(LRedactCheck;II[J)I" } : Jvm.MethodName) method_13_code (5 : Nat) (Option.some Jvm.ClassFile.FieldType.int) [((0 : Nat), (10 : Nat), (13 : Nat), (13 : Nat))]) ∈ x_tbl := x_in2 208 rfl rfl
theorem k_689 : (Cond.methodLink "RedactCheckLaw" (51 : Nat) ({ cls := "RedactCheck", name := "left", desc := "(II)I" } : Jvm.MethodName)) ∈ x_tbl := x_in2 209 rfl rfl
theorem k_690 : (Cond.instanceMethod ({ cls := "RedactCheck", name := "left", desc := "(II)I" } : Jvm.MethodName)) ∈ x_tbl := x_in2 210 rfl rfl
theorem k_691 : (Cond.selects "RedactCheck" ({ cls := "RedactCheck", name := "left", desc := "(II)I" } : Jvm.MethodName) ({ cls := "RedactCheck", name := "left", desc := "(II)I" } : Jvm.MethodName)) ∈ x_tbl := x_in2 211 rfl rfl
theorem k_692 : (Cond.code ({ cls := "RedactCheck", name := "left", desc := "(II)I" } : Jvm.MethodName) prog_1_method_13_code (3 : Nat) (Option.some Jvm.ClassFile.FieldType.int)) ∈ x_tbl := x_in2 212 rfl rfl
theorem k_693 : (Cond.methodLink "RedactCheck" (157 : Nat) ({ cls := "RedactCheck$Findings", name := "part", desc := "(II)I" } : Jvm.MethodName)) ∈ x_tbl := x_in2 213 rfl rfl
theorem k_694 : (Cond.instanceMethod ({ cls := "RedactCheck$Findings", name := "part", desc := "(II)I" } : Jvm.MethodName)) ∈ x_tbl := x_in2 214 rfl rfl
theorem k_695 : (Cond.selects "RedactCheck$Findings" ({ cls := "RedactCheck$Findings", name := "part", desc := "(II)I" } : Jvm.MethodName) ({ cls := "RedactCheck$Findings", name := "part", desc := "(II)I" } : Jvm.MethodName)) ∈ x_tbl := x_in2 215 rfl rfl
theorem k_696 : (Cond.code ({ cls := "RedactCheck$Findings", name := "part", desc := "(II)I" } : Jvm.MethodName) prog_4_method_4_code (3 : Nat) (Option.some Jvm.ClassFile.FieldType.int)) ∈ x_tbl := x_in2 216 rfl rfl
theorem k_697 : (Cond.methodLink "RedactCheckLaw" (119 : Nat) ({ cls := "RedactCheckLaw", name := "at", desc := "(LRedactCheck;IIII[J)I" } : Jvm.MethodName)) ∈ x_tbl := x_in2 217 rfl rfl
theorem k_698 : (Cond.static ({ cls := "RedactCheckLaw", name := "at", desc := "(LRedactCheck;IIII[J)I" } : Jvm.MethodName)) ∈ x_tbl := x_in2 218 rfl rfl
theorem k_699 : (Cond.codeWith ({ cls := "RedactCheckLaw", name := "at", desc := "(LRedactCheck;IIII[J)I" } : Jvm.MethodName) method_14_code (7 : Nat) (Option.some Jvm.ClassFile.FieldType.int) [((0 : Nat), (14 : Nat), (17 : Nat), (13 : Nat))]) ∈ x_tbl := x_in2 219 rfl rfl
theorem k_700 : (Cond.methodLink "RedactCheckLaw" (54 : Nat) ({ cls := "RedactCheck", name := "at", desc := "(IIII)I" } : Jvm.MethodName)) ∈ x_tbl := x_in2 220 rfl rfl
theorem k_701 : (Cond.instanceMethod ({ cls := "RedactCheck", name := "at", desc := "(IIII)I" } : Jvm.MethodName)) ∈ x_tbl := x_in2 221 rfl rfl
theorem k_702 : (Cond.selects "RedactCheck" ({ cls := "RedactCheck", name := "at", desc := "(IIII)I" } : Jvm.MethodName) ({ cls := "RedactCheck", name := "at", desc := "(IIII)I" } : Jvm.MethodName)) ∈ x_tbl := x_in2 222 rfl rfl
theorem k_703 : (Cond.code ({ cls := "RedactCheck", name := "at", desc := "(IIII)I" } : Jvm.MethodName) prog_1_method_14_code (6 : Nat) (Option.some Jvm.ClassFile.FieldType.int)) ∈ x_tbl := x_in2 223 rfl rfl
theorem k_704 : (Cond.methodLink "RedactCheckLaw" (122 : Nat) ({ cls := "RedactCheckLaw", name := "byteOf", desc := "(LRedactCheck;II[J)I" } : Jvm.MethodName)) ∈ x_tbl := x_in2 224 rfl rfl
theorem k_705 : (Cond.static ({ cls := "RedactCheckLaw", name := "byteOf", desc := "(LRedactCheck;II[J)I" } : Jvm.MethodName)) ∈ x_tbl := x_in2 225 rfl rfl
theorem k_706 : (Cond.codeWith ({ cls := "RedactCheckLaw", name := "byteOf", desc := "(LRedactCheck;II[J)I" } : Jvm.MethodName) method_15_code (5 : Nat) (Option.some Jvm.ClassFile.FieldType.int) [((0 : Nat), (10 : Nat), (13 : Nat), (13 : Nat))]) ∈ x_tbl := x_in2 226 rfl rfl
theorem k_707 : (Cond.methodLink "RedactCheckLaw" (57 : Nat) ({ cls := "RedactCheck", name := "byteOf", desc := "(II)B" } : Jvm.MethodName)) ∈ x_tbl := x_in2 227 rfl rfl
theorem k_708 : (Cond.instanceMethod ({ cls := "RedactCheck", name := "byteOf", desc := "(II)B" } : Jvm.MethodName)) ∈ x_tbl := x_in2 228 rfl rfl
theorem k_709 : (Cond.selects "RedactCheck" ({ cls := "RedactCheck", name := "byteOf", desc := "(II)B" } : Jvm.MethodName) ({ cls := "RedactCheck", name := "byteOf", desc := "(II)B" } : Jvm.MethodName)) ∈ x_tbl := x_in2 229 rfl rfl
theorem k_710 : (Cond.code ({ cls := "RedactCheck", name := "byteOf", desc := "(II)B" } : Jvm.MethodName) prog_1_method_15_code (4 : Nat) (Option.some Jvm.ClassFile.FieldType.byte)) ∈ x_tbl := x_in2 230 rfl rfl
theorem k_711 : (Cond.methodLink "RedactCheck" (163 : Nat) ({ cls := "RedactCheck$Store", name := "value", desc := "(I)B" } : Jvm.MethodName)) ∈ x_tbl := x_in2 231 rfl rfl
theorem k_712 : (Cond.methodLink "RedactCheckLaw" (125 : Nat) ({ cls := "RedactCheckLaw", name := "formOf", desc := "(LRedactCheck;I[J)I" } : Jvm.MethodName)) ∈ x_tbl := x_in2 232 rfl rfl
theorem k_713 : (Cond.static ({ cls := "RedactCheckLaw", name := "formOf", desc := "(LRedactCheck;I[J)I" } : Jvm.MethodName)) ∈ x_tbl := x_in2 233 rfl rfl
theorem k_714 : (Cond.codeWith ({ cls := "RedactCheckLaw", name := "formOf", desc := "(LRedactCheck;I[J)I" } : Jvm.MethodName) method_16_code (4 : Nat) (Option.some Jvm.ClassFile.FieldType.int) [((0 : Nat), (9 : Nat), (12 : Nat), (13 : Nat))]) ∈ x_tbl := x_in2 234 rfl rfl
theorem k_715 : (Cond.methodLink "RedactCheckLaw" (61 : Nat) ({ cls := "RedactCheck", name := "formOf", desc := "(I)I" } : Jvm.MethodName)) ∈ x_tbl := x_in2 235 rfl rfl
theorem k_716 : (Cond.instanceMethod ({ cls := "RedactCheck", name := "formOf", desc := "(I)I" } : Jvm.MethodName)) ∈ x_tbl := x_in2 236 rfl rfl
theorem k_717 : (Cond.selects "RedactCheck" ({ cls := "RedactCheck", name := "formOf", desc := "(I)I" } : Jvm.MethodName) ({ cls := "RedactCheck", name := "formOf", desc := "(I)I" } : Jvm.MethodName)) ∈ x_tbl := x_in2 237 rfl rfl
theorem k_718 : (Cond.code ({ cls := "RedactCheck", name := "formOf", desc := "(I)I" } : Jvm.MethodName) prog_1_method_16_code (2 : Nat) (Option.some Jvm.ClassFile.FieldType.int)) ∈ x_tbl := x_in2 238 rfl rfl
theorem k_719 : (Cond.stringRef "RedactCheck" (169 : Nat) "there is no such use") ∈ x_tbl := x_in2 239 rfl rfl
theorem k_720 : (Cond.methodLink "RedactCheckLaw" (128 : Nat) ({ cls := "RedactCheckLaw", name := "many", desc := "(LRedactCheck;II[J)I" } : Jvm.MethodName)) ∈ x_tbl := x_in3 0 rfl rfl
theorem k_721 : (Cond.static ({ cls := "RedactCheckLaw", name := "many", desc := "(LRedactCheck;II[J)I" } : Jvm.MethodName)) ∈ x_tbl := x_in3 1 rfl rfl
theorem k_722 : (Cond.codeWith ({ cls := "RedactCheckLaw", name := "many", desc := "(LRedactCheck;II[J)I" } : Jvm.MethodName) method_17_code (5 : Nat) (Option.some Jvm.ClassFile.FieldType.int) [((0 : Nat), (10 : Nat), (13 : Nat), (13 : Nat))]) ∈ x_tbl := x_in3 2 rfl rfl
theorem k_723 : (Cond.methodLink "RedactCheckLaw" (64 : Nat) ({ cls := "RedactCheck", name := "many", desc := "(II)I" } : Jvm.MethodName)) ∈ x_tbl := x_in3 3 rfl rfl
theorem k_724 : (Cond.instanceMethod ({ cls := "RedactCheck", name := "many", desc := "(II)I" } : Jvm.MethodName)) ∈ x_tbl := x_in3 4 rfl rfl
theorem k_725 : (Cond.selects "RedactCheck" ({ cls := "RedactCheck", name := "many", desc := "(II)I" } : Jvm.MethodName) ({ cls := "RedactCheck", name := "many", desc := "(II)I" } : Jvm.MethodName)) ∈ x_tbl := x_in3 5 rfl rfl
theorem k_726 : (Cond.code ({ cls := "RedactCheck", name := "many", desc := "(II)I" } : Jvm.MethodName) prog_1_method_17_code (3 : Nat) (Option.some Jvm.ClassFile.FieldType.int)) ∈ x_tbl := x_in3 6 rfl rfl
theorem k_727 : (Cond.stringRef "RedactCheck" (175 : Nat) "nothing of that kind is counted") ∈ x_tbl := x_in3 7 rfl rfl
theorem k_728 : (Cond.classLink "RedactCheckLaw" (68 : Nat) "RedactCheckModel") ∈ x_tbl := x_in3 8 rfl rfl
theorem k_729 : (Cond.instantiable "RedactCheckModel" (32 : Nat)) ∈ x_tbl := x_in3 9 rfl rfl
theorem k_730 : (Cond.methodLink "RedactCheckLaw" (70 : Nat) ({ cls := "RedactCheckModel", name := "<init>", desc := "()V" } : Jvm.MethodName)) ∈ x_tbl := x_in3 10 rfl rfl
theorem k_731 : (Cond.instanceMethod ({ cls := "RedactCheckModel", name := "<init>", desc := "()V" } : Jvm.MethodName)) ∈ x_tbl := x_in3 11 rfl rfl
theorem k_732 : (Cond.code ({ cls := "RedactCheckModel", name := "<init>", desc := "()V" } : Jvm.MethodName) prog_11_method_1_code (1 : Nat) (Option.none : Option Jvm.ClassFile.FieldType)) ∈ x_tbl := x_in3 12 rfl rfl
theorem k_733 : (Cond.methodLink "RedactCheckModel" (1 : Nat) ({ cls := "java/lang/Object", name := "<init>", desc := "()V" } : Jvm.MethodName)) ∈ x_tbl := x_in3 13 rfl rfl
theorem k_734 : (Cond.fieldLink "RedactCheckModel" (87 : Nat) "RedactCheckModel" "thrown" "I") ∈ x_tbl := x_in3 14 rfl rfl
theorem k_735 : (Cond.fieldLink "RedactCheckModel" (7 : Nat) "RedactCheckModel" "sizes" "[I") ∈ x_tbl := x_in3 15 rfl rfl
theorem k_736 : (Cond.fieldLink "RedactCheckModel" (13 : Nat) "RedactCheckModel" "codes" "[I") ∈ x_tbl := x_in3 16 rfl rfl
theorem k_737 : (Cond.fieldLink "RedactCheckModel" (16 : Nat) "RedactCheckModel" "xs" "[I") ∈ x_tbl := x_in3 17 rfl rfl
theorem k_738 : (Cond.fieldLink "RedactCheckModel" (19 : Nat) "RedactCheckModel" "ys" "[I") ∈ x_tbl := x_in3 18 rfl rfl
theorem k_739 : (Cond.fieldLink "RedactCheckModel" (22 : Nat) "RedactCheckModel" "widths" "[I") ∈ x_tbl := x_in3 19 rfl rfl
theorem k_740 : (Cond.fieldLink "RedactCheckModel" (83 : Nat) "RedactCheckModel" "forms" "I") ∈ x_tbl := x_in3 20 rfl rfl
theorem k_741 : (Cond.fieldLink "RedactCheckModel" (102 : Nat) "RedactCheckModel" "uses" "I") ∈ x_tbl := x_in3 21 rfl rfl
theorem k_742 : (Cond.fieldLink "RedactCheckModel" (25 : Nat) "RedactCheckModel" "usePage" "[I") ∈ x_tbl := x_in3 22 rfl rfl
theorem k_743 : (Cond.fieldLink "RedactCheckModel" (28 : Nat) "RedactCheckModel" "useForm" "[I") ∈ x_tbl := x_in3 23 rfl rfl
theorem k_744 : (Cond.fieldLink "RedactCheckModel" (31 : Nat) "RedactCheckModel" "useX" "[I") ∈ x_tbl := x_in3 24 rfl rfl
theorem k_745 : (Cond.fieldLink "RedactCheckModel" (34 : Nat) "RedactCheckModel" "useY" "[I") ∈ x_tbl := x_in3 25 rfl rfl
theorem k_746 : (Cond.fieldLink "RedactCheckModel" (105 : Nat) "RedactCheckModel" "words" "I") ∈ x_tbl := x_in3 26 rfl rfl
theorem k_747 : (Cond.fieldLink "RedactCheckModel" (37 : Nat) "RedactCheckModel" "wordSizes" "[I") ∈ x_tbl := x_in3 27 rfl rfl
theorem k_748 : (Cond.fieldLink "RedactCheckModel" (40 : Nat) "RedactCheckModel" "letters" "[I") ∈ x_tbl := x_in3 28 rfl rfl
theorem k_749 : (Cond.fieldLink "RedactCheckModel" (108 : Nat) "RedactCheckModel" "areas" "I") ∈ x_tbl := x_in3 29 rfl rfl
theorem k_750 : (Cond.fieldLink "RedactCheckModel" (43 : Nat) "RedactCheckModel" "areaPage" "[I") ∈ x_tbl := x_in3 30 rfl rfl
theorem k_751 : (Cond.fieldLink "RedactCheckModel" (46 : Nat) "RedactCheckModel" "areaX" "[I") ∈ x_tbl := x_in3 31 rfl rfl
theorem k_752 : (Cond.fieldLink "RedactCheckModel" (49 : Nat) "RedactCheckModel" "areaY" "[I") ∈ x_tbl := x_in3 32 rfl rfl
theorem k_753 : (Cond.fieldLink "RedactCheckModel" (52 : Nat) "RedactCheckModel" "areaWide" "[I") ∈ x_tbl := x_in3 33 rfl rfl
theorem k_754 : (Cond.fieldLink "RedactCheckModel" (55 : Nat) "RedactCheckModel" "areaHigh" "[I") ∈ x_tbl := x_in3 34 rfl rfl
theorem k_755 : (Cond.fieldLink "RedactCheckModel" (111 : Nat) "RedactCheckModel" "stores" "I") ∈ x_tbl := x_in3 35 rfl rfl
theorem k_756 : (Cond.fieldLink "RedactCheckModel" (58 : Nat) "RedactCheckModel" "encodings" "[I") ∈ x_tbl := x_in3 36 rfl rfl
theorem k_757 : (Cond.fieldLink "RedactCheckModel" (61 : Nat) "RedactCheckModel" "storeSizes" "[I") ∈ x_tbl := x_in3 37 rfl rfl
theorem k_758 : (Cond.fieldLink "RedactCheckModel" (64 : Nat) "RedactCheckModel" "bytes" "[I") ∈ x_tbl := x_in3 38 rfl rfl
theorem k_759 : (Cond.fieldLink "RedactCheckModel" (166 : Nat) "RedactCheckModel" "left" "I") ∈ x_tbl := x_in3 39 rfl rfl
theorem k_760 : (Cond.fieldLink "RedactCheckModel" (67 : Nat) "RedactCheckModel" "found" "[I") ∈ x_tbl := x_in3 40 rfl rfl
theorem k_761 : (Cond.fieldLink "RedactCheckModel" (70 : Nat) "RedactCheckModel" "marks" "[Z") ∈ x_tbl := x_in3 41 rfl rfl
theorem k_762 : (Cond.fieldLink "RedactCheckModel" (74 : Nat) "RedactCheckModel" "copyOf" "[I") ∈ x_tbl := x_in3 42 rfl rfl
theorem k_763 : (Cond.fieldLink "RedactCheckModel" (114 : Nat) "RedactCheckModel" "rowSize" "I") ∈ x_tbl := x_in3 43 rfl rfl
theorem k_764 : (Cond.fieldLink "RedactCheckModel" (77 : Nat) "RedactCheckModel" "row" "[I") ∈ x_tbl := x_in3 44 rfl rfl
theorem k_765 : (Cond.fieldLink "RedactCheckModel" (80 : Nat) "RedactCheckModel" "inWord" "[Z") ∈ x_tbl := x_in3 45 rfl rfl
theorem k_766 : (Cond.lays "RedactCheckModel" "RedactCheckModel" "thrown" "I") ∈ x_tbl := x_in3 46 rfl rfl
theorem k_768 : (Cond.laysFinal "RedactCheckModel" "RedactCheckModel" "sizes" "[I") ∈ x_tbl := x_in3 48 rfl rfl
theorem k_770 : (Cond.laysFinal "RedactCheckModel" "RedactCheckModel" "codes" "[I") ∈ x_tbl := x_in3 50 rfl rfl
theorem k_772 : (Cond.laysFinal "RedactCheckModel" "RedactCheckModel" "xs" "[I") ∈ x_tbl := x_in3 52 rfl rfl
theorem k_774 : (Cond.laysFinal "RedactCheckModel" "RedactCheckModel" "ys" "[I") ∈ x_tbl := x_in3 54 rfl rfl
theorem k_776 : (Cond.laysFinal "RedactCheckModel" "RedactCheckModel" "widths" "[I") ∈ x_tbl := x_in3 56 rfl rfl
theorem k_778 : (Cond.lays "RedactCheckModel" "RedactCheckModel" "forms" "I") ∈ x_tbl := x_in3 58 rfl rfl
theorem k_780 : (Cond.lays "RedactCheckModel" "RedactCheckModel" "uses" "I") ∈ x_tbl := x_in3 60 rfl rfl
theorem k_782 : (Cond.laysFinal "RedactCheckModel" "RedactCheckModel" "usePage" "[I") ∈ x_tbl := x_in3 62 rfl rfl
theorem k_784 : (Cond.laysFinal "RedactCheckModel" "RedactCheckModel" "useForm" "[I") ∈ x_tbl := x_in3 64 rfl rfl
theorem k_786 : (Cond.laysFinal "RedactCheckModel" "RedactCheckModel" "useX" "[I") ∈ x_tbl := x_in3 66 rfl rfl
theorem k_788 : (Cond.laysFinal "RedactCheckModel" "RedactCheckModel" "useY" "[I") ∈ x_tbl := x_in3 68 rfl rfl
theorem k_790 : (Cond.lays "RedactCheckModel" "RedactCheckModel" "words" "I") ∈ x_tbl := x_in3 70 rfl rfl
theorem k_792 : (Cond.laysFinal "RedactCheckModel" "RedactCheckModel" "wordSizes" "[I") ∈ x_tbl := x_in3 72 rfl rfl
theorem k_794 : (Cond.laysFinal "RedactCheckModel" "RedactCheckModel" "letters" "[I") ∈ x_tbl := x_in3 74 rfl rfl
theorem k_796 : (Cond.lays "RedactCheckModel" "RedactCheckModel" "areas" "I") ∈ x_tbl := x_in3 76 rfl rfl
theorem k_798 : (Cond.laysFinal "RedactCheckModel" "RedactCheckModel" "areaPage" "[I") ∈ x_tbl := x_in3 78 rfl rfl
theorem k_800 : (Cond.laysFinal "RedactCheckModel" "RedactCheckModel" "areaX" "[I") ∈ x_tbl := x_in3 80 rfl rfl
theorem k_802 : (Cond.laysFinal "RedactCheckModel" "RedactCheckModel" "areaY" "[I") ∈ x_tbl := x_in3 82 rfl rfl
theorem k_804 : (Cond.laysFinal "RedactCheckModel" "RedactCheckModel" "areaWide" "[I") ∈ x_tbl := x_in3 84 rfl rfl
theorem k_806 : (Cond.laysFinal "RedactCheckModel" "RedactCheckModel" "areaHigh" "[I") ∈ x_tbl := x_in3 86 rfl rfl
theorem k_808 : (Cond.lays "RedactCheckModel" "RedactCheckModel" "stores" "I") ∈ x_tbl := x_in3 88 rfl rfl
theorem k_810 : (Cond.laysFinal "RedactCheckModel" "RedactCheckModel" "encodings" "[I") ∈ x_tbl := x_in3 90 rfl rfl
theorem k_812 : (Cond.laysFinal "RedactCheckModel" "RedactCheckModel" "storeSizes" "[I") ∈ x_tbl := x_in3 92 rfl rfl
theorem k_814 : (Cond.laysFinal "RedactCheckModel" "RedactCheckModel" "bytes" "[I") ∈ x_tbl := x_in3 94 rfl rfl
theorem k_816 : (Cond.lays "RedactCheckModel" "RedactCheckModel" "left" "I") ∈ x_tbl := x_in3 96 rfl rfl
theorem k_818 : (Cond.laysFinal "RedactCheckModel" "RedactCheckModel" "found" "[I") ∈ x_tbl := x_in3 98 rfl rfl
theorem k_820 : (Cond.laysFinal "RedactCheckModel" "RedactCheckModel" "marks" "[Z") ∈ x_tbl := x_in3 100 rfl rfl
theorem k_822 : (Cond.laysFinal "RedactCheckModel" "RedactCheckModel" "copyOf" "[I") ∈ x_tbl := x_in3 102 rfl rfl
theorem k_824 : (Cond.lays "RedactCheckModel" "RedactCheckModel" "rowSize" "I") ∈ x_tbl := x_in3 104 rfl rfl
theorem k_826 : (Cond.laysFinal "RedactCheckModel" "RedactCheckModel" "row" "[I") ∈ x_tbl := x_in3 106 rfl rfl
theorem k_828 : (Cond.laysFinal "RedactCheckModel" "RedactCheckModel" "inWord" "[Z") ∈ x_tbl := x_in3 108 rfl rfl
theorem k_830 : (Cond.superclass "RedactCheckModel" "java/lang/Object") ∈ x_tbl := x_in3 110 rfl rfl
theorem k_831 : (Cond.arrayClass Jvm.ClassFile.FieldType.boolean) ∈ x_tbl := x_in3 111 rfl rfl
theorem k_832 : (Cond.methodLink "RedactCheckLaw" (77 : Nat) ({ cls := "RedactCheckModel", name := "thrown", desc := "()I" } : Jvm.MethodName)) ∈ x_tbl := x_in3 112 rfl rfl
theorem k_833 : (Cond.instanceMethod ({ cls := "RedactCheckModel", name := "thrown", desc := "()I" } : Jvm.MethodName)) ∈ x_tbl := x_in3 113 rfl rfl
theorem k_834 : (Cond.selects "RedactCheckModel" ({ cls := "RedactCheckModel", name := "thrown", desc := "()I" } : Jvm.MethodName) ({ cls := "RedactCheckModel", name := "thrown", desc := "()I" } : Jvm.MethodName)) ∈ x_tbl := x_in3 114 rfl rfl
theorem k_835 : (Cond.code ({ cls := "RedactCheckModel", name := "thrown", desc := "()I" } : Jvm.MethodName) prog_11_method_2_code (1 : Nat) (Option.some Jvm.ClassFile.FieldType.int)) ∈ x_tbl := x_in3 115 rfl rfl
theorem k_836 : (Cond.methodLink "RedactCheckLaw" (76 : Nat) ({ cls := "RedactCheckModel", name := "sign", desc := "(IIIII)I" } : Jvm.MethodName)) ∈ x_tbl := x_in3 116 rfl rfl
theorem k_837 : (Cond.instanceMethod ({ cls := "RedactCheckModel", name := "sign", desc := "(IIIII)I" } : Jvm.MethodName)) ∈ x_tbl := x_in3 117 rfl rfl
theorem k_838 : (Cond.selects "RedactCheckModel" ({ cls := "RedactCheckModel", name := "sign", desc := "(IIIII)I" } : Jvm.MethodName) ({ cls := "RedactCheckModel", name := "sign", desc := "(IIIII)I" } : Jvm.MethodName)) ∈ x_tbl := x_in3 118 rfl rfl
theorem k_839 : (Cond.code ({ cls := "RedactCheckModel", name := "sign", desc := "(IIIII)I" } : Jvm.MethodName) prog_11_method_6_code (6 : Nat) (Option.some Jvm.ClassFile.FieldType.int)) ∈ x_tbl := x_in3 119 rfl rfl
theorem k_840 : (Cond.methodLink "RedactCheckModel" (90 : Nat) ({ cls := "RedactCheckModel", name := "in", desc := "(III)Z" } : Jvm.MethodName)) ∈ x_tbl := x_in3 120 rfl rfl
theorem k_841 : (Cond.static ({ cls := "RedactCheckModel", name := "in", desc := "(III)Z" } : Jvm.MethodName)) ∈ x_tbl := x_in3 121 rfl rfl
theorem k_842 : (Cond.code ({ cls := "RedactCheckModel", name := "in", desc := "(III)Z" } : Jvm.MethodName) prog_11_method_3_code (3 : Nat) (Option.some Jvm.ClassFile.FieldType.boolean)) ∈ x_tbl := x_in3 122 rfl rfl
theorem k_843 : (Cond.methodLink "RedactCheckModel" (98 : Nat) ({ cls := "RedactCheckModel", name := "addSign", desc := "(IIIII)I" } : Jvm.MethodName)) ∈ x_tbl := x_in3 123 rfl rfl
theorem k_845 : (Cond.instanceMethod ({ cls := "RedactCheckModel", name := "addSign", desc := "(IIIII)I" } : Jvm.MethodName)) ∈ x_tbl := x_in3 125 rfl rfl
theorem k_846 : (Cond.code ({ cls := "RedactCheckModel", name := "addSign", desc := "(IIIII)I" } : Jvm.MethodName) prog_11_method_4_code (6 : Nat) (Option.some Jvm.ClassFile.FieldType.int)) ∈ x_tbl := x_in3 126 rfl rfl
theorem k_847 : (Cond.methodLink "RedactCheckModel" (94 : Nat) ({ cls := "RedactCheckModel", name := "lay", desc := "(IIIII)V" } : Jvm.MethodName)) ∈ x_tbl := x_in3 127 rfl rfl
theorem k_849 : (Cond.instanceMethod ({ cls := "RedactCheckModel", name := "lay", desc := "(IIIII)V" } : Jvm.MethodName)) ∈ x_tbl := x_in3 129 rfl rfl
theorem k_850 : (Cond.code ({ cls := "RedactCheckModel", name := "lay", desc := "(IIIII)V" } : Jvm.MethodName) prog_11_method_5_code (7 : Nat) (Option.none : Option Jvm.ClassFile.FieldType)) ∈ x_tbl := x_in3 130 rfl rfl
theorem k_851 : (Cond.methodLink "RedactCheckLaw" (83 : Nat) ({ cls := "RedactCheckModel", name := "form", desc := "()I" } : Jvm.MethodName)) ∈ x_tbl := x_in3 131 rfl rfl
theorem k_852 : (Cond.instanceMethod ({ cls := "RedactCheckModel", name := "form", desc := "()I" } : Jvm.MethodName)) ∈ x_tbl := x_in3 132 rfl rfl
theorem k_853 : (Cond.selects "RedactCheckModel" ({ cls := "RedactCheckModel", name := "form", desc := "()I" } : Jvm.MethodName) ({ cls := "RedactCheckModel", name := "form", desc := "()I" } : Jvm.MethodName)) ∈ x_tbl := x_in3 133 rfl rfl
theorem k_854 : (Cond.code ({ cls := "RedactCheckModel", name := "form", desc := "()I" } : Jvm.MethodName) prog_11_method_7_code (1 : Nat) (Option.some Jvm.ClassFile.FieldType.int)) ∈ x_tbl := x_in3 134 rfl rfl
theorem k_855 : (Cond.methodLink "RedactCheckLaw" (86 : Nat) ({ cls := "RedactCheckModel", name := "formSign", desc := "(IIIII)I" } : Jvm.MethodName)) ∈ x_tbl := x_in3 135 rfl rfl
theorem k_856 : (Cond.instanceMethod ({ cls := "RedactCheckModel", name := "formSign", desc := "(IIIII)I" } : Jvm.MethodName)) ∈ x_tbl := x_in3 136 rfl rfl
theorem k_857 : (Cond.selects "RedactCheckModel" ({ cls := "RedactCheckModel", name := "formSign", desc := "(IIIII)I" } : Jvm.MethodName) ({ cls := "RedactCheckModel", name := "formSign", desc := "(IIIII)I" } : Jvm.MethodName)) ∈ x_tbl := x_in3 137 rfl rfl
theorem k_858 : (Cond.code ({ cls := "RedactCheckModel", name := "formSign", desc := "(IIIII)I" } : Jvm.MethodName) prog_11_method_8_code (6 : Nat) (Option.some Jvm.ClassFile.FieldType.int)) ∈ x_tbl := x_in3 138 rfl rfl
theorem k_859 : (Cond.methodLink "RedactCheckLaw" (90 : Nat) ({ cls := "RedactCheckModel", name := "use", desc := "(IIII)I" } : Jvm.MethodName)) ∈ x_tbl := x_in3 139 rfl rfl
theorem k_860 : (Cond.instanceMethod ({ cls := "RedactCheckModel", name := "use", desc := "(IIII)I" } : Jvm.MethodName)) ∈ x_tbl := x_in3 140 rfl rfl
theorem k_861 : (Cond.selects "RedactCheckModel" ({ cls := "RedactCheckModel", name := "use", desc := "(IIII)I" } : Jvm.MethodName) ({ cls := "RedactCheckModel", name := "use", desc := "(IIII)I" } : Jvm.MethodName)) ∈ x_tbl := x_in3 141 rfl rfl
theorem k_862 : (Cond.code ({ cls := "RedactCheckModel", name := "use", desc := "(IIII)I" } : Jvm.MethodName) prog_11_method_9_code (5 : Nat) (Option.some Jvm.ClassFile.FieldType.int)) ∈ x_tbl := x_in3 142 rfl rfl
theorem k_863 : (Cond.methodLink "RedactCheckLaw" (93 : Nat) ({ cls := "RedactCheckModel", name := "word", desc := "()I" } : Jvm.MethodName)) ∈ x_tbl := x_in3 143 rfl rfl
theorem k_864 : (Cond.instanceMethod ({ cls := "RedactCheckModel", name := "word", desc := "()I" } : Jvm.MethodName)) ∈ x_tbl := x_in3 144 rfl rfl
theorem k_865 : (Cond.selects "RedactCheckModel" ({ cls := "RedactCheckModel", name := "word", desc := "()I" } : Jvm.MethodName) ({ cls := "RedactCheckModel", name := "word", desc := "()I" } : Jvm.MethodName)) ∈ x_tbl := x_in3 145 rfl rfl
theorem k_866 : (Cond.code ({ cls := "RedactCheckModel", name := "word", desc := "()I" } : Jvm.MethodName) prog_11_method_10_code (1 : Nat) (Option.some Jvm.ClassFile.FieldType.int)) ∈ x_tbl := x_in3 146 rfl rfl
theorem k_867 : (Cond.methodLink "RedactCheckLaw" (97 : Nat) ({ cls := "RedactCheckModel", name := "letter", desc := "(II)I" } : Jvm.MethodName)) ∈ x_tbl := x_in3 147 rfl rfl
theorem k_868 : (Cond.instanceMethod ({ cls := "RedactCheckModel", name := "letter", desc := "(II)I" } : Jvm.MethodName)) ∈ x_tbl := x_in3 148 rfl rfl
theorem k_869 : (Cond.selects "RedactCheckModel" ({ cls := "RedactCheckModel", name := "letter", desc := "(II)I" } : Jvm.MethodName) ({ cls := "RedactCheckModel", name := "letter", desc := "(II)I" } : Jvm.MethodName)) ∈ x_tbl := x_in3 149 rfl rfl
theorem k_870 : (Cond.code ({ cls := "RedactCheckModel", name := "letter", desc := "(II)I" } : Jvm.MethodName) prog_11_method_11_code (3 : Nat) (Option.some Jvm.ClassFile.FieldType.int)) ∈ x_tbl := x_in3 150 rfl rfl
theorem k_871 : (Cond.methodLink "RedactCheckLaw" (100 : Nat) ({ cls := "RedactCheckModel", name := "area", desc := "(IIIII)I" } : Jvm.MethodName)) ∈ x_tbl := x_in3 151 rfl rfl
theorem k_872 : (Cond.instanceMethod ({ cls := "RedactCheckModel", name := "area", desc := "(IIIII)I" } : Jvm.MethodName)) ∈ x_tbl := x_in3 152 rfl rfl
theorem k_873 : (Cond.selects "RedactCheckModel" ({ cls := "RedactCheckModel", name := "area", desc := "(IIIII)I" } : Jvm.MethodName) ({ cls := "RedactCheckModel", name := "area", desc := "(IIIII)I" } : Jvm.MethodName)) ∈ x_tbl := x_in3 153 rfl rfl
theorem k_874 : (Cond.code ({ cls := "RedactCheckModel", name := "area", desc := "(IIIII)I" } : Jvm.MethodName) prog_11_method_12_code (6 : Nat) (Option.some Jvm.ClassFile.FieldType.int)) ∈ x_tbl := x_in3 154 rfl rfl
theorem k_875 : (Cond.methodLink "RedactCheckLaw" (104 : Nat) ({ cls := "RedactCheckModel", name := "store", desc := "(I)I" } : Jvm.MethodName)) ∈ x_tbl := x_in3 155 rfl rfl
theorem k_876 : (Cond.instanceMethod ({ cls := "RedactCheckModel", name := "store", desc := "(I)I" } : Jvm.MethodName)) ∈ x_tbl := x_in3 156 rfl rfl
theorem k_877 : (Cond.selects "RedactCheckModel" ({ cls := "RedactCheckModel", name := "store", desc := "(I)I" } : Jvm.MethodName) ({ cls := "RedactCheckModel", name := "store", desc := "(I)I" } : Jvm.MethodName)) ∈ x_tbl := x_in3 157 rfl rfl
theorem k_878 : (Cond.code ({ cls := "RedactCheckModel", name := "store", desc := "(I)I" } : Jvm.MethodName) prog_11_method_13_code (2 : Nat) (Option.some Jvm.ClassFile.FieldType.int)) ∈ x_tbl := x_in3 158 rfl rfl
theorem k_879 : (Cond.methodLink "RedactCheckLaw" (108 : Nat) ({ cls := "RedactCheckModel", name := "octet", desc := "(IB)I" } : Jvm.MethodName)) ∈ x_tbl := x_in3 159 rfl rfl
theorem k_880 : (Cond.instanceMethod ({ cls := "RedactCheckModel", name := "octet", desc := "(IB)I" } : Jvm.MethodName)) ∈ x_tbl := x_in3 160 rfl rfl
theorem k_881 : (Cond.selects "RedactCheckModel" ({ cls := "RedactCheckModel", name := "octet", desc := "(IB)I" } : Jvm.MethodName) ({ cls := "RedactCheckModel", name := "octet", desc := "(IB)I" } : Jvm.MethodName)) ∈ x_tbl := x_in3 161 rfl rfl
theorem k_882 : (Cond.code ({ cls := "RedactCheckModel", name := "octet", desc := "(IB)I" } : Jvm.MethodName) prog_11_method_14_code (3 : Nat) (Option.some Jvm.ClassFile.FieldType.int)) ∈ x_tbl := x_in3 162 rfl rfl
theorem k_883 : (Cond.methodLink "RedactCheckLaw" (111 : Nat) ({ cls := "RedactCheckModel", name := "black", desc := "()I" } : Jvm.MethodName)) ∈ x_tbl := x_in3 163 rfl rfl
theorem k_884 : (Cond.instanceMethod ({ cls := "RedactCheckModel", name := "black", desc := "()I" } : Jvm.MethodName)) ∈ x_tbl := x_in3 164 rfl rfl
theorem k_885 : (Cond.selects "RedactCheckModel" ({ cls := "RedactCheckModel", name := "black", desc := "()I" } : Jvm.MethodName) ({ cls := "RedactCheckModel", name := "black", desc := "()I" } : Jvm.MethodName)) ∈ x_tbl := x_in3 165 rfl rfl
theorem k_886 : (Cond.code ({ cls := "RedactCheckModel", name := "black", desc := "()I" } : Jvm.MethodName) prog_11_method_29_code (5 : Nat) (Option.some Jvm.ClassFile.FieldType.int)) ∈ x_tbl := x_in3 166 rfl rfl
theorem k_887 : (Cond.methodLink "RedactCheckModel" (149 : Nat) ({ cls := "RedactCheckModel", name := "mark", desc := "(IIIII)I" } : Jvm.MethodName)) ∈ x_tbl := x_in3 167 rfl rfl
theorem k_889 : (Cond.instanceMethod ({ cls := "RedactCheckModel", name := "mark", desc := "(IIIII)I" } : Jvm.MethodName)) ∈ x_tbl := x_in3 169 rfl rfl
theorem k_890 : (Cond.code ({ cls := "RedactCheckModel", name := "mark", desc := "(IIIII)I" } : Jvm.MethodName) prog_11_method_21_code (8 : Nat) (Option.some Jvm.ClassFile.FieldType.int)) ∈ x_tbl := x_in3 170 rfl rfl
theorem k_891 : (Cond.methodLink "RedactCheckModel" (125 : Nat) ({ cls := "RedactCheckModel", name := "takeRow", desc := "(I)V" } : Jvm.MethodName)) ∈ x_tbl := x_in3 171 rfl rfl
theorem k_893 : (Cond.instanceMethod ({ cls := "RedactCheckModel", name := "takeRow", desc := "(I)V" } : Jvm.MethodName)) ∈ x_tbl := x_in3 173 rfl rfl
theorem k_894 : (Cond.code ({ cls := "RedactCheckModel", name := "takeRow", desc := "(I)V" } : Jvm.MethodName) prog_11_method_17_code (3 : Nat) (Option.none : Option Jvm.ClassFile.FieldType)) ∈ x_tbl := x_in3 174 rfl rfl
theorem k_895 : (Cond.methodLink "RedactCheckModel" (129 : Nat) ({ cls := "RedactCheckModel", name := "findWords", desc := "()V" } : Jvm.MethodName)) ∈ x_tbl := x_in3 175 rfl rfl
theorem k_897 : (Cond.instanceMethod ({ cls := "RedactCheckModel", name := "findWords", desc := "()V" } : Jvm.MethodName)) ∈ x_tbl := x_in3 177 rfl rfl
theorem k_898 : (Cond.code ({ cls := "RedactCheckModel", name := "findWords", desc := "()V" } : Jvm.MethodName) prog_11_method_16_code (4 : Nat) (Option.none : Option Jvm.ClassFile.FieldType)) ∈ x_tbl := x_in3 178 rfl rfl
theorem k_899 : (Cond.methodLink "RedactCheckModel" (117 : Nat) ({ cls := "RedactCheckModel", name := "stands", desc := "(II)Z" } : Jvm.MethodName)) ∈ x_tbl := x_in3 179 rfl rfl
theorem k_901 : (Cond.instanceMethod ({ cls := "RedactCheckModel", name := "stands", desc := "(II)Z" } : Jvm.MethodName)) ∈ x_tbl := x_in3 181 rfl rfl
theorem k_902 : (Cond.code ({ cls := "RedactCheckModel", name := "stands", desc := "(II)Z" } : Jvm.MethodName) prog_11_method_15_code (6 : Nat) (Option.some Jvm.ClassFile.FieldType.boolean)) ∈ x_tbl := x_in3 182 rfl rfl
theorem k_903 : (Cond.methodLink "RedactCheckModel" (132 : Nat) ({ cls := "RedactCheckModel", name := "meets", desc := "(IIII)Z" } : Jvm.MethodName)) ∈ x_tbl := x_in3 183 rfl rfl
theorem k_905 : (Cond.instanceMethod ({ cls := "RedactCheckModel", name := "meets", desc := "(IIII)Z" } : Jvm.MethodName)) ∈ x_tbl := x_in3 185 rfl rfl
theorem k_906 : (Cond.code ({ cls := "RedactCheckModel", name := "meets", desc := "(IIII)Z" } : Jvm.MethodName) prog_11_method_20_code (12 : Nat) (Option.some Jvm.ClassFile.FieldType.boolean)) ∈ x_tbl := x_in3 186 rfl rfl
theorem k_907 : (Cond.methodLink "RedactCheckModel" (136 : Nat) ({ cls := "RedactCheckModel", name := "markPlace", desc := "(I)I" } : Jvm.MethodName)) ∈ x_tbl := x_in3 187 rfl rfl
theorem k_908 : (Cond.static ({ cls := "RedactCheckModel", name := "markPlace", desc := "(I)I" } : Jvm.MethodName)) ∈ x_tbl := x_in3 188 rfl rfl
theorem k_909 : (Cond.code ({ cls := "RedactCheckModel", name := "markPlace", desc := "(I)I" } : Jvm.MethodName) prog_11_method_23_code (1 : Nat) (Option.some Jvm.ClassFile.FieldType.int)) ∈ x_tbl := x_in3 189 rfl rfl
theorem k_910 : (Cond.methodLink "RedactCheckModel" (152 : Nat) ({ cls := "RedactCheckModel", name := "hasMark", desc := "(I)Z" } : Jvm.MethodName)) ∈ x_tbl := x_in3 190 rfl rfl
theorem k_912 : (Cond.instanceMethod ({ cls := "RedactCheckModel", name := "hasMark", desc := "(I)Z" } : Jvm.MethodName)) ∈ x_tbl := x_in3 192 rfl rfl
theorem k_913 : (Cond.code ({ cls := "RedactCheckModel", name := "hasMark", desc := "(I)Z" } : Jvm.MethodName) prog_11_method_25_code (4 : Nat) (Option.some Jvm.ClassFile.FieldType.boolean)) ∈ x_tbl := x_in3 193 rfl rfl
theorem k_914 : (Cond.methodLink "RedactCheckModel" (156 : Nat) ({ cls := "RedactCheckModel", name := "areAlike", desc := "(II)Z" } : Jvm.MethodName)) ∈ x_tbl := x_in3 194 rfl rfl
theorem k_916 : (Cond.instanceMethod ({ cls := "RedactCheckModel", name := "areAlike", desc := "(II)Z" } : Jvm.MethodName)) ∈ x_tbl := x_in3 196 rfl rfl
theorem k_917 : (Cond.code ({ cls := "RedactCheckModel", name := "areAlike", desc := "(II)Z" } : Jvm.MethodName) prog_11_method_24_code (5 : Nat) (Option.some Jvm.ClassFile.FieldType.boolean)) ∈ x_tbl := x_in3 197 rfl rfl
theorem k_918 : (Cond.methodLink "RedactCheckModel" (159 : Nat) ({ cls := "RedactCheckModel", name := "cut", desc := "(III)V" } : Jvm.MethodName)) ∈ x_tbl := x_in3 198 rfl rfl
theorem k_920 : (Cond.instanceMethod ({ cls := "RedactCheckModel", name := "cut", desc := "(III)V" } : Jvm.MethodName)) ∈ x_tbl := x_in3 200 rfl rfl
theorem k_921 : (Cond.code ({ cls := "RedactCheckModel", name := "cut", desc := "(III)V" } : Jvm.MethodName) prog_11_method_22_code (8 : Nat) (Option.none : Option Jvm.ClassFile.FieldType)) ∈ x_tbl := x_in3 201 rfl rfl
theorem k_922 : (Cond.methodLink "RedactCheckModel" (163 : Nat) ({ cls := "RedactCheckModel", name := "cutStore", desc := "(I)I" } : Jvm.MethodName)) ∈ x_tbl := x_in3 202 rfl rfl
theorem k_924 : (Cond.instanceMethod ({ cls := "RedactCheckModel", name := "cutStore", desc := "(I)I" } : Jvm.MethodName)) ∈ x_tbl := x_in3 204 rfl rfl
theorem k_925 : (Cond.code ({ cls := "RedactCheckModel", name := "cutStore", desc := "(I)I" } : Jvm.MethodName) prog_11_method_28_code (5 : Nat) (Option.some Jvm.ClassFile.FieldType.int)) ∈ x_tbl := x_in3 205 rfl rfl
theorem k_926 : (Cond.methodLink "RedactCheckModel" (142 : Nat) ({ cls := "RedactCheckModel", name := "takeStore", desc := "(II)Z" } : Jvm.MethodName)) ∈ x_tbl := x_in3 206 rfl rfl
theorem k_928 : (Cond.instanceMethod ({ cls := "RedactCheckModel", name := "takeStore", desc := "(II)Z" } : Jvm.MethodName)) ∈ x_tbl := x_in3 208 rfl rfl
theorem k_929 : (Cond.code ({ cls := "RedactCheckModel", name := "takeStore", desc := "(II)Z" } : Jvm.MethodName) prog_11_method_19_code (9 : Nat) (Option.some Jvm.ClassFile.FieldType.boolean)) ∈ x_tbl := x_in3 209 rfl rfl
theorem k_930 : (Cond.methodLink "RedactCheckModel" (121 : Nat) ({ cls := "RedactCheckModel", name := "digit", desc := "(I)I" } : Jvm.MethodName)) ∈ x_tbl := x_in3 210 rfl rfl
theorem k_931 : (Cond.static ({ cls := "RedactCheckModel", name := "digit", desc := "(I)I" } : Jvm.MethodName)) ∈ x_tbl := x_in3 211 rfl rfl
theorem k_932 : (Cond.code ({ cls := "RedactCheckModel", name := "digit", desc := "(I)I" } : Jvm.MethodName) prog_11_method_18_code (1 : Nat) (Option.some Jvm.ClassFile.FieldType.int)) ∈ x_tbl := x_in3 212 rfl rfl
theorem k_933 : (Cond.methodLink "RedactCheckModel" (145 : Nat) ({ cls := "RedactCheckModel", name := "write", desc := "(II)V" } : Jvm.MethodName)) ∈ x_tbl := x_in3 213 rfl rfl
theorem k_935 : (Cond.instanceMethod ({ cls := "RedactCheckModel", name := "write", desc := "(II)V" } : Jvm.MethodName)) ∈ x_tbl := x_in3 215 rfl rfl
theorem k_936 : (Cond.code ({ cls := "RedactCheckModel", name := "write", desc := "(II)V" } : Jvm.MethodName) prog_11_method_27_code (5 : Nat) (Option.none : Option Jvm.ClassFile.FieldType)) ∈ x_tbl := x_in3 216 rfl rfl
theorem k_937 : (Cond.methodLink "RedactCheckModel" (139 : Nat) ({ cls := "RedactCheckModel", name := "hex", desc := "(I)I" } : Jvm.MethodName)) ∈ x_tbl := x_in3 217 rfl rfl
theorem k_938 : (Cond.static ({ cls := "RedactCheckModel", name := "hex", desc := "(I)I" } : Jvm.MethodName)) ∈ x_tbl := x_in3 218 rfl rfl
theorem k_939 : (Cond.code ({ cls := "RedactCheckModel", name := "hex", desc := "(I)I" } : Jvm.MethodName) prog_11_method_26_code (1 : Nat) (Option.some Jvm.ClassFile.FieldType.int)) ∈ x_tbl := x_in3 219 rfl rfl
theorem k_940 : (Cond.methodLink "RedactCheckLaw" (115 : Nat) ({ cls := "RedactCheckModel", name := "look", desc := "()I" } : Jvm.MethodName)) ∈ x_tbl := x_in3 220 rfl rfl
theorem k_941 : (Cond.instanceMethod ({ cls := "RedactCheckModel", name := "look", desc := "()I" } : Jvm.MethodName)) ∈ x_tbl := x_in3 221 rfl rfl
theorem k_942 : (Cond.selects "RedactCheckModel" ({ cls := "RedactCheckModel", name := "look", desc := "()I" } : Jvm.MethodName) ({ cls := "RedactCheckModel", name := "look", desc := "()I" } : Jvm.MethodName)) ∈ x_tbl := x_in3 222 rfl rfl
theorem k_943 : (Cond.code ({ cls := "RedactCheckModel", name := "look", desc := "()I" } : Jvm.MethodName) prog_11_method_31_code (3 : Nat) (Option.some Jvm.ClassFile.FieldType.int)) ∈ x_tbl := x_in3 223 rfl rfl
theorem k_944 : (Cond.methodLink "RedactCheckModel" (169 : Nat) ({ cls := "RedactCheckModel", name := "note", desc := "(III)V" } : Jvm.MethodName)) ∈ x_tbl := x_in3 224 rfl rfl
theorem k_946 : (Cond.instanceMethod ({ cls := "RedactCheckModel", name := "note", desc := "(III)V" } : Jvm.MethodName)) ∈ x_tbl := x_in3 226 rfl rfl
theorem k_947 : (Cond.code ({ cls := "RedactCheckModel", name := "note", desc := "(III)V" } : Jvm.MethodName) prog_11_method_30_code (6 : Nat) (Option.none : Option Jvm.ClassFile.FieldType)) ∈ x_tbl := x_in3 227 rfl rfl
theorem k_948 : (Cond.methodLink "RedactCheckLaw" (118 : Nat) ({ cls := "RedactCheckModel", name := "left", desc := "(II)I" } : Jvm.MethodName)) ∈ x_tbl := x_in3 228 rfl rfl
theorem k_949 : (Cond.instanceMethod ({ cls := "RedactCheckModel", name := "left", desc := "(II)I" } : Jvm.MethodName)) ∈ x_tbl := x_in3 229 rfl rfl
theorem k_950 : (Cond.selects "RedactCheckModel" ({ cls := "RedactCheckModel", name := "left", desc := "(II)I" } : Jvm.MethodName) ({ cls := "RedactCheckModel", name := "left", desc := "(II)I" } : Jvm.MethodName)) ∈ x_tbl := x_in3 230 rfl rfl
theorem k_951 : (Cond.code ({ cls := "RedactCheckModel", name := "left", desc := "(II)I" } : Jvm.MethodName) prog_11_method_32_code (3 : Nat) (Option.some Jvm.ClassFile.FieldType.int)) ∈ x_tbl := x_in3 231 rfl rfl
theorem k_952 : (Cond.methodLink "RedactCheckLaw" (121 : Nat) ({ cls := "RedactCheckModel", name := "at", desc := "(IIII)I" } : Jvm.MethodName)) ∈ x_tbl := x_in3 232 rfl rfl
theorem k_953 : (Cond.instanceMethod ({ cls := "RedactCheckModel", name := "at", desc := "(IIII)I" } : Jvm.MethodName)) ∈ x_tbl := x_in3 233 rfl rfl
theorem k_954 : (Cond.selects "RedactCheckModel" ({ cls := "RedactCheckModel", name := "at", desc := "(IIII)I" } : Jvm.MethodName) ({ cls := "RedactCheckModel", name := "at", desc := "(IIII)I" } : Jvm.MethodName)) ∈ x_tbl := x_in3 234 rfl rfl
theorem k_955 : (Cond.code ({ cls := "RedactCheckModel", name := "at", desc := "(IIII)I" } : Jvm.MethodName) prog_11_method_33_code (8 : Nat) (Option.some Jvm.ClassFile.FieldType.int)) ∈ x_tbl := x_in3 235 rfl rfl
theorem k_956 : (Cond.methodLink "RedactCheckLaw" (124 : Nat) ({ cls := "RedactCheckModel", name := "byteOf", desc := "(II)B" } : Jvm.MethodName)) ∈ x_tbl := x_in3 236 rfl rfl
theorem k_957 : (Cond.instanceMethod ({ cls := "RedactCheckModel", name := "byteOf", desc := "(II)B" } : Jvm.MethodName)) ∈ x_tbl := x_in3 237 rfl rfl
theorem k_958 : (Cond.selects "RedactCheckModel" ({ cls := "RedactCheckModel", name := "byteOf", desc := "(II)B" } : Jvm.MethodName) ({ cls := "RedactCheckModel", name := "byteOf", desc := "(II)B" } : Jvm.MethodName)) ∈ x_tbl := x_in3 238 rfl rfl
theorem k_959 : (Cond.code ({ cls := "RedactCheckModel", name := "byteOf", desc := "(II)B" } : Jvm.MethodName) prog_11_method_34_code (3 : Nat) (Option.some Jvm.ClassFile.FieldType.byte)) ∈ x_tbl := x_in3 239 rfl rfl
theorem k_960 : (Cond.methodLink "RedactCheckLaw" (127 : Nat) ({ cls := "RedactCheckModel", name := "formOf", desc := "(I)I" } : Jvm.MethodName)) ∈ x_tbl := x_in4 0 rfl rfl
theorem k_961 : (Cond.instanceMethod ({ cls := "RedactCheckModel", name := "formOf", desc := "(I)I" } : Jvm.MethodName)) ∈ x_tbl := x_in4 1 rfl rfl
theorem k_962 : (Cond.selects "RedactCheckModel" ({ cls := "RedactCheckModel", name := "formOf", desc := "(I)I" } : Jvm.MethodName) ({ cls := "RedactCheckModel", name := "formOf", desc := "(I)I" } : Jvm.MethodName)) ∈ x_tbl := x_in4 2 rfl rfl
theorem k_963 : (Cond.code ({ cls := "RedactCheckModel", name := "formOf", desc := "(I)I" } : Jvm.MethodName) prog_11_method_35_code (2 : Nat) (Option.some Jvm.ClassFile.FieldType.int)) ∈ x_tbl := x_in4 3 rfl rfl
theorem k_964 : (Cond.methodLink "RedactCheckLaw" (130 : Nat) ({ cls := "RedactCheckModel", name := "many", desc := "(II)I" } : Jvm.MethodName)) ∈ x_tbl := x_in4 4 rfl rfl
theorem k_965 : (Cond.instanceMethod ({ cls := "RedactCheckModel", name := "many", desc := "(II)I" } : Jvm.MethodName)) ∈ x_tbl := x_in4 5 rfl rfl
theorem k_966 : (Cond.selects "RedactCheckModel" ({ cls := "RedactCheckModel", name := "many", desc := "(II)I" } : Jvm.MethodName) ({ cls := "RedactCheckModel", name := "many", desc := "(II)I" } : Jvm.MethodName)) ∈ x_tbl := x_in4 6 rfl rfl
theorem k_967 : (Cond.code ({ cls := "RedactCheckModel", name := "many", desc := "(II)I" } : Jvm.MethodName) prog_11_method_36_code (4 : Nat) (Option.some Jvm.ClassFile.FieldType.int)) ∈ x_tbl := x_in4 7 rfl rfl
theorem k_968 : (Cond.methodLink "RedactCheckLaw" (134 : Nat) ({ cls := "RedactCheckModel", name := "told", desc := "(I)I" } : Jvm.MethodName)) ∈ x_tbl := x_in4 8 rfl rfl
theorem k_969 : (Cond.instanceMethod ({ cls := "RedactCheckModel", name := "told", desc := "(I)I" } : Jvm.MethodName)) ∈ x_tbl := x_in4 9 rfl rfl
theorem k_970 : (Cond.selects "RedactCheckModel" ({ cls := "RedactCheckModel", name := "told", desc := "(I)I" } : Jvm.MethodName) ({ cls := "RedactCheckModel", name := "told", desc := "(I)I" } : Jvm.MethodName)) ∈ x_tbl := x_in4 10 rfl rfl
theorem k_971 : (Cond.code ({ cls := "RedactCheckModel", name := "told", desc := "(I)I" } : Jvm.MethodName) prog_11_method_37_code (2 : Nat) (Option.some Jvm.ClassFile.FieldType.int)) ∈ x_tbl := x_in4 11 rfl rfl
theorem k_972 : (Cond.arrayClass Jvm.ClassFile.FieldType.long) ∈ x_tbl := x_in4 12 rfl rfl
theorem k_973 : (Cond.sameMethod "java/lang/Throwable" "java/lang/Throwable" "fillInStackTrace" "(I)Ljava/lang/Throwable;") ∈ x_tbl := x_in4 13 rfl rfl
theorem k_974 : (Cond.castable "RedactCheck$SignRow" "RedactCheck$SignRow") ∈ x_tbl := x_in4 14 rfl rfl
theorem k_975 : (Cond.castable "RedactCheck$Word" "RedactCheck$Word") ∈ x_tbl := x_in4 15 rfl rfl
theorem k_976 : (Cond.castable "RedactCheck$Use" "RedactCheck$Use") ∈ x_tbl := x_in4 16 rfl rfl
theorem k_977 : (Cond.castable "RedactCheck$Store" "RedactCheck$Store") ∈ x_tbl := x_in4 17 rfl rfl
theorem k_978 : (Cond.castable "RedactCheck$Area" "RedactCheck$Area") ∈ x_tbl := x_in4 18 rfl rfl
theorem k_979 : (Cond.sameMethod "[Ljava/lang/Object;" "java/lang/Object" "getClass" "()Ljava/lang/Class;") ∈ x_tbl := x_in4 19 rfl rfl
theorem k_980 : (Cond.selects "[Ljava/lang/Object;" ({ cls := "java/lang/Object", name := "getClass", desc := "()Ljava/lang/Class;" } : Jvm.MethodName) ({ cls := "java/lang/Object", name := "getClass", desc := "()Ljava/lang/Class;" } : Jvm.MethodName)) ∈ x_tbl := x_in4 20 rfl rfl
theorem k_981 : (Cond.declares ({ cls := "java/lang/Object", name := "getClass", desc := "()Ljava/lang/Class;" } : Jvm.MethodName)) ∈ x_tbl := x_in4 21 rfl rfl
theorem k_982 : (Cond.castable "RedactCheck" "java/lang/Object") ∈ x_tbl := x_in4 22 rfl rfl
theorem k_983 : (Cond.castable "RedactCheck$Findings" "java/lang/Object") ∈ x_tbl := x_in4 23 rfl rfl
theorem k_984 : (Cond.castable "RedactCheck$Codes" "java/lang/Object") ∈ x_tbl := x_in4 24 rfl rfl
theorem k_985 : (Cond.castable "RedactCheck$SignRow" "java/lang/Object") ∈ x_tbl := x_in4 25 rfl rfl
theorem k_986 : (Cond.castable "RedactCheckModel" "java/lang/Object") ∈ x_tbl := x_in4 26 rfl rfl
theorem k_987 : (Cond.castable "RedactCheck$Use" "java/lang/Object") ∈ x_tbl := x_in4 27 rfl rfl
theorem k_988 : (Cond.castable "RedactCheck$Word" "java/lang/Object") ∈ x_tbl := x_in4 28 rfl rfl
theorem k_989 : (Cond.castable "RedactCheck$Area" "java/lang/Object") ∈ x_tbl := x_in4 29 rfl rfl
theorem k_990 : (Cond.castable "RedactCheck$Store" "java/lang/Object") ∈ x_tbl := x_in4 30 rfl rfl
theorem k_991 : (Cond.castable "java/lang/String" "java/lang/Object") ∈ x_tbl := x_in4 31 rfl rfl
theorem kp_0 : Cond.selects "java/util/ArrayList" ⟨"java/util/ArrayList", "add", "(Ljava/lang/Object;[Ljava/lang/Object;I)V"⟩ ⟨"java/util/ArrayList", "add", "(Ljava/lang/Object;[Ljava/lang/Object;I)V"⟩ ∈ x_tbl := x_inP 0 rfl rfl
theorem kp_1 : Cond.selects "java/util/ArrayList" ⟨"java/util/ArrayList", "grow", "()[Ljava/lang/Object;"⟩ ⟨"java/util/ArrayList", "grow", "()[Ljava/lang/Object;"⟩ ∈ x_tbl := x_inP 1 rfl rfl
theorem kp_2 : Cond.selects "java/util/ArrayList" ⟨"java/util/ArrayList", "grow", "(I)[Ljava/lang/Object;"⟩ ⟨"java/util/ArrayList", "grow", "(I)[Ljava/lang/Object;"⟩ ∈ x_tbl := x_inP 2 rfl rfl
theorem kp_3 : Cond.selects "RedactCheck" ⟨"RedactCheck", "findWords", "(III)V"⟩ ⟨"RedactCheck", "findWords", "(III)V"⟩ ∈ x_tbl := x_inP 3 rfl rfl
theorem kp_4 : Cond.selects "RedactCheck" ⟨"RedactCheck", "lookThroughStore", "(I)V"⟩ ⟨"RedactCheck", "lookThroughStore", "(I)V"⟩ ∈ x_tbl := x_inP 4 rfl rfl
theorem kp_5 : Cond.selects "RedactCheck$Store" ⟨"RedactCheck$Store", "unsigned", "(I)I"⟩ ⟨"RedactCheck$Store", "unsigned", "(I)I"⟩ ∈ x_tbl := x_inP 5 rfl rfl
theorem kp_6 : Cond.selects "java/lang/Throwable" ⟨"java/lang/Throwable", "fillInStackTrace", "(I)Ljava/lang/Throwable;"⟩ ⟨"java/lang/Throwable", "fillInStackTrace", "(I)Ljava/lang/Throwable;"⟩ ∈ x_tbl := x_inP 6 rfl rfl
theorem kp_7 : Cond.selects "RedactCheck$SignRow" ⟨"RedactCheck$SignRow", "put", "(IIIII)V"⟩ ⟨"RedactCheck$SignRow", "put", "(IIIII)V"⟩ ∈ x_tbl := x_inP 7 rfl rfl
theorem kp_8 : Cond.selects "RedactCheck" ⟨"RedactCheck", "wordOf", "(I)LRedactCheck$Word;"⟩ ⟨"RedactCheck", "wordOf", "(I)LRedactCheck$Word;"⟩ ∈ x_tbl := x_inP 8 rfl rfl
theorem kp_9 : Cond.selects "RedactCheck" ⟨"RedactCheck", "storeOf", "(I)LRedactCheck$Store;"⟩ ⟨"RedactCheck", "storeOf", "(I)LRedactCheck$Store;"⟩ ∈ x_tbl := x_inP 9 rfl rfl
theorem kp_10 : Cond.selects "RedactCheck" ⟨"RedactCheck", "markUses", "()I"⟩ ⟨"RedactCheck", "markUses", "()I"⟩ ∈ x_tbl := x_inP 10 rfl rfl
theorem kp_11 : Cond.selects "RedactCheck" ⟨"RedactCheck", "marksOf", "(LRedactCheck$SignRow;III)J"⟩ ⟨"RedactCheck", "marksOf", "(LRedactCheck$SignRow;III)J"⟩ ∈ x_tbl := x_inP 11 rfl rfl
theorem kp_12 : Cond.selects "RedactCheck" ⟨"RedactCheck", "marksOfWords", "()J"⟩ ⟨"RedactCheck", "marksOfWords", "()J"⟩ ∈ x_tbl := x_inP 12 rfl rfl
theorem kp_13 : Cond.selects "RedactCheck" ⟨"RedactCheck", "marksOfAreas", "(LRedactCheck$SignRow;III)J"⟩ ⟨"RedactCheck", "marksOfAreas", "(LRedactCheck$SignRow;III)J"⟩ ∈ x_tbl := x_inP 13 rfl rfl
theorem kp_14 : Cond.selects "RedactCheck" ⟨"RedactCheck", "isInArea", "(IIII)Z"⟩ ⟨"RedactCheck", "isInArea", "(IIII)Z"⟩ ∈ x_tbl := x_inP 14 rfl rfl
theorem kp_15 : Cond.selects "RedactCheck" ⟨"RedactCheck", "twinOf", "(LRedactCheck$Use;I)LRedactCheck$Use;"⟩ ⟨"RedactCheck", "twinOf", "(LRedactCheck$Use;I)LRedactCheck$Use;"⟩ ∈ x_tbl := x_inP 15 rfl rfl
theorem kp_16 : Cond.selects "RedactCheck" ⟨"RedactCheck", "cutPages", "()I"⟩ ⟨"RedactCheck", "cutPages", "()I"⟩ ∈ x_tbl := x_inP 16 rfl rfl
theorem kp_17 : Cond.selects "RedactCheck$Codes" ⟨"RedactCheck$Codes", "put", "(II)V"⟩ ⟨"RedactCheck$Codes", "put", "(II)V"⟩ ∈ x_tbl := x_inP 17 rfl rfl
theorem kp_18 : Cond.selects "RedactCheck" ⟨"RedactCheck", "cutUses", "()I"⟩ ⟨"RedactCheck", "cutUses", "()I"⟩ ∈ x_tbl := x_inP 18 rfl rfl
theorem kp_19 : Cond.selects "RedactCheck" ⟨"RedactCheck", "addCutCopy", "(LRedactCheck$SignRow;J)LRedactCheck$SignRow;"⟩ ⟨"RedactCheck", "addCutCopy", "(LRedactCheck$SignRow;J)LRedactCheck$SignRow;"⟩ ∈ x_tbl := x_inP 19 rfl rfl
theorem kp_20 : Cond.selects "RedactCheck" ⟨"RedactCheck", "cutStores", "()I"⟩ ⟨"RedactCheck", "cutStores", "()I"⟩ ∈ x_tbl := x_inP 20 rfl rfl
theorem kp_21 : Cond.selects "RedactCheck$Store" ⟨"RedactCheck$Store", "writeCode", "(I)V"⟩ ⟨"RedactCheck$Store", "writeCode", "(I)V"⟩ ∈ x_tbl := x_inP 21 rfl rfl
theorem kp_22 : Cond.selects "RedactCheckModel" ⟨"RedactCheckModel", "addSign", "(IIIII)I"⟩ ⟨"RedactCheckModel", "addSign", "(IIIII)I"⟩ ∈ x_tbl := x_inP 22 rfl rfl
theorem kp_23 : Cond.selects "RedactCheckModel" ⟨"RedactCheckModel", "lay", "(IIIII)V"⟩ ⟨"RedactCheckModel", "lay", "(IIIII)V"⟩ ∈ x_tbl := x_inP 23 rfl rfl
theorem kp_24 : Cond.selects "RedactCheckModel" ⟨"RedactCheckModel", "mark", "(IIIII)I"⟩ ⟨"RedactCheckModel", "mark", "(IIIII)I"⟩ ∈ x_tbl := x_inP 24 rfl rfl
theorem kp_25 : Cond.selects "RedactCheckModel" ⟨"RedactCheckModel", "takeRow", "(I)V"⟩ ⟨"RedactCheckModel", "takeRow", "(I)V"⟩ ∈ x_tbl := x_inP 25 rfl rfl
theorem kp_26 : Cond.selects "RedactCheckModel" ⟨"RedactCheckModel", "findWords", "()V"⟩ ⟨"RedactCheckModel", "findWords", "()V"⟩ ∈ x_tbl := x_inP 26 rfl rfl
theorem kp_27 : Cond.selects "RedactCheckModel" ⟨"RedactCheckModel", "stands", "(II)Z"⟩ ⟨"RedactCheckModel", "stands", "(II)Z"⟩ ∈ x_tbl := x_inP 27 rfl rfl
theorem kp_28 : Cond.selects "RedactCheckModel" ⟨"RedactCheckModel", "meets", "(IIII)Z"⟩ ⟨"RedactCheckModel", "meets", "(IIII)Z"⟩ ∈ x_tbl := x_inP 28 rfl rfl
theorem kp_29 : Cond.selects "RedactCheckModel" ⟨"RedactCheckModel", "hasMark", "(I)Z"⟩ ⟨"RedactCheckModel", "hasMark", "(I)Z"⟩ ∈ x_tbl := x_inP 29 rfl rfl
theorem kp_30 : Cond.selects "RedactCheckModel" ⟨"RedactCheckModel", "areAlike", "(II)Z"⟩ ⟨"RedactCheckModel", "areAlike", "(II)Z"⟩ ∈ x_tbl := x_inP 30 rfl rfl
theorem kp_31 : Cond.selects "RedactCheckModel" ⟨"RedactCheckModel", "cut", "(III)V"⟩ ⟨"RedactCheckModel", "cut", "(III)V"⟩ ∈ x_tbl := x_inP 31 rfl rfl
theorem kp_32 : Cond.selects "RedactCheckModel" ⟨"RedactCheckModel", "cutStore", "(I)I"⟩ ⟨"RedactCheckModel", "cutStore", "(I)I"⟩ ∈ x_tbl := x_inP 32 rfl rfl
theorem kp_33 : Cond.selects "RedactCheckModel" ⟨"RedactCheckModel", "takeStore", "(II)Z"⟩ ⟨"RedactCheckModel", "takeStore", "(II)Z"⟩ ∈ x_tbl := x_inP 33 rfl rfl
theorem kp_34 : Cond.selects "RedactCheckModel" ⟨"RedactCheckModel", "write", "(II)V"⟩ ⟨"RedactCheckModel", "write", "(II)V"⟩ ∈ x_tbl := x_inP 34 rfl rfl
theorem kp_35 : Cond.selects "RedactCheckModel" ⟨"RedactCheckModel", "note", "(III)V"⟩ ⟨"RedactCheckModel", "note", "(III)V"⟩ ∈ x_tbl := x_inP 35 rfl rfl
theorem x_allin : ∀ (ci : Nat) (q : vw_C), classes[ci]? = some q → ∀ w ∈ u_ws q.1 q.2.1 q.2.2, w ∈ x_tbl := by
  intro ci q h
  match ci, h with
  | 0, h => cases h; exact List.forall_mem_cons.mpr ⟨k_184, List.forall_mem_cons.mpr ⟨k_186, List.forall_mem_cons.mpr ⟨k_188, List.forall_mem_cons.mpr ⟨k_190, List.forall_mem_cons.mpr ⟨k_192, List.forall_mem_cons.mpr ⟨k_194, List.forall_mem_cons.mpr ⟨k_196, List.forall_mem_cons.mpr ⟨k_198, fun _ h => absurd h List.not_mem_nil⟩⟩⟩⟩⟩⟩⟩⟩
  | 1, h => cases h; exact List.forall_mem_cons.mpr ⟨k_110, List.forall_mem_cons.mpr ⟨k_112, List.forall_mem_cons.mpr ⟨k_114, fun _ h => absurd h List.not_mem_nil⟩⟩⟩
  | 2, h => cases h; exact List.forall_mem_cons.mpr ⟨k_96, List.forall_mem_cons.mpr ⟨k_98, fun _ h => absurd h List.not_mem_nil⟩⟩
  | 3, h => cases h; exact List.forall_mem_cons.mpr ⟨k_484, List.forall_mem_cons.mpr ⟨k_486, fun _ h => absurd h List.not_mem_nil⟩⟩
  | 4, h => cases h; exact List.forall_mem_cons.mpr ⟨k_525, List.forall_mem_cons.mpr ⟨k_527, List.forall_mem_cons.mpr ⟨k_529, List.forall_mem_cons.mpr ⟨k_531, List.forall_mem_cons.mpr ⟨k_533, fun _ h => absurd h List.not_mem_nil⟩⟩⟩⟩⟩
  | 5, h => cases h; exact List.forall_mem_cons.mpr ⟨k_456, List.forall_mem_cons.mpr ⟨k_458, List.forall_mem_cons.mpr ⟨k_460, List.forall_mem_cons.mpr ⟨k_462, List.forall_mem_cons.mpr ⟨k_464, List.forall_mem_cons.mpr ⟨k_466, fun _ h => absurd h List.not_mem_nil⟩⟩⟩⟩⟩⟩
  | 6, h => cases h; exact List.forall_mem_cons.mpr ⟨k_552, List.forall_mem_cons.mpr ⟨k_554, List.forall_mem_cons.mpr ⟨k_556, fun _ h => absurd h List.not_mem_nil⟩⟩⟩
  | 7, h => cases h; exact List.forall_mem_cons.mpr ⟨k_70, List.forall_mem_cons.mpr ⟨k_72, fun _ h => absurd h List.not_mem_nil⟩⟩
  | 8, h => cases h; exact List.forall_mem_cons.mpr ⟨k_54, List.forall_mem_cons.mpr ⟨k_56, List.forall_mem_cons.mpr ⟨k_58, fun _ h => absurd h List.not_mem_nil⟩⟩⟩
  | 9, h => cases h; exact List.forall_mem_cons.mpr ⟨k_766, List.forall_mem_cons.mpr ⟨k_768, List.forall_mem_cons.mpr ⟨k_770, List.forall_mem_cons.mpr ⟨k_772, List.forall_mem_cons.mpr ⟨k_774, List.forall_mem_cons.mpr ⟨k_776, List.forall_mem_cons.mpr ⟨k_778, List.forall_mem_cons.mpr ⟨k_780, List.forall_mem_cons.mpr ⟨k_782, List.forall_mem_cons.mpr ⟨k_784, List.forall_mem_cons.mpr ⟨k_786, List.forall_mem_cons.mpr ⟨k_788, List.forall_mem_cons.mpr ⟨k_790, List.forall_mem_cons.mpr ⟨k_792, List.forall_mem_cons.mpr ⟨k_794, List.forall_mem_cons.mpr ⟨k_796, List.forall_mem_cons.mpr ⟨k_798, List.forall_mem_cons.mpr ⟨k_800, List.forall_mem_cons.mpr ⟨k_802, List.forall_mem_cons.mpr ⟨k_804, List.forall_mem_cons.mpr ⟨k_806, List.forall_mem_cons.mpr ⟨k_808, List.forall_mem_cons.mpr ⟨k_810, List.forall_mem_cons.mpr ⟨k_812, List.forall_mem_cons.mpr ⟨k_814, List.forall_mem_cons.mpr ⟨k_816, List.forall_mem_cons.mpr ⟨k_818, List.forall_mem_cons.mpr ⟨k_820, List.forall_mem_cons.mpr ⟨k_822, List.forall_mem_cons.mpr ⟨k_824, List.forall_mem_cons.mpr ⟨k_826, List.forall_mem_cons.mpr ⟨k_828, fun _ h => absurd h List.not_mem_nil⟩⟩⟩⟩⟩⟩⟩⟩⟩⟩⟩⟩⟩⟩⟩⟩⟩⟩⟩⟩⟩⟩⟩⟩⟩⟩⟩⟩⟩⟩⟩⟩
  | n + 10, h => simp [classes] at h
