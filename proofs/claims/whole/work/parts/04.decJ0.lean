abbrev b_AL_init : ByteArray := prog_27_method_2_code
def y_AL_init : MethodName := ⟨"java/util/ArrayList", "<init>", "()V"⟩
theorem d_AL_init_0 : decode b_AL_init 0 = .ok (.aload_n 0, 1) := by decide +kernel
theorem d_AL_init_1 : decode b_AL_init 1 = .ok (.invokespecial 1, 3) := by decide +kernel
theorem d_AL_init_4 : decode b_AL_init 4 = .ok (.aload_n 0, 1) := by decide +kernel
theorem d_AL_init_5 : decode b_AL_init 5 = .ok (.getstatic 39, 3) := by decide +kernel
theorem d_AL_init_8 : decode b_AL_init 8 = .ok (.putfield 9, 3) := by decide +kernel
theorem d_AL_init_11 : decode b_AL_init 11 = .ok (.return_, 1) := by decide +kernel
abbrev b_ABL_init : ByteArray := prog_26_method_1_code
def y_ABL_init : MethodName := ⟨"java/util/AbstractList", "<init>", "()V"⟩
theorem d_ABL_init_0 : decode b_ABL_init 0 = .ok (.aload_n 0, 1) := by decide +kernel
theorem d_ABL_init_1 : decode b_ABL_init 1 = .ok (.invokespecial 1, 3) := by decide +kernel
theorem d_ABL_init_4 : decode b_ABL_init 4 = .ok (.aload_n 0, 1) := by decide +kernel
theorem d_ABL_init_5 : decode b_ABL_init 5 = .ok (.iconst 0, 1) := by decide +kernel
theorem d_ABL_init_6 : decode b_ABL_init 6 = .ok (.putfield 7, 3) := by decide +kernel
theorem d_ABL_init_9 : decode b_ABL_init 9 = .ok (.return_, 1) := by decide +kernel
abbrev b_ABC_init : ByteArray := prog_25_method_1_code
def y_ABC_init : MethodName := ⟨"java/util/AbstractCollection", "<init>", "()V"⟩
theorem d_ABC_init_0 : decode b_ABC_init 0 = .ok (.aload_n 0, 1) := by decide +kernel
theorem d_ABC_init_1 : decode b_ABC_init 1 = .ok (.invokespecial 1, 3) := by decide +kernel
theorem d_ABC_init_4 : decode b_ABC_init 4 = .ok (.return_, 1) := by decide +kernel
abbrev b_AL_add : ByteArray := prog_27_method_25_code
def y_AL_add : MethodName := ⟨"java/util/ArrayList", "add", "(Ljava/lang/Object;)Z"⟩
theorem d_AL_add_0 : decode b_AL_add 0 = .ok (.aload_n 0, 1) := by decide +kernel
theorem d_AL_add_1 : decode b_AL_add 1 = .ok (.dup, 1) := by decide +kernel
theorem d_AL_add_2 : decode b_AL_add 2 = .ok (.getfield 63, 3) := by decide +kernel
theorem d_AL_add_5 : decode b_AL_add 5 = .ok (.iconst 1, 1) := by decide +kernel
theorem d_AL_add_6 : decode b_AL_add 6 = .ok (.iadd, 1) := by decide +kernel
theorem d_AL_add_7 : decode b_AL_add 7 = .ok (.putfield 63, 3) := by decide +kernel
theorem d_AL_add_10 : decode b_AL_add 10 = .ok (.aload_n 0, 1) := by decide +kernel
theorem d_AL_add_11 : decode b_AL_add 11 = .ok (.aload_n 1, 1) := by decide +kernel
theorem d_AL_add_12 : decode b_AL_add 12 = .ok (.aload_n 0, 1) := by decide +kernel
theorem d_AL_add_13 : decode b_AL_add 13 = .ok (.getfield 9, 3) := by decide +kernel
theorem d_AL_add_16 : decode b_AL_add 16 = .ok (.aload_n 0, 1) := by decide +kernel
theorem d_AL_add_17 : decode b_AL_add 17 = .ok (.getfield 48, 3) := by decide +kernel
theorem d_AL_add_20 : decode b_AL_add 20 = .ok (.invokevirtual 131, 3) := by decide +kernel
theorem d_AL_add_23 : decode b_AL_add 23 = .ok (.iconst 1, 1) := by decide +kernel
theorem d_AL_add_24 : decode b_AL_add 24 = .ok (.ireturn, 1) := by decide +kernel
abbrev b_AL_add2 : ByteArray := prog_27_method_24_code
def y_AL_add2 : MethodName := ⟨"java/util/ArrayList", "add", "(Ljava/lang/Object;[Ljava/lang/Object;I)V"⟩
theorem d_AL_add2_0 : decode b_AL_add2 0 = .ok (.iload_n 3, 1) := by decide +kernel
theorem d_AL_add2_1 : decode b_AL_add2 1 = .ok (.aload_n 2, 1) := by decide +kernel
theorem d_AL_add2_2 : decode b_AL_add2 2 = .ok (.arraylength, 1) := by decide +kernel
theorem d_AL_add2_3 : decode b_AL_add2 3 = .ok (.if_icmp .ne 8, 3) := by decide +kernel
theorem d_AL_add2_6 : decode b_AL_add2 6 = .ok (.aload_n 0, 1) := by decide +kernel
theorem d_AL_add2_7 : decode b_AL_add2 7 = .ok (.invokevirtual 129, 3) := by decide +kernel
theorem d_AL_add2_10 : decode b_AL_add2 10 = .ok (.astore_n 2, 1) := by decide +kernel
theorem d_AL_add2_11 : decode b_AL_add2 11 = .ok (.aload_n 2, 1) := by decide +kernel
theorem d_AL_add2_12 : decode b_AL_add2 12 = .ok (.iload_n 3, 1) := by decide +kernel
theorem d_AL_add2_13 : decode b_AL_add2 13 = .ok (.aload_n 1, 1) := by decide +kernel
theorem d_AL_add2_14 : decode b_AL_add2 14 = .ok (.aastore, 1) := by decide +kernel
theorem d_AL_add2_15 : decode b_AL_add2 15 = .ok (.aload_n 0, 1) := by decide +kernel
theorem d_AL_add2_16 : decode b_AL_add2 16 = .ok (.iload_n 3, 1) := by decide +kernel
theorem d_AL_add2_17 : decode b_AL_add2 17 = .ok (.iconst 1, 1) := by decide +kernel
theorem d_AL_add2_18 : decode b_AL_add2 18 = .ok (.iadd, 1) := by decide +kernel
theorem d_AL_add2_19 : decode b_AL_add2 19 = .ok (.putfield 48, 3) := by decide +kernel
theorem d_AL_add2_22 : decode b_AL_add2 22 = .ok (.return_, 1) := by decide +kernel
abbrev b_AL_grow : ByteArray := prog_27_method_7_code
def y_AL_grow : MethodName := ⟨"java/util/ArrayList", "grow", "()[Ljava/lang/Object;"⟩
theorem d_AL_grow_0 : decode b_AL_grow 0 = .ok (.aload_n 0, 1) := by decide +kernel
theorem d_AL_grow_1 : decode b_AL_grow 1 = .ok (.aload_n 0, 1) := by decide +kernel
theorem d_AL_grow_2 : decode b_AL_grow 2 = .ok (.getfield 48, 3) := by decide +kernel
theorem d_AL_grow_5 : decode b_AL_grow 5 = .ok (.iconst 1, 1) := by decide +kernel
theorem d_AL_grow_6 : decode b_AL_grow 6 = .ok (.iadd, 1) := by decide +kernel
theorem d_AL_grow_7 : decode b_AL_grow 7 = .ok (.invokevirtual 69, 3) := by decide +kernel
theorem d_AL_grow_10 : decode b_AL_grow 10 = .ok (.areturn, 1) := by decide +kernel
abbrev b_AL_grow2 : ByteArray := prog_27_method_6_code
def y_AL_grow2 : MethodName := ⟨"java/util/ArrayList", "grow", "(I)[Ljava/lang/Object;"⟩
theorem d_AL_grow2_0 : decode b_AL_grow2 0 = .ok (.aload_n 0, 1) := by decide +kernel
theorem d_AL_grow2_1 : decode b_AL_grow2 1 = .ok (.getfield 9, 3) := by decide +kernel
theorem d_AL_grow2_4 : decode b_AL_grow2 4 = .ok (.arraylength, 1) := by decide +kernel
theorem d_AL_grow2_5 : decode b_AL_grow2 5 = .ok (.istore_n 2, 1) := by decide +kernel
theorem d_AL_grow2_6 : decode b_AL_grow2 6 = .ok (.iload_n 2, 1) := by decide +kernel
theorem d_AL_grow2_7 : decode b_AL_grow2 7 = .ok (.ifCond .gt 13, 3) := by decide +kernel
theorem d_AL_grow2_10 : decode b_AL_grow2 10 = .ok (.aload_n 0, 1) := by decide +kernel
theorem d_AL_grow2_11 : decode b_AL_grow2 11 = .ok (.getfield 9, 3) := by decide +kernel
theorem d_AL_grow2_14 : decode b_AL_grow2 14 = .ok (.getstatic 39, 3) := by decide +kernel
theorem d_AL_grow2_17 : decode b_AL_grow2 17 = .ok (.if_acmp .eq 28, 3) := by decide +kernel
theorem d_AL_grow2_20 : decode b_AL_grow2 20 = .ok (.iload_n 2, 1) := by decide +kernel
theorem d_AL_grow2_21 : decode b_AL_grow2 21 = .ok (.iload_n 1, 1) := by decide +kernel
theorem d_AL_grow2_22 : decode b_AL_grow2 22 = .ok (.iload_n 2, 1) := by decide +kernel
theorem d_AL_grow2_23 : decode b_AL_grow2 23 = .ok (.isub, 1) := by decide +kernel
theorem d_AL_grow2_24 : decode b_AL_grow2 24 = .ok (.iload_n 2, 1) := by decide +kernel
theorem d_AL_grow2_25 : decode b_AL_grow2 25 = .ok (.iconst 1, 1) := by decide +kernel
theorem d_AL_grow2_26 : decode b_AL_grow2 26 = .ok (.ishr, 1) := by decide +kernel
theorem d_AL_grow2_27 : decode b_AL_grow2 27 = .ok (.invokestatic 73, 3) := by decide +kernel
theorem d_AL_grow2_30 : decode b_AL_grow2 30 = .ok (.istore_n 3, 1) := by decide +kernel
theorem d_AL_grow2_31 : decode b_AL_grow2 31 = .ok (.aload_n 0, 1) := by decide +kernel
theorem d_AL_grow2_32 : decode b_AL_grow2 32 = .ok (.aload_n 0, 1) := by decide +kernel
theorem d_AL_grow2_33 : decode b_AL_grow2 33 = .ok (.getfield 9, 3) := by decide +kernel
theorem d_AL_grow2_36 : decode b_AL_grow2 36 = .ok (.iload_n 3, 1) := by decide +kernel
theorem d_AL_grow2_37 : decode b_AL_grow2 37 = .ok (.invokestatic 66, 3) := by decide +kernel
theorem d_AL_grow2_40 : decode b_AL_grow2 40 = .ok (.dup_x1, 1) := by decide +kernel
theorem d_AL_grow2_41 : decode b_AL_grow2 41 = .ok (.putfield 9, 3) := by decide +kernel
theorem d_AL_grow2_44 : decode b_AL_grow2 44 = .ok (.areturn, 1) := by decide +kernel
theorem d_AL_grow2_45 : decode b_AL_grow2 45 = .ok (.aload_n 0, 1) := by decide +kernel
theorem d_AL_grow2_46 : decode b_AL_grow2 46 = .ok (.bipush 10, 2) := by decide +kernel
theorem d_AL_grow2_48 : decode b_AL_grow2 48 = .ok (.iload_n 1, 1) := by decide +kernel
theorem d_AL_grow2_49 : decode b_AL_grow2 49 = .ok (.invokestatic 79, 3) := by decide +kernel
theorem d_AL_grow2_52 : decode b_AL_grow2 52 = .ok (.anewarray 7, 3) := by decide +kernel
theorem d_AL_grow2_55 : decode b_AL_grow2 55 = .ok (.dup_x1, 1) := by decide +kernel
theorem d_AL_grow2_56 : decode b_AL_grow2 56 = .ok (.putfield 9, 3) := by decide +kernel
theorem d_AL_grow2_59 : decode b_AL_grow2 59 = .ok (.areturn, 1) := by decide +kernel
abbrev b_ASP_newLength : ByteArray := prog_34_method_27_code
def y_ASP_newLength : MethodName := ⟨"jdk/internal/util/ArraysSupport", "newLength", "(III)I"⟩
theorem d_ASP_newLength_0 : decode b_ASP_newLength 0 = .ok (.iload_n 0, 1) := by decide +kernel
theorem d_ASP_newLength_1 : decode b_ASP_newLength 1 = .ok (.iload_n 1, 1) := by decide +kernel
theorem d_ASP_newLength_2 : decode b_ASP_newLength 2 = .ok (.iload_n 2, 1) := by decide +kernel
theorem d_ASP_newLength_3 : decode b_ASP_newLength 3 = .ok (.invokestatic 194, 3) := by decide +kernel
theorem d_ASP_newLength_6 : decode b_ASP_newLength 6 = .ok (.iadd, 1) := by decide +kernel
theorem d_ASP_newLength_7 : decode b_ASP_newLength 7 = .ok (.istore_n 3, 1) := by decide +kernel
theorem d_ASP_newLength_8 : decode b_ASP_newLength 8 = .ok (.iconst 0, 1) := by decide +kernel
theorem d_ASP_newLength_9 : decode b_ASP_newLength 9 = .ok (.iload_n 3, 1) := by decide +kernel
theorem d_ASP_newLength_10 : decode b_ASP_newLength 10 = .ok (.if_icmp .ge 11, 3) := by decide +kernel
theorem d_ASP_newLength_13 : decode b_ASP_newLength 13 = .ok (.iload_n 3, 1) := by decide +kernel
theorem d_ASP_newLength_14 : decode b_ASP_newLength 14 = .ok (.ldc 200, 2) := by decide +kernel
theorem d_ASP_newLength_16 : decode b_ASP_newLength 16 = .ok (.if_icmp .gt 5, 3) := by decide +kernel
theorem d_ASP_newLength_19 : decode b_ASP_newLength 19 = .ok (.iload_n 3, 1) := by decide +kernel
theorem d_ASP_newLength_20 : decode b_ASP_newLength 20 = .ok (.ireturn, 1) := by decide +kernel
theorem d_ASP_newLength_21 : decode b_ASP_newLength 21 = .ok (.iload_n 0, 1) := by decide +kernel
theorem d_ASP_newLength_22 : decode b_ASP_newLength 22 = .ok (.iload_n 1, 1) := by decide +kernel
theorem d_ASP_newLength_23 : decode b_ASP_newLength 23 = .ok (.invokestatic 201, 3) := by decide +kernel
theorem d_ASP_newLength_26 : decode b_ASP_newLength 26 = .ok (.ireturn, 1) := by decide +kernel
abbrev b_MTH_max : ByteArray := prog_19_method_65_code
def y_MTH_max : MethodName := ⟨"java/lang/Math", "max", "(II)I"⟩
theorem d_MTH_max_0 : decode b_MTH_max 0 = .ok (.iload_n 0, 1) := by decide +kernel
theorem d_MTH_max_1 : decode b_MTH_max 1 = .ok (.iload_n 1, 1) := by decide +kernel
theorem d_MTH_max_2 : decode b_MTH_max 2 = .ok (.if_icmp .lt 7, 3) := by decide +kernel
theorem d_MTH_max_5 : decode b_MTH_max 5 = .ok (.iload_n 0, 1) := by decide +kernel
theorem d_MTH_max_6 : decode b_MTH_max 6 = .ok (.goto 4, 3) := by decide +kernel
theorem d_MTH_max_9 : decode b_MTH_max 9 = .ok (.iload_n 1, 1) := by decide +kernel
theorem d_MTH_max_10 : decode b_MTH_max 10 = .ok (.ireturn, 1) := by decide +kernel
abbrev b_ASP_hugeLength : ByteArray := prog_34_method_28_code
def y_ASP_hugeLength : MethodName := ⟨"jdk/internal/util/ArraysSupport", "hugeLength", "(II)I"⟩
theorem d_ASP_hugeLength_0 : decode b_ASP_hugeLength 0 = .ok (.iload_n 0, 1) := by decide +kernel
theorem d_ASP_hugeLength_1 : decode b_ASP_hugeLength 1 = .ok (.iload_n 1, 1) := by decide +kernel
theorem d_ASP_hugeLength_2 : decode b_ASP_hugeLength 2 = .ok (.iadd, 1) := by decide +kernel
theorem d_ASP_hugeLength_3 : decode b_ASP_hugeLength 3 = .ok (.istore_n 2, 1) := by decide +kernel
theorem d_ASP_hugeLength_4 : decode b_ASP_hugeLength 4 = .ok (.iload_n 2, 1) := by decide +kernel
theorem d_ASP_hugeLength_5 : decode b_ASP_hugeLength 5 = .ok (.ifCond .ge 44, 3) := by decide +kernel
theorem d_ASP_hugeLength_8 : decode b_ASP_hugeLength 8 = .ok (.new 204, 3) := by decide +kernel
theorem d_ASP_hugeLength_11 : decode b_ASP_hugeLength 11 = .ok (.dup, 1) := by decide +kernel
theorem d_ASP_hugeLength_12 : decode b_ASP_hugeLength 12 = .ok (.new 89, 3) := by decide +kernel
theorem d_ASP_hugeLength_15 : decode b_ASP_hugeLength 15 = .ok (.dup, 1) := by decide +kernel
theorem d_ASP_hugeLength_16 : decode b_ASP_hugeLength 16 = .ok (.invokespecial 91, 3) := by decide +kernel
theorem d_ASP_hugeLength_19 : decode b_ASP_hugeLength 19 = .ok (.ldc 206, 2) := by decide +kernel
theorem d_ASP_hugeLength_21 : decode b_ASP_hugeLength 21 = .ok (.invokevirtual 94, 3) := by decide +kernel
theorem d_ASP_hugeLength_24 : decode b_ASP_hugeLength 24 = .ok (.iload_n 0, 1) := by decide +kernel
theorem d_ASP_hugeLength_25 : decode b_ASP_hugeLength 25 = .ok (.invokevirtual 98, 3) := by decide +kernel
theorem d_ASP_hugeLength_28 : decode b_ASP_hugeLength 28 = .ok (.ldc 208, 2) := by decide +kernel
theorem d_ASP_hugeLength_30 : decode b_ASP_hugeLength 30 = .ok (.invokevirtual 94, 3) := by decide +kernel
theorem d_ASP_hugeLength_33 : decode b_ASP_hugeLength 33 = .ok (.iload_n 1, 1) := by decide +kernel
theorem d_ASP_hugeLength_34 : decode b_ASP_hugeLength 34 = .ok (.invokevirtual 98, 3) := by decide +kernel
theorem d_ASP_hugeLength_37 : decode b_ASP_hugeLength 37 = .ok (.ldc 210, 2) := by decide +kernel
theorem d_ASP_hugeLength_39 : decode b_ASP_hugeLength 39 = .ok (.invokevirtual 94, 3) := by decide +kernel
theorem d_ASP_hugeLength_42 : decode b_ASP_hugeLength 42 = .ok (.invokevirtual 101, 3) := by decide +kernel
theorem d_ASP_hugeLength_45 : decode b_ASP_hugeLength 45 = .ok (.invokespecial 212, 3) := by decide +kernel
theorem d_ASP_hugeLength_48 : decode b_ASP_hugeLength 48 = .ok (.athrow, 1) := by decide +kernel
theorem d_ASP_hugeLength_49 : decode b_ASP_hugeLength 49 = .ok (.iload_n 2, 1) := by decide +kernel
theorem d_ASP_hugeLength_50 : decode b_ASP_hugeLength 50 = .ok (.ldc 200, 2) := by decide +kernel
theorem d_ASP_hugeLength_52 : decode b_ASP_hugeLength 52 = .ok (.if_icmp .gt 6, 3) := by decide +kernel
theorem d_ASP_hugeLength_55 : decode b_ASP_hugeLength 55 = .ok (.ldc 200, 2) := by decide +kernel
theorem d_ASP_hugeLength_57 : decode b_ASP_hugeLength 57 = .ok (.ireturn, 1) := by decide +kernel
theorem d_ASP_hugeLength_58 : decode b_ASP_hugeLength 58 = .ok (.iload_n 2, 1) := by decide +kernel
theorem d_ASP_hugeLength_59 : decode b_ASP_hugeLength 59 = .ok (.ireturn, 1) := by decide +kernel
abbrev b_ARS_copyOf : ByteArray := prog_28_method_119_code
def y_ARS_copyOf : MethodName := ⟨"java/util/Arrays", "copyOf", "([Ljava/lang/Object;I)[Ljava/lang/Object;"⟩
theorem d_ARS_copyOf_0 : decode b_ARS_copyOf 0 = .ok (.aload_n 0, 1) := by decide +kernel
theorem d_ARS_copyOf_1 : decode b_ARS_copyOf 1 = .ok (.iload_n 1, 1) := by decide +kernel
theorem d_ARS_copyOf_2 : decode b_ARS_copyOf 2 = .ok (.aload_n 0, 1) := by decide +kernel
theorem d_ARS_copyOf_3 : decode b_ARS_copyOf 3 = .ok (.invokevirtual 86, 3) := by decide +kernel
theorem d_ARS_copyOf_6 : decode b_ARS_copyOf 6 = .ok (.invokestatic 300, 3) := by decide +kernel
theorem d_ARS_copyOf_9 : decode b_ARS_copyOf 9 = .ok (.areturn, 1) := by decide +kernel
abbrev b_ARS_copyOf2 : ByteArray := prog_28_method_120_code
def y_ARS_copyOf2 : MethodName := ⟨"java/util/Arrays", "copyOf", "([Ljava/lang/Object;ILjava/lang/Class;)[Ljava/lang/Object;"⟩
theorem d_ARS_copyOf2_0 : decode b_ARS_copyOf2 0 = .ok (.aload_n 2, 1) := by decide +kernel
theorem d_ARS_copyOf2_1 : decode b_ARS_copyOf2 1 = .ok (.ldc 110, 2) := by decide +kernel
theorem d_ARS_copyOf2_3 : decode b_ARS_copyOf2 3 = .ok (.if_acmp .ne 10, 3) := by decide +kernel
theorem d_ARS_copyOf2_6 : decode b_ARS_copyOf2 6 = .ok (.iload_n 1, 1) := by decide +kernel
theorem d_ARS_copyOf2_7 : decode b_ARS_copyOf2 7 = .ok (.anewarray 2, 3) := by decide +kernel
theorem d_ARS_copyOf2_10 : decode b_ARS_copyOf2 10 = .ok (.goto 14, 3) := by decide +kernel
theorem d_ARS_copyOf2_13 : decode b_ARS_copyOf2 13 = .ok (.aload_n 2, 1) := by decide +kernel
theorem d_ARS_copyOf2_14 : decode b_ARS_copyOf2 14 = .ok (.invokevirtual 90, 3) := by decide +kernel
theorem d_ARS_copyOf2_17 : decode b_ARS_copyOf2 17 = .ok (.iload_n 1, 1) := by decide +kernel
theorem d_ARS_copyOf2_18 : decode b_ARS_copyOf2 18 = .ok (.invokestatic 95, 3) := by decide +kernel
theorem d_ARS_copyOf2_21 : decode b_ARS_copyOf2 21 = .ok (.checkcast 110, 3) := by decide +kernel
theorem d_ARS_copyOf2_24 : decode b_ARS_copyOf2 24 = .ok (.astore_n 3, 1) := by decide +kernel
theorem d_ARS_copyOf2_25 : decode b_ARS_copyOf2 25 = .ok (.aload_n 0, 1) := by decide +kernel
theorem d_ARS_copyOf2_26 : decode b_ARS_copyOf2 26 = .ok (.iconst 0, 1) := by decide +kernel
theorem d_ARS_copyOf2_27 : decode b_ARS_copyOf2 27 = .ok (.aload_n 3, 1) := by decide +kernel
theorem d_ARS_copyOf2_28 : decode b_ARS_copyOf2 28 = .ok (.iconst 0, 1) := by decide +kernel
theorem d_ARS_copyOf2_29 : decode b_ARS_copyOf2 29 = .ok (.aload_n 0, 1) := by decide +kernel
theorem d_ARS_copyOf2_30 : decode b_ARS_copyOf2 30 = .ok (.arraylength, 1) := by decide +kernel
theorem d_ARS_copyOf2_31 : decode b_ARS_copyOf2 31 = .ok (.iload_n 1, 1) := by decide +kernel
theorem d_ARS_copyOf2_32 : decode b_ARS_copyOf2 32 = .ok (.invokestatic 304, 3) := by decide +kernel
theorem d_ARS_copyOf2_35 : decode b_ARS_copyOf2 35 = .ok (.invokestatic 150, 3) := by decide +kernel
theorem d_ARS_copyOf2_38 : decode b_ARS_copyOf2 38 = .ok (.aload_n 3, 1) := by decide +kernel
theorem d_ARS_copyOf2_39 : decode b_ARS_copyOf2 39 = .ok (.areturn, 1) := by decide +kernel
abbrev b_MTH_min : ByteArray := prog_19_method_69_code
def y_MTH_min : MethodName := ⟨"java/lang/Math", "min", "(II)I"⟩
theorem d_MTH_min_0 : decode b_MTH_min 0 = .ok (.iload_n 0, 1) := by decide +kernel
theorem d_MTH_min_1 : decode b_MTH_min 1 = .ok (.iload_n 1, 1) := by decide +kernel
theorem d_MTH_min_2 : decode b_MTH_min 2 = .ok (.if_icmp .gt 7, 3) := by decide +kernel
theorem d_MTH_min_5 : decode b_MTH_min 5 = .ok (.iload_n 0, 1) := by decide +kernel
theorem d_MTH_min_6 : decode b_MTH_min 6 = .ok (.goto 4, 3) := by decide +kernel
theorem d_MTH_min_9 : decode b_MTH_min 9 = .ok (.iload_n 1, 1) := by decide +kernel
theorem d_MTH_min_10 : decode b_MTH_min 10 = .ok (.ireturn, 1) := by decide +kernel
abbrev b_AL_size : ByteArray := prog_27_method_8_code
def y_AL_size : MethodName := ⟨"java/util/ArrayList", "size", "()I"⟩
theorem d_AL_size_0 : decode b_AL_size 0 = .ok (.aload_n 0, 1) := by decide +kernel
theorem d_AL_size_1 : decode b_AL_size 1 = .ok (.getfield 48, 3) := by decide +kernel
theorem d_AL_size_4 : decode b_AL_size 4 = .ok (.ireturn, 1) := by decide +kernel
abbrev b_AL_get : ByteArray := prog_27_method_20_code
def y_AL_get : MethodName := ⟨"java/util/ArrayList", "get", "(I)Ljava/lang/Object;"⟩
theorem d_AL_get_0 : decode b_AL_get 0 = .ok (.iload_n 1, 1) := by decide +kernel
theorem d_AL_get_1 : decode b_AL_get 1 = .ok (.aload_n 0, 1) := by decide +kernel
theorem d_AL_get_2 : decode b_AL_get 2 = .ok (.getfield 48, 3) := by decide +kernel
theorem d_AL_get_5 : decode b_AL_get 5 = .ok (.invokestatic 118, 3) := by decide +kernel
theorem d_AL_get_8 : decode b_AL_get 8 = .ok (.pop, 1) := by decide +kernel
theorem d_AL_get_9 : decode b_AL_get 9 = .ok (.aload_n 0, 1) := by decide +kernel
theorem d_AL_get_10 : decode b_AL_get 10 = .ok (.iload_n 1, 1) := by decide +kernel
theorem d_AL_get_11 : decode b_AL_get 11 = .ok (.invokevirtual 123, 3) := by decide +kernel
theorem d_AL_get_14 : decode b_AL_get 14 = .ok (.areturn, 1) := by decide +kernel
abbrev b_OBJ_checkIndex : ByteArray := prog_31_method_17_code
def y_OBJ_checkIndex : MethodName := ⟨"java/util/Objects", "checkIndex", "(II)I"⟩
theorem d_OBJ_checkIndex_0 : decode b_OBJ_checkIndex 0 = .ok (.iload_n 0, 1) := by decide +kernel
theorem d_OBJ_checkIndex_1 : decode b_OBJ_checkIndex 1 = .ok (.iload_n 1, 1) := by decide +kernel
theorem d_OBJ_checkIndex_2 : decode b_OBJ_checkIndex 2 = .ok (.aconst_null, 1) := by decide +kernel
theorem d_OBJ_checkIndex_3 : decode b_OBJ_checkIndex 3 = .ok (.invokestatic 105, 3) := by decide +kernel
theorem d_OBJ_checkIndex_6 : decode b_OBJ_checkIndex 6 = .ok (.ireturn, 1) := by decide +kernel
abbrev b_PRE_checkIndex : ByteArray := prog_35_method_11_code
def y_PRE_checkIndex : MethodName := ⟨"jdk/internal/util/Preconditions", "checkIndex", "(IILjava/util/function/BiFunction;)I"⟩
theorem d_PRE_checkIndex_0 : decode b_PRE_checkIndex 0 = .ok (.iload_n 0, 1) := by decide +kernel
theorem d_PRE_checkIndex_1 : decode b_PRE_checkIndex 1 = .ok (.ifCond .lt 8, 3) := by decide +kernel
theorem d_PRE_checkIndex_4 : decode b_PRE_checkIndex 4 = .ok (.iload_n 0, 1) := by decide +kernel
theorem d_PRE_checkIndex_5 : decode b_PRE_checkIndex 5 = .ok (.iload_n 1, 1) := by decide +kernel
theorem d_PRE_checkIndex_6 : decode b_PRE_checkIndex 6 = .ok (.if_icmp .lt 10, 3) := by decide +kernel
theorem d_PRE_checkIndex_9 : decode b_PRE_checkIndex 9 = .ok (.aload_n 2, 1) := by decide +kernel
theorem d_PRE_checkIndex_10 : decode b_PRE_checkIndex 10 = .ok (.iload_n 0, 1) := by decide +kernel
theorem d_PRE_checkIndex_11 : decode b_PRE_checkIndex 11 = .ok (.iload_n 1, 1) := by decide +kernel
theorem d_PRE_checkIndex_12 : decode b_PRE_checkIndex 12 = .ok (.invokestatic 95, 3) := by decide +kernel
theorem d_PRE_checkIndex_15 : decode b_PRE_checkIndex 15 = .ok (.athrow, 1) := by decide +kernel
theorem d_PRE_checkIndex_16 : decode b_PRE_checkIndex 16 = .ok (.iload_n 0, 1) := by decide +kernel
theorem d_PRE_checkIndex_17 : decode b_PRE_checkIndex 17 = .ok (.ireturn, 1) := by decide +kernel
abbrev b_AL_elementData : ByteArray := prog_27_method_18_code
def y_AL_elementData : MethodName := ⟨"java/util/ArrayList", "elementData", "(I)Ljava/lang/Object;"⟩
theorem d_AL_elementData_0 : decode b_AL_elementData 0 = .ok (.aload_n 0, 1) := by decide +kernel
theorem d_AL_elementData_1 : decode b_AL_elementData 1 = .ok (.getfield 9, 3) := by decide +kernel
theorem d_AL_elementData_4 : decode b_AL_elementData 4 = .ok (.iload_n 1, 1) := by decide +kernel
theorem d_AL_elementData_5 : decode b_AL_elementData 5 = .ok (.aaload, 1) := by decide +kernel
theorem d_AL_elementData_6 : decode b_AL_elementData 6 = .ok (.areturn, 1) := by decide +kernel
abbrev b_LNG_bitCount : ByteArray := prog_18_method_50_code
def y_LNG_bitCount : MethodName := ⟨"java/lang/Long", "bitCount", "(J)I"⟩
theorem d_LNG_bitCount_0 : decode b_LNG_bitCount 0 = .ok (.lload_n 0, 1) := by decide +kernel
theorem d_LNG_bitCount_1 : decode b_LNG_bitCount 1 = .ok (.lload_n 0, 1) := by decide +kernel
theorem d_LNG_bitCount_2 : decode b_LNG_bitCount 2 = .ok (.iconst 1, 1) := by decide +kernel
theorem d_LNG_bitCount_3 : decode b_LNG_bitCount 3 = .ok (.lushr, 1) := by decide +kernel
theorem d_LNG_bitCount_4 : decode b_LNG_bitCount 4 = .ok (.ldc2_w 314, 3) := by decide +kernel
theorem d_LNG_bitCount_7 : decode b_LNG_bitCount 7 = .ok (.land, 1) := by decide +kernel
theorem d_LNG_bitCount_8 : decode b_LNG_bitCount 8 = .ok (.lsub, 1) := by decide +kernel
theorem d_LNG_bitCount_9 : decode b_LNG_bitCount 9 = .ok (.lstore_n 0, 1) := by decide +kernel
theorem d_LNG_bitCount_10 : decode b_LNG_bitCount 10 = .ok (.lload_n 0, 1) := by decide +kernel
theorem d_LNG_bitCount_11 : decode b_LNG_bitCount 11 = .ok (.ldc2_w 316, 3) := by decide +kernel
theorem d_LNG_bitCount_14 : decode b_LNG_bitCount 14 = .ok (.land, 1) := by decide +kernel
theorem d_LNG_bitCount_15 : decode b_LNG_bitCount 15 = .ok (.lload_n 0, 1) := by decide +kernel
theorem d_LNG_bitCount_16 : decode b_LNG_bitCount 16 = .ok (.iconst 2, 1) := by decide +kernel
theorem d_LNG_bitCount_17 : decode b_LNG_bitCount 17 = .ok (.lushr, 1) := by decide +kernel
theorem d_LNG_bitCount_18 : decode b_LNG_bitCount 18 = .ok (.ldc2_w 316, 3) := by decide +kernel
theorem d_LNG_bitCount_21 : decode b_LNG_bitCount 21 = .ok (.land, 1) := by decide +kernel
theorem d_LNG_bitCount_22 : decode b_LNG_bitCount 22 = .ok (.ladd, 1) := by decide +kernel
theorem d_LNG_bitCount_23 : decode b_LNG_bitCount 23 = .ok (.lstore_n 0, 1) := by decide +kernel
theorem d_LNG_bitCount_24 : decode b_LNG_bitCount 24 = .ok (.lload_n 0, 1) := by decide +kernel
theorem d_LNG_bitCount_25 : decode b_LNG_bitCount 25 = .ok (.lload_n 0, 1) := by decide +kernel
theorem d_LNG_bitCount_26 : decode b_LNG_bitCount 26 = .ok (.iconst 4, 1) := by decide +kernel
theorem d_LNG_bitCount_27 : decode b_LNG_bitCount 27 = .ok (.lushr, 1) := by decide +kernel
theorem d_LNG_bitCount_28 : decode b_LNG_bitCount 28 = .ok (.ladd, 1) := by decide +kernel
theorem d_LNG_bitCount_29 : decode b_LNG_bitCount 29 = .ok (.ldc2_w 318, 3) := by decide +kernel
theorem d_LNG_bitCount_32 : decode b_LNG_bitCount 32 = .ok (.land, 1) := by decide +kernel
theorem d_LNG_bitCount_33 : decode b_LNG_bitCount 33 = .ok (.lstore_n 0, 1) := by decide +kernel
theorem d_LNG_bitCount_34 : decode b_LNG_bitCount 34 = .ok (.lload_n 0, 1) := by decide +kernel
theorem d_LNG_bitCount_35 : decode b_LNG_bitCount 35 = .ok (.lload_n 0, 1) := by decide +kernel
theorem d_LNG_bitCount_36 : decode b_LNG_bitCount 36 = .ok (.bipush 8, 2) := by decide +kernel
theorem d_LNG_bitCount_38 : decode b_LNG_bitCount 38 = .ok (.lushr, 1) := by decide +kernel
theorem d_LNG_bitCount_39 : decode b_LNG_bitCount 39 = .ok (.ladd, 1) := by decide +kernel
theorem d_LNG_bitCount_40 : decode b_LNG_bitCount 40 = .ok (.lstore_n 0, 1) := by decide +kernel
theorem d_LNG_bitCount_41 : decode b_LNG_bitCount 41 = .ok (.lload_n 0, 1) := by decide +kernel
theorem d_LNG_bitCount_42 : decode b_LNG_bitCount 42 = .ok (.lload_n 0, 1) := by decide +kernel
theorem d_LNG_bitCount_43 : decode b_LNG_bitCount 43 = .ok (.bipush 16, 2) := by decide +kernel
theorem d_LNG_bitCount_45 : decode b_LNG_bitCount 45 = .ok (.lushr, 1) := by decide +kernel
theorem d_LNG_bitCount_46 : decode b_LNG_bitCount 46 = .ok (.ladd, 1) := by decide +kernel
theorem d_LNG_bitCount_47 : decode b_LNG_bitCount 47 = .ok (.lstore_n 0, 1) := by decide +kernel
theorem d_LNG_bitCount_48 : decode b_LNG_bitCount 48 = .ok (.lload_n 0, 1) := by decide +kernel
theorem d_LNG_bitCount_49 : decode b_LNG_bitCount 49 = .ok (.lload_n 0, 1) := by decide +kernel
theorem d_LNG_bitCount_50 : decode b_LNG_bitCount 50 = .ok (.bipush 32, 2) := by decide +kernel
theorem d_LNG_bitCount_52 : decode b_LNG_bitCount 52 = .ok (.lushr, 1) := by decide +kernel
theorem d_LNG_bitCount_53 : decode b_LNG_bitCount 53 = .ok (.ladd, 1) := by decide +kernel
theorem d_LNG_bitCount_54 : decode b_LNG_bitCount 54 = .ok (.lstore_n 0, 1) := by decide +kernel
theorem d_LNG_bitCount_55 : decode b_LNG_bitCount 55 = .ok (.lload_n 0, 1) := by decide +kernel
theorem d_LNG_bitCount_56 : decode b_LNG_bitCount 56 = .ok (.l2i, 1) := by decide +kernel
theorem d_LNG_bitCount_57 : decode b_LNG_bitCount 57 = .ok (.bipush 127, 2) := by decide +kernel
theorem d_LNG_bitCount_59 : decode b_LNG_bitCount 59 = .ok (.iand, 1) := by decide +kernel
theorem d_LNG_bitCount_60 : decode b_LNG_bitCount 60 = .ok (.ireturn, 1) := by decide +kernel
