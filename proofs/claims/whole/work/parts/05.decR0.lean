abbrev b_R_init : ByteArray := prog_1_method_1_code
def y_R_init : MethodName := ⟨"RedactCheck", "<init>", "()V"⟩
theorem d_R_init_0 : decode b_R_init 0 = .ok (.aload_n 0, 1) := by decide +kernel
theorem d_R_init_1 : decode b_R_init 1 = .ok (.invokespecial 1, 3) := by decide +kernel
theorem d_R_init_4 : decode b_R_init 4 = .ok (.aload_n 0, 1) := by decide +kernel
theorem d_R_init_5 : decode b_R_init 5 = .ok (.new 7, 3) := by decide +kernel
theorem d_R_init_8 : decode b_R_init 8 = .ok (.dup, 1) := by decide +kernel
theorem d_R_init_9 : decode b_R_init 9 = .ok (.invokespecial 9, 3) := by decide +kernel
theorem d_R_init_12 : decode b_R_init 12 = .ok (.putfield 10, 3) := by decide +kernel
theorem d_R_init_15 : decode b_R_init 15 = .ok (.aload_n 0, 1) := by decide +kernel
theorem d_R_init_16 : decode b_R_init 16 = .ok (.new 7, 3) := by decide +kernel
theorem d_R_init_19 : decode b_R_init 19 = .ok (.dup, 1) := by decide +kernel
theorem d_R_init_20 : decode b_R_init 20 = .ok (.invokespecial 9, 3) := by decide +kernel
theorem d_R_init_23 : decode b_R_init 23 = .ok (.putfield 16, 3) := by decide +kernel
theorem d_R_init_26 : decode b_R_init 26 = .ok (.aload_n 0, 1) := by decide +kernel
theorem d_R_init_27 : decode b_R_init 27 = .ok (.new 7, 3) := by decide +kernel
theorem d_R_init_30 : decode b_R_init 30 = .ok (.dup, 1) := by decide +kernel
theorem d_R_init_31 : decode b_R_init 31 = .ok (.invokespecial 9, 3) := by decide +kernel
theorem d_R_init_34 : decode b_R_init 34 = .ok (.putfield 19, 3) := by decide +kernel
theorem d_R_init_37 : decode b_R_init 37 = .ok (.aload_n 0, 1) := by decide +kernel
theorem d_R_init_38 : decode b_R_init 38 = .ok (.new 7, 3) := by decide +kernel
theorem d_R_init_41 : decode b_R_init 41 = .ok (.dup, 1) := by decide +kernel
theorem d_R_init_42 : decode b_R_init 42 = .ok (.invokespecial 9, 3) := by decide +kernel
theorem d_R_init_45 : decode b_R_init 45 = .ok (.putfield 22, 3) := by decide +kernel
theorem d_R_init_48 : decode b_R_init 48 = .ok (.aload_n 0, 1) := by decide +kernel
theorem d_R_init_49 : decode b_R_init 49 = .ok (.new 7, 3) := by decide +kernel
theorem d_R_init_52 : decode b_R_init 52 = .ok (.dup, 1) := by decide +kernel
theorem d_R_init_53 : decode b_R_init 53 = .ok (.invokespecial 9, 3) := by decide +kernel
theorem d_R_init_56 : decode b_R_init 56 = .ok (.putfield 25, 3) := by decide +kernel
theorem d_R_init_59 : decode b_R_init 59 = .ok (.aload_n 0, 1) := by decide +kernel
theorem d_R_init_60 : decode b_R_init 60 = .ok (.new 7, 3) := by decide +kernel
theorem d_R_init_63 : decode b_R_init 63 = .ok (.dup, 1) := by decide +kernel
theorem d_R_init_64 : decode b_R_init 64 = .ok (.invokespecial 9, 3) := by decide +kernel
theorem d_R_init_67 : decode b_R_init 67 = .ok (.putfield 28, 3) := by decide +kernel
theorem d_R_init_70 : decode b_R_init 70 = .ok (.aload_n 0, 1) := by decide +kernel
theorem d_R_init_71 : decode b_R_init 71 = .ok (.new 31, 3) := by decide +kernel
theorem d_R_init_74 : decode b_R_init 74 = .ok (.dup, 1) := by decide +kernel
theorem d_R_init_75 : decode b_R_init 75 = .ok (.invokespecial 33, 3) := by decide +kernel
theorem d_R_init_78 : decode b_R_init 78 = .ok (.putfield 34, 3) := by decide +kernel
theorem d_R_init_81 : decode b_R_init 81 = .ok (.aload_n 0, 1) := by decide +kernel
theorem d_R_init_82 : decode b_R_init 82 = .ok (.new 38, 3) := by decide +kernel
theorem d_R_init_85 : decode b_R_init 85 = .ok (.dup, 1) := by decide +kernel
theorem d_R_init_86 : decode b_R_init 86 = .ok (.invokespecial 40, 3) := by decide +kernel
theorem d_R_init_89 : decode b_R_init 89 = .ok (.putfield 41, 3) := by decide +kernel
theorem d_R_init_92 : decode b_R_init 92 = .ok (.iconst 0, 1) := by decide +kernel
theorem d_R_init_93 : decode b_R_init 93 = .ok (.istore_n 1, 1) := by decide +kernel
theorem d_R_init_94 : decode b_R_init 94 = .ok (.iload_n 1, 1) := by decide +kernel
theorem d_R_init_95 : decode b_R_init 95 = .ok (.iconst 4, 1) := by decide +kernel
theorem d_R_init_96 : decode b_R_init 96 = .ok (.if_icmp .ge 25, 3) := by decide +kernel
theorem d_R_init_99 : decode b_R_init 99 = .ok (.aload_n 0, 1) := by decide +kernel
theorem d_R_init_100 : decode b_R_init 100 = .ok (.getfield 10, 3) := by decide +kernel
theorem d_R_init_103 : decode b_R_init 103 = .ok (.new 45, 3) := by decide +kernel
theorem d_R_init_106 : decode b_R_init 106 = .ok (.dup, 1) := by decide +kernel
theorem d_R_init_107 : decode b_R_init 107 = .ok (.iload_n 1, 1) := by decide +kernel
theorem d_R_init_108 : decode b_R_init 108 = .ok (.invokespecial 47, 3) := by decide +kernel
theorem d_R_init_111 : decode b_R_init 111 = .ok (.invokevirtual 50, 3) := by decide +kernel
theorem d_R_init_114 : decode b_R_init 114 = .ok (.pop, 1) := by decide +kernel
theorem d_R_init_115 : decode b_R_init 115 = .ok (.iinc 1 1, 3) := by decide +kernel
theorem d_R_init_118 : decode b_R_init 118 = .ok (.goto (-24), 3) := by decide +kernel
theorem d_R_init_121 : decode b_R_init 121 = .ok (.return_, 1) := by decide +kernel
abbrev b_F_init : ByteArray := prog_4_method_1_code
def y_F_init : MethodName := ⟨"RedactCheck$Findings", "<init>", "()V"⟩
theorem d_F_init_0 : decode b_F_init 0 = .ok (.aload_n 0, 1) := by decide +kernel
theorem d_F_init_1 : decode b_F_init 1 = .ok (.invokespecial 3, 3) := by decide +kernel
theorem d_F_init_4 : decode b_F_init 4 = .ok (.aload_n 0, 1) := by decide +kernel
theorem d_F_init_5 : decode b_F_init 5 = .ok (.sipush 500, 3) := by decide +kernel
theorem d_F_init_8 : decode b_F_init 8 = .ok (.newarray .int, 2) := by decide +kernel
theorem d_F_init_10 : decode b_F_init 10 = .ok (.putfield 9, 3) := by decide +kernel
theorem d_F_init_13 : decode b_F_init 13 = .ok (.return_, 1) := by decide +kernel
abbrev b_C_init : ByteArray := prog_3_method_1_code
def y_C_init : MethodName := ⟨"RedactCheck$Codes", "<init>", "()V"⟩
theorem d_C_init_0 : decode b_C_init 0 = .ok (.aload_n 0, 1) := by decide +kernel
theorem d_C_init_1 : decode b_C_init 1 = .ok (.invokespecial 3, 3) := by decide +kernel
theorem d_C_init_4 : decode b_C_init 4 = .ok (.aload_n 0, 1) := by decide +kernel
theorem d_C_init_5 : decode b_C_init 5 = .ok (.bipush 60, 2) := by decide +kernel
theorem d_C_init_7 : decode b_C_init 7 = .ok (.newarray .int, 2) := by decide +kernel
theorem d_C_init_9 : decode b_C_init 9 = .ok (.putfield 9, 3) := by decide +kernel
theorem d_C_init_12 : decode b_C_init 12 = .ok (.return_, 1) := by decide +kernel
abbrev b_O_init : ByteArray := prog_5_method_1_code
def y_O_init : MethodName := ⟨"RedactCheck$Row", "<init>", "()V"⟩
theorem d_O_init_0 : decode b_O_init 0 = .ok (.aload_n 0, 1) := by decide +kernel
theorem d_O_init_1 : decode b_O_init 1 = .ok (.invokespecial 1, 3) := by decide +kernel
theorem d_O_init_4 : decode b_O_init 4 = .ok (.return_, 1) := by decide +kernel
abbrev b_S_init : ByteArray := prog_6_method_1_code
def y_S_init : MethodName := ⟨"RedactCheck$SignRow", "<init>", "(I)V"⟩
theorem d_S_init_0 : decode b_S_init 0 = .ok (.aload_n 0, 1) := by decide +kernel
theorem d_S_init_1 : decode b_S_init 1 = .ok (.invokespecial 3, 3) := by decide +kernel
theorem d_S_init_4 : decode b_S_init 4 = .ok (.aload_n 0, 1) := by decide +kernel
theorem d_S_init_5 : decode b_S_init 5 = .ok (.sipush 160, 3) := by decide +kernel
theorem d_S_init_8 : decode b_S_init 8 = .ok (.newarray .int, 2) := by decide +kernel
theorem d_S_init_10 : decode b_S_init 10 = .ok (.putfield 9, 3) := by decide +kernel
theorem d_S_init_13 : decode b_S_init 13 = .ok (.aload_n 0, 1) := by decide +kernel
theorem d_S_init_14 : decode b_S_init 14 = .ok (.iload_n 1, 1) := by decide +kernel
theorem d_S_init_15 : decode b_S_init 15 = .ok (.putfield 15, 3) := by decide +kernel
theorem d_S_init_18 : decode b_S_init 18 = .ok (.return_, 1) := by decide +kernel
abbrev b_R_look : ByteArray := prog_1_method_12_code
def y_R_look : MethodName := ⟨"RedactCheck", "look", "()I"⟩
theorem d_R_look_0 : decode b_R_look 0 = .ok (.aload_n 0, 1) := by decide +kernel
theorem d_R_look_1 : decode b_R_look 1 = .ok (.getfield 34, 3) := by decide +kernel
theorem d_R_look_4 : decode b_R_look 4 = .ok (.invokevirtual 135, 3) := by decide +kernel
theorem d_R_look_7 : decode b_R_look 7 = .ok (.iconst 0, 1) := by decide +kernel
theorem d_R_look_8 : decode b_R_look 8 = .ok (.istore_n 1, 1) := by decide +kernel
theorem d_R_look_9 : decode b_R_look 9 = .ok (.iload_n 1, 1) := by decide +kernel
theorem d_R_look_10 : decode b_R_look 10 = .ok (.aload_n 0, 1) := by decide +kernel
theorem d_R_look_11 : decode b_R_look 11 = .ok (.getfield 10, 3) := by decide +kernel
theorem d_R_look_14 : decode b_R_look 14 = .ok (.invokevirtual 62, 3) := by decide +kernel
theorem d_R_look_17 : decode b_R_look 17 = .ok (.if_icmp .ge 34, 3) := by decide +kernel
theorem d_R_look_20 : decode b_R_look 20 = .ok (.aload_n 0, 1) := by decide +kernel
theorem d_R_look_21 : decode b_R_look 21 = .ok (.getfield 10, 3) := by decide +kernel
theorem d_R_look_24 : decode b_R_look 24 = .ok (.iload_n 1, 1) := by decide +kernel
theorem d_R_look_25 : decode b_R_look 25 = .ok (.invokevirtual 138, 3) := by decide +kernel
theorem d_R_look_28 : decode b_R_look 28 = .ok (.checkcast 45, 3) := by decide +kernel
theorem d_R_look_31 : decode b_R_look 31 = .ok (.aload_n 0, 1) := by decide +kernel
theorem d_R_look_32 : decode b_R_look 32 = .ok (.getfield 41, 3) := by decide +kernel
theorem d_R_look_35 : decode b_R_look 35 = .ok (.invokevirtual 142, 3) := by decide +kernel
theorem d_R_look_38 : decode b_R_look 38 = .ok (.aload_n 0, 1) := by decide +kernel
theorem d_R_look_39 : decode b_R_look 39 = .ok (.iconst 0, 1) := by decide +kernel
theorem d_R_look_40 : decode b_R_look 40 = .ok (.iload_n 1, 1) := by decide +kernel
theorem d_R_look_41 : decode b_R_look 41 = .ok (.iconst (-1), 1) := by decide +kernel
theorem d_R_look_42 : decode b_R_look 42 = .ok (.invokevirtual 146, 3) := by decide +kernel
theorem d_R_look_45 : decode b_R_look 45 = .ok (.iinc 1 1, 3) := by decide +kernel
theorem d_R_look_48 : decode b_R_look 48 = .ok (.goto (-39), 3) := by decide +kernel
theorem d_R_look_51 : decode b_R_look 51 = .ok (.iconst 0, 1) := by decide +kernel
theorem d_R_look_52 : decode b_R_look 52 = .ok (.istore_n 1, 1) := by decide +kernel
theorem d_R_look_53 : decode b_R_look 53 = .ok (.iload_n 1, 1) := by decide +kernel
theorem d_R_look_54 : decode b_R_look 54 = .ok (.aload_n 0, 1) := by decide +kernel
theorem d_R_look_55 : decode b_R_look 55 = .ok (.getfield 19, 3) := by decide +kernel
theorem d_R_look_58 : decode b_R_look 58 = .ok (.invokevirtual 62, 3) := by decide +kernel
theorem d_R_look_61 : decode b_R_look 61 = .ok (.if_icmp .ge 37, 3) := by decide +kernel
theorem d_R_look_64 : decode b_R_look 64 = .ok (.aload_n 0, 1) := by decide +kernel
theorem d_R_look_65 : decode b_R_look 65 = .ok (.getfield 19, 3) := by decide +kernel
theorem d_R_look_68 : decode b_R_look 68 = .ok (.iload_n 1, 1) := by decide +kernel
theorem d_R_look_69 : decode b_R_look 69 = .ok (.invokevirtual 138, 3) := by decide +kernel
theorem d_R_look_72 : decode b_R_look 72 = .ok (.checkcast 77, 3) := by decide +kernel
theorem d_R_look_75 : decode b_R_look 75 = .ok (.getfield 149, 3) := by decide +kernel
theorem d_R_look_78 : decode b_R_look 78 = .ok (.aload_n 0, 1) := by decide +kernel
theorem d_R_look_79 : decode b_R_look 79 = .ok (.getfield 41, 3) := by decide +kernel
theorem d_R_look_82 : decode b_R_look 82 = .ok (.invokevirtual 142, 3) := by decide +kernel
theorem d_R_look_85 : decode b_R_look 85 = .ok (.aload_n 0, 1) := by decide +kernel
theorem d_R_look_86 : decode b_R_look 86 = .ok (.iconst 1, 1) := by decide +kernel
theorem d_R_look_87 : decode b_R_look 87 = .ok (.iload_n 1, 1) := by decide +kernel
theorem d_R_look_88 : decode b_R_look 88 = .ok (.iconst (-1), 1) := by decide +kernel
theorem d_R_look_89 : decode b_R_look 89 = .ok (.invokevirtual 146, 3) := by decide +kernel
theorem d_R_look_92 : decode b_R_look 92 = .ok (.iinc 1 1, 3) := by decide +kernel
theorem d_R_look_95 : decode b_R_look 95 = .ok (.goto (-42), 3) := by decide +kernel
theorem d_R_look_98 : decode b_R_look 98 = .ok (.iconst 0, 1) := by decide +kernel
theorem d_R_look_99 : decode b_R_look 99 = .ok (.istore_n 1, 1) := by decide +kernel
theorem d_R_look_100 : decode b_R_look 100 = .ok (.iload_n 1, 1) := by decide +kernel
theorem d_R_look_101 : decode b_R_look 101 = .ok (.aload_n 0, 1) := by decide +kernel
theorem d_R_look_102 : decode b_R_look 102 = .ok (.getfield 28, 3) := by decide +kernel
theorem d_R_look_105 : decode b_R_look 105 = .ok (.invokevirtual 62, 3) := by decide +kernel
theorem d_R_look_108 : decode b_R_look 108 = .ok (.if_icmp .ge 14, 3) := by decide +kernel
theorem d_R_look_111 : decode b_R_look 111 = .ok (.aload_n 0, 1) := by decide +kernel
theorem d_R_look_112 : decode b_R_look 112 = .ok (.iload_n 1, 1) := by decide +kernel
theorem d_R_look_113 : decode b_R_look 113 = .ok (.invokevirtual 153, 3) := by decide +kernel
theorem d_R_look_116 : decode b_R_look 116 = .ok (.iinc 1 1, 3) := by decide +kernel
theorem d_R_look_119 : decode b_R_look 119 = .ok (.goto (-19), 3) := by decide +kernel
theorem d_R_look_122 : decode b_R_look 122 = .ok (.aload_n 0, 1) := by decide +kernel
theorem d_R_look_123 : decode b_R_look 123 = .ok (.getfield 34, 3) := by decide +kernel
theorem d_R_look_126 : decode b_R_look 126 = .ok (.getfield 156, 3) := by decide +kernel
theorem d_R_look_129 : decode b_R_look 129 = .ok (.ireturn, 1) := by decide +kernel
abbrev b_F_clear : ByteArray := prog_4_method_2_code
def y_F_clear : MethodName := ⟨"RedactCheck$Findings", "clear", "()V"⟩
theorem d_F_clear_0 : decode b_F_clear 0 = .ok (.aload_n 0, 1) := by decide +kernel
theorem d_F_clear_1 : decode b_F_clear 1 = .ok (.iconst 0, 1) := by decide +kernel
theorem d_F_clear_2 : decode b_F_clear 2 = .ok (.putfield 15, 3) := by decide +kernel
theorem d_F_clear_5 : decode b_F_clear 5 = .ok (.return_, 1) := by decide +kernel
abbrev b_S_readInto : ByteArray := prog_6_method_4_code
def y_S_readInto : MethodName := ⟨"RedactCheck$SignRow", "readInto", "(LRedactCheck$Codes;)V"⟩
theorem d_S_readInto_0 : decode b_S_readInto 0 = .ok (.aload_n 1, 1) := by decide +kernel
theorem d_S_readInto_1 : decode b_S_readInto 1 = .ok (.iconst 0, 1) := by decide +kernel
theorem d_S_readInto_2 : decode b_S_readInto 2 = .ok (.putfield 26, 3) := by decide +kernel
theorem d_S_readInto_5 : decode b_S_readInto 5 = .ok (.iconst 0, 1) := by decide +kernel
theorem d_S_readInto_6 : decode b_S_readInto 6 = .ok (.istore_n 2, 1) := by decide +kernel
theorem d_S_readInto_7 : decode b_S_readInto 7 = .ok (.iload_n 2, 1) := by decide +kernel
theorem d_S_readInto_8 : decode b_S_readInto 8 = .ok (.aload_n 0, 1) := by decide +kernel
theorem d_S_readInto_9 : decode b_S_readInto 9 = .ok (.getfield 19, 3) := by decide +kernel
theorem d_S_readInto_12 : decode b_S_readInto 12 = .ok (.if_icmp .ge 19, 3) := by decide +kernel
theorem d_S_readInto_15 : decode b_S_readInto 15 = .ok (.aload_n 1, 1) := by decide +kernel
theorem d_S_readInto_16 : decode b_S_readInto 16 = .ok (.aload_n 0, 1) := by decide +kernel
theorem d_S_readInto_17 : decode b_S_readInto 17 = .ok (.iload_n 2, 1) := by decide +kernel
theorem d_S_readInto_18 : decode b_S_readInto 18 = .ok (.iconst 0, 1) := by decide +kernel
theorem d_S_readInto_19 : decode b_S_readInto 19 = .ok (.invokevirtual 29, 3) := by decide +kernel
theorem d_S_readInto_22 : decode b_S_readInto 22 = .ok (.invokevirtual 33, 3) := by decide +kernel
theorem d_S_readInto_25 : decode b_S_readInto 25 = .ok (.iinc 2 1, 3) := by decide +kernel
theorem d_S_readInto_28 : decode b_S_readInto 28 = .ok (.goto (-21), 3) := by decide +kernel
theorem d_S_readInto_31 : decode b_S_readInto 31 = .ok (.return_, 1) := by decide +kernel
abbrev b_S_part : ByteArray := prog_6_method_3_code
def y_S_part : MethodName := ⟨"RedactCheck$SignRow", "part", "(II)I"⟩
theorem d_S_part_0 : decode b_S_part 0 = .ok (.iload_n 1, 1) := by decide +kernel
theorem d_S_part_1 : decode b_S_part 1 = .ok (.ifCond .lt 18, 3) := by decide +kernel
theorem d_S_part_4 : decode b_S_part 4 = .ok (.iload_n 1, 1) := by decide +kernel
theorem d_S_part_5 : decode b_S_part 5 = .ok (.bipush 40, 2) := by decide +kernel
theorem d_S_part_7 : decode b_S_part 7 = .ok (.if_icmp .ge 12, 3) := by decide +kernel
theorem d_S_part_10 : decode b_S_part 10 = .ok (.iload_n 2, 1) := by decide +kernel
theorem d_S_part_11 : decode b_S_part 11 = .ok (.ifCond .lt 8, 3) := by decide +kernel
theorem d_S_part_14 : decode b_S_part 14 = .ok (.iload_n 2, 1) := by decide +kernel
theorem d_S_part_15 : decode b_S_part 15 = .ok (.iconst 4, 1) := by decide +kernel
theorem d_S_part_16 : decode b_S_part 16 = .ok (.if_icmp .lt 5, 3) := by decide +kernel
theorem d_S_part_19 : decode b_S_part 19 = .ok (.iconst (-1), 1) := by decide +kernel
theorem d_S_part_20 : decode b_S_part 20 = .ok (.ireturn, 1) := by decide +kernel
theorem d_S_part_21 : decode b_S_part 21 = .ok (.aload_n 0, 1) := by decide +kernel
theorem d_S_part_22 : decode b_S_part 22 = .ok (.getfield 9, 3) := by decide +kernel
theorem d_S_part_25 : decode b_S_part 25 = .ok (.iload_n 1, 1) := by decide +kernel
theorem d_S_part_26 : decode b_S_part 26 = .ok (.iconst 4, 1) := by decide +kernel
theorem d_S_part_27 : decode b_S_part 27 = .ok (.imul, 1) := by decide +kernel
theorem d_S_part_28 : decode b_S_part 28 = .ok (.iload_n 2, 1) := by decide +kernel
theorem d_S_part_29 : decode b_S_part 29 = .ok (.iadd, 1) := by decide +kernel
theorem d_S_part_30 : decode b_S_part 30 = .ok (.iaload, 1) := by decide +kernel
theorem d_S_part_31 : decode b_S_part 31 = .ok (.ireturn, 1) := by decide +kernel
abbrev b_C_add : ByteArray := prog_3_method_2_code
def y_C_add : MethodName := ⟨"RedactCheck$Codes", "add", "(I)V"⟩
theorem d_C_add_0 : decode b_C_add 0 = .ok (.aload_n 0, 1) := by decide +kernel
theorem d_C_add_1 : decode b_C_add 1 = .ok (.getfield 15, 3) := by decide +kernel
theorem d_C_add_4 : decode b_C_add 4 = .ok (.ifCond .lt 35, 3) := by decide +kernel
theorem d_C_add_7 : decode b_C_add 7 = .ok (.aload_n 0, 1) := by decide +kernel
theorem d_C_add_8 : decode b_C_add 8 = .ok (.getfield 15, 3) := by decide +kernel
theorem d_C_add_11 : decode b_C_add 11 = .ok (.aload_n 0, 1) := by decide +kernel
theorem d_C_add_12 : decode b_C_add 12 = .ok (.getfield 9, 3) := by decide +kernel
theorem d_C_add_15 : decode b_C_add 15 = .ok (.arraylength, 1) := by decide +kernel
theorem d_C_add_16 : decode b_C_add 16 = .ok (.if_icmp .ge 23, 3) := by decide +kernel
theorem d_C_add_19 : decode b_C_add 19 = .ok (.aload_n 0, 1) := by decide +kernel
theorem d_C_add_20 : decode b_C_add 20 = .ok (.getfield 9, 3) := by decide +kernel
theorem d_C_add_23 : decode b_C_add 23 = .ok (.aload_n 0, 1) := by decide +kernel
theorem d_C_add_24 : decode b_C_add 24 = .ok (.getfield 15, 3) := by decide +kernel
theorem d_C_add_27 : decode b_C_add 27 = .ok (.iload_n 1, 1) := by decide +kernel
theorem d_C_add_28 : decode b_C_add 28 = .ok (.iastore, 1) := by decide +kernel
theorem d_C_add_29 : decode b_C_add 29 = .ok (.aload_n 0, 1) := by decide +kernel
theorem d_C_add_30 : decode b_C_add 30 = .ok (.dup, 1) := by decide +kernel
theorem d_C_add_31 : decode b_C_add 31 = .ok (.getfield 15, 3) := by decide +kernel
theorem d_C_add_34 : decode b_C_add 34 = .ok (.iconst 1, 1) := by decide +kernel
theorem d_C_add_35 : decode b_C_add 35 = .ok (.iadd, 1) := by decide +kernel
theorem d_C_add_36 : decode b_C_add 36 = .ok (.putfield 15, 3) := by decide +kernel
theorem d_C_add_39 : decode b_C_add 39 = .ok (.return_, 1) := by decide +kernel
abbrev b_R_findWords : ByteArray := prog_1_method_37_code
def y_R_findWords : MethodName := ⟨"RedactCheck", "findWords", "(III)V"⟩
theorem d_R_findWords_0 : decode b_R_findWords 0 = .ok (.iconst 0, 1) := by decide +kernel
theorem d_R_findWords_1 : decode b_R_findWords 1 = .ok (.istore 4, 2) := by decide +kernel
theorem d_R_findWords_3 : decode b_R_findWords 3 = .ok (.iload 4, 2) := by decide +kernel
theorem d_R_findWords_5 : decode b_R_findWords 5 = .ok (.aload_n 0, 1) := by decide +kernel
theorem d_R_findWords_6 : decode b_R_findWords 6 = .ok (.getfield 41, 3) := by decide +kernel
theorem d_R_findWords_9 : decode b_R_findWords 9 = .ok (.getfield 261, 3) := by decide +kernel
theorem d_R_findWords_12 : decode b_R_findWords 12 = .ok (.if_icmp .ge 68, 3) := by decide +kernel
theorem d_R_findWords_15 : decode b_R_findWords 15 = .ok (.iconst 0, 1) := by decide +kernel
theorem d_R_findWords_16 : decode b_R_findWords 16 = .ok (.istore 5, 2) := by decide +kernel
theorem d_R_findWords_18 : decode b_R_findWords 18 = .ok (.iload 5, 2) := by decide +kernel
theorem d_R_findWords_20 : decode b_R_findWords 20 = .ok (.aload_n 0, 1) := by decide +kernel
theorem d_R_findWords_21 : decode b_R_findWords 21 = .ok (.getfield 22, 3) := by decide +kernel
theorem d_R_findWords_24 : decode b_R_findWords 24 = .ok (.invokevirtual 62, 3) := by decide +kernel
theorem d_R_findWords_27 : decode b_R_findWords 27 = .ok (.if_icmp .ge 47, 3) := by decide +kernel
theorem d_R_findWords_30 : decode b_R_findWords 30 = .ok (.aload_n 0, 1) := by decide +kernel
theorem d_R_findWords_31 : decode b_R_findWords 31 = .ok (.getfield 22, 3) := by decide +kernel
theorem d_R_findWords_34 : decode b_R_findWords 34 = .ok (.iload 5, 2) := by decide +kernel
theorem d_R_findWords_36 : decode b_R_findWords 36 = .ok (.invokevirtual 138, 3) := by decide +kernel
theorem d_R_findWords_39 : decode b_R_findWords 39 = .ok (.checkcast 82, 3) := by decide +kernel
theorem d_R_findWords_42 : decode b_R_findWords 42 = .ok (.aload_n 0, 1) := by decide +kernel
theorem d_R_findWords_43 : decode b_R_findWords 43 = .ok (.getfield 41, 3) := by decide +kernel
theorem d_R_findWords_46 : decode b_R_findWords 46 = .ok (.iload 4, 2) := by decide +kernel
theorem d_R_findWords_48 : decode b_R_findWords 48 = .ok (.invokevirtual 262, 3) := by decide +kernel
theorem d_R_findWords_51 : decode b_R_findWords 51 = .ok (.ifCond .eq 17, 3) := by decide +kernel
theorem d_R_findWords_54 : decode b_R_findWords 54 = .ok (.aload_n 0, 1) := by decide +kernel
theorem d_R_findWords_55 : decode b_R_findWords 55 = .ok (.getfield 34, 3) := by decide +kernel
theorem d_R_findWords_58 : decode b_R_findWords 58 = .ok (.iload_n 1, 1) := by decide +kernel
theorem d_R_findWords_59 : decode b_R_findWords 59 = .ok (.iload_n 2, 1) := by decide +kernel
theorem d_R_findWords_60 : decode b_R_findWords 60 = .ok (.iload 4, 2) := by decide +kernel
theorem d_R_findWords_62 : decode b_R_findWords 62 = .ok (.iload 5, 2) := by decide +kernel
theorem d_R_findWords_64 : decode b_R_findWords 64 = .ok (.iload_n 3, 1) := by decide +kernel
theorem d_R_findWords_65 : decode b_R_findWords 65 = .ok (.invokevirtual 265, 3) := by decide +kernel
theorem d_R_findWords_68 : decode b_R_findWords 68 = .ok (.iinc 5 1, 3) := by decide +kernel
theorem d_R_findWords_71 : decode b_R_findWords 71 = .ok (.goto (-53), 3) := by decide +kernel
theorem d_R_findWords_74 : decode b_R_findWords 74 = .ok (.iinc 4 1, 3) := by decide +kernel
theorem d_R_findWords_77 : decode b_R_findWords 77 = .ok (.goto (-74), 3) := by decide +kernel
theorem d_R_findWords_80 : decode b_R_findWords 80 = .ok (.return_, 1) := by decide +kernel
abbrev b_D_standsIn : ByteArray := prog_9_method_3_code
def y_D_standsIn : MethodName := ⟨"RedactCheck$Word", "standsIn", "(LRedactCheck$Codes;I)Z"⟩
theorem d_D_standsIn_0 : decode b_D_standsIn 0 = .ok (.aload_n 0, 1) := by decide +kernel
theorem d_D_standsIn_1 : decode b_D_standsIn 1 = .ok (.getfield 15, 3) := by decide +kernel
theorem d_D_standsIn_4 : decode b_D_standsIn 4 = .ok (.ifCond .eq 16, 3) := by decide +kernel
theorem d_D_standsIn_7 : decode b_D_standsIn 7 = .ok (.iload_n 2, 1) := by decide +kernel
theorem d_D_standsIn_8 : decode b_D_standsIn 8 = .ok (.aload_n 0, 1) := by decide +kernel
theorem d_D_standsIn_9 : decode b_D_standsIn 9 = .ok (.getfield 15, 3) := by decide +kernel
theorem d_D_standsIn_12 : decode b_D_standsIn 12 = .ok (.iadd, 1) := by decide +kernel
theorem d_D_standsIn_13 : decode b_D_standsIn 13 = .ok (.aload_n 1, 1) := by decide +kernel
theorem d_D_standsIn_14 : decode b_D_standsIn 14 = .ok (.getfield 19, 3) := by decide +kernel
theorem d_D_standsIn_17 : decode b_D_standsIn 17 = .ok (.if_icmp .le 5, 3) := by decide +kernel
theorem d_D_standsIn_20 : decode b_D_standsIn 20 = .ok (.iconst 0, 1) := by decide +kernel
theorem d_D_standsIn_21 : decode b_D_standsIn 21 = .ok (.ireturn, 1) := by decide +kernel
theorem d_D_standsIn_22 : decode b_D_standsIn 22 = .ok (.iconst 0, 1) := by decide +kernel
theorem d_D_standsIn_23 : decode b_D_standsIn 23 = .ok (.istore_n 3, 1) := by decide +kernel
theorem d_D_standsIn_24 : decode b_D_standsIn 24 = .ok (.iload_n 3, 1) := by decide +kernel
theorem d_D_standsIn_25 : decode b_D_standsIn 25 = .ok (.aload_n 0, 1) := by decide +kernel
theorem d_D_standsIn_26 : decode b_D_standsIn 26 = .ok (.getfield 15, 3) := by decide +kernel
theorem d_D_standsIn_29 : decode b_D_standsIn 29 = .ok (.if_icmp .ge 36, 3) := by decide +kernel
theorem d_D_standsIn_32 : decode b_D_standsIn 32 = .ok (.iload_n 3, 1) := by decide +kernel
theorem d_D_standsIn_33 : decode b_D_standsIn 33 = .ok (.aload_n 0, 1) := by decide +kernel
theorem d_D_standsIn_34 : decode b_D_standsIn 34 = .ok (.getfield 9, 3) := by decide +kernel
theorem d_D_standsIn_37 : decode b_D_standsIn 37 = .ok (.arraylength, 1) := by decide +kernel
theorem d_D_standsIn_38 : decode b_D_standsIn 38 = .ok (.if_icmp .ge 27, 3) := by decide +kernel
theorem d_D_standsIn_41 : decode b_D_standsIn 41 = .ok (.aload_n 1, 1) := by decide +kernel
theorem d_D_standsIn_42 : decode b_D_standsIn 42 = .ok (.iload_n 2, 1) := by decide +kernel
theorem d_D_standsIn_43 : decode b_D_standsIn 43 = .ok (.iload_n 3, 1) := by decide +kernel
theorem d_D_standsIn_44 : decode b_D_standsIn 44 = .ok (.iadd, 1) := by decide +kernel
theorem d_D_standsIn_45 : decode b_D_standsIn 45 = .ok (.invokevirtual 22, 3) := by decide +kernel
theorem d_D_standsIn_48 : decode b_D_standsIn 48 = .ok (.aload_n 0, 1) := by decide +kernel
theorem d_D_standsIn_49 : decode b_D_standsIn 49 = .ok (.getfield 9, 3) := by decide +kernel
theorem d_D_standsIn_52 : decode b_D_standsIn 52 = .ok (.iload_n 3, 1) := by decide +kernel
theorem d_D_standsIn_53 : decode b_D_standsIn 53 = .ok (.iaload, 1) := by decide +kernel
theorem d_D_standsIn_54 : decode b_D_standsIn 54 = .ok (.if_icmp .eq 5, 3) := by decide +kernel
theorem d_D_standsIn_57 : decode b_D_standsIn 57 = .ok (.iconst 0, 1) := by decide +kernel
theorem d_D_standsIn_58 : decode b_D_standsIn 58 = .ok (.ireturn, 1) := by decide +kernel
theorem d_D_standsIn_59 : decode b_D_standsIn 59 = .ok (.iinc 3 1, 3) := by decide +kernel
theorem d_D_standsIn_62 : decode b_D_standsIn 62 = .ok (.goto (-38), 3) := by decide +kernel
theorem d_D_standsIn_65 : decode b_D_standsIn 65 = .ok (.iconst 1, 1) := by decide +kernel
theorem d_D_standsIn_66 : decode b_D_standsIn 66 = .ok (.ireturn, 1) := by decide +kernel
abbrev b_C_value : ByteArray := prog_3_method_3_code
def y_C_value : MethodName := ⟨"RedactCheck$Codes", "value", "(I)I"⟩
theorem d_C_value_0 : decode b_C_value 0 = .ok (.iload_n 1, 1) := by decide +kernel
theorem d_C_value_1 : decode b_C_value 1 = .ok (.ifCond .lt 29, 3) := by decide +kernel
theorem d_C_value_4 : decode b_C_value 4 = .ok (.iload_n 1, 1) := by decide +kernel
theorem d_C_value_5 : decode b_C_value 5 = .ok (.aload_n 0, 1) := by decide +kernel
theorem d_C_value_6 : decode b_C_value 6 = .ok (.getfield 15, 3) := by decide +kernel
theorem d_C_value_9 : decode b_C_value 9 = .ok (.if_icmp .ge 21, 3) := by decide +kernel
theorem d_C_value_12 : decode b_C_value 12 = .ok (.iload_n 1, 1) := by decide +kernel
theorem d_C_value_13 : decode b_C_value 13 = .ok (.aload_n 0, 1) := by decide +kernel
theorem d_C_value_14 : decode b_C_value 14 = .ok (.getfield 9, 3) := by decide +kernel
theorem d_C_value_17 : decode b_C_value 17 = .ok (.arraylength, 1) := by decide +kernel
theorem d_C_value_18 : decode b_C_value 18 = .ok (.if_icmp .ge 12, 3) := by decide +kernel
theorem d_C_value_21 : decode b_C_value 21 = .ok (.aload_n 0, 1) := by decide +kernel
theorem d_C_value_22 : decode b_C_value 22 = .ok (.getfield 9, 3) := by decide +kernel
theorem d_C_value_25 : decode b_C_value 25 = .ok (.iload_n 1, 1) := by decide +kernel
theorem d_C_value_26 : decode b_C_value 26 = .ok (.iaload, 1) := by decide +kernel
theorem d_C_value_27 : decode b_C_value 27 = .ok (.goto 4, 3) := by decide +kernel
theorem d_C_value_30 : decode b_C_value 30 = .ok (.iconst (-1), 1) := by decide +kernel
theorem d_C_value_31 : decode b_C_value 31 = .ok (.ireturn, 1) := by decide +kernel
abbrev b_F_add : ByteArray := prog_4_method_3_code
def y_F_add : MethodName := ⟨"RedactCheck$Findings", "add", "(IIIII)V"⟩
theorem d_F_add_0 : decode b_F_add 0 = .ok (.aload_n 0, 1) := by decide +kernel
theorem d_F_add_1 : decode b_F_add 1 = .ok (.getfield 15, 3) := by decide +kernel
theorem d_F_add_4 : decode b_F_add 4 = .ok (.ifCond .lt 12, 3) := by decide +kernel
theorem d_F_add_7 : decode b_F_add 7 = .ok (.aload_n 0, 1) := by decide +kernel
theorem d_F_add_8 : decode b_F_add 8 = .ok (.getfield 15, 3) := by decide +kernel
theorem d_F_add_11 : decode b_F_add 11 = .ok (.bipush 100, 2) := by decide +kernel
theorem d_F_add_13 : decode b_F_add 13 = .ok (.if_icmp .lt 4, 3) := by decide +kernel
theorem d_F_add_16 : decode b_F_add 16 = .ok (.return_, 1) := by decide +kernel
theorem d_F_add_17 : decode b_F_add 17 = .ok (.aload_n 0, 1) := by decide +kernel
theorem d_F_add_18 : decode b_F_add 18 = .ok (.getfield 15, 3) := by decide +kernel
theorem d_F_add_21 : decode b_F_add 21 = .ok (.iconst 5, 1) := by decide +kernel
theorem d_F_add_22 : decode b_F_add 22 = .ok (.imul, 1) := by decide +kernel
theorem d_F_add_23 : decode b_F_add 23 = .ok (.istore 6, 2) := by decide +kernel
theorem d_F_add_25 : decode b_F_add 25 = .ok (.aload_n 0, 1) := by decide +kernel
theorem d_F_add_26 : decode b_F_add 26 = .ok (.getfield 9, 3) := by decide +kernel
theorem d_F_add_29 : decode b_F_add 29 = .ok (.iload 6, 2) := by decide +kernel
theorem d_F_add_31 : decode b_F_add 31 = .ok (.iload_n 1, 1) := by decide +kernel
theorem d_F_add_32 : decode b_F_add 32 = .ok (.iastore, 1) := by decide +kernel
theorem d_F_add_33 : decode b_F_add 33 = .ok (.aload_n 0, 1) := by decide +kernel
theorem d_F_add_34 : decode b_F_add 34 = .ok (.getfield 9, 3) := by decide +kernel
theorem d_F_add_37 : decode b_F_add 37 = .ok (.iload 6, 2) := by decide +kernel
theorem d_F_add_39 : decode b_F_add 39 = .ok (.iconst 1, 1) := by decide +kernel
theorem d_F_add_40 : decode b_F_add 40 = .ok (.iadd, 1) := by decide +kernel
theorem d_F_add_41 : decode b_F_add 41 = .ok (.iload_n 2, 1) := by decide +kernel
theorem d_F_add_42 : decode b_F_add 42 = .ok (.iastore, 1) := by decide +kernel
theorem d_F_add_43 : decode b_F_add 43 = .ok (.aload_n 0, 1) := by decide +kernel
theorem d_F_add_44 : decode b_F_add 44 = .ok (.getfield 9, 3) := by decide +kernel
theorem d_F_add_47 : decode b_F_add 47 = .ok (.iload 6, 2) := by decide +kernel
theorem d_F_add_49 : decode b_F_add 49 = .ok (.iconst 2, 1) := by decide +kernel
theorem d_F_add_50 : decode b_F_add 50 = .ok (.iadd, 1) := by decide +kernel
theorem d_F_add_51 : decode b_F_add 51 = .ok (.iload_n 3, 1) := by decide +kernel
theorem d_F_add_52 : decode b_F_add 52 = .ok (.iastore, 1) := by decide +kernel
theorem d_F_add_53 : decode b_F_add 53 = .ok (.aload_n 0, 1) := by decide +kernel
theorem d_F_add_54 : decode b_F_add 54 = .ok (.getfield 9, 3) := by decide +kernel
theorem d_F_add_57 : decode b_F_add 57 = .ok (.iload 6, 2) := by decide +kernel
theorem d_F_add_59 : decode b_F_add 59 = .ok (.iconst 3, 1) := by decide +kernel
theorem d_F_add_60 : decode b_F_add 60 = .ok (.iadd, 1) := by decide +kernel
theorem d_F_add_61 : decode b_F_add 61 = .ok (.iload 4, 2) := by decide +kernel
theorem d_F_add_63 : decode b_F_add 63 = .ok (.iastore, 1) := by decide +kernel
theorem d_F_add_64 : decode b_F_add 64 = .ok (.aload_n 0, 1) := by decide +kernel
theorem d_F_add_65 : decode b_F_add 65 = .ok (.getfield 9, 3) := by decide +kernel
theorem d_F_add_68 : decode b_F_add 68 = .ok (.iload 6, 2) := by decide +kernel
theorem d_F_add_70 : decode b_F_add 70 = .ok (.iconst 4, 1) := by decide +kernel
theorem d_F_add_71 : decode b_F_add 71 = .ok (.iadd, 1) := by decide +kernel
theorem d_F_add_72 : decode b_F_add 72 = .ok (.iload 5, 2) := by decide +kernel
theorem d_F_add_74 : decode b_F_add 74 = .ok (.iastore, 1) := by decide +kernel
theorem d_F_add_75 : decode b_F_add 75 = .ok (.aload_n 0, 1) := by decide +kernel
theorem d_F_add_76 : decode b_F_add 76 = .ok (.dup, 1) := by decide +kernel
theorem d_F_add_77 : decode b_F_add 77 = .ok (.getfield 15, 3) := by decide +kernel
theorem d_F_add_80 : decode b_F_add 80 = .ok (.iconst 1, 1) := by decide +kernel
theorem d_F_add_81 : decode b_F_add 81 = .ok (.iadd, 1) := by decide +kernel
theorem d_F_add_82 : decode b_F_add 82 = .ok (.putfield 15, 3) := by decide +kernel
theorem d_F_add_85 : decode b_F_add 85 = .ok (.return_, 1) := by decide +kernel
abbrev b_R_lookThroughStore : ByteArray := prog_1_method_36_code
def y_R_lookThroughStore : MethodName := ⟨"RedactCheck", "lookThroughStore", "(I)V"⟩
theorem d_R_lookThroughStore_0 : decode b_R_lookThroughStore 0 = .ok (.iload_n 1, 1) := by decide +kernel
theorem d_R_lookThroughStore_1 : decode b_R_lookThroughStore 1 = .ok (.ifCond .lt 14, 3) := by decide +kernel
theorem d_R_lookThroughStore_4 : decode b_R_lookThroughStore 4 = .ok (.iload_n 1, 1) := by decide +kernel
theorem d_R_lookThroughStore_5 : decode b_R_lookThroughStore 5 = .ok (.aload_n 0, 1) := by decide +kernel
theorem d_R_lookThroughStore_6 : decode b_R_lookThroughStore 6 = .ok (.getfield 28, 3) := by decide +kernel
theorem d_R_lookThroughStore_9 : decode b_R_lookThroughStore 9 = .ok (.invokevirtual 62, 3) := by decide +kernel
theorem d_R_lookThroughStore_12 : decode b_R_lookThroughStore 12 = .ok (.if_icmp .lt 4, 3) := by decide +kernel
theorem d_R_lookThroughStore_15 : decode b_R_lookThroughStore 15 = .ok (.return_, 1) := by decide +kernel
theorem d_R_lookThroughStore_16 : decode b_R_lookThroughStore 16 = .ok (.aload_n 0, 1) := by decide +kernel
theorem d_R_lookThroughStore_17 : decode b_R_lookThroughStore 17 = .ok (.getfield 28, 3) := by decide +kernel
theorem d_R_lookThroughStore_20 : decode b_R_lookThroughStore 20 = .ok (.iload_n 1, 1) := by decide +kernel
theorem d_R_lookThroughStore_21 : decode b_R_lookThroughStore 21 = .ok (.invokevirtual 138, 3) := by decide +kernel
theorem d_R_lookThroughStore_24 : decode b_R_lookThroughStore 24 = .ok (.checkcast 107, 3) := by decide +kernel
theorem d_R_lookThroughStore_27 : decode b_R_lookThroughStore 27 = .ok (.astore_n 2, 1) := by decide +kernel
theorem d_R_lookThroughStore_28 : decode b_R_lookThroughStore 28 = .ok (.iconst 0, 1) := by decide +kernel
theorem d_R_lookThroughStore_29 : decode b_R_lookThroughStore 29 = .ok (.istore_n 3, 1) := by decide +kernel
theorem d_R_lookThroughStore_30 : decode b_R_lookThroughStore 30 = .ok (.iload_n 3, 1) := by decide +kernel
theorem d_R_lookThroughStore_31 : decode b_R_lookThroughStore 31 = .ok (.iconst 4, 1) := by decide +kernel
theorem d_R_lookThroughStore_32 : decode b_R_lookThroughStore 32 = .ok (.if_icmp .ge 28, 3) := by decide +kernel
theorem d_R_lookThroughStore_35 : decode b_R_lookThroughStore 35 = .ok (.aload_n 2, 1) := by decide +kernel
theorem d_R_lookThroughStore_36 : decode b_R_lookThroughStore 36 = .ok (.aload_n 0, 1) := by decide +kernel
theorem d_R_lookThroughStore_37 : decode b_R_lookThroughStore 37 = .ok (.getfield 41, 3) := by decide +kernel
theorem d_R_lookThroughStore_40 : decode b_R_lookThroughStore 40 = .ok (.iload_n 3, 1) := by decide +kernel
theorem d_R_lookThroughStore_41 : decode b_R_lookThroughStore 41 = .ok (.invokevirtual 238, 3) := by decide +kernel
theorem d_R_lookThroughStore_44 : decode b_R_lookThroughStore 44 = .ok (.ifCond .eq 10, 3) := by decide +kernel
theorem d_R_lookThroughStore_47 : decode b_R_lookThroughStore 47 = .ok (.aload_n 0, 1) := by decide +kernel
theorem d_R_lookThroughStore_48 : decode b_R_lookThroughStore 48 = .ok (.iconst 2, 1) := by decide +kernel
theorem d_R_lookThroughStore_49 : decode b_R_lookThroughStore 49 = .ok (.iload_n 1, 1) := by decide +kernel
theorem d_R_lookThroughStore_50 : decode b_R_lookThroughStore 50 = .ok (.iload_n 3, 1) := by decide +kernel
theorem d_R_lookThroughStore_51 : decode b_R_lookThroughStore 51 = .ok (.invokevirtual 146, 3) := by decide +kernel
theorem d_R_lookThroughStore_54 : decode b_R_lookThroughStore 54 = .ok (.iinc 3 1, 3) := by decide +kernel
theorem d_R_lookThroughStore_57 : decode b_R_lookThroughStore 57 = .ok (.goto (-27), 3) := by decide +kernel
theorem d_R_lookThroughStore_60 : decode b_R_lookThroughStore 60 = .ok (.return_, 1) := by decide +kernel
abbrev b_T_readInto : ByteArray := prog_7_method_4_code
def y_T_readInto : MethodName := ⟨"RedactCheck$Store", "readInto", "(LRedactCheck$Codes;I)Z"⟩
theorem d_T_readInto_0 : decode b_T_readInto 0 = .ok (.aload_n 1, 1) := by decide +kernel
theorem d_T_readInto_1 : decode b_T_readInto 1 = .ok (.iconst 0, 1) := by decide +kernel
theorem d_T_readInto_2 : decode b_T_readInto 2 = .ok (.putfield 22, 3) := by decide +kernel
theorem d_T_readInto_5 : decode b_T_readInto 5 = .ok (.iload_n 2, 1) := by decide +kernel
theorem d_T_readInto_6 : decode b_T_readInto 6 = .ok (.ifCond .ne 7, 3) := by decide +kernel
theorem d_T_readInto_9 : decode b_T_readInto 9 = .ok (.iconst 1, 1) := by decide +kernel
theorem d_T_readInto_10 : decode b_T_readInto 10 = .ok (.goto 4, 3) := by decide +kernel
theorem d_T_readInto_13 : decode b_T_readInto 13 = .ok (.iconst 2, 1) := by decide +kernel
theorem d_T_readInto_14 : decode b_T_readInto 14 = .ok (.istore_n 3, 1) := by decide +kernel
theorem d_T_readInto_15 : decode b_T_readInto 15 = .ok (.iconst 0, 1) := by decide +kernel
theorem d_T_readInto_16 : decode b_T_readInto 16 = .ok (.istore 4, 2) := by decide +kernel
theorem d_T_readInto_18 : decode b_T_readInto 18 = .ok (.iload 4, 2) := by decide +kernel
theorem d_T_readInto_20 : decode b_T_readInto 20 = .ok (.aload_n 0, 1) := by decide +kernel
theorem d_T_readInto_21 : decode b_T_readInto 21 = .ok (.getfield 19, 3) := by decide +kernel
theorem d_T_readInto_24 : decode b_T_readInto 24 = .ok (.if_icmp .ge 46, 3) := by decide +kernel
theorem d_T_readInto_27 : decode b_T_readInto 27 = .ok (.iload_n 2, 1) := by decide +kernel
theorem d_T_readInto_28 : decode b_T_readInto 28 = .ok (.aload_n 0, 1) := by decide +kernel
theorem d_T_readInto_29 : decode b_T_readInto 29 = .ok (.iload 4, 2) := by decide +kernel
theorem d_T_readInto_31 : decode b_T_readInto 31 = .ok (.invokevirtual 25, 3) := by decide +kernel
theorem d_T_readInto_34 : decode b_T_readInto 34 = .ok (.aload_n 0, 1) := by decide +kernel
theorem d_T_readInto_35 : decode b_T_readInto 35 = .ok (.iload 4, 2) := by decide +kernel
theorem d_T_readInto_37 : decode b_T_readInto 37 = .ok (.iconst 1, 1) := by decide +kernel
theorem d_T_readInto_38 : decode b_T_readInto 38 = .ok (.iadd, 1) := by decide +kernel
theorem d_T_readInto_39 : decode b_T_readInto 39 = .ok (.invokevirtual 25, 3) := by decide +kernel
theorem d_T_readInto_42 : decode b_T_readInto 42 = .ok (.invokestatic 29, 3) := by decide +kernel
theorem d_T_readInto_45 : decode b_T_readInto 45 = .ok (.istore 5, 2) := by decide +kernel
theorem d_T_readInto_47 : decode b_T_readInto 47 = .ok (.iload 5, 2) := by decide +kernel
theorem d_T_readInto_49 : decode b_T_readInto 49 = .ok (.iconst (-1), 1) := by decide +kernel
theorem d_T_readInto_50 : decode b_T_readInto 50 = .ok (.if_icmp .ne 5, 3) := by decide +kernel
theorem d_T_readInto_53 : decode b_T_readInto 53 = .ok (.iconst 0, 1) := by decide +kernel
theorem d_T_readInto_54 : decode b_T_readInto 54 = .ok (.ireturn, 1) := by decide +kernel
theorem d_T_readInto_55 : decode b_T_readInto 55 = .ok (.aload_n 1, 1) := by decide +kernel
theorem d_T_readInto_56 : decode b_T_readInto 56 = .ok (.iload 5, 2) := by decide +kernel
theorem d_T_readInto_58 : decode b_T_readInto 58 = .ok (.invokevirtual 33, 3) := by decide +kernel
theorem d_T_readInto_61 : decode b_T_readInto 61 = .ok (.iload 4, 2) := by decide +kernel
theorem d_T_readInto_63 : decode b_T_readInto 63 = .ok (.iload_n 3, 1) := by decide +kernel
theorem d_T_readInto_64 : decode b_T_readInto 64 = .ok (.iadd, 1) := by decide +kernel
theorem d_T_readInto_65 : decode b_T_readInto 65 = .ok (.istore 4, 2) := by decide +kernel
theorem d_T_readInto_67 : decode b_T_readInto 67 = .ok (.goto (-49), 3) := by decide +kernel
theorem d_T_readInto_70 : decode b_T_readInto 70 = .ok (.iconst 1, 1) := by decide +kernel
theorem d_T_readInto_71 : decode b_T_readInto 71 = .ok (.ireturn, 1) := by decide +kernel
abbrev b_T_unsigned : ByteArray := prog_7_method_7_code
def y_T_unsigned : MethodName := ⟨"RedactCheck$Store", "unsigned", "(I)I"⟩
theorem d_T_unsigned_0 : decode b_T_unsigned 0 = .ok (.iload_n 1, 1) := by decide +kernel
theorem d_T_unsigned_1 : decode b_T_unsigned 1 = .ok (.aload_n 0, 1) := by decide +kernel
theorem d_T_unsigned_2 : decode b_T_unsigned 2 = .ok (.getfield 19, 3) := by decide +kernel
theorem d_T_unsigned_5 : decode b_T_unsigned 5 = .ok (.if_icmp .ge 15, 3) := by decide +kernel
theorem d_T_unsigned_8 : decode b_T_unsigned 8 = .ok (.aload_n 0, 1) := by decide +kernel
theorem d_T_unsigned_9 : decode b_T_unsigned 9 = .ok (.iload_n 1, 1) := by decide +kernel
theorem d_T_unsigned_10 : decode b_T_unsigned 10 = .ok (.invokevirtual 50, 3) := by decide +kernel
theorem d_T_unsigned_13 : decode b_T_unsigned 13 = .ok (.sipush 255, 3) := by decide +kernel
theorem d_T_unsigned_16 : decode b_T_unsigned 16 = .ok (.iand, 1) := by decide +kernel
theorem d_T_unsigned_17 : decode b_T_unsigned 17 = .ok (.goto 4, 3) := by decide +kernel
theorem d_T_unsigned_20 : decode b_T_unsigned 20 = .ok (.iconst (-1), 1) := by decide +kernel
theorem d_T_unsigned_21 : decode b_T_unsigned 21 = .ok (.ireturn, 1) := by decide +kernel
abbrev b_T_value : ByteArray := prog_7_method_3_code
def y_T_value : MethodName := ⟨"RedactCheck$Store", "value", "(I)B"⟩
theorem d_T_value_0 : decode b_T_value 0 = .ok (.iload_n 1, 1) := by decide +kernel
theorem d_T_value_1 : decode b_T_value 1 = .ok (.ifCond .lt 21, 3) := by decide +kernel
theorem d_T_value_4 : decode b_T_value 4 = .ok (.iload_n 1, 1) := by decide +kernel
theorem d_T_value_5 : decode b_T_value 5 = .ok (.aload_n 0, 1) := by decide +kernel
theorem d_T_value_6 : decode b_T_value 6 = .ok (.getfield 9, 3) := by decide +kernel
theorem d_T_value_9 : decode b_T_value 9 = .ok (.arraylength, 1) := by decide +kernel
theorem d_T_value_10 : decode b_T_value 10 = .ok (.if_icmp .ge 12, 3) := by decide +kernel
theorem d_T_value_13 : decode b_T_value 13 = .ok (.aload_n 0, 1) := by decide +kernel
theorem d_T_value_14 : decode b_T_value 14 = .ok (.getfield 9, 3) := by decide +kernel
theorem d_T_value_17 : decode b_T_value 17 = .ok (.iload_n 1, 1) := by decide +kernel
theorem d_T_value_18 : decode b_T_value 18 = .ok (.baload, 1) := by decide +kernel
theorem d_T_value_19 : decode b_T_value 19 = .ok (.goto 4, 3) := by decide +kernel
theorem d_T_value_22 : decode b_T_value 22 = .ok (.iconst 0, 1) := by decide +kernel
theorem d_T_value_23 : decode b_T_value 23 = .ok (.ireturn, 1) := by decide +kernel
abbrev b_T_decode : ByteArray := prog_7_method_8_code
def y_T_decode : MethodName := ⟨"RedactCheck$Store", "decode", "(III)I"⟩
theorem d_T_decode_0 : decode b_T_decode 0 = .ok (.iload_n 0, 1) := by decide +kernel
theorem d_T_decode_1 : decode b_T_decode 1 = .ok (.tableswitch 49 0 2 #[27, 29, 39], 27) := by decide +kernel
theorem d_T_decode_28 : decode b_T_decode 28 = .ok (.iload_n 1, 1) := by decide +kernel
theorem d_T_decode_29 : decode b_T_decode 29 = .ok (.ireturn, 1) := by decide +kernel
theorem d_T_decode_30 : decode b_T_decode 30 = .ok (.iload_n 1, 1) := by decide +kernel
theorem d_T_decode_31 : decode b_T_decode 31 = .ok (.ifCond .ne 7, 3) := by decide +kernel
theorem d_T_decode_34 : decode b_T_decode 34 = .ok (.iload_n 2, 1) := by decide +kernel
theorem d_T_decode_35 : decode b_T_decode 35 = .ok (.goto 4, 3) := by decide +kernel
theorem d_T_decode_38 : decode b_T_decode 38 = .ok (.iconst (-1), 1) := by decide +kernel
theorem d_T_decode_39 : decode b_T_decode 39 = .ok (.ireturn, 1) := by decide +kernel
theorem d_T_decode_40 : decode b_T_decode 40 = .ok (.iload_n 2, 1) := by decide +kernel
theorem d_T_decode_41 : decode b_T_decode 41 = .ok (.ifCond .ne 7, 3) := by decide +kernel
theorem d_T_decode_44 : decode b_T_decode 44 = .ok (.iload_n 1, 1) := by decide +kernel
theorem d_T_decode_45 : decode b_T_decode 45 = .ok (.goto 4, 3) := by decide +kernel
theorem d_T_decode_48 : decode b_T_decode 48 = .ok (.iconst (-1), 1) := by decide +kernel
theorem d_T_decode_49 : decode b_T_decode 49 = .ok (.ireturn, 1) := by decide +kernel
theorem d_T_decode_50 : decode b_T_decode 50 = .ok (.iload_n 1, 1) := by decide +kernel
theorem d_T_decode_51 : decode b_T_decode 51 = .ok (.invokestatic 52, 3) := by decide +kernel
theorem d_T_decode_54 : decode b_T_decode 54 = .ok (.istore_n 3, 1) := by decide +kernel
theorem d_T_decode_55 : decode b_T_decode 55 = .ok (.iload_n 2, 1) := by decide +kernel
theorem d_T_decode_56 : decode b_T_decode 56 = .ok (.invokestatic 52, 3) := by decide +kernel
theorem d_T_decode_59 : decode b_T_decode 59 = .ok (.istore 4, 2) := by decide +kernel
theorem d_T_decode_61 : decode b_T_decode 61 = .ok (.iload_n 3, 1) := by decide +kernel
theorem d_T_decode_62 : decode b_T_decode 62 = .ok (.iconst (-1), 1) := by decide +kernel
theorem d_T_decode_63 : decode b_T_decode 63 = .ok (.if_icmp .eq 9, 3) := by decide +kernel
theorem d_T_decode_66 : decode b_T_decode 66 = .ok (.iload 4, 2) := by decide +kernel
theorem d_T_decode_68 : decode b_T_decode 68 = .ok (.iconst (-1), 1) := by decide +kernel
theorem d_T_decode_69 : decode b_T_decode 69 = .ok (.if_icmp .ne 7, 3) := by decide +kernel
theorem d_T_decode_72 : decode b_T_decode 72 = .ok (.iconst (-1), 1) := by decide +kernel
theorem d_T_decode_73 : decode b_T_decode 73 = .ok (.goto 10, 3) := by decide +kernel
theorem d_T_decode_76 : decode b_T_decode 76 = .ok (.iload_n 3, 1) := by decide +kernel
theorem d_T_decode_77 : decode b_T_decode 77 = .ok (.bipush 16, 2) := by decide +kernel
theorem d_T_decode_79 : decode b_T_decode 79 = .ok (.imul, 1) := by decide +kernel
theorem d_T_decode_80 : decode b_T_decode 80 = .ok (.iload 4, 2) := by decide +kernel
theorem d_T_decode_82 : decode b_T_decode 82 = .ok (.iadd, 1) := by decide +kernel
theorem d_T_decode_83 : decode b_T_decode 83 = .ok (.ireturn, 1) := by decide +kernel
abbrev b_T_valueOfDigit : ByteArray := prog_7_method_9_code
def y_T_valueOfDigit : MethodName := ⟨"RedactCheck$Store", "valueOfDigit", "(I)I"⟩
theorem d_T_valueOfDigit_0 : decode b_T_valueOfDigit 0 = .ok (.iload_n 0, 1) := by decide +kernel
theorem d_T_valueOfDigit_1 : decode b_T_valueOfDigit 1 = .ok (.bipush 48, 2) := by decide +kernel
theorem d_T_valueOfDigit_3 : decode b_T_valueOfDigit 3 = .ok (.if_icmp .lt 14, 3) := by decide +kernel
theorem d_T_valueOfDigit_6 : decode b_T_valueOfDigit 6 = .ok (.iload_n 0, 1) := by decide +kernel
theorem d_T_valueOfDigit_7 : decode b_T_valueOfDigit 7 = .ok (.bipush 57, 2) := by decide +kernel
theorem d_T_valueOfDigit_9 : decode b_T_valueOfDigit 9 = .ok (.if_icmp .gt 8, 3) := by decide +kernel
theorem d_T_valueOfDigit_12 : decode b_T_valueOfDigit 12 = .ok (.iload_n 0, 1) := by decide +kernel
theorem d_T_valueOfDigit_13 : decode b_T_valueOfDigit 13 = .ok (.bipush 48, 2) := by decide +kernel
theorem d_T_valueOfDigit_15 : decode b_T_valueOfDigit 15 = .ok (.isub, 1) := by decide +kernel
theorem d_T_valueOfDigit_16 : decode b_T_valueOfDigit 16 = .ok (.ireturn, 1) := by decide +kernel
theorem d_T_valueOfDigit_17 : decode b_T_valueOfDigit 17 = .ok (.iload_n 0, 1) := by decide +kernel
theorem d_T_valueOfDigit_18 : decode b_T_valueOfDigit 18 = .ok (.bipush 65, 2) := by decide +kernel
theorem d_T_valueOfDigit_20 : decode b_T_valueOfDigit 20 = .ok (.if_icmp .lt 17, 3) := by decide +kernel
theorem d_T_valueOfDigit_23 : decode b_T_valueOfDigit 23 = .ok (.iload_n 0, 1) := by decide +kernel
theorem d_T_valueOfDigit_24 : decode b_T_valueOfDigit 24 = .ok (.bipush 70, 2) := by decide +kernel
theorem d_T_valueOfDigit_26 : decode b_T_valueOfDigit 26 = .ok (.if_icmp .gt 11, 3) := by decide +kernel
theorem d_T_valueOfDigit_29 : decode b_T_valueOfDigit 29 = .ok (.iload_n 0, 1) := by decide +kernel
theorem d_T_valueOfDigit_30 : decode b_T_valueOfDigit 30 = .ok (.bipush 65, 2) := by decide +kernel
theorem d_T_valueOfDigit_32 : decode b_T_valueOfDigit 32 = .ok (.isub, 1) := by decide +kernel
theorem d_T_valueOfDigit_33 : decode b_T_valueOfDigit 33 = .ok (.bipush 10, 2) := by decide +kernel
theorem d_T_valueOfDigit_35 : decode b_T_valueOfDigit 35 = .ok (.iadd, 1) := by decide +kernel
theorem d_T_valueOfDigit_36 : decode b_T_valueOfDigit 36 = .ok (.ireturn, 1) := by decide +kernel
theorem d_T_valueOfDigit_37 : decode b_T_valueOfDigit 37 = .ok (.iload_n 0, 1) := by decide +kernel
theorem d_T_valueOfDigit_38 : decode b_T_valueOfDigit 38 = .ok (.bipush 97, 2) := by decide +kernel
theorem d_T_valueOfDigit_40 : decode b_T_valueOfDigit 40 = .ok (.if_icmp .lt 17, 3) := by decide +kernel
theorem d_T_valueOfDigit_43 : decode b_T_valueOfDigit 43 = .ok (.iload_n 0, 1) := by decide +kernel
theorem d_T_valueOfDigit_44 : decode b_T_valueOfDigit 44 = .ok (.bipush 102, 2) := by decide +kernel
theorem d_T_valueOfDigit_46 : decode b_T_valueOfDigit 46 = .ok (.if_icmp .gt 11, 3) := by decide +kernel
theorem d_T_valueOfDigit_49 : decode b_T_valueOfDigit 49 = .ok (.iload_n 0, 1) := by decide +kernel
theorem d_T_valueOfDigit_50 : decode b_T_valueOfDigit 50 = .ok (.bipush 97, 2) := by decide +kernel
theorem d_T_valueOfDigit_52 : decode b_T_valueOfDigit 52 = .ok (.isub, 1) := by decide +kernel
theorem d_T_valueOfDigit_53 : decode b_T_valueOfDigit 53 = .ok (.bipush 10, 2) := by decide +kernel
theorem d_T_valueOfDigit_55 : decode b_T_valueOfDigit 55 = .ok (.iadd, 1) := by decide +kernel
theorem d_T_valueOfDigit_56 : decode b_T_valueOfDigit 56 = .ok (.ireturn, 1) := by decide +kernel
theorem d_T_valueOfDigit_57 : decode b_T_valueOfDigit 57 = .ok (.iconst (-1), 1) := by decide +kernel
theorem d_T_valueOfDigit_58 : decode b_T_valueOfDigit 58 = .ok (.ireturn, 1) := by decide +kernel
abbrev b_R_told : ByteArray := prog_1_method_18_code
def y_R_told : MethodName := ⟨"RedactCheck", "told", "(I)I"⟩
theorem d_R_told_0 : decode b_R_told 0 = .ok (.iload_n 1, 1) := by decide +kernel
theorem d_R_told_1 : decode b_R_told 1 = .ok (.tableswitch 87 0 5 #[39, 47, 55, 63, 71, 79], 39) := by decide +kernel
theorem d_R_told_40 : decode b_R_told 40 = .ok (.aload_n 0, 1) := by decide +kernel
theorem d_R_told_41 : decode b_R_told 41 = .ok (.getfield 16, 3) := by decide +kernel
theorem d_R_told_44 : decode b_R_told 44 = .ok (.invokevirtual 62, 3) := by decide +kernel
theorem d_R_told_47 : decode b_R_told 47 = .ok (.ireturn, 1) := by decide +kernel
theorem d_R_told_48 : decode b_R_told 48 = .ok (.aload_n 0, 1) := by decide +kernel
theorem d_R_told_49 : decode b_R_told 49 = .ok (.getfield 19, 3) := by decide +kernel
theorem d_R_told_52 : decode b_R_told 52 = .ok (.invokevirtual 62, 3) := by decide +kernel
theorem d_R_told_55 : decode b_R_told 55 = .ok (.ireturn, 1) := by decide +kernel
theorem d_R_told_56 : decode b_R_told 56 = .ok (.aload_n 0, 1) := by decide +kernel
theorem d_R_told_57 : decode b_R_told 57 = .ok (.getfield 22, 3) := by decide +kernel
theorem d_R_told_60 : decode b_R_told 60 = .ok (.invokevirtual 62, 3) := by decide +kernel
theorem d_R_told_63 : decode b_R_told 63 = .ok (.ireturn, 1) := by decide +kernel
theorem d_R_told_64 : decode b_R_told 64 = .ok (.aload_n 0, 1) := by decide +kernel
theorem d_R_told_65 : decode b_R_told 65 = .ok (.getfield 25, 3) := by decide +kernel
theorem d_R_told_68 : decode b_R_told 68 = .ok (.invokevirtual 62, 3) := by decide +kernel
theorem d_R_told_71 : decode b_R_told 71 = .ok (.ireturn, 1) := by decide +kernel
theorem d_R_told_72 : decode b_R_told 72 = .ok (.aload_n 0, 1) := by decide +kernel
theorem d_R_told_73 : decode b_R_told 73 = .ok (.getfield 28, 3) := by decide +kernel
theorem d_R_told_76 : decode b_R_told 76 = .ok (.invokevirtual 62, 3) := by decide +kernel
theorem d_R_told_79 : decode b_R_told 79 = .ok (.ireturn, 1) := by decide +kernel
theorem d_R_told_80 : decode b_R_told 80 = .ok (.aload_n 0, 1) := by decide +kernel
theorem d_R_told_81 : decode b_R_told 81 = .ok (.getfield 34, 3) := by decide +kernel
theorem d_R_told_84 : decode b_R_told 84 = .ok (.getfield 156, 3) := by decide +kernel
theorem d_R_told_87 : decode b_R_told 87 = .ok (.ireturn, 1) := by decide +kernel
theorem d_R_told_88 : decode b_R_told 88 = .ok (.iconst (-1), 1) := by decide +kernel
theorem d_R_told_89 : decode b_R_told 89 = .ok (.ireturn, 1) := by decide +kernel
abbrev b_R_sign : ByteArray := prog_1_method_2_code
def y_R_sign : MethodName := ⟨"RedactCheck", "sign", "(IIIII)I"⟩
theorem d_R_sign_0 : decode b_R_sign 0 = .ok (.aload_n 0, 1) := by decide +kernel
theorem d_R_sign_1 : decode b_R_sign 1 = .ok (.getfield 10, 3) := by decide +kernel
theorem d_R_sign_4 : decode b_R_sign 4 = .ok (.iload_n 1, 1) := by decide +kernel
theorem d_R_sign_5 : decode b_R_sign 5 = .ok (.invokestatic 54, 3) := by decide +kernel
theorem d_R_sign_8 : decode b_R_sign 8 = .ok (.iload_n 2, 1) := by decide +kernel
theorem d_R_sign_9 : decode b_R_sign 9 = .ok (.iload_n 3, 1) := by decide +kernel
theorem d_R_sign_10 : decode b_R_sign 10 = .ok (.iload 4, 2) := by decide +kernel
theorem d_R_sign_12 : decode b_R_sign 12 = .ok (.iload 5, 2) := by decide +kernel
theorem d_R_sign_14 : decode b_R_sign 14 = .ok (.invokestatic 58, 3) := by decide +kernel
theorem d_R_sign_17 : decode b_R_sign 17 = .ok (.ireturn, 1) := by decide +kernel
abbrev b_R_rowOf : ByteArray := prog_1_method_22_code
def y_R_rowOf : MethodName := ⟨"RedactCheck", "rowOf", "(Ljava/util/ArrayList;I)LRedactCheck$SignRow;"⟩
theorem d_R_rowOf_0 : decode b_R_rowOf 0 = .ok (.iload_n 1, 1) := by decide +kernel
theorem d_R_rowOf_1 : decode b_R_rowOf 1 = .ok (.ifCond .lt 11, 3) := by decide +kernel
theorem d_R_rowOf_4 : decode b_R_rowOf 4 = .ok (.iload_n 1, 1) := by decide +kernel
theorem d_R_rowOf_5 : decode b_R_rowOf 5 = .ok (.aload_n 0, 1) := by decide +kernel
theorem d_R_rowOf_6 : decode b_R_rowOf 6 = .ok (.invokevirtual 62, 3) := by decide +kernel
theorem d_R_rowOf_9 : decode b_R_rowOf 9 = .ok (.if_icmp .lt 13, 3) := by decide +kernel
theorem d_R_rowOf_12 : decode b_R_rowOf 12 = .ok (.new 167, 3) := by decide +kernel
theorem d_R_rowOf_15 : decode b_R_rowOf 15 = .ok (.dup, 1) := by decide +kernel
theorem d_R_rowOf_16 : decode b_R_rowOf 16 = .ok (.ldc 183, 2) := by decide +kernel
theorem d_R_rowOf_18 : decode b_R_rowOf 18 = .ok (.invokespecial 171, 3) := by decide +kernel
theorem d_R_rowOf_21 : decode b_R_rowOf 21 = .ok (.athrow, 1) := by decide +kernel
theorem d_R_rowOf_22 : decode b_R_rowOf 22 = .ok (.aload_n 0, 1) := by decide +kernel
theorem d_R_rowOf_23 : decode b_R_rowOf 23 = .ok (.iload_n 1, 1) := by decide +kernel
theorem d_R_rowOf_24 : decode b_R_rowOf 24 = .ok (.invokevirtual 138, 3) := by decide +kernel
theorem d_R_rowOf_27 : decode b_R_rowOf 27 = .ok (.checkcast 45, 3) := by decide +kernel
theorem d_R_rowOf_30 : decode b_R_rowOf 30 = .ok (.areturn, 1) := by decide +kernel
abbrev b_R_addSign : ByteArray := prog_1_method_25_code
def y_R_addSign : MethodName := ⟨"RedactCheck", "addSign", "(LRedactCheck$SignRow;IIII)I"⟩
theorem d_R_addSign_0 : decode b_R_addSign 0 = .ok (.iload_n 1, 1) := by decide +kernel
theorem d_R_addSign_1 : decode b_R_addSign 1 = .ok (.bipush 33, 2) := by decide +kernel
theorem d_R_addSign_3 : decode b_R_addSign 3 = .ok (.bipush 126, 2) := by decide +kernel
theorem d_R_addSign_5 : decode b_R_addSign 5 = .ok (.invokestatic 73, 3) := by decide +kernel
theorem d_R_addSign_8 : decode b_R_addSign 8 = .ok (.iload_n 2, 1) := by decide +kernel
theorem d_R_addSign_9 : decode b_R_addSign 9 = .ok (.iconst 0, 1) := by decide +kernel
theorem d_R_addSign_10 : decode b_R_addSign 10 = .ok (.sipush 999, 3) := by decide +kernel
theorem d_R_addSign_13 : decode b_R_addSign 13 = .ok (.invokestatic 73, 3) := by decide +kernel
theorem d_R_addSign_16 : decode b_R_addSign 16 = .ok (.iload_n 3, 1) := by decide +kernel
theorem d_R_addSign_17 : decode b_R_addSign 17 = .ok (.iconst 0, 1) := by decide +kernel
theorem d_R_addSign_18 : decode b_R_addSign 18 = .ok (.sipush 999, 3) := by decide +kernel
theorem d_R_addSign_21 : decode b_R_addSign 21 = .ok (.invokestatic 73, 3) := by decide +kernel
theorem d_R_addSign_24 : decode b_R_addSign 24 = .ok (.iload 4, 2) := by decide +kernel
theorem d_R_addSign_26 : decode b_R_addSign 26 = .ok (.iconst 1, 1) := by decide +kernel
theorem d_R_addSign_27 : decode b_R_addSign 27 = .ok (.bipush 50, 2) := by decide +kernel
theorem d_R_addSign_29 : decode b_R_addSign 29 = .ok (.invokestatic 73, 3) := by decide +kernel
theorem d_R_addSign_32 : decode b_R_addSign 32 = .ok (.aload_n 0, 1) := by decide +kernel
theorem d_R_addSign_33 : decode b_R_addSign 33 = .ok (.getfield 161, 3) := by decide +kernel
theorem d_R_addSign_36 : decode b_R_addSign 36 = .ok (.bipush 40, 2) := by decide +kernel
theorem d_R_addSign_38 : decode b_R_addSign 38 = .ok (.invokestatic 66, 3) := by decide +kernel
theorem d_R_addSign_41 : decode b_R_addSign 41 = .ok (.aload_n 0, 1) := by decide +kernel
theorem d_R_addSign_42 : decode b_R_addSign 42 = .ok (.iload_n 1, 1) := by decide +kernel
theorem d_R_addSign_43 : decode b_R_addSign 43 = .ok (.iload_n 2, 1) := by decide +kernel
theorem d_R_addSign_44 : decode b_R_addSign 44 = .ok (.iload_n 3, 1) := by decide +kernel
theorem d_R_addSign_45 : decode b_R_addSign 45 = .ok (.iload 4, 2) := by decide +kernel
theorem d_R_addSign_47 : decode b_R_addSign 47 = .ok (.invokevirtual 189, 3) := by decide +kernel
theorem d_R_addSign_50 : decode b_R_addSign 50 = .ok (.aload_n 0, 1) := by decide +kernel
theorem d_R_addSign_51 : decode b_R_addSign 51 = .ok (.getfield 161, 3) := by decide +kernel
theorem d_R_addSign_54 : decode b_R_addSign 54 = .ok (.ireturn, 1) := by decide +kernel
abbrev b_R_checkWithin : ByteArray := prog_1_method_20_code
def y_R_checkWithin : MethodName := ⟨"RedactCheck", "checkWithin", "(III)V"⟩
theorem d_R_checkWithin_0 : decode b_R_checkWithin 0 = .ok (.iload_n 0, 1) := by decide +kernel
theorem d_R_checkWithin_1 : decode b_R_checkWithin 1 = .ok (.iload_n 1, 1) := by decide +kernel
theorem d_R_checkWithin_2 : decode b_R_checkWithin 2 = .ok (.if_icmp .lt 8, 3) := by decide +kernel
theorem d_R_checkWithin_5 : decode b_R_checkWithin 5 = .ok (.iload_n 0, 1) := by decide +kernel
theorem d_R_checkWithin_6 : decode b_R_checkWithin 6 = .ok (.iload_n 2, 1) := by decide +kernel
theorem d_R_checkWithin_7 : decode b_R_checkWithin 7 = .ok (.if_icmp .le 13, 3) := by decide +kernel
theorem d_R_checkWithin_10 : decode b_R_checkWithin 10 = .ok (.new 89, 3) := by decide +kernel
theorem d_R_checkWithin_13 : decode b_R_checkWithin 13 = .ok (.dup, 1) := by decide +kernel
theorem d_R_checkWithin_14 : decode b_R_checkWithin 14 = .ok (.ldc 179, 2) := by decide +kernel
theorem d_R_checkWithin_16 : decode b_R_checkWithin 16 = .ok (.invokespecial 93, 3) := by decide +kernel
theorem d_R_checkWithin_19 : decode b_R_checkWithin 19 = .ok (.athrow, 1) := by decide +kernel
theorem d_R_checkWithin_20 : decode b_R_checkWithin 20 = .ok (.return_, 1) := by decide +kernel
abbrev b_R_checkRoom : ByteArray := prog_1_method_21_code
def y_R_checkRoom : MethodName := ⟨"RedactCheck", "checkRoom", "(II)V"⟩
theorem d_R_checkRoom_0 : decode b_R_checkRoom 0 = .ok (.iload_n 0, 1) := by decide +kernel
theorem d_R_checkRoom_1 : decode b_R_checkRoom 1 = .ok (.iload_n 1, 1) := by decide +kernel
theorem d_R_checkRoom_2 : decode b_R_checkRoom 2 = .ok (.if_icmp .lt 13, 3) := by decide +kernel
theorem d_R_checkRoom_5 : decode b_R_checkRoom 5 = .ok (.new 121, 3) := by decide +kernel
theorem d_R_checkRoom_8 : decode b_R_checkRoom 8 = .ok (.dup, 1) := by decide +kernel
theorem d_R_checkRoom_9 : decode b_R_checkRoom 9 = .ok (.ldc 181, 2) := by decide +kernel
theorem d_R_checkRoom_11 : decode b_R_checkRoom 11 = .ok (.invokespecial 125, 3) := by decide +kernel
theorem d_R_checkRoom_14 : decode b_R_checkRoom 14 = .ok (.athrow, 1) := by decide +kernel
theorem d_R_checkRoom_15 : decode b_R_checkRoom 15 = .ok (.return_, 1) := by decide +kernel
abbrev b_S_add : ByteArray := prog_6_method_2_code
def y_S_add : MethodName := ⟨"RedactCheck$SignRow", "add", "(IIII)V"⟩
theorem d_S_add_0 : decode b_S_add 0 = .ok (.aload_n 0, 1) := by decide +kernel
theorem d_S_add_1 : decode b_S_add 1 = .ok (.getfield 19, 3) := by decide +kernel
theorem d_S_add_4 : decode b_S_add 4 = .ok (.bipush 40, 2) := by decide +kernel
theorem d_S_add_6 : decode b_S_add 6 = .ok (.if_icmp .ge 26, 3) := by decide +kernel
theorem d_S_add_9 : decode b_S_add 9 = .ok (.aload_n 0, 1) := by decide +kernel
theorem d_S_add_10 : decode b_S_add 10 = .ok (.aload_n 0, 1) := by decide +kernel
theorem d_S_add_11 : decode b_S_add 11 = .ok (.getfield 19, 3) := by decide +kernel
theorem d_S_add_14 : decode b_S_add 14 = .ok (.iload_n 1, 1) := by decide +kernel
theorem d_S_add_15 : decode b_S_add 15 = .ok (.iload_n 2, 1) := by decide +kernel
