abbrev b_M_init : ByteArray := prog_11_method_1_code
def y_M_init : MethodName := ⟨"RedactCheckModel", "<init>", "()V"⟩
theorem d_M_init_0 : decode b_M_init 0 = .ok (.aload_n 0, 1) := by decide +kernel
theorem d_M_init_1 : decode b_M_init 1 = .ok (.invokespecial 1, 3) := by decide +kernel
theorem d_M_init_4 : decode b_M_init 4 = .ok (.aload_n 0, 1) := by decide +kernel
theorem d_M_init_5 : decode b_M_init 5 = .ok (.bipush 24, 2) := by decide +kernel
theorem d_M_init_7 : decode b_M_init 7 = .ok (.newarray .int, 2) := by decide +kernel
theorem d_M_init_9 : decode b_M_init 9 = .ok (.putfield 7, 3) := by decide +kernel
theorem d_M_init_12 : decode b_M_init 12 = .ok (.aload_n 0, 1) := by decide +kernel
theorem d_M_init_13 : decode b_M_init 13 = .ok (.sipush 960, 3) := by decide +kernel
theorem d_M_init_16 : decode b_M_init 16 = .ok (.newarray .int, 2) := by decide +kernel
theorem d_M_init_18 : decode b_M_init 18 = .ok (.putfield 13, 3) := by decide +kernel
theorem d_M_init_21 : decode b_M_init 21 = .ok (.aload_n 0, 1) := by decide +kernel
theorem d_M_init_22 : decode b_M_init 22 = .ok (.sipush 960, 3) := by decide +kernel
theorem d_M_init_25 : decode b_M_init 25 = .ok (.newarray .int, 2) := by decide +kernel
theorem d_M_init_27 : decode b_M_init 27 = .ok (.putfield 16, 3) := by decide +kernel
theorem d_M_init_30 : decode b_M_init 30 = .ok (.aload_n 0, 1) := by decide +kernel
theorem d_M_init_31 : decode b_M_init 31 = .ok (.sipush 960, 3) := by decide +kernel
theorem d_M_init_34 : decode b_M_init 34 = .ok (.newarray .int, 2) := by decide +kernel
theorem d_M_init_36 : decode b_M_init 36 = .ok (.putfield 19, 3) := by decide +kernel
theorem d_M_init_39 : decode b_M_init 39 = .ok (.aload_n 0, 1) := by decide +kernel
theorem d_M_init_40 : decode b_M_init 40 = .ok (.sipush 960, 3) := by decide +kernel
theorem d_M_init_43 : decode b_M_init 43 = .ok (.newarray .int, 2) := by decide +kernel
theorem d_M_init_45 : decode b_M_init 45 = .ok (.putfield 22, 3) := by decide +kernel
theorem d_M_init_48 : decode b_M_init 48 = .ok (.aload_n 0, 1) := by decide +kernel
theorem d_M_init_49 : decode b_M_init 49 = .ok (.bipush 12, 2) := by decide +kernel
theorem d_M_init_51 : decode b_M_init 51 = .ok (.newarray .int, 2) := by decide +kernel
theorem d_M_init_53 : decode b_M_init 53 = .ok (.putfield 25, 3) := by decide +kernel
theorem d_M_init_56 : decode b_M_init 56 = .ok (.aload_n 0, 1) := by decide +kernel
theorem d_M_init_57 : decode b_M_init 57 = .ok (.bipush 12, 2) := by decide +kernel
theorem d_M_init_59 : decode b_M_init 59 = .ok (.newarray .int, 2) := by decide +kernel
theorem d_M_init_61 : decode b_M_init 61 = .ok (.putfield 28, 3) := by decide +kernel
theorem d_M_init_64 : decode b_M_init 64 = .ok (.aload_n 0, 1) := by decide +kernel
theorem d_M_init_65 : decode b_M_init 65 = .ok (.bipush 12, 2) := by decide +kernel
theorem d_M_init_67 : decode b_M_init 67 = .ok (.newarray .int, 2) := by decide +kernel
theorem d_M_init_69 : decode b_M_init 69 = .ok (.putfield 31, 3) := by decide +kernel
theorem d_M_init_72 : decode b_M_init 72 = .ok (.aload_n 0, 1) := by decide +kernel
theorem d_M_init_73 : decode b_M_init 73 = .ok (.bipush 12, 2) := by decide +kernel
theorem d_M_init_75 : decode b_M_init 75 = .ok (.newarray .int, 2) := by decide +kernel
theorem d_M_init_77 : decode b_M_init 77 = .ok (.putfield 34, 3) := by decide +kernel
theorem d_M_init_80 : decode b_M_init 80 = .ok (.aload_n 0, 1) := by decide +kernel
theorem d_M_init_81 : decode b_M_init 81 = .ok (.iconst 4, 1) := by decide +kernel
theorem d_M_init_82 : decode b_M_init 82 = .ok (.newarray .int, 2) := by decide +kernel
theorem d_M_init_84 : decode b_M_init 84 = .ok (.putfield 37, 3) := by decide +kernel
theorem d_M_init_87 : decode b_M_init 87 = .ok (.aload_n 0, 1) := by decide +kernel
theorem d_M_init_88 : decode b_M_init 88 = .ok (.bipush 32, 2) := by decide +kernel
theorem d_M_init_90 : decode b_M_init 90 = .ok (.newarray .int, 2) := by decide +kernel
theorem d_M_init_92 : decode b_M_init 92 = .ok (.putfield 40, 3) := by decide +kernel
theorem d_M_init_95 : decode b_M_init 95 = .ok (.aload_n 0, 1) := by decide +kernel
theorem d_M_init_96 : decode b_M_init 96 = .ok (.bipush 8, 2) := by decide +kernel
theorem d_M_init_98 : decode b_M_init 98 = .ok (.newarray .int, 2) := by decide +kernel
theorem d_M_init_100 : decode b_M_init 100 = .ok (.putfield 43, 3) := by decide +kernel
theorem d_M_init_103 : decode b_M_init 103 = .ok (.aload_n 0, 1) := by decide +kernel
theorem d_M_init_104 : decode b_M_init 104 = .ok (.bipush 8, 2) := by decide +kernel
theorem d_M_init_106 : decode b_M_init 106 = .ok (.newarray .int, 2) := by decide +kernel
theorem d_M_init_108 : decode b_M_init 108 = .ok (.putfield 46, 3) := by decide +kernel
theorem d_M_init_111 : decode b_M_init 111 = .ok (.aload_n 0, 1) := by decide +kernel
theorem d_M_init_112 : decode b_M_init 112 = .ok (.bipush 8, 2) := by decide +kernel
theorem d_M_init_114 : decode b_M_init 114 = .ok (.newarray .int, 2) := by decide +kernel
theorem d_M_init_116 : decode b_M_init 116 = .ok (.putfield 49, 3) := by decide +kernel
theorem d_M_init_119 : decode b_M_init 119 = .ok (.aload_n 0, 1) := by decide +kernel
theorem d_M_init_120 : decode b_M_init 120 = .ok (.bipush 8, 2) := by decide +kernel
theorem d_M_init_122 : decode b_M_init 122 = .ok (.newarray .int, 2) := by decide +kernel
theorem d_M_init_124 : decode b_M_init 124 = .ok (.putfield 52, 3) := by decide +kernel
theorem d_M_init_127 : decode b_M_init 127 = .ok (.aload_n 0, 1) := by decide +kernel
theorem d_M_init_128 : decode b_M_init 128 = .ok (.bipush 8, 2) := by decide +kernel
theorem d_M_init_130 : decode b_M_init 130 = .ok (.newarray .int, 2) := by decide +kernel
theorem d_M_init_132 : decode b_M_init 132 = .ok (.putfield 55, 3) := by decide +kernel
theorem d_M_init_135 : decode b_M_init 135 = .ok (.aload_n 0, 1) := by decide +kernel
theorem d_M_init_136 : decode b_M_init 136 = .ok (.bipush 8, 2) := by decide +kernel
theorem d_M_init_138 : decode b_M_init 138 = .ok (.newarray .int, 2) := by decide +kernel
theorem d_M_init_140 : decode b_M_init 140 = .ok (.putfield 58, 3) := by decide +kernel
theorem d_M_init_143 : decode b_M_init 143 = .ok (.aload_n 0, 1) := by decide +kernel
theorem d_M_init_144 : decode b_M_init 144 = .ok (.bipush 8, 2) := by decide +kernel
theorem d_M_init_146 : decode b_M_init 146 = .ok (.newarray .int, 2) := by decide +kernel
theorem d_M_init_148 : decode b_M_init 148 = .ok (.putfield 61, 3) := by decide +kernel
theorem d_M_init_151 : decode b_M_init 151 = .ok (.aload_n 0, 1) := by decide +kernel
theorem d_M_init_152 : decode b_M_init 152 = .ok (.sipush 480, 3) := by decide +kernel
theorem d_M_init_155 : decode b_M_init 155 = .ok (.newarray .int, 2) := by decide +kernel
theorem d_M_init_157 : decode b_M_init 157 = .ok (.putfield 64, 3) := by decide +kernel
theorem d_M_init_160 : decode b_M_init 160 = .ok (.aload_n 0, 1) := by decide +kernel
theorem d_M_init_161 : decode b_M_init 161 = .ok (.sipush 500, 3) := by decide +kernel
theorem d_M_init_164 : decode b_M_init 164 = .ok (.newarray .int, 2) := by decide +kernel
theorem d_M_init_166 : decode b_M_init 166 = .ok (.putfield 67, 3) := by decide +kernel
theorem d_M_init_169 : decode b_M_init 169 = .ok (.aload_n 0, 1) := by decide +kernel
theorem d_M_init_170 : decode b_M_init 170 = .ok (.sipush 640, 3) := by decide +kernel
theorem d_M_init_173 : decode b_M_init 173 = .ok (.newarray .boolean, 2) := by decide +kernel
theorem d_M_init_175 : decode b_M_init 175 = .ok (.putfield 70, 3) := by decide +kernel
theorem d_M_init_178 : decode b_M_init 178 = .ok (.aload_n 0, 1) := by decide +kernel
theorem d_M_init_179 : decode b_M_init 179 = .ok (.bipush 12, 2) := by decide +kernel
theorem d_M_init_181 : decode b_M_init 181 = .ok (.newarray .int, 2) := by decide +kernel
theorem d_M_init_183 : decode b_M_init 183 = .ok (.putfield 74, 3) := by decide +kernel
theorem d_M_init_186 : decode b_M_init 186 = .ok (.aload_n 0, 1) := by decide +kernel
theorem d_M_init_187 : decode b_M_init 187 = .ok (.bipush 60, 2) := by decide +kernel
theorem d_M_init_189 : decode b_M_init 189 = .ok (.newarray .int, 2) := by decide +kernel
theorem d_M_init_191 : decode b_M_init 191 = .ok (.putfield 77, 3) := by decide +kernel
theorem d_M_init_194 : decode b_M_init 194 = .ok (.aload_n 0, 1) := by decide +kernel
theorem d_M_init_195 : decode b_M_init 195 = .ok (.bipush 60, 2) := by decide +kernel
theorem d_M_init_197 : decode b_M_init 197 = .ok (.newarray .boolean, 2) := by decide +kernel
theorem d_M_init_199 : decode b_M_init 199 = .ok (.putfield 80, 3) := by decide +kernel
theorem d_M_init_202 : decode b_M_init 202 = .ok (.aload_n 0, 1) := by decide +kernel
theorem d_M_init_203 : decode b_M_init 203 = .ok (.iconst 0, 1) := by decide +kernel
theorem d_M_init_204 : decode b_M_init 204 = .ok (.putfield 83, 3) := by decide +kernel
theorem d_M_init_207 : decode b_M_init 207 = .ok (.return_, 1) := by decide +kernel
abbrev b_M_thrown : ByteArray := prog_11_method_2_code
def y_M_thrown : MethodName := ⟨"RedactCheckModel", "thrown", "()I"⟩
theorem d_M_thrown_0 : decode b_M_thrown 0 = .ok (.aload_n 0, 1) := by decide +kernel
theorem d_M_thrown_1 : decode b_M_thrown 1 = .ok (.getfield 87, 3) := by decide +kernel
theorem d_M_thrown_4 : decode b_M_thrown 4 = .ok (.ireturn, 1) := by decide +kernel
abbrev b_M_sign : ByteArray := prog_11_method_6_code
def y_M_sign : MethodName := ⟨"RedactCheckModel", "sign", "(IIIII)I"⟩
theorem d_M_sign_0 : decode b_M_sign 0 = .ok (.aload_n 0, 1) := by decide +kernel
theorem d_M_sign_1 : decode b_M_sign 1 = .ok (.iload_n 1, 1) := by decide +kernel
theorem d_M_sign_2 : decode b_M_sign 2 = .ok (.iconst 0, 1) := by decide +kernel
theorem d_M_sign_3 : decode b_M_sign 3 = .ok (.iconst 3, 1) := by decide +kernel
theorem d_M_sign_4 : decode b_M_sign 4 = .ok (.invokestatic 90, 3) := by decide +kernel
theorem d_M_sign_7 : decode b_M_sign 7 = .ok (.ifCond .eq 7, 3) := by decide +kernel
theorem d_M_sign_10 : decode b_M_sign 10 = .ok (.iconst 0, 1) := by decide +kernel
theorem d_M_sign_11 : decode b_M_sign 11 = .ok (.goto 4, 3) := by decide +kernel
theorem d_M_sign_14 : decode b_M_sign 14 = .ok (.iconst 1, 1) := by decide +kernel
theorem d_M_sign_15 : decode b_M_sign 15 = .ok (.putfield 87, 3) := by decide +kernel
theorem d_M_sign_18 : decode b_M_sign 18 = .ok (.aload_n 0, 1) := by decide +kernel
theorem d_M_sign_19 : decode b_M_sign 19 = .ok (.getfield 87, 3) := by decide +kernel
theorem d_M_sign_22 : decode b_M_sign 22 = .ok (.ifCond .le 7, 3) := by decide +kernel
theorem d_M_sign_25 : decode b_M_sign 25 = .ok (.iconst 0, 1) := by decide +kernel
theorem d_M_sign_26 : decode b_M_sign 26 = .ok (.goto 14, 3) := by decide +kernel
theorem d_M_sign_29 : decode b_M_sign 29 = .ok (.aload_n 0, 1) := by decide +kernel
theorem d_M_sign_30 : decode b_M_sign 30 = .ok (.iload_n 1, 1) := by decide +kernel
theorem d_M_sign_31 : decode b_M_sign 31 = .ok (.iload_n 2, 1) := by decide +kernel
theorem d_M_sign_32 : decode b_M_sign 32 = .ok (.iload_n 3, 1) := by decide +kernel
theorem d_M_sign_33 : decode b_M_sign 33 = .ok (.iload 4, 2) := by decide +kernel
theorem d_M_sign_35 : decode b_M_sign 35 = .ok (.iload 5, 2) := by decide +kernel
theorem d_M_sign_37 : decode b_M_sign 37 = .ok (.invokevirtual 98, 3) := by decide +kernel
theorem d_M_sign_40 : decode b_M_sign 40 = .ok (.ireturn, 1) := by decide +kernel
abbrev b_M_in : ByteArray := prog_11_method_3_code
def y_M_in : MethodName := ⟨"RedactCheckModel", "in", "(III)Z"⟩
theorem d_M_in_0 : decode b_M_in 0 = .ok (.iload_n 0, 1) := by decide +kernel
theorem d_M_in_1 : decode b_M_in 1 = .ok (.iload_n 1, 1) := by decide +kernel
theorem d_M_in_2 : decode b_M_in 2 = .ok (.if_icmp .lt 12, 3) := by decide +kernel
theorem d_M_in_5 : decode b_M_in 5 = .ok (.iload_n 0, 1) := by decide +kernel
theorem d_M_in_6 : decode b_M_in 6 = .ok (.iload_n 2, 1) := by decide +kernel
theorem d_M_in_7 : decode b_M_in 7 = .ok (.if_icmp .gt 7, 3) := by decide +kernel
theorem d_M_in_10 : decode b_M_in 10 = .ok (.iconst 1, 1) := by decide +kernel
theorem d_M_in_11 : decode b_M_in 11 = .ok (.goto 4, 3) := by decide +kernel
theorem d_M_in_14 : decode b_M_in 14 = .ok (.iconst 0, 1) := by decide +kernel
theorem d_M_in_15 : decode b_M_in 15 = .ok (.ireturn, 1) := by decide +kernel
abbrev b_M_addSign : ByteArray := prog_11_method_4_code
def y_M_addSign : MethodName := ⟨"RedactCheckModel", "addSign", "(IIIII)I"⟩
theorem d_M_addSign_0 : decode b_M_addSign 0 = .ok (.iload_n 2, 1) := by decide +kernel
theorem d_M_addSign_1 : decode b_M_addSign 1 = .ok (.bipush 33, 2) := by decide +kernel
theorem d_M_addSign_3 : decode b_M_addSign 3 = .ok (.bipush 126, 2) := by decide +kernel
theorem d_M_addSign_5 : decode b_M_addSign 5 = .ok (.invokestatic 90, 3) := by decide +kernel
theorem d_M_addSign_8 : decode b_M_addSign 8 = .ok (.ifCond .eq 37, 3) := by decide +kernel
theorem d_M_addSign_11 : decode b_M_addSign 11 = .ok (.iload_n 3, 1) := by decide +kernel
theorem d_M_addSign_12 : decode b_M_addSign 12 = .ok (.iconst 0, 1) := by decide +kernel
theorem d_M_addSign_13 : decode b_M_addSign 13 = .ok (.sipush 999, 3) := by decide +kernel
theorem d_M_addSign_16 : decode b_M_addSign 16 = .ok (.invokestatic 90, 3) := by decide +kernel
theorem d_M_addSign_19 : decode b_M_addSign 19 = .ok (.ifCond .eq 26, 3) := by decide +kernel
theorem d_M_addSign_22 : decode b_M_addSign 22 = .ok (.iload 4, 2) := by decide +kernel
theorem d_M_addSign_24 : decode b_M_addSign 24 = .ok (.iconst 0, 1) := by decide +kernel
theorem d_M_addSign_25 : decode b_M_addSign 25 = .ok (.sipush 999, 3) := by decide +kernel
theorem d_M_addSign_28 : decode b_M_addSign 28 = .ok (.invokestatic 90, 3) := by decide +kernel
theorem d_M_addSign_31 : decode b_M_addSign 31 = .ok (.ifCond .eq 14, 3) := by decide +kernel
theorem d_M_addSign_34 : decode b_M_addSign 34 = .ok (.iload 5, 2) := by decide +kernel
theorem d_M_addSign_36 : decode b_M_addSign 36 = .ok (.iconst 1, 1) := by decide +kernel
theorem d_M_addSign_37 : decode b_M_addSign 37 = .ok (.bipush 50, 2) := by decide +kernel
theorem d_M_addSign_39 : decode b_M_addSign 39 = .ok (.invokestatic 90, 3) := by decide +kernel
theorem d_M_addSign_42 : decode b_M_addSign 42 = .ok (.ifCond .ne 11, 3) := by decide +kernel
theorem d_M_addSign_45 : decode b_M_addSign 45 = .ok (.aload_n 0, 1) := by decide +kernel
theorem d_M_addSign_46 : decode b_M_addSign 46 = .ok (.iconst 2, 1) := by decide +kernel
theorem d_M_addSign_47 : decode b_M_addSign 47 = .ok (.putfield 87, 3) := by decide +kernel
theorem d_M_addSign_50 : decode b_M_addSign 50 = .ok (.goto 19, 3) := by decide +kernel
theorem d_M_addSign_53 : decode b_M_addSign 53 = .ok (.aload_n 0, 1) := by decide +kernel
theorem d_M_addSign_54 : decode b_M_addSign 54 = .ok (.getfield 7, 3) := by decide +kernel
theorem d_M_addSign_57 : decode b_M_addSign 57 = .ok (.iload_n 1, 1) := by decide +kernel
theorem d_M_addSign_58 : decode b_M_addSign 58 = .ok (.iaload, 1) := by decide +kernel
theorem d_M_addSign_59 : decode b_M_addSign 59 = .ok (.bipush 40, 2) := by decide +kernel
theorem d_M_addSign_61 : decode b_M_addSign 61 = .ok (.if_icmp .ne 8, 3) := by decide +kernel
theorem d_M_addSign_64 : decode b_M_addSign 64 = .ok (.aload_n 0, 1) := by decide +kernel
theorem d_M_addSign_65 : decode b_M_addSign 65 = .ok (.iconst 3, 1) := by decide +kernel
theorem d_M_addSign_66 : decode b_M_addSign 66 = .ok (.putfield 87, 3) := by decide +kernel
theorem d_M_addSign_69 : decode b_M_addSign 69 = .ok (.aload_n 0, 1) := by decide +kernel
theorem d_M_addSign_70 : decode b_M_addSign 70 = .ok (.getfield 87, 3) := by decide +kernel
theorem d_M_addSign_73 : decode b_M_addSign 73 = .ok (.ifCond .le 5, 3) := by decide +kernel
theorem d_M_addSign_76 : decode b_M_addSign 76 = .ok (.iconst 0, 1) := by decide +kernel
theorem d_M_addSign_77 : decode b_M_addSign 77 = .ok (.ireturn, 1) := by decide +kernel
theorem d_M_addSign_78 : decode b_M_addSign 78 = .ok (.aload_n 0, 1) := by decide +kernel
theorem d_M_addSign_79 : decode b_M_addSign 79 = .ok (.iload_n 1, 1) := by decide +kernel
theorem d_M_addSign_80 : decode b_M_addSign 80 = .ok (.iload_n 2, 1) := by decide +kernel
theorem d_M_addSign_81 : decode b_M_addSign 81 = .ok (.iload_n 3, 1) := by decide +kernel
theorem d_M_addSign_82 : decode b_M_addSign 82 = .ok (.iload 4, 2) := by decide +kernel
theorem d_M_addSign_84 : decode b_M_addSign 84 = .ok (.iload 5, 2) := by decide +kernel
theorem d_M_addSign_86 : decode b_M_addSign 86 = .ok (.invokevirtual 94, 3) := by decide +kernel
theorem d_M_addSign_89 : decode b_M_addSign 89 = .ok (.aload_n 0, 1) := by decide +kernel
theorem d_M_addSign_90 : decode b_M_addSign 90 = .ok (.getfield 7, 3) := by decide +kernel
theorem d_M_addSign_93 : decode b_M_addSign 93 = .ok (.iload_n 1, 1) := by decide +kernel
theorem d_M_addSign_94 : decode b_M_addSign 94 = .ok (.iaload, 1) := by decide +kernel
theorem d_M_addSign_95 : decode b_M_addSign 95 = .ok (.ireturn, 1) := by decide +kernel
abbrev b_M_lay : ByteArray := prog_11_method_5_code
def y_M_lay : MethodName := ⟨"RedactCheckModel", "lay", "(IIIII)V"⟩
theorem d_M_lay_0 : decode b_M_lay 0 = .ok (.bipush 40, 2) := by decide +kernel
theorem d_M_lay_2 : decode b_M_lay 2 = .ok (.iload_n 1, 1) := by decide +kernel
theorem d_M_lay_3 : decode b_M_lay 3 = .ok (.imul, 1) := by decide +kernel
theorem d_M_lay_4 : decode b_M_lay 4 = .ok (.aload_n 0, 1) := by decide +kernel
theorem d_M_lay_5 : decode b_M_lay 5 = .ok (.getfield 7, 3) := by decide +kernel
theorem d_M_lay_8 : decode b_M_lay 8 = .ok (.iload_n 1, 1) := by decide +kernel
theorem d_M_lay_9 : decode b_M_lay 9 = .ok (.iaload, 1) := by decide +kernel
theorem d_M_lay_10 : decode b_M_lay 10 = .ok (.iadd, 1) := by decide +kernel
theorem d_M_lay_11 : decode b_M_lay 11 = .ok (.istore 6, 2) := by decide +kernel
theorem d_M_lay_13 : decode b_M_lay 13 = .ok (.aload_n 0, 1) := by decide +kernel
theorem d_M_lay_14 : decode b_M_lay 14 = .ok (.getfield 13, 3) := by decide +kernel
theorem d_M_lay_17 : decode b_M_lay 17 = .ok (.iload 6, 2) := by decide +kernel
theorem d_M_lay_19 : decode b_M_lay 19 = .ok (.iload_n 2, 1) := by decide +kernel
theorem d_M_lay_20 : decode b_M_lay 20 = .ok (.iastore, 1) := by decide +kernel
theorem d_M_lay_21 : decode b_M_lay 21 = .ok (.aload_n 0, 1) := by decide +kernel
theorem d_M_lay_22 : decode b_M_lay 22 = .ok (.getfield 16, 3) := by decide +kernel
theorem d_M_lay_25 : decode b_M_lay 25 = .ok (.iload 6, 2) := by decide +kernel
theorem d_M_lay_27 : decode b_M_lay 27 = .ok (.iload_n 3, 1) := by decide +kernel
theorem d_M_lay_28 : decode b_M_lay 28 = .ok (.iastore, 1) := by decide +kernel
theorem d_M_lay_29 : decode b_M_lay 29 = .ok (.aload_n 0, 1) := by decide +kernel
theorem d_M_lay_30 : decode b_M_lay 30 = .ok (.getfield 19, 3) := by decide +kernel
theorem d_M_lay_33 : decode b_M_lay 33 = .ok (.iload 6, 2) := by decide +kernel
theorem d_M_lay_35 : decode b_M_lay 35 = .ok (.iload 4, 2) := by decide +kernel
theorem d_M_lay_37 : decode b_M_lay 37 = .ok (.iastore, 1) := by decide +kernel
theorem d_M_lay_38 : decode b_M_lay 38 = .ok (.aload_n 0, 1) := by decide +kernel
theorem d_M_lay_39 : decode b_M_lay 39 = .ok (.getfield 22, 3) := by decide +kernel
theorem d_M_lay_42 : decode b_M_lay 42 = .ok (.iload 6, 2) := by decide +kernel
theorem d_M_lay_44 : decode b_M_lay 44 = .ok (.iload 5, 2) := by decide +kernel
theorem d_M_lay_46 : decode b_M_lay 46 = .ok (.iastore, 1) := by decide +kernel
theorem d_M_lay_47 : decode b_M_lay 47 = .ok (.aload_n 0, 1) := by decide +kernel
theorem d_M_lay_48 : decode b_M_lay 48 = .ok (.getfield 7, 3) := by decide +kernel
theorem d_M_lay_51 : decode b_M_lay 51 = .ok (.iload_n 1, 1) := by decide +kernel
theorem d_M_lay_52 : decode b_M_lay 52 = .ok (.dup2, 1) := by decide +kernel
theorem d_M_lay_53 : decode b_M_lay 53 = .ok (.iaload, 1) := by decide +kernel
theorem d_M_lay_54 : decode b_M_lay 54 = .ok (.iconst 1, 1) := by decide +kernel
theorem d_M_lay_55 : decode b_M_lay 55 = .ok (.iadd, 1) := by decide +kernel
theorem d_M_lay_56 : decode b_M_lay 56 = .ok (.iastore, 1) := by decide +kernel
theorem d_M_lay_57 : decode b_M_lay 57 = .ok (.return_, 1) := by decide +kernel
abbrev b_M_form : ByteArray := prog_11_method_7_code
def y_M_form : MethodName := ⟨"RedactCheckModel", "form", "()I"⟩
theorem d_M_form_0 : decode b_M_form 0 = .ok (.aload_n 0, 1) := by decide +kernel
theorem d_M_form_1 : decode b_M_form 1 = .ok (.aload_n 0, 1) := by decide +kernel
theorem d_M_form_2 : decode b_M_form 2 = .ok (.getfield 83, 3) := by decide +kernel
theorem d_M_form_5 : decode b_M_form 5 = .ok (.bipush 20, 2) := by decide +kernel
theorem d_M_form_7 : decode b_M_form 7 = .ok (.if_icmp .ne 7, 3) := by decide +kernel
theorem d_M_form_10 : decode b_M_form 10 = .ok (.iconst 1, 1) := by decide +kernel
theorem d_M_form_11 : decode b_M_form 11 = .ok (.goto 4, 3) := by decide +kernel
theorem d_M_form_14 : decode b_M_form 14 = .ok (.iconst 0, 1) := by decide +kernel
theorem d_M_form_15 : decode b_M_form 15 = .ok (.putfield 87, 3) := by decide +kernel
theorem d_M_form_18 : decode b_M_form 18 = .ok (.aload_n 0, 1) := by decide +kernel
theorem d_M_form_19 : decode b_M_form 19 = .ok (.getfield 87, 3) := by decide +kernel
theorem d_M_form_22 : decode b_M_form 22 = .ok (.ifCond .le 5, 3) := by decide +kernel
theorem d_M_form_25 : decode b_M_form 25 = .ok (.iconst 0, 1) := by decide +kernel
theorem d_M_form_26 : decode b_M_form 26 = .ok (.ireturn, 1) := by decide +kernel
theorem d_M_form_27 : decode b_M_form 27 = .ok (.aload_n 0, 1) := by decide +kernel
theorem d_M_form_28 : decode b_M_form 28 = .ok (.dup, 1) := by decide +kernel
theorem d_M_form_29 : decode b_M_form 29 = .ok (.getfield 83, 3) := by decide +kernel
theorem d_M_form_32 : decode b_M_form 32 = .ok (.iconst 1, 1) := by decide +kernel
theorem d_M_form_33 : decode b_M_form 33 = .ok (.iadd, 1) := by decide +kernel
theorem d_M_form_34 : decode b_M_form 34 = .ok (.putfield 83, 3) := by decide +kernel
theorem d_M_form_37 : decode b_M_form 37 = .ok (.aload_n 0, 1) := by decide +kernel
theorem d_M_form_38 : decode b_M_form 38 = .ok (.getfield 83, 3) := by decide +kernel
theorem d_M_form_41 : decode b_M_form 41 = .ok (.iconst 1, 1) := by decide +kernel
theorem d_M_form_42 : decode b_M_form 42 = .ok (.isub, 1) := by decide +kernel
theorem d_M_form_43 : decode b_M_form 43 = .ok (.ireturn, 1) := by decide +kernel
abbrev b_M_formSign : ByteArray := prog_11_method_8_code
def y_M_formSign : MethodName := ⟨"RedactCheckModel", "formSign", "(IIIII)I"⟩
theorem d_M_formSign_0 : decode b_M_formSign 0 = .ok (.aload_n 0, 1) := by decide +kernel
theorem d_M_formSign_1 : decode b_M_formSign 1 = .ok (.iload_n 1, 1) := by decide +kernel
theorem d_M_formSign_2 : decode b_M_formSign 2 = .ok (.iconst 0, 1) := by decide +kernel
theorem d_M_formSign_3 : decode b_M_formSign 3 = .ok (.aload_n 0, 1) := by decide +kernel
theorem d_M_formSign_4 : decode b_M_formSign 4 = .ok (.getfield 83, 3) := by decide +kernel
theorem d_M_formSign_7 : decode b_M_formSign 7 = .ok (.iconst 1, 1) := by decide +kernel
theorem d_M_formSign_8 : decode b_M_formSign 8 = .ok (.isub, 1) := by decide +kernel
theorem d_M_formSign_9 : decode b_M_formSign 9 = .ok (.invokestatic 90, 3) := by decide +kernel
theorem d_M_formSign_12 : decode b_M_formSign 12 = .ok (.ifCond .eq 7, 3) := by decide +kernel
theorem d_M_formSign_15 : decode b_M_formSign 15 = .ok (.iconst 0, 1) := by decide +kernel
theorem d_M_formSign_16 : decode b_M_formSign 16 = .ok (.goto 4, 3) := by decide +kernel
theorem d_M_formSign_19 : decode b_M_formSign 19 = .ok (.iconst 1, 1) := by decide +kernel
theorem d_M_formSign_20 : decode b_M_formSign 20 = .ok (.putfield 87, 3) := by decide +kernel
theorem d_M_formSign_23 : decode b_M_formSign 23 = .ok (.aload_n 0, 1) := by decide +kernel
theorem d_M_formSign_24 : decode b_M_formSign 24 = .ok (.getfield 87, 3) := by decide +kernel
theorem d_M_formSign_27 : decode b_M_formSign 27 = .ok (.ifCond .le 7, 3) := by decide +kernel
theorem d_M_formSign_30 : decode b_M_formSign 30 = .ok (.iconst 0, 1) := by decide +kernel
theorem d_M_formSign_31 : decode b_M_formSign 31 = .ok (.goto 16, 3) := by decide +kernel
theorem d_M_formSign_34 : decode b_M_formSign 34 = .ok (.aload_n 0, 1) := by decide +kernel
theorem d_M_formSign_35 : decode b_M_formSign 35 = .ok (.iconst 4, 1) := by decide +kernel
theorem d_M_formSign_36 : decode b_M_formSign 36 = .ok (.iload_n 1, 1) := by decide +kernel
theorem d_M_formSign_37 : decode b_M_formSign 37 = .ok (.iadd, 1) := by decide +kernel
theorem d_M_formSign_38 : decode b_M_formSign 38 = .ok (.iload_n 2, 1) := by decide +kernel
theorem d_M_formSign_39 : decode b_M_formSign 39 = .ok (.iload_n 3, 1) := by decide +kernel
theorem d_M_formSign_40 : decode b_M_formSign 40 = .ok (.iload 4, 2) := by decide +kernel
theorem d_M_formSign_42 : decode b_M_formSign 42 = .ok (.iload 5, 2) := by decide +kernel
theorem d_M_formSign_44 : decode b_M_formSign 44 = .ok (.invokevirtual 98, 3) := by decide +kernel
theorem d_M_formSign_47 : decode b_M_formSign 47 = .ok (.ireturn, 1) := by decide +kernel
abbrev b_M_use : ByteArray := prog_11_method_9_code
def y_M_use : MethodName := ⟨"RedactCheckModel", "use", "(IIII)I"⟩
theorem d_M_use_0 : decode b_M_use 0 = .ok (.aload_n 0, 1) := by decide +kernel
theorem d_M_use_1 : decode b_M_use 1 = .ok (.iload_n 1, 1) := by decide +kernel
theorem d_M_use_2 : decode b_M_use 2 = .ok (.iconst 0, 1) := by decide +kernel
theorem d_M_use_3 : decode b_M_use 3 = .ok (.iconst 3, 1) := by decide +kernel
theorem d_M_use_4 : decode b_M_use 4 = .ok (.invokestatic 90, 3) := by decide +kernel
theorem d_M_use_7 : decode b_M_use 7 = .ok (.ifCond .eq 17, 3) := by decide +kernel
theorem d_M_use_10 : decode b_M_use 10 = .ok (.iload_n 2, 1) := by decide +kernel
theorem d_M_use_11 : decode b_M_use 11 = .ok (.iconst 0, 1) := by decide +kernel
theorem d_M_use_12 : decode b_M_use 12 = .ok (.aload_n 0, 1) := by decide +kernel
theorem d_M_use_13 : decode b_M_use 13 = .ok (.getfield 83, 3) := by decide +kernel
theorem d_M_use_16 : decode b_M_use 16 = .ok (.iconst 1, 1) := by decide +kernel
theorem d_M_use_17 : decode b_M_use 17 = .ok (.isub, 1) := by decide +kernel
theorem d_M_use_18 : decode b_M_use 18 = .ok (.invokestatic 90, 3) := by decide +kernel
theorem d_M_use_21 : decode b_M_use 21 = .ok (.ifCond .ne 7, 3) := by decide +kernel
theorem d_M_use_24 : decode b_M_use 24 = .ok (.iconst 1, 1) := by decide +kernel
theorem d_M_use_25 : decode b_M_use 25 = .ok (.goto 48, 3) := by decide +kernel
theorem d_M_use_28 : decode b_M_use 28 = .ok (.iload_n 3, 1) := by decide +kernel
theorem d_M_use_29 : decode b_M_use 29 = .ok (.sipush (-999), 3) := by decide +kernel
theorem d_M_use_32 : decode b_M_use 32 = .ok (.sipush 999, 3) := by decide +kernel
theorem d_M_use_35 : decode b_M_use 35 = .ok (.invokestatic 90, 3) := by decide +kernel
theorem d_M_use_38 : decode b_M_use 38 = .ok (.ifCond .eq 17, 3) := by decide +kernel
theorem d_M_use_41 : decode b_M_use 41 = .ok (.iload 4, 2) := by decide +kernel
theorem d_M_use_43 : decode b_M_use 43 = .ok (.sipush (-999), 3) := by decide +kernel
theorem d_M_use_46 : decode b_M_use 46 = .ok (.sipush 999, 3) := by decide +kernel
theorem d_M_use_49 : decode b_M_use 49 = .ok (.invokestatic 90, 3) := by decide +kernel
theorem d_M_use_52 : decode b_M_use 52 = .ok (.ifCond .ne 7, 3) := by decide +kernel
theorem d_M_use_55 : decode b_M_use 55 = .ok (.iconst 2, 1) := by decide +kernel
theorem d_M_use_56 : decode b_M_use 56 = .ok (.goto 17, 3) := by decide +kernel
theorem d_M_use_59 : decode b_M_use 59 = .ok (.aload_n 0, 1) := by decide +kernel
theorem d_M_use_60 : decode b_M_use 60 = .ok (.getfield 102, 3) := by decide +kernel
theorem d_M_use_63 : decode b_M_use 63 = .ok (.bipush 12, 2) := by decide +kernel
theorem d_M_use_65 : decode b_M_use 65 = .ok (.if_icmp .ne 7, 3) := by decide +kernel
theorem d_M_use_68 : decode b_M_use 68 = .ok (.iconst 3, 1) := by decide +kernel
theorem d_M_use_69 : decode b_M_use 69 = .ok (.goto 4, 3) := by decide +kernel
theorem d_M_use_72 : decode b_M_use 72 = .ok (.iconst 0, 1) := by decide +kernel
theorem d_M_use_73 : decode b_M_use 73 = .ok (.putfield 87, 3) := by decide +kernel
theorem d_M_use_76 : decode b_M_use 76 = .ok (.aload_n 0, 1) := by decide +kernel
theorem d_M_use_77 : decode b_M_use 77 = .ok (.getfield 87, 3) := by decide +kernel
theorem d_M_use_80 : decode b_M_use 80 = .ok (.ifCond .le 5, 3) := by decide +kernel
theorem d_M_use_83 : decode b_M_use 83 = .ok (.iconst 0, 1) := by decide +kernel
theorem d_M_use_84 : decode b_M_use 84 = .ok (.ireturn, 1) := by decide +kernel
theorem d_M_use_85 : decode b_M_use 85 = .ok (.aload_n 0, 1) := by decide +kernel
theorem d_M_use_86 : decode b_M_use 86 = .ok (.getfield 25, 3) := by decide +kernel
theorem d_M_use_89 : decode b_M_use 89 = .ok (.aload_n 0, 1) := by decide +kernel
theorem d_M_use_90 : decode b_M_use 90 = .ok (.getfield 102, 3) := by decide +kernel
theorem d_M_use_93 : decode b_M_use 93 = .ok (.iload_n 1, 1) := by decide +kernel
theorem d_M_use_94 : decode b_M_use 94 = .ok (.iastore, 1) := by decide +kernel
theorem d_M_use_95 : decode b_M_use 95 = .ok (.aload_n 0, 1) := by decide +kernel
theorem d_M_use_96 : decode b_M_use 96 = .ok (.getfield 28, 3) := by decide +kernel
theorem d_M_use_99 : decode b_M_use 99 = .ok (.aload_n 0, 1) := by decide +kernel
theorem d_M_use_100 : decode b_M_use 100 = .ok (.getfield 102, 3) := by decide +kernel
theorem d_M_use_103 : decode b_M_use 103 = .ok (.iload_n 2, 1) := by decide +kernel
theorem d_M_use_104 : decode b_M_use 104 = .ok (.iastore, 1) := by decide +kernel
theorem d_M_use_105 : decode b_M_use 105 = .ok (.aload_n 0, 1) := by decide +kernel
theorem d_M_use_106 : decode b_M_use 106 = .ok (.getfield 31, 3) := by decide +kernel
theorem d_M_use_109 : decode b_M_use 109 = .ok (.aload_n 0, 1) := by decide +kernel
theorem d_M_use_110 : decode b_M_use 110 = .ok (.getfield 102, 3) := by decide +kernel
theorem d_M_use_113 : decode b_M_use 113 = .ok (.iload_n 3, 1) := by decide +kernel
theorem d_M_use_114 : decode b_M_use 114 = .ok (.iastore, 1) := by decide +kernel
theorem d_M_use_115 : decode b_M_use 115 = .ok (.aload_n 0, 1) := by decide +kernel
theorem d_M_use_116 : decode b_M_use 116 = .ok (.getfield 34, 3) := by decide +kernel
theorem d_M_use_119 : decode b_M_use 119 = .ok (.aload_n 0, 1) := by decide +kernel
theorem d_M_use_120 : decode b_M_use 120 = .ok (.getfield 102, 3) := by decide +kernel
theorem d_M_use_123 : decode b_M_use 123 = .ok (.iload 4, 2) := by decide +kernel
theorem d_M_use_125 : decode b_M_use 125 = .ok (.iastore, 1) := by decide +kernel
theorem d_M_use_126 : decode b_M_use 126 = .ok (.aload_n 0, 1) := by decide +kernel
theorem d_M_use_127 : decode b_M_use 127 = .ok (.dup, 1) := by decide +kernel
theorem d_M_use_128 : decode b_M_use 128 = .ok (.getfield 102, 3) := by decide +kernel
theorem d_M_use_131 : decode b_M_use 131 = .ok (.iconst 1, 1) := by decide +kernel
theorem d_M_use_132 : decode b_M_use 132 = .ok (.iadd, 1) := by decide +kernel
theorem d_M_use_133 : decode b_M_use 133 = .ok (.putfield 102, 3) := by decide +kernel
theorem d_M_use_136 : decode b_M_use 136 = .ok (.aload_n 0, 1) := by decide +kernel
theorem d_M_use_137 : decode b_M_use 137 = .ok (.getfield 102, 3) := by decide +kernel
theorem d_M_use_140 : decode b_M_use 140 = .ok (.iconst 1, 1) := by decide +kernel
theorem d_M_use_141 : decode b_M_use 141 = .ok (.isub, 1) := by decide +kernel
theorem d_M_use_142 : decode b_M_use 142 = .ok (.ireturn, 1) := by decide +kernel
abbrev b_M_word : ByteArray := prog_11_method_10_code
def y_M_word : MethodName := ⟨"RedactCheckModel", "word", "()I"⟩
theorem d_M_word_0 : decode b_M_word 0 = .ok (.aload_n 0, 1) := by decide +kernel
theorem d_M_word_1 : decode b_M_word 1 = .ok (.aload_n 0, 1) := by decide +kernel
theorem d_M_word_2 : decode b_M_word 2 = .ok (.getfield 105, 3) := by decide +kernel
theorem d_M_word_5 : decode b_M_word 5 = .ok (.iconst 4, 1) := by decide +kernel
theorem d_M_word_6 : decode b_M_word 6 = .ok (.if_icmp .ne 7, 3) := by decide +kernel
theorem d_M_word_9 : decode b_M_word 9 = .ok (.iconst 1, 1) := by decide +kernel
theorem d_M_word_10 : decode b_M_word 10 = .ok (.goto 4, 3) := by decide +kernel
theorem d_M_word_13 : decode b_M_word 13 = .ok (.iconst 0, 1) := by decide +kernel
theorem d_M_word_14 : decode b_M_word 14 = .ok (.putfield 87, 3) := by decide +kernel
theorem d_M_word_17 : decode b_M_word 17 = .ok (.aload_n 0, 1) := by decide +kernel
theorem d_M_word_18 : decode b_M_word 18 = .ok (.getfield 87, 3) := by decide +kernel
theorem d_M_word_21 : decode b_M_word 21 = .ok (.ifCond .le 5, 3) := by decide +kernel
theorem d_M_word_24 : decode b_M_word 24 = .ok (.iconst 0, 1) := by decide +kernel
theorem d_M_word_25 : decode b_M_word 25 = .ok (.ireturn, 1) := by decide +kernel
theorem d_M_word_26 : decode b_M_word 26 = .ok (.aload_n 0, 1) := by decide +kernel
theorem d_M_word_27 : decode b_M_word 27 = .ok (.dup, 1) := by decide +kernel
theorem d_M_word_28 : decode b_M_word 28 = .ok (.getfield 105, 3) := by decide +kernel
theorem d_M_word_31 : decode b_M_word 31 = .ok (.iconst 1, 1) := by decide +kernel
theorem d_M_word_32 : decode b_M_word 32 = .ok (.iadd, 1) := by decide +kernel
theorem d_M_word_33 : decode b_M_word 33 = .ok (.putfield 105, 3) := by decide +kernel
theorem d_M_word_36 : decode b_M_word 36 = .ok (.aload_n 0, 1) := by decide +kernel
theorem d_M_word_37 : decode b_M_word 37 = .ok (.getfield 105, 3) := by decide +kernel
theorem d_M_word_40 : decode b_M_word 40 = .ok (.iconst 1, 1) := by decide +kernel
theorem d_M_word_41 : decode b_M_word 41 = .ok (.isub, 1) := by decide +kernel
theorem d_M_word_42 : decode b_M_word 42 = .ok (.ireturn, 1) := by decide +kernel
abbrev b_M_letter : ByteArray := prog_11_method_11_code
def y_M_letter : MethodName := ⟨"RedactCheckModel", "letter", "(II)I"⟩
theorem d_M_letter_0 : decode b_M_letter 0 = .ok (.aload_n 0, 1) := by decide +kernel
theorem d_M_letter_1 : decode b_M_letter 1 = .ok (.iload_n 1, 1) := by decide +kernel
theorem d_M_letter_2 : decode b_M_letter 2 = .ok (.iconst 0, 1) := by decide +kernel
theorem d_M_letter_3 : decode b_M_letter 3 = .ok (.aload_n 0, 1) := by decide +kernel
theorem d_M_letter_4 : decode b_M_letter 4 = .ok (.getfield 105, 3) := by decide +kernel
theorem d_M_letter_7 : decode b_M_letter 7 = .ok (.iconst 1, 1) := by decide +kernel
theorem d_M_letter_8 : decode b_M_letter 8 = .ok (.isub, 1) := by decide +kernel
theorem d_M_letter_9 : decode b_M_letter 9 = .ok (.invokestatic 90, 3) := by decide +kernel
theorem d_M_letter_12 : decode b_M_letter 12 = .ok (.ifCond .ne 7, 3) := by decide +kernel
theorem d_M_letter_15 : decode b_M_letter 15 = .ok (.iconst 1, 1) := by decide +kernel
theorem d_M_letter_16 : decode b_M_letter 16 = .ok (.goto 40, 3) := by decide +kernel
theorem d_M_letter_19 : decode b_M_letter 19 = .ok (.iload_n 2, 1) := by decide +kernel
theorem d_M_letter_20 : decode b_M_letter 20 = .ok (.bipush 33, 2) := by decide +kernel
theorem d_M_letter_22 : decode b_M_letter 22 = .ok (.bipush 126, 2) := by decide +kernel
theorem d_M_letter_24 : decode b_M_letter 24 = .ok (.invokestatic 90, 3) := by decide +kernel
theorem d_M_letter_27 : decode b_M_letter 27 = .ok (.ifCond .eq 9, 3) := by decide +kernel
theorem d_M_letter_30 : decode b_M_letter 30 = .ok (.iload_n 2, 1) := by decide +kernel
theorem d_M_letter_31 : decode b_M_letter 31 = .ok (.bipush 42, 2) := by decide +kernel
theorem d_M_letter_33 : decode b_M_letter 33 = .ok (.if_icmp .ne 7, 3) := by decide +kernel
theorem d_M_letter_36 : decode b_M_letter 36 = .ok (.iconst 2, 1) := by decide +kernel
theorem d_M_letter_37 : decode b_M_letter 37 = .ok (.goto 19, 3) := by decide +kernel
theorem d_M_letter_40 : decode b_M_letter 40 = .ok (.aload_n 0, 1) := by decide +kernel
theorem d_M_letter_41 : decode b_M_letter 41 = .ok (.getfield 37, 3) := by decide +kernel
theorem d_M_letter_44 : decode b_M_letter 44 = .ok (.iload_n 1, 1) := by decide +kernel
theorem d_M_letter_45 : decode b_M_letter 45 = .ok (.iaload, 1) := by decide +kernel
theorem d_M_letter_46 : decode b_M_letter 46 = .ok (.bipush 8, 2) := by decide +kernel
theorem d_M_letter_48 : decode b_M_letter 48 = .ok (.if_icmp .ne 7, 3) := by decide +kernel
theorem d_M_letter_51 : decode b_M_letter 51 = .ok (.iconst 3, 1) := by decide +kernel
theorem d_M_letter_52 : decode b_M_letter 52 = .ok (.goto 4, 3) := by decide +kernel
theorem d_M_letter_55 : decode b_M_letter 55 = .ok (.iconst 0, 1) := by decide +kernel
theorem d_M_letter_56 : decode b_M_letter 56 = .ok (.putfield 87, 3) := by decide +kernel
theorem d_M_letter_59 : decode b_M_letter 59 = .ok (.aload_n 0, 1) := by decide +kernel
theorem d_M_letter_60 : decode b_M_letter 60 = .ok (.getfield 87, 3) := by decide +kernel
theorem d_M_letter_63 : decode b_M_letter 63 = .ok (.ifCond .le 5, 3) := by decide +kernel
theorem d_M_letter_66 : decode b_M_letter 66 = .ok (.iconst 0, 1) := by decide +kernel
theorem d_M_letter_67 : decode b_M_letter 67 = .ok (.ireturn, 1) := by decide +kernel
theorem d_M_letter_68 : decode b_M_letter 68 = .ok (.aload_n 0, 1) := by decide +kernel
theorem d_M_letter_69 : decode b_M_letter 69 = .ok (.getfield 40, 3) := by decide +kernel
theorem d_M_letter_72 : decode b_M_letter 72 = .ok (.bipush 8, 2) := by decide +kernel
theorem d_M_letter_74 : decode b_M_letter 74 = .ok (.iload_n 1, 1) := by decide +kernel
theorem d_M_letter_75 : decode b_M_letter 75 = .ok (.imul, 1) := by decide +kernel
theorem d_M_letter_76 : decode b_M_letter 76 = .ok (.aload_n 0, 1) := by decide +kernel
theorem d_M_letter_77 : decode b_M_letter 77 = .ok (.getfield 37, 3) := by decide +kernel
theorem d_M_letter_80 : decode b_M_letter 80 = .ok (.iload_n 1, 1) := by decide +kernel
theorem d_M_letter_81 : decode b_M_letter 81 = .ok (.iaload, 1) := by decide +kernel
theorem d_M_letter_82 : decode b_M_letter 82 = .ok (.iadd, 1) := by decide +kernel
theorem d_M_letter_83 : decode b_M_letter 83 = .ok (.iload_n 2, 1) := by decide +kernel
theorem d_M_letter_84 : decode b_M_letter 84 = .ok (.iastore, 1) := by decide +kernel
theorem d_M_letter_85 : decode b_M_letter 85 = .ok (.aload_n 0, 1) := by decide +kernel
theorem d_M_letter_86 : decode b_M_letter 86 = .ok (.getfield 37, 3) := by decide +kernel
theorem d_M_letter_89 : decode b_M_letter 89 = .ok (.iload_n 1, 1) := by decide +kernel
theorem d_M_letter_90 : decode b_M_letter 90 = .ok (.dup2, 1) := by decide +kernel
theorem d_M_letter_91 : decode b_M_letter 91 = .ok (.iaload, 1) := by decide +kernel
theorem d_M_letter_92 : decode b_M_letter 92 = .ok (.iconst 1, 1) := by decide +kernel
theorem d_M_letter_93 : decode b_M_letter 93 = .ok (.iadd, 1) := by decide +kernel
theorem d_M_letter_94 : decode b_M_letter 94 = .ok (.iastore, 1) := by decide +kernel
theorem d_M_letter_95 : decode b_M_letter 95 = .ok (.aload_n 0, 1) := by decide +kernel
theorem d_M_letter_96 : decode b_M_letter 96 = .ok (.getfield 37, 3) := by decide +kernel
theorem d_M_letter_99 : decode b_M_letter 99 = .ok (.iload_n 1, 1) := by decide +kernel
theorem d_M_letter_100 : decode b_M_letter 100 = .ok (.iaload, 1) := by decide +kernel
theorem d_M_letter_101 : decode b_M_letter 101 = .ok (.ireturn, 1) := by decide +kernel
abbrev b_M_area : ByteArray := prog_11_method_12_code
def y_M_area : MethodName := ⟨"RedactCheckModel", "area", "(IIIII)I"⟩
theorem d_M_area_0 : decode b_M_area 0 = .ok (.aload_n 0, 1) := by decide +kernel
theorem d_M_area_1 : decode b_M_area 1 = .ok (.iload_n 1, 1) := by decide +kernel
theorem d_M_area_2 : decode b_M_area 2 = .ok (.iconst 0, 1) := by decide +kernel
theorem d_M_area_3 : decode b_M_area 3 = .ok (.iconst 3, 1) := by decide +kernel
theorem d_M_area_4 : decode b_M_area 4 = .ok (.invokestatic 90, 3) := by decide +kernel
theorem d_M_area_7 : decode b_M_area 7 = .ok (.ifCond .ne 7, 3) := by decide +kernel
theorem d_M_area_10 : decode b_M_area 10 = .ok (.iconst 1, 1) := by decide +kernel
theorem d_M_area_11 : decode b_M_area 11 = .ok (.goto 71, 3) := by decide +kernel
theorem d_M_area_14 : decode b_M_area 14 = .ok (.iload_n 2, 1) := by decide +kernel
theorem d_M_area_15 : decode b_M_area 15 = .ok (.sipush (-999), 3) := by decide +kernel
theorem d_M_area_18 : decode b_M_area 18 = .ok (.sipush 999, 3) := by decide +kernel
theorem d_M_area_21 : decode b_M_area 21 = .ok (.invokestatic 90, 3) := by decide +kernel
theorem d_M_area_24 : decode b_M_area 24 = .ok (.ifCond .eq 40, 3) := by decide +kernel
theorem d_M_area_27 : decode b_M_area 27 = .ok (.iload_n 3, 1) := by decide +kernel
theorem d_M_area_28 : decode b_M_area 28 = .ok (.sipush (-999), 3) := by decide +kernel
theorem d_M_area_31 : decode b_M_area 31 = .ok (.sipush 999, 3) := by decide +kernel
theorem d_M_area_34 : decode b_M_area 34 = .ok (.invokestatic 90, 3) := by decide +kernel
theorem d_M_area_37 : decode b_M_area 37 = .ok (.ifCond .eq 27, 3) := by decide +kernel
theorem d_M_area_40 : decode b_M_area 40 = .ok (.iload 4, 2) := by decide +kernel
theorem d_M_area_42 : decode b_M_area 42 = .ok (.iconst 0, 1) := by decide +kernel
theorem d_M_area_43 : decode b_M_area 43 = .ok (.sipush 1999, 3) := by decide +kernel
theorem d_M_area_46 : decode b_M_area 46 = .ok (.invokestatic 90, 3) := by decide +kernel
theorem d_M_area_49 : decode b_M_area 49 = .ok (.ifCond .eq 15, 3) := by decide +kernel
theorem d_M_area_52 : decode b_M_area 52 = .ok (.iload 5, 2) := by decide +kernel
theorem d_M_area_54 : decode b_M_area 54 = .ok (.iconst 0, 1) := by decide +kernel
theorem d_M_area_55 : decode b_M_area 55 = .ok (.sipush 1999, 3) := by decide +kernel
theorem d_M_area_58 : decode b_M_area 58 = .ok (.invokestatic 90, 3) := by decide +kernel
theorem d_M_area_61 : decode b_M_area 61 = .ok (.ifCond .ne 7, 3) := by decide +kernel
theorem d_M_area_64 : decode b_M_area 64 = .ok (.iconst 2, 1) := by decide +kernel
theorem d_M_area_65 : decode b_M_area 65 = .ok (.goto 17, 3) := by decide +kernel
theorem d_M_area_68 : decode b_M_area 68 = .ok (.aload_n 0, 1) := by decide +kernel
theorem d_M_area_69 : decode b_M_area 69 = .ok (.getfield 108, 3) := by decide +kernel
theorem d_M_area_72 : decode b_M_area 72 = .ok (.bipush 8, 2) := by decide +kernel
theorem d_M_area_74 : decode b_M_area 74 = .ok (.if_icmp .ne 7, 3) := by decide +kernel
theorem d_M_area_77 : decode b_M_area 77 = .ok (.iconst 3, 1) := by decide +kernel
theorem d_M_area_78 : decode b_M_area 78 = .ok (.goto 4, 3) := by decide +kernel
theorem d_M_area_81 : decode b_M_area 81 = .ok (.iconst 0, 1) := by decide +kernel
theorem d_M_area_82 : decode b_M_area 82 = .ok (.putfield 87, 3) := by decide +kernel
theorem d_M_area_85 : decode b_M_area 85 = .ok (.aload_n 0, 1) := by decide +kernel
theorem d_M_area_86 : decode b_M_area 86 = .ok (.getfield 87, 3) := by decide +kernel
theorem d_M_area_89 : decode b_M_area 89 = .ok (.ifCond .le 5, 3) := by decide +kernel
theorem d_M_area_92 : decode b_M_area 92 = .ok (.iconst 0, 1) := by decide +kernel
theorem d_M_area_93 : decode b_M_area 93 = .ok (.ireturn, 1) := by decide +kernel
theorem d_M_area_94 : decode b_M_area 94 = .ok (.aload_n 0, 1) := by decide +kernel
theorem d_M_area_95 : decode b_M_area 95 = .ok (.getfield 43, 3) := by decide +kernel
theorem d_M_area_98 : decode b_M_area 98 = .ok (.aload_n 0, 1) := by decide +kernel
theorem d_M_area_99 : decode b_M_area 99 = .ok (.getfield 108, 3) := by decide +kernel
theorem d_M_area_102 : decode b_M_area 102 = .ok (.iload_n 1, 1) := by decide +kernel
theorem d_M_area_103 : decode b_M_area 103 = .ok (.iastore, 1) := by decide +kernel
theorem d_M_area_104 : decode b_M_area 104 = .ok (.aload_n 0, 1) := by decide +kernel
theorem d_M_area_105 : decode b_M_area 105 = .ok (.getfield 46, 3) := by decide +kernel
theorem d_M_area_108 : decode b_M_area 108 = .ok (.aload_n 0, 1) := by decide +kernel
theorem d_M_area_109 : decode b_M_area 109 = .ok (.getfield 108, 3) := by decide +kernel
theorem d_M_area_112 : decode b_M_area 112 = .ok (.iload_n 2, 1) := by decide +kernel
theorem d_M_area_113 : decode b_M_area 113 = .ok (.iastore, 1) := by decide +kernel
theorem d_M_area_114 : decode b_M_area 114 = .ok (.aload_n 0, 1) := by decide +kernel
theorem d_M_area_115 : decode b_M_area 115 = .ok (.getfield 49, 3) := by decide +kernel
theorem d_M_area_118 : decode b_M_area 118 = .ok (.aload_n 0, 1) := by decide +kernel
theorem d_M_area_119 : decode b_M_area 119 = .ok (.getfield 108, 3) := by decide +kernel
theorem d_M_area_122 : decode b_M_area 122 = .ok (.iload_n 3, 1) := by decide +kernel
theorem d_M_area_123 : decode b_M_area 123 = .ok (.iastore, 1) := by decide +kernel
theorem d_M_area_124 : decode b_M_area 124 = .ok (.aload_n 0, 1) := by decide +kernel
theorem d_M_area_125 : decode b_M_area 125 = .ok (.getfield 52, 3) := by decide +kernel
theorem d_M_area_128 : decode b_M_area 128 = .ok (.aload_n 0, 1) := by decide +kernel
theorem d_M_area_129 : decode b_M_area 129 = .ok (.getfield 108, 3) := by decide +kernel
theorem d_M_area_132 : decode b_M_area 132 = .ok (.iload 4, 2) := by decide +kernel
theorem d_M_area_134 : decode b_M_area 134 = .ok (.iastore, 1) := by decide +kernel
theorem d_M_area_135 : decode b_M_area 135 = .ok (.aload_n 0, 1) := by decide +kernel
theorem d_M_area_136 : decode b_M_area 136 = .ok (.getfield 55, 3) := by decide +kernel
theorem d_M_area_139 : decode b_M_area 139 = .ok (.aload_n 0, 1) := by decide +kernel
theorem d_M_area_140 : decode b_M_area 140 = .ok (.getfield 108, 3) := by decide +kernel
theorem d_M_area_143 : decode b_M_area 143 = .ok (.iload 5, 2) := by decide +kernel
theorem d_M_area_145 : decode b_M_area 145 = .ok (.iastore, 1) := by decide +kernel
theorem d_M_area_146 : decode b_M_area 146 = .ok (.aload_n 0, 1) := by decide +kernel
theorem d_M_area_147 : decode b_M_area 147 = .ok (.dup, 1) := by decide +kernel
theorem d_M_area_148 : decode b_M_area 148 = .ok (.getfield 108, 3) := by decide +kernel
theorem d_M_area_151 : decode b_M_area 151 = .ok (.iconst 1, 1) := by decide +kernel
theorem d_M_area_152 : decode b_M_area 152 = .ok (.iadd, 1) := by decide +kernel
theorem d_M_area_153 : decode b_M_area 153 = .ok (.putfield 108, 3) := by decide +kernel
theorem d_M_area_156 : decode b_M_area 156 = .ok (.aload_n 0, 1) := by decide +kernel
theorem d_M_area_157 : decode b_M_area 157 = .ok (.getfield 108, 3) := by decide +kernel
theorem d_M_area_160 : decode b_M_area 160 = .ok (.ireturn, 1) := by decide +kernel
abbrev b_M_store : ByteArray := prog_11_method_13_code
def y_M_store : MethodName := ⟨"RedactCheckModel", "store", "(I)I"⟩
theorem d_M_store_0 : decode b_M_store 0 = .ok (.aload_n 0, 1) := by decide +kernel
theorem d_M_store_1 : decode b_M_store 1 = .ok (.iload_n 1, 1) := by decide +kernel
theorem d_M_store_2 : decode b_M_store 2 = .ok (.iconst 0, 1) := by decide +kernel
theorem d_M_store_3 : decode b_M_store 3 = .ok (.iconst 3, 1) := by decide +kernel
theorem d_M_store_4 : decode b_M_store 4 = .ok (.invokestatic 90, 3) := by decide +kernel
theorem d_M_store_7 : decode b_M_store 7 = .ok (.ifCond .ne 7, 3) := by decide +kernel
theorem d_M_store_10 : decode b_M_store 10 = .ok (.iconst 1, 1) := by decide +kernel
theorem d_M_store_11 : decode b_M_store 11 = .ok (.goto 17, 3) := by decide +kernel
theorem d_M_store_14 : decode b_M_store 14 = .ok (.aload_n 0, 1) := by decide +kernel
theorem d_M_store_15 : decode b_M_store 15 = .ok (.getfield 111, 3) := by decide +kernel
theorem d_M_store_18 : decode b_M_store 18 = .ok (.bipush 8, 2) := by decide +kernel
theorem d_M_store_20 : decode b_M_store 20 = .ok (.if_icmp .ne 7, 3) := by decide +kernel
theorem d_M_store_23 : decode b_M_store 23 = .ok (.iconst 2, 1) := by decide +kernel
theorem d_M_store_24 : decode b_M_store 24 = .ok (.goto 4, 3) := by decide +kernel
theorem d_M_store_27 : decode b_M_store 27 = .ok (.iconst 0, 1) := by decide +kernel
theorem d_M_store_28 : decode b_M_store 28 = .ok (.putfield 87, 3) := by decide +kernel
theorem d_M_store_31 : decode b_M_store 31 = .ok (.aload_n 0, 1) := by decide +kernel
theorem d_M_store_32 : decode b_M_store 32 = .ok (.getfield 87, 3) := by decide +kernel
theorem d_M_store_35 : decode b_M_store 35 = .ok (.ifCond .le 5, 3) := by decide +kernel
theorem d_M_store_38 : decode b_M_store 38 = .ok (.iconst 0, 1) := by decide +kernel
theorem d_M_store_39 : decode b_M_store 39 = .ok (.ireturn, 1) := by decide +kernel
theorem d_M_store_40 : decode b_M_store 40 = .ok (.aload_n 0, 1) := by decide +kernel
theorem d_M_store_41 : decode b_M_store 41 = .ok (.getfield 58, 3) := by decide +kernel
theorem d_M_store_44 : decode b_M_store 44 = .ok (.aload_n 0, 1) := by decide +kernel
theorem d_M_store_45 : decode b_M_store 45 = .ok (.getfield 111, 3) := by decide +kernel
theorem d_M_store_48 : decode b_M_store 48 = .ok (.iload_n 1, 1) := by decide +kernel
theorem d_M_store_49 : decode b_M_store 49 = .ok (.iastore, 1) := by decide +kernel
theorem d_M_store_50 : decode b_M_store 50 = .ok (.aload_n 0, 1) := by decide +kernel
theorem d_M_store_51 : decode b_M_store 51 = .ok (.dup, 1) := by decide +kernel
theorem d_M_store_52 : decode b_M_store 52 = .ok (.getfield 111, 3) := by decide +kernel
theorem d_M_store_55 : decode b_M_store 55 = .ok (.iconst 1, 1) := by decide +kernel
theorem d_M_store_56 : decode b_M_store 56 = .ok (.iadd, 1) := by decide +kernel
theorem d_M_store_57 : decode b_M_store 57 = .ok (.putfield 111, 3) := by decide +kernel
theorem d_M_store_60 : decode b_M_store 60 = .ok (.aload_n 0, 1) := by decide +kernel
theorem d_M_store_61 : decode b_M_store 61 = .ok (.getfield 111, 3) := by decide +kernel
theorem d_M_store_64 : decode b_M_store 64 = .ok (.iconst 1, 1) := by decide +kernel
theorem d_M_store_65 : decode b_M_store 65 = .ok (.isub, 1) := by decide +kernel
theorem d_M_store_66 : decode b_M_store 66 = .ok (.ireturn, 1) := by decide +kernel
abbrev b_M_octet : ByteArray := prog_11_method_14_code
def y_M_octet : MethodName := ⟨"RedactCheckModel", "octet", "(IB)I"⟩
theorem d_M_octet_0 : decode b_M_octet 0 = .ok (.aload_n 0, 1) := by decide +kernel
theorem d_M_octet_1 : decode b_M_octet 1 = .ok (.iload_n 1, 1) := by decide +kernel
theorem d_M_octet_2 : decode b_M_octet 2 = .ok (.iconst 0, 1) := by decide +kernel
theorem d_M_octet_3 : decode b_M_octet 3 = .ok (.aload_n 0, 1) := by decide +kernel
theorem d_M_octet_4 : decode b_M_octet 4 = .ok (.getfield 111, 3) := by decide +kernel
theorem d_M_octet_7 : decode b_M_octet 7 = .ok (.iconst 1, 1) := by decide +kernel
theorem d_M_octet_8 : decode b_M_octet 8 = .ok (.isub, 1) := by decide +kernel
theorem d_M_octet_9 : decode b_M_octet 9 = .ok (.invokestatic 90, 3) := by decide +kernel
theorem d_M_octet_12 : decode b_M_octet 12 = .ok (.ifCond .ne 7, 3) := by decide +kernel
theorem d_M_octet_15 : decode b_M_octet 15 = .ok (.iconst 1, 1) := by decide +kernel
theorem d_M_octet_16 : decode b_M_octet 16 = .ok (.goto 19, 3) := by decide +kernel
theorem d_M_octet_19 : decode b_M_octet 19 = .ok (.aload_n 0, 1) := by decide +kernel
theorem d_M_octet_20 : decode b_M_octet 20 = .ok (.getfield 61, 3) := by decide +kernel
theorem d_M_octet_23 : decode b_M_octet 23 = .ok (.iload_n 1, 1) := by decide +kernel
theorem d_M_octet_24 : decode b_M_octet 24 = .ok (.iaload, 1) := by decide +kernel
theorem d_M_octet_25 : decode b_M_octet 25 = .ok (.bipush 60, 2) := by decide +kernel
theorem d_M_octet_27 : decode b_M_octet 27 = .ok (.if_icmp .ne 7, 3) := by decide +kernel
theorem d_M_octet_30 : decode b_M_octet 30 = .ok (.iconst 2, 1) := by decide +kernel
theorem d_M_octet_31 : decode b_M_octet 31 = .ok (.goto 4, 3) := by decide +kernel
theorem d_M_octet_34 : decode b_M_octet 34 = .ok (.iconst 0, 1) := by decide +kernel
theorem d_M_octet_35 : decode b_M_octet 35 = .ok (.putfield 87, 3) := by decide +kernel
theorem d_M_octet_38 : decode b_M_octet 38 = .ok (.aload_n 0, 1) := by decide +kernel
theorem d_M_octet_39 : decode b_M_octet 39 = .ok (.getfield 87, 3) := by decide +kernel
theorem d_M_octet_42 : decode b_M_octet 42 = .ok (.ifCond .le 5, 3) := by decide +kernel
theorem d_M_octet_45 : decode b_M_octet 45 = .ok (.iconst 0, 1) := by decide +kernel
theorem d_M_octet_46 : decode b_M_octet 46 = .ok (.ireturn, 1) := by decide +kernel
theorem d_M_octet_47 : decode b_M_octet 47 = .ok (.aload_n 0, 1) := by decide +kernel
theorem d_M_octet_48 : decode b_M_octet 48 = .ok (.getfield 64, 3) := by decide +kernel
theorem d_M_octet_51 : decode b_M_octet 51 = .ok (.bipush 60, 2) := by decide +kernel
theorem d_M_octet_53 : decode b_M_octet 53 = .ok (.iload_n 1, 1) := by decide +kernel
theorem d_M_octet_54 : decode b_M_octet 54 = .ok (.imul, 1) := by decide +kernel
theorem d_M_octet_55 : decode b_M_octet 55 = .ok (.aload_n 0, 1) := by decide +kernel
theorem d_M_octet_56 : decode b_M_octet 56 = .ok (.getfield 61, 3) := by decide +kernel
theorem d_M_octet_59 : decode b_M_octet 59 = .ok (.iload_n 1, 1) := by decide +kernel
theorem d_M_octet_60 : decode b_M_octet 60 = .ok (.iaload, 1) := by decide +kernel
theorem d_M_octet_61 : decode b_M_octet 61 = .ok (.iadd, 1) := by decide +kernel
theorem d_M_octet_62 : decode b_M_octet 62 = .ok (.iload_n 2, 1) := by decide +kernel
theorem d_M_octet_63 : decode b_M_octet 63 = .ok (.sipush 255, 3) := by decide +kernel
theorem d_M_octet_66 : decode b_M_octet 66 = .ok (.iand, 1) := by decide +kernel
theorem d_M_octet_67 : decode b_M_octet 67 = .ok (.iastore, 1) := by decide +kernel
theorem d_M_octet_68 : decode b_M_octet 68 = .ok (.aload_n 0, 1) := by decide +kernel
theorem d_M_octet_69 : decode b_M_octet 69 = .ok (.getfield 61, 3) := by decide +kernel
theorem d_M_octet_72 : decode b_M_octet 72 = .ok (.iload_n 1, 1) := by decide +kernel
theorem d_M_octet_73 : decode b_M_octet 73 = .ok (.dup2, 1) := by decide +kernel
theorem d_M_octet_74 : decode b_M_octet 74 = .ok (.iaload, 1) := by decide +kernel
theorem d_M_octet_75 : decode b_M_octet 75 = .ok (.iconst 1, 1) := by decide +kernel
theorem d_M_octet_76 : decode b_M_octet 76 = .ok (.iadd, 1) := by decide +kernel
theorem d_M_octet_77 : decode b_M_octet 77 = .ok (.iastore, 1) := by decide +kernel
theorem d_M_octet_78 : decode b_M_octet 78 = .ok (.aload_n 0, 1) := by decide +kernel
theorem d_M_octet_79 : decode b_M_octet 79 = .ok (.getfield 61, 3) := by decide +kernel
theorem d_M_octet_82 : decode b_M_octet 82 = .ok (.iload_n 1, 1) := by decide +kernel
theorem d_M_octet_83 : decode b_M_octet 83 = .ok (.iaload, 1) := by decide +kernel
theorem d_M_octet_84 : decode b_M_octet 84 = .ok (.ireturn, 1) := by decide +kernel
abbrev b_M_black : ByteArray := prog_11_method_29_code
def y_M_black : MethodName := ⟨"RedactCheckModel", "black", "()I"⟩
theorem d_M_black_0 : decode b_M_black 0 = .ok (.iconst 0, 1) := by decide +kernel
theorem d_M_black_1 : decode b_M_black 1 = .ok (.istore_n 1, 1) := by decide +kernel
theorem d_M_black_2 : decode b_M_black 2 = .ok (.iconst 0, 1) := by decide +kernel
theorem d_M_black_3 : decode b_M_black 3 = .ok (.istore_n 2, 1) := by decide +kernel
theorem d_M_black_4 : decode b_M_black 4 = .ok (.iload_n 2, 1) := by decide +kernel
theorem d_M_black_5 : decode b_M_black 5 = .ok (.iconst 4, 1) := by decide +kernel
theorem d_M_black_6 : decode b_M_black 6 = .ok (.if_icmp .ge 24, 3) := by decide +kernel
theorem d_M_black_9 : decode b_M_black 9 = .ok (.iload_n 1, 1) := by decide +kernel
theorem d_M_black_10 : decode b_M_black 10 = .ok (.aload_n 0, 1) := by decide +kernel
theorem d_M_black_11 : decode b_M_black 11 = .ok (.iload_n 2, 1) := by decide +kernel
theorem d_M_black_12 : decode b_M_black 12 = .ok (.iload_n 2, 1) := by decide +kernel
theorem d_M_black_13 : decode b_M_black 13 = .ok (.iconst 0, 1) := by decide +kernel
theorem d_M_black_14 : decode b_M_black 14 = .ok (.iconst 0, 1) := by decide +kernel
theorem d_M_black_15 : decode b_M_black 15 = .ok (.bipush 40, 2) := by decide +kernel
theorem d_M_black_17 : decode b_M_black 17 = .ok (.iload_n 2, 1) := by decide +kernel
theorem d_M_black_18 : decode b_M_black 18 = .ok (.imul, 1) := by decide +kernel
theorem d_M_black_19 : decode b_M_black 19 = .ok (.invokevirtual 149, 3) := by decide +kernel
theorem d_M_black_22 : decode b_M_black 22 = .ok (.iadd, 1) := by decide +kernel
theorem d_M_black_23 : decode b_M_black 23 = .ok (.istore_n 1, 1) := by decide +kernel
theorem d_M_black_24 : decode b_M_black 24 = .ok (.iinc 2 1, 3) := by decide +kernel
theorem d_M_black_27 : decode b_M_black 27 = .ok (.goto (-23), 3) := by decide +kernel
theorem d_M_black_30 : decode b_M_black 30 = .ok (.iconst 0, 1) := by decide +kernel
theorem d_M_black_31 : decode b_M_black 31 = .ok (.istore_n 2, 1) := by decide +kernel
theorem d_M_black_32 : decode b_M_black 32 = .ok (.iload_n 2, 1) := by decide +kernel
theorem d_M_black_33 : decode b_M_black 33 = .ok (.aload_n 0, 1) := by decide +kernel
theorem d_M_black_34 : decode b_M_black 34 = .ok (.getfield 102, 3) := by decide +kernel
theorem d_M_black_37 : decode b_M_black 37 = .ok (.if_icmp .ge 46, 3) := by decide +kernel
theorem d_M_black_40 : decode b_M_black 40 = .ok (.iload_n 1, 1) := by decide +kernel
theorem d_M_black_41 : decode b_M_black 41 = .ok (.aload_n 0, 1) := by decide +kernel
theorem d_M_black_42 : decode b_M_black 42 = .ok (.iconst 4, 1) := by decide +kernel
theorem d_M_black_43 : decode b_M_black 43 = .ok (.aload_n 0, 1) := by decide +kernel
theorem d_M_black_44 : decode b_M_black 44 = .ok (.getfield 28, 3) := by decide +kernel
theorem d_M_black_47 : decode b_M_black 47 = .ok (.iload_n 2, 1) := by decide +kernel
theorem d_M_black_48 : decode b_M_black 48 = .ok (.iaload, 1) := by decide +kernel
theorem d_M_black_49 : decode b_M_black 49 = .ok (.iadd, 1) := by decide +kernel
theorem d_M_black_50 : decode b_M_black 50 = .ok (.aload_n 0, 1) := by decide +kernel
theorem d_M_black_51 : decode b_M_black 51 = .ok (.getfield 25, 3) := by decide +kernel
theorem d_M_black_54 : decode b_M_black 54 = .ok (.iload_n 2, 1) := by decide +kernel
theorem d_M_black_55 : decode b_M_black 55 = .ok (.iaload, 1) := by decide +kernel
theorem d_M_black_56 : decode b_M_black 56 = .ok (.aload_n 0, 1) := by decide +kernel
theorem d_M_black_57 : decode b_M_black 57 = .ok (.getfield 31, 3) := by decide +kernel
theorem d_M_black_60 : decode b_M_black 60 = .ok (.iload_n 2, 1) := by decide +kernel
theorem d_M_black_61 : decode b_M_black 61 = .ok (.iaload, 1) := by decide +kernel
theorem d_M_black_62 : decode b_M_black 62 = .ok (.aload_n 0, 1) := by decide +kernel
theorem d_M_black_63 : decode b_M_black 63 = .ok (.getfield 34, 3) := by decide +kernel
theorem d_M_black_66 : decode b_M_black 66 = .ok (.iload_n 2, 1) := by decide +kernel
theorem d_M_black_67 : decode b_M_black 67 = .ok (.iaload, 1) := by decide +kernel
theorem d_M_black_68 : decode b_M_black 68 = .ok (.iload_n 2, 1) := by decide +kernel
theorem d_M_black_69 : decode b_M_black 69 = .ok (.invokestatic 136, 3) := by decide +kernel
theorem d_M_black_72 : decode b_M_black 72 = .ok (.invokevirtual 149, 3) := by decide +kernel
theorem d_M_black_75 : decode b_M_black 75 = .ok (.iadd, 1) := by decide +kernel
theorem d_M_black_76 : decode b_M_black 76 = .ok (.istore_n 1, 1) := by decide +kernel
theorem d_M_black_77 : decode b_M_black 77 = .ok (.iinc 2 1, 3) := by decide +kernel
theorem d_M_black_80 : decode b_M_black 80 = .ok (.goto (-48), 3) := by decide +kernel
theorem d_M_black_83 : decode b_M_black 83 = .ok (.iconst 0, 1) := by decide +kernel
theorem d_M_black_84 : decode b_M_black 84 = .ok (.istore_n 2, 1) := by decide +kernel
