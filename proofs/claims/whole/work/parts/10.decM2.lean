theorem d_M_cutStore_116 : decode b_M_cutStore 116 = .ok (.iload_n 3, 1) := by decide +kernel
theorem d_M_cutStore_117 : decode b_M_cutStore 117 = .ok (.ireturn, 1) := by decide +kernel
abbrev b_M_takeStore : ByteArray := prog_11_method_19_code
def y_M_takeStore : MethodName := ⟨"RedactCheckModel", "takeStore", "(II)Z"⟩
theorem d_M_takeStore_0 : decode b_M_takeStore 0 = .ok (.aload_n 0, 1) := by decide +kernel
theorem d_M_takeStore_1 : decode b_M_takeStore 1 = .ok (.getfield 61, 3) := by decide +kernel
theorem d_M_takeStore_4 : decode b_M_takeStore 4 = .ok (.iload_n 1, 1) := by decide +kernel
theorem d_M_takeStore_5 : decode b_M_takeStore 5 = .ok (.iaload, 1) := by decide +kernel
theorem d_M_takeStore_6 : decode b_M_takeStore 6 = .ok (.istore_n 3, 1) := by decide +kernel
theorem d_M_takeStore_7 : decode b_M_takeStore 7 = .ok (.aload_n 0, 1) := by decide +kernel
theorem d_M_takeStore_8 : decode b_M_takeStore 8 = .ok (.iconst 0, 1) := by decide +kernel
theorem d_M_takeStore_9 : decode b_M_takeStore 9 = .ok (.putfield 114, 3) := by decide +kernel
theorem d_M_takeStore_12 : decode b_M_takeStore 12 = .ok (.iload_n 2, 1) := by decide +kernel
theorem d_M_takeStore_13 : decode b_M_takeStore 13 = .ok (.ifCond .le 11, 3) := by decide +kernel
theorem d_M_takeStore_16 : decode b_M_takeStore 16 = .ok (.iload_n 3, 1) := by decide +kernel
theorem d_M_takeStore_17 : decode b_M_takeStore 17 = .ok (.iconst 2, 1) := by decide +kernel
theorem d_M_takeStore_18 : decode b_M_takeStore 18 = .ok (.irem, 1) := by decide +kernel
theorem d_M_takeStore_19 : decode b_M_takeStore 19 = .ok (.ifCond .eq 5, 3) := by decide +kernel
theorem d_M_takeStore_22 : decode b_M_takeStore 22 = .ok (.iconst 0, 1) := by decide +kernel
theorem d_M_takeStore_23 : decode b_M_takeStore 23 = .ok (.ireturn, 1) := by decide +kernel
theorem d_M_takeStore_24 : decode b_M_takeStore 24 = .ok (.iload_n 2, 1) := by decide +kernel
theorem d_M_takeStore_25 : decode b_M_takeStore 25 = .ok (.ifCond .ne 7, 3) := by decide +kernel
theorem d_M_takeStore_28 : decode b_M_takeStore 28 = .ok (.iconst 1, 1) := by decide +kernel
theorem d_M_takeStore_29 : decode b_M_takeStore 29 = .ok (.goto 4, 3) := by decide +kernel
theorem d_M_takeStore_32 : decode b_M_takeStore 32 = .ok (.iconst 2, 1) := by decide +kernel
theorem d_M_takeStore_33 : decode b_M_takeStore 33 = .ok (.istore 4, 2) := by decide +kernel
theorem d_M_takeStore_35 : decode b_M_takeStore 35 = .ok (.iconst 0, 1) := by decide +kernel
theorem d_M_takeStore_36 : decode b_M_takeStore 36 = .ok (.istore 5, 2) := by decide +kernel
theorem d_M_takeStore_38 : decode b_M_takeStore 38 = .ok (.iload 5, 2) := by decide +kernel
theorem d_M_takeStore_40 : decode b_M_takeStore 40 = .ok (.iload_n 3, 1) := by decide +kernel
theorem d_M_takeStore_41 : decode b_M_takeStore 41 = .ok (.if_icmp .ge 169, 3) := by decide +kernel
theorem d_M_takeStore_44 : decode b_M_takeStore 44 = .ok (.aload_n 0, 1) := by decide +kernel
theorem d_M_takeStore_45 : decode b_M_takeStore 45 = .ok (.getfield 64, 3) := by decide +kernel
theorem d_M_takeStore_48 : decode b_M_takeStore 48 = .ok (.bipush 60, 2) := by decide +kernel
theorem d_M_takeStore_50 : decode b_M_takeStore 50 = .ok (.iload_n 1, 1) := by decide +kernel
theorem d_M_takeStore_51 : decode b_M_takeStore 51 = .ok (.imul, 1) := by decide +kernel
theorem d_M_takeStore_52 : decode b_M_takeStore 52 = .ok (.iload 5, 2) := by decide +kernel
theorem d_M_takeStore_54 : decode b_M_takeStore 54 = .ok (.iadd, 1) := by decide +kernel
theorem d_M_takeStore_55 : decode b_M_takeStore 55 = .ok (.iaload, 1) := by decide +kernel
theorem d_M_takeStore_56 : decode b_M_takeStore 56 = .ok (.istore 6, 2) := by decide +kernel
theorem d_M_takeStore_58 : decode b_M_takeStore 58 = .ok (.iload 4, 2) := by decide +kernel
theorem d_M_takeStore_60 : decode b_M_takeStore 60 = .ok (.iconst 1, 1) := by decide +kernel
theorem d_M_takeStore_61 : decode b_M_takeStore 61 = .ok (.if_icmp .ne 7, 3) := by decide +kernel
theorem d_M_takeStore_64 : decode b_M_takeStore 64 = .ok (.iconst 0, 1) := by decide +kernel
theorem d_M_takeStore_65 : decode b_M_takeStore 65 = .ok (.goto 17, 3) := by decide +kernel
theorem d_M_takeStore_68 : decode b_M_takeStore 68 = .ok (.aload_n 0, 1) := by decide +kernel
theorem d_M_takeStore_69 : decode b_M_takeStore 69 = .ok (.getfield 64, 3) := by decide +kernel
theorem d_M_takeStore_72 : decode b_M_takeStore 72 = .ok (.bipush 60, 2) := by decide +kernel
theorem d_M_takeStore_74 : decode b_M_takeStore 74 = .ok (.iload_n 1, 1) := by decide +kernel
theorem d_M_takeStore_75 : decode b_M_takeStore 75 = .ok (.imul, 1) := by decide +kernel
theorem d_M_takeStore_76 : decode b_M_takeStore 76 = .ok (.iload 5, 2) := by decide +kernel
theorem d_M_takeStore_78 : decode b_M_takeStore 78 = .ok (.iadd, 1) := by decide +kernel
theorem d_M_takeStore_79 : decode b_M_takeStore 79 = .ok (.iconst 1, 1) := by decide +kernel
theorem d_M_takeStore_80 : decode b_M_takeStore 80 = .ok (.iadd, 1) := by decide +kernel
theorem d_M_takeStore_81 : decode b_M_takeStore 81 = .ok (.iaload, 1) := by decide +kernel
theorem d_M_takeStore_82 : decode b_M_takeStore 82 = .ok (.istore 7, 2) := by decide +kernel
theorem d_M_takeStore_84 : decode b_M_takeStore 84 = .ok (.iload_n 2, 1) := by decide +kernel
theorem d_M_takeStore_85 : decode b_M_takeStore 85 = .ok (.ifCond .eq 44, 3) := by decide +kernel
theorem d_M_takeStore_88 : decode b_M_takeStore 88 = .ok (.iload_n 2, 1) := by decide +kernel
theorem d_M_takeStore_89 : decode b_M_takeStore 89 = .ok (.iconst 1, 1) := by decide +kernel
theorem d_M_takeStore_90 : decode b_M_takeStore 90 = .ok (.if_icmp .ne 8, 3) := by decide +kernel
theorem d_M_takeStore_93 : decode b_M_takeStore 93 = .ok (.iload 6, 2) := by decide +kernel
theorem d_M_takeStore_95 : decode b_M_takeStore 95 = .ok (.ifCond .eq 34, 3) := by decide +kernel
theorem d_M_takeStore_98 : decode b_M_takeStore 98 = .ok (.iload_n 2, 1) := by decide +kernel
theorem d_M_takeStore_99 : decode b_M_takeStore 99 = .ok (.iconst 2, 1) := by decide +kernel
theorem d_M_takeStore_100 : decode b_M_takeStore 100 = .ok (.if_icmp .ne 8, 3) := by decide +kernel
theorem d_M_takeStore_103 : decode b_M_takeStore 103 = .ok (.iload 7, 2) := by decide +kernel
theorem d_M_takeStore_105 : decode b_M_takeStore 105 = .ok (.ifCond .eq 24, 3) := by decide +kernel
theorem d_M_takeStore_108 : decode b_M_takeStore 108 = .ok (.iload_n 2, 1) := by decide +kernel
theorem d_M_takeStore_109 : decode b_M_takeStore 109 = .ok (.iconst 3, 1) := by decide +kernel
theorem d_M_takeStore_110 : decode b_M_takeStore 110 = .ok (.if_icmp .ne 23, 3) := by decide +kernel
theorem d_M_takeStore_113 : decode b_M_takeStore 113 = .ok (.iload 6, 2) := by decide +kernel
theorem d_M_takeStore_115 : decode b_M_takeStore 115 = .ok (.invokestatic 121, 3) := by decide +kernel
theorem d_M_takeStore_118 : decode b_M_takeStore 118 = .ok (.ifCond .lt 15, 3) := by decide +kernel
theorem d_M_takeStore_121 : decode b_M_takeStore 121 = .ok (.iload 7, 2) := by decide +kernel
theorem d_M_takeStore_123 : decode b_M_takeStore 123 = .ok (.invokestatic 121, 3) := by decide +kernel
theorem d_M_takeStore_126 : decode b_M_takeStore 126 = .ok (.ifCond .lt 7, 3) := by decide +kernel
theorem d_M_takeStore_129 : decode b_M_takeStore 129 = .ok (.iconst 1, 1) := by decide +kernel
theorem d_M_takeStore_130 : decode b_M_takeStore 130 = .ok (.goto 4, 3) := by decide +kernel
theorem d_M_takeStore_133 : decode b_M_takeStore 133 = .ok (.iconst 0, 1) := by decide +kernel
theorem d_M_takeStore_134 : decode b_M_takeStore 134 = .ok (.istore 8, 2) := by decide +kernel
theorem d_M_takeStore_136 : decode b_M_takeStore 136 = .ok (.iload 8, 2) := by decide +kernel
theorem d_M_takeStore_138 : decode b_M_takeStore 138 = .ok (.ifCond .ne 5, 3) := by decide +kernel
theorem d_M_takeStore_141 : decode b_M_takeStore 141 = .ok (.iconst 0, 1) := by decide +kernel
theorem d_M_takeStore_142 : decode b_M_takeStore 142 = .ok (.ireturn, 1) := by decide +kernel
theorem d_M_takeStore_143 : decode b_M_takeStore 143 = .ok (.aload_n 0, 1) := by decide +kernel
theorem d_M_takeStore_144 : decode b_M_takeStore 144 = .ok (.getfield 77, 3) := by decide +kernel
theorem d_M_takeStore_147 : decode b_M_takeStore 147 = .ok (.aload_n 0, 1) := by decide +kernel
theorem d_M_takeStore_148 : decode b_M_takeStore 148 = .ok (.getfield 114, 3) := by decide +kernel
theorem d_M_takeStore_151 : decode b_M_takeStore 151 = .ok (.iload_n 2, 1) := by decide +kernel
theorem d_M_takeStore_152 : decode b_M_takeStore 152 = .ok (.ifCond .eq 8, 3) := by decide +kernel
theorem d_M_takeStore_155 : decode b_M_takeStore 155 = .ok (.iload_n 2, 1) := by decide +kernel
theorem d_M_takeStore_156 : decode b_M_takeStore 156 = .ok (.iconst 2, 1) := by decide +kernel
theorem d_M_takeStore_157 : decode b_M_takeStore 157 = .ok (.if_icmp .ne 8, 3) := by decide +kernel
theorem d_M_takeStore_160 : decode b_M_takeStore 160 = .ok (.iload 6, 2) := by decide +kernel
theorem d_M_takeStore_162 : decode b_M_takeStore 162 = .ok (.goto 27, 3) := by decide +kernel
theorem d_M_takeStore_165 : decode b_M_takeStore 165 = .ok (.iload_n 2, 1) := by decide +kernel
theorem d_M_takeStore_166 : decode b_M_takeStore 166 = .ok (.iconst 1, 1) := by decide +kernel
theorem d_M_takeStore_167 : decode b_M_takeStore 167 = .ok (.if_icmp .ne 8, 3) := by decide +kernel
theorem d_M_takeStore_170 : decode b_M_takeStore 170 = .ok (.iload 7, 2) := by decide +kernel
theorem d_M_takeStore_172 : decode b_M_takeStore 172 = .ok (.goto 17, 3) := by decide +kernel
theorem d_M_takeStore_175 : decode b_M_takeStore 175 = .ok (.bipush 16, 2) := by decide +kernel
theorem d_M_takeStore_177 : decode b_M_takeStore 177 = .ok (.iload 6, 2) := by decide +kernel
theorem d_M_takeStore_179 : decode b_M_takeStore 179 = .ok (.invokestatic 121, 3) := by decide +kernel
theorem d_M_takeStore_182 : decode b_M_takeStore 182 = .ok (.imul, 1) := by decide +kernel
theorem d_M_takeStore_183 : decode b_M_takeStore 183 = .ok (.iload 7, 2) := by decide +kernel
theorem d_M_takeStore_185 : decode b_M_takeStore 185 = .ok (.invokestatic 121, 3) := by decide +kernel
theorem d_M_takeStore_188 : decode b_M_takeStore 188 = .ok (.iadd, 1) := by decide +kernel
theorem d_M_takeStore_189 : decode b_M_takeStore 189 = .ok (.iastore, 1) := by decide +kernel
theorem d_M_takeStore_190 : decode b_M_takeStore 190 = .ok (.aload_n 0, 1) := by decide +kernel
theorem d_M_takeStore_191 : decode b_M_takeStore 191 = .ok (.dup, 1) := by decide +kernel
theorem d_M_takeStore_192 : decode b_M_takeStore 192 = .ok (.getfield 114, 3) := by decide +kernel
theorem d_M_takeStore_195 : decode b_M_takeStore 195 = .ok (.iconst 1, 1) := by decide +kernel
theorem d_M_takeStore_196 : decode b_M_takeStore 196 = .ok (.iadd, 1) := by decide +kernel
theorem d_M_takeStore_197 : decode b_M_takeStore 197 = .ok (.putfield 114, 3) := by decide +kernel
theorem d_M_takeStore_200 : decode b_M_takeStore 200 = .ok (.iload 5, 2) := by decide +kernel
theorem d_M_takeStore_202 : decode b_M_takeStore 202 = .ok (.iload 4, 2) := by decide +kernel
theorem d_M_takeStore_204 : decode b_M_takeStore 204 = .ok (.iadd, 1) := by decide +kernel
theorem d_M_takeStore_205 : decode b_M_takeStore 205 = .ok (.istore 5, 2) := by decide +kernel
theorem d_M_takeStore_207 : decode b_M_takeStore 207 = .ok (.goto (-169), 3) := by decide +kernel
theorem d_M_takeStore_210 : decode b_M_takeStore 210 = .ok (.iconst 1, 1) := by decide +kernel
theorem d_M_takeStore_211 : decode b_M_takeStore 211 = .ok (.ireturn, 1) := by decide +kernel
abbrev b_M_digit : ByteArray := prog_11_method_18_code
def y_M_digit : MethodName := ⟨"RedactCheckModel", "digit", "(I)I"⟩
theorem d_M_digit_0 : decode b_M_digit 0 = .ok (.iload_n 0, 1) := by decide +kernel
theorem d_M_digit_1 : decode b_M_digit 1 = .ok (.bipush 48, 2) := by decide +kernel
theorem d_M_digit_3 : decode b_M_digit 3 = .ok (.bipush 57, 2) := by decide +kernel
theorem d_M_digit_5 : decode b_M_digit 5 = .ok (.invokestatic 90, 3) := by decide +kernel
theorem d_M_digit_8 : decode b_M_digit 8 = .ok (.ifCond .eq 8, 3) := by decide +kernel
theorem d_M_digit_11 : decode b_M_digit 11 = .ok (.iload_n 0, 1) := by decide +kernel
theorem d_M_digit_12 : decode b_M_digit 12 = .ok (.bipush 48, 2) := by decide +kernel
theorem d_M_digit_14 : decode b_M_digit 14 = .ok (.isub, 1) := by decide +kernel
theorem d_M_digit_15 : decode b_M_digit 15 = .ok (.ireturn, 1) := by decide +kernel
theorem d_M_digit_16 : decode b_M_digit 16 = .ok (.iload_n 0, 1) := by decide +kernel
theorem d_M_digit_17 : decode b_M_digit 17 = .ok (.bipush 65, 2) := by decide +kernel
theorem d_M_digit_19 : decode b_M_digit 19 = .ok (.bipush 70, 2) := by decide +kernel
theorem d_M_digit_21 : decode b_M_digit 21 = .ok (.invokestatic 90, 3) := by decide +kernel
theorem d_M_digit_24 : decode b_M_digit 24 = .ok (.ifCond .eq 11, 3) := by decide +kernel
theorem d_M_digit_27 : decode b_M_digit 27 = .ok (.iload_n 0, 1) := by decide +kernel
theorem d_M_digit_28 : decode b_M_digit 28 = .ok (.bipush 65, 2) := by decide +kernel
theorem d_M_digit_30 : decode b_M_digit 30 = .ok (.isub, 1) := by decide +kernel
theorem d_M_digit_31 : decode b_M_digit 31 = .ok (.bipush 10, 2) := by decide +kernel
theorem d_M_digit_33 : decode b_M_digit 33 = .ok (.iadd, 1) := by decide +kernel
theorem d_M_digit_34 : decode b_M_digit 34 = .ok (.ireturn, 1) := by decide +kernel
theorem d_M_digit_35 : decode b_M_digit 35 = .ok (.iload_n 0, 1) := by decide +kernel
theorem d_M_digit_36 : decode b_M_digit 36 = .ok (.bipush 97, 2) := by decide +kernel
theorem d_M_digit_38 : decode b_M_digit 38 = .ok (.bipush 102, 2) := by decide +kernel
theorem d_M_digit_40 : decode b_M_digit 40 = .ok (.invokestatic 90, 3) := by decide +kernel
theorem d_M_digit_43 : decode b_M_digit 43 = .ok (.ifCond .eq 13, 3) := by decide +kernel
theorem d_M_digit_46 : decode b_M_digit 46 = .ok (.iload_n 0, 1) := by decide +kernel
theorem d_M_digit_47 : decode b_M_digit 47 = .ok (.bipush 97, 2) := by decide +kernel
theorem d_M_digit_49 : decode b_M_digit 49 = .ok (.isub, 1) := by decide +kernel
theorem d_M_digit_50 : decode b_M_digit 50 = .ok (.bipush 10, 2) := by decide +kernel
theorem d_M_digit_52 : decode b_M_digit 52 = .ok (.iadd, 1) := by decide +kernel
theorem d_M_digit_53 : decode b_M_digit 53 = .ok (.goto 4, 3) := by decide +kernel
theorem d_M_digit_56 : decode b_M_digit 56 = .ok (.iconst (-1), 1) := by decide +kernel
theorem d_M_digit_57 : decode b_M_digit 57 = .ok (.ireturn, 1) := by decide +kernel
abbrev b_M_write : ByteArray := prog_11_method_27_code
def y_M_write : MethodName := ⟨"RedactCheckModel", "write", "(II)V"⟩
theorem d_M_write_0 : decode b_M_write 0 = .ok (.aload_n 0, 1) := by decide +kernel
theorem d_M_write_1 : decode b_M_write 1 = .ok (.getfield 58, 3) := by decide +kernel
theorem d_M_write_4 : decode b_M_write 4 = .ok (.iload_n 1, 1) := by decide +kernel
theorem d_M_write_5 : decode b_M_write 5 = .ok (.iaload, 1) := by decide +kernel
theorem d_M_write_6 : decode b_M_write 6 = .ok (.istore_n 3, 1) := by decide +kernel
theorem d_M_write_7 : decode b_M_write 7 = .ok (.bipush 60, 2) := by decide +kernel
theorem d_M_write_9 : decode b_M_write 9 = .ok (.iload_n 1, 1) := by decide +kernel
theorem d_M_write_10 : decode b_M_write 10 = .ok (.imul, 1) := by decide +kernel
theorem d_M_write_11 : decode b_M_write 11 = .ok (.aload_n 0, 1) := by decide +kernel
theorem d_M_write_12 : decode b_M_write 12 = .ok (.getfield 61, 3) := by decide +kernel
theorem d_M_write_15 : decode b_M_write 15 = .ok (.iload_n 1, 1) := by decide +kernel
theorem d_M_write_16 : decode b_M_write 16 = .ok (.iaload, 1) := by decide +kernel
theorem d_M_write_17 : decode b_M_write 17 = .ok (.iadd, 1) := by decide +kernel
theorem d_M_write_18 : decode b_M_write 18 = .ok (.istore 4, 2) := by decide +kernel
theorem d_M_write_20 : decode b_M_write 20 = .ok (.iload_n 3, 1) := by decide +kernel
theorem d_M_write_21 : decode b_M_write 21 = .ok (.ifCond .ne 14, 3) := by decide +kernel
theorem d_M_write_24 : decode b_M_write 24 = .ok (.aload_n 0, 1) := by decide +kernel
theorem d_M_write_25 : decode b_M_write 25 = .ok (.getfield 64, 3) := by decide +kernel
theorem d_M_write_28 : decode b_M_write 28 = .ok (.iload 4, 2) := by decide +kernel
theorem d_M_write_30 : decode b_M_write 30 = .ok (.iload_n 2, 1) := by decide +kernel
theorem d_M_write_31 : decode b_M_write 31 = .ok (.iastore, 1) := by decide +kernel
theorem d_M_write_32 : decode b_M_write 32 = .ok (.goto 69, 3) := by decide +kernel
theorem d_M_write_35 : decode b_M_write 35 = .ok (.aload_n 0, 1) := by decide +kernel
theorem d_M_write_36 : decode b_M_write 36 = .ok (.getfield 64, 3) := by decide +kernel
theorem d_M_write_39 : decode b_M_write 39 = .ok (.iload 4, 2) := by decide +kernel
theorem d_M_write_41 : decode b_M_write 41 = .ok (.iload_n 3, 1) := by decide +kernel
theorem d_M_write_42 : decode b_M_write 42 = .ok (.iconst 1, 1) := by decide +kernel
theorem d_M_write_43 : decode b_M_write 43 = .ok (.if_icmp .ne 7, 3) := by decide +kernel
theorem d_M_write_46 : decode b_M_write 46 = .ok (.iconst 0, 1) := by decide +kernel
theorem d_M_write_47 : decode b_M_write 47 = .ok (.goto 19, 3) := by decide +kernel
theorem d_M_write_50 : decode b_M_write 50 = .ok (.iload_n 3, 1) := by decide +kernel
theorem d_M_write_51 : decode b_M_write 51 = .ok (.iconst 2, 1) := by decide +kernel
theorem d_M_write_52 : decode b_M_write 52 = .ok (.if_icmp .ne 7, 3) := by decide +kernel
theorem d_M_write_55 : decode b_M_write 55 = .ok (.iload_n 2, 1) := by decide +kernel
theorem d_M_write_56 : decode b_M_write 56 = .ok (.goto 10, 3) := by decide +kernel
theorem d_M_write_59 : decode b_M_write 59 = .ok (.iload_n 2, 1) := by decide +kernel
theorem d_M_write_60 : decode b_M_write 60 = .ok (.bipush 16, 2) := by decide +kernel
theorem d_M_write_62 : decode b_M_write 62 = .ok (.idiv, 1) := by decide +kernel
theorem d_M_write_63 : decode b_M_write 63 = .ok (.invokestatic 139, 3) := by decide +kernel
theorem d_M_write_66 : decode b_M_write 66 = .ok (.iastore, 1) := by decide +kernel
theorem d_M_write_67 : decode b_M_write 67 = .ok (.aload_n 0, 1) := by decide +kernel
theorem d_M_write_68 : decode b_M_write 68 = .ok (.getfield 64, 3) := by decide +kernel
theorem d_M_write_71 : decode b_M_write 71 = .ok (.iload 4, 2) := by decide +kernel
theorem d_M_write_73 : decode b_M_write 73 = .ok (.iconst 1, 1) := by decide +kernel
theorem d_M_write_74 : decode b_M_write 74 = .ok (.iadd, 1) := by decide +kernel
theorem d_M_write_75 : decode b_M_write 75 = .ok (.iload_n 3, 1) := by decide +kernel
theorem d_M_write_76 : decode b_M_write 76 = .ok (.iconst 1, 1) := by decide +kernel
theorem d_M_write_77 : decode b_M_write 77 = .ok (.if_icmp .ne 7, 3) := by decide +kernel
theorem d_M_write_80 : decode b_M_write 80 = .ok (.iload_n 2, 1) := by decide +kernel
theorem d_M_write_81 : decode b_M_write 81 = .ok (.goto 19, 3) := by decide +kernel
theorem d_M_write_84 : decode b_M_write 84 = .ok (.iload_n 3, 1) := by decide +kernel
theorem d_M_write_85 : decode b_M_write 85 = .ok (.iconst 2, 1) := by decide +kernel
theorem d_M_write_86 : decode b_M_write 86 = .ok (.if_icmp .ne 7, 3) := by decide +kernel
theorem d_M_write_89 : decode b_M_write 89 = .ok (.iconst 0, 1) := by decide +kernel
theorem d_M_write_90 : decode b_M_write 90 = .ok (.goto 10, 3) := by decide +kernel
theorem d_M_write_93 : decode b_M_write 93 = .ok (.iload_n 2, 1) := by decide +kernel
theorem d_M_write_94 : decode b_M_write 94 = .ok (.bipush 16, 2) := by decide +kernel
theorem d_M_write_96 : decode b_M_write 96 = .ok (.irem, 1) := by decide +kernel
theorem d_M_write_97 : decode b_M_write 97 = .ok (.invokestatic 139, 3) := by decide +kernel
theorem d_M_write_100 : decode b_M_write 100 = .ok (.iastore, 1) := by decide +kernel
theorem d_M_write_101 : decode b_M_write 101 = .ok (.aload_n 0, 1) := by decide +kernel
theorem d_M_write_102 : decode b_M_write 102 = .ok (.getfield 61, 3) := by decide +kernel
theorem d_M_write_105 : decode b_M_write 105 = .ok (.iload_n 1, 1) := by decide +kernel
theorem d_M_write_106 : decode b_M_write 106 = .ok (.aload_n 0, 1) := by decide +kernel
theorem d_M_write_107 : decode b_M_write 107 = .ok (.getfield 61, 3) := by decide +kernel
theorem d_M_write_110 : decode b_M_write 110 = .ok (.iload_n 1, 1) := by decide +kernel
theorem d_M_write_111 : decode b_M_write 111 = .ok (.iaload, 1) := by decide +kernel
theorem d_M_write_112 : decode b_M_write 112 = .ok (.iload_n 3, 1) := by decide +kernel
theorem d_M_write_113 : decode b_M_write 113 = .ok (.ifCond .ne 7, 3) := by decide +kernel
theorem d_M_write_116 : decode b_M_write 116 = .ok (.iconst 1, 1) := by decide +kernel
theorem d_M_write_117 : decode b_M_write 117 = .ok (.goto 4, 3) := by decide +kernel
theorem d_M_write_120 : decode b_M_write 120 = .ok (.iconst 2, 1) := by decide +kernel
theorem d_M_write_121 : decode b_M_write 121 = .ok (.iadd, 1) := by decide +kernel
theorem d_M_write_122 : decode b_M_write 122 = .ok (.iastore, 1) := by decide +kernel
theorem d_M_write_123 : decode b_M_write 123 = .ok (.return_, 1) := by decide +kernel
abbrev b_M_hex : ByteArray := prog_11_method_26_code
def y_M_hex : MethodName := ⟨"RedactCheckModel", "hex", "(I)I"⟩
theorem d_M_hex_0 : decode b_M_hex 0 = .ok (.iload_n 0, 1) := by decide +kernel
theorem d_M_hex_1 : decode b_M_hex 1 = .ok (.bipush 10, 2) := by decide +kernel
theorem d_M_hex_3 : decode b_M_hex 3 = .ok (.if_icmp .ge 10, 3) := by decide +kernel
theorem d_M_hex_6 : decode b_M_hex 6 = .ok (.bipush 48, 2) := by decide +kernel
theorem d_M_hex_8 : decode b_M_hex 8 = .ok (.iload_n 0, 1) := by decide +kernel
theorem d_M_hex_9 : decode b_M_hex 9 = .ok (.iadd, 1) := by decide +kernel
theorem d_M_hex_10 : decode b_M_hex 10 = .ok (.goto 10, 3) := by decide +kernel
theorem d_M_hex_13 : decode b_M_hex 13 = .ok (.bipush 65, 2) := by decide +kernel
theorem d_M_hex_15 : decode b_M_hex 15 = .ok (.iload_n 0, 1) := by decide +kernel
theorem d_M_hex_16 : decode b_M_hex 16 = .ok (.iadd, 1) := by decide +kernel
theorem d_M_hex_17 : decode b_M_hex 17 = .ok (.bipush 10, 2) := by decide +kernel
theorem d_M_hex_19 : decode b_M_hex 19 = .ok (.isub, 1) := by decide +kernel
theorem d_M_hex_20 : decode b_M_hex 20 = .ok (.ireturn, 1) := by decide +kernel
abbrev b_M_look : ByteArray := prog_11_method_31_code
def y_M_look : MethodName := ⟨"RedactCheckModel", "look", "()I"⟩
theorem d_M_look_0 : decode b_M_look 0 = .ok (.aload_n 0, 1) := by decide +kernel
theorem d_M_look_1 : decode b_M_look 1 = .ok (.iconst 0, 1) := by decide +kernel
theorem d_M_look_2 : decode b_M_look 2 = .ok (.putfield 87, 3) := by decide +kernel
theorem d_M_look_5 : decode b_M_look 5 = .ok (.aload_n 0, 1) := by decide +kernel
theorem d_M_look_6 : decode b_M_look 6 = .ok (.iconst 0, 1) := by decide +kernel
theorem d_M_look_7 : decode b_M_look 7 = .ok (.putfield 166, 3) := by decide +kernel
theorem d_M_look_10 : decode b_M_look 10 = .ok (.iconst 0, 1) := by decide +kernel
theorem d_M_look_11 : decode b_M_look 11 = .ok (.istore_n 1, 1) := by decide +kernel
theorem d_M_look_12 : decode b_M_look 12 = .ok (.iload_n 1, 1) := by decide +kernel
theorem d_M_look_13 : decode b_M_look 13 = .ok (.iconst 4, 1) := by decide +kernel
theorem d_M_look_14 : decode b_M_look 14 = .ok (.if_icmp .ge 21, 3) := by decide +kernel
theorem d_M_look_17 : decode b_M_look 17 = .ok (.aload_n 0, 1) := by decide +kernel
theorem d_M_look_18 : decode b_M_look 18 = .ok (.iload_n 1, 1) := by decide +kernel
theorem d_M_look_19 : decode b_M_look 19 = .ok (.invokevirtual 125, 3) := by decide +kernel
theorem d_M_look_22 : decode b_M_look 22 = .ok (.aload_n 0, 1) := by decide +kernel
theorem d_M_look_23 : decode b_M_look 23 = .ok (.iconst 0, 1) := by decide +kernel
theorem d_M_look_24 : decode b_M_look 24 = .ok (.iload_n 1, 1) := by decide +kernel
theorem d_M_look_25 : decode b_M_look 25 = .ok (.iconst (-1), 1) := by decide +kernel
theorem d_M_look_26 : decode b_M_look 26 = .ok (.invokevirtual 169, 3) := by decide +kernel
theorem d_M_look_29 : decode b_M_look 29 = .ok (.iinc 1 1, 3) := by decide +kernel
theorem d_M_look_32 : decode b_M_look 32 = .ok (.goto (-20), 3) := by decide +kernel
theorem d_M_look_35 : decode b_M_look 35 = .ok (.iconst 0, 1) := by decide +kernel
theorem d_M_look_36 : decode b_M_look 36 = .ok (.istore_n 1, 1) := by decide +kernel
theorem d_M_look_37 : decode b_M_look 37 = .ok (.iload_n 1, 1) := by decide +kernel
theorem d_M_look_38 : decode b_M_look 38 = .ok (.aload_n 0, 1) := by decide +kernel
theorem d_M_look_39 : decode b_M_look 39 = .ok (.getfield 102, 3) := by decide +kernel
theorem d_M_look_42 : decode b_M_look 42 = .ok (.if_icmp .ge 28, 3) := by decide +kernel
theorem d_M_look_45 : decode b_M_look 45 = .ok (.aload_n 0, 1) := by decide +kernel
theorem d_M_look_46 : decode b_M_look 46 = .ok (.iconst 4, 1) := by decide +kernel
theorem d_M_look_47 : decode b_M_look 47 = .ok (.aload_n 0, 1) := by decide +kernel
theorem d_M_look_48 : decode b_M_look 48 = .ok (.getfield 28, 3) := by decide +kernel
theorem d_M_look_51 : decode b_M_look 51 = .ok (.iload_n 1, 1) := by decide +kernel
theorem d_M_look_52 : decode b_M_look 52 = .ok (.iaload, 1) := by decide +kernel
theorem d_M_look_53 : decode b_M_look 53 = .ok (.iadd, 1) := by decide +kernel
theorem d_M_look_54 : decode b_M_look 54 = .ok (.invokevirtual 125, 3) := by decide +kernel
theorem d_M_look_57 : decode b_M_look 57 = .ok (.aload_n 0, 1) := by decide +kernel
theorem d_M_look_58 : decode b_M_look 58 = .ok (.iconst 1, 1) := by decide +kernel
theorem d_M_look_59 : decode b_M_look 59 = .ok (.iload_n 1, 1) := by decide +kernel
theorem d_M_look_60 : decode b_M_look 60 = .ok (.iconst (-1), 1) := by decide +kernel
theorem d_M_look_61 : decode b_M_look 61 = .ok (.invokevirtual 169, 3) := by decide +kernel
theorem d_M_look_64 : decode b_M_look 64 = .ok (.iinc 1 1, 3) := by decide +kernel
theorem d_M_look_67 : decode b_M_look 67 = .ok (.goto (-30), 3) := by decide +kernel
theorem d_M_look_70 : decode b_M_look 70 = .ok (.iconst 0, 1) := by decide +kernel
theorem d_M_look_71 : decode b_M_look 71 = .ok (.istore_n 1, 1) := by decide +kernel
theorem d_M_look_72 : decode b_M_look 72 = .ok (.iload_n 1, 1) := by decide +kernel
theorem d_M_look_73 : decode b_M_look 73 = .ok (.aload_n 0, 1) := by decide +kernel
theorem d_M_look_74 : decode b_M_look 74 = .ok (.getfield 111, 3) := by decide +kernel
theorem d_M_look_77 : decode b_M_look 77 = .ok (.if_icmp .ge 38, 3) := by decide +kernel
theorem d_M_look_80 : decode b_M_look 80 = .ok (.iconst 0, 1) := by decide +kernel
theorem d_M_look_81 : decode b_M_look 81 = .ok (.istore_n 2, 1) := by decide +kernel
theorem d_M_look_82 : decode b_M_look 82 = .ok (.iload_n 2, 1) := by decide +kernel
theorem d_M_look_83 : decode b_M_look 83 = .ok (.iconst 4, 1) := by decide +kernel
theorem d_M_look_84 : decode b_M_look 84 = .ok (.if_icmp .ge 25, 3) := by decide +kernel
theorem d_M_look_87 : decode b_M_look 87 = .ok (.aload_n 0, 1) := by decide +kernel
theorem d_M_look_88 : decode b_M_look 88 = .ok (.iload_n 1, 1) := by decide +kernel
theorem d_M_look_89 : decode b_M_look 89 = .ok (.iload_n 2, 1) := by decide +kernel
theorem d_M_look_90 : decode b_M_look 90 = .ok (.invokevirtual 142, 3) := by decide +kernel
theorem d_M_look_93 : decode b_M_look 93 = .ok (.ifCond .eq 10, 3) := by decide +kernel
theorem d_M_look_96 : decode b_M_look 96 = .ok (.aload_n 0, 1) := by decide +kernel
theorem d_M_look_97 : decode b_M_look 97 = .ok (.iconst 2, 1) := by decide +kernel
theorem d_M_look_98 : decode b_M_look 98 = .ok (.iload_n 1, 1) := by decide +kernel
theorem d_M_look_99 : decode b_M_look 99 = .ok (.iload_n 2, 1) := by decide +kernel
theorem d_M_look_100 : decode b_M_look 100 = .ok (.invokevirtual 169, 3) := by decide +kernel
theorem d_M_look_103 : decode b_M_look 103 = .ok (.iinc 2 1, 3) := by decide +kernel
theorem d_M_look_106 : decode b_M_look 106 = .ok (.goto (-24), 3) := by decide +kernel
theorem d_M_look_109 : decode b_M_look 109 = .ok (.iinc 1 1, 3) := by decide +kernel
theorem d_M_look_112 : decode b_M_look 112 = .ok (.goto (-40), 3) := by decide +kernel
theorem d_M_look_115 : decode b_M_look 115 = .ok (.aload_n 0, 1) := by decide +kernel
theorem d_M_look_116 : decode b_M_look 116 = .ok (.getfield 166, 3) := by decide +kernel
theorem d_M_look_119 : decode b_M_look 119 = .ok (.ireturn, 1) := by decide +kernel
abbrev b_M_note : ByteArray := prog_11_method_30_code
def y_M_note : MethodName := ⟨"RedactCheckModel", "note", "(III)V"⟩
theorem d_M_note_0 : decode b_M_note 0 = .ok (.iconst 0, 1) := by decide +kernel
theorem d_M_note_1 : decode b_M_note 1 = .ok (.istore 4, 2) := by decide +kernel
theorem d_M_note_3 : decode b_M_note 3 = .ok (.iload 4, 2) := by decide +kernel
theorem d_M_note_5 : decode b_M_note 5 = .ok (.aload_n 0, 1) := by decide +kernel
theorem d_M_note_6 : decode b_M_note 6 = .ok (.getfield 114, 3) := by decide +kernel
theorem d_M_note_9 : decode b_M_note 9 = .ok (.if_icmp .ge 127, 3) := by decide +kernel
theorem d_M_note_12 : decode b_M_note 12 = .ok (.iconst 0, 1) := by decide +kernel
theorem d_M_note_13 : decode b_M_note 13 = .ok (.istore 5, 2) := by decide +kernel
theorem d_M_note_15 : decode b_M_note 15 = .ok (.iload 5, 2) := by decide +kernel
theorem d_M_note_17 : decode b_M_note 17 = .ok (.aload_n 0, 1) := by decide +kernel
theorem d_M_note_18 : decode b_M_note 18 = .ok (.getfield 105, 3) := by decide +kernel
theorem d_M_note_21 : decode b_M_note 21 = .ok (.if_icmp .ge 109, 3) := by decide +kernel
theorem d_M_note_24 : decode b_M_note 24 = .ok (.aload_n 0, 1) := by decide +kernel
theorem d_M_note_25 : decode b_M_note 25 = .ok (.getfield 166, 3) := by decide +kernel
theorem d_M_note_28 : decode b_M_note 28 = .ok (.bipush 100, 2) := by decide +kernel
theorem d_M_note_30 : decode b_M_note 30 = .ok (.if_icmp .ge 94, 3) := by decide +kernel
theorem d_M_note_33 : decode b_M_note 33 = .ok (.aload_n 0, 1) := by decide +kernel
theorem d_M_note_34 : decode b_M_note 34 = .ok (.iload 5, 2) := by decide +kernel
theorem d_M_note_36 : decode b_M_note 36 = .ok (.iload 4, 2) := by decide +kernel
theorem d_M_note_38 : decode b_M_note 38 = .ok (.invokevirtual 117, 3) := by decide +kernel
theorem d_M_note_41 : decode b_M_note 41 = .ok (.ifCond .eq 83, 3) := by decide +kernel
theorem d_M_note_44 : decode b_M_note 44 = .ok (.aload_n 0, 1) := by decide +kernel
theorem d_M_note_45 : decode b_M_note 45 = .ok (.getfield 67, 3) := by decide +kernel
theorem d_M_note_48 : decode b_M_note 48 = .ok (.iconst 5, 1) := by decide +kernel
theorem d_M_note_49 : decode b_M_note 49 = .ok (.aload_n 0, 1) := by decide +kernel
theorem d_M_note_50 : decode b_M_note 50 = .ok (.getfield 166, 3) := by decide +kernel
theorem d_M_note_53 : decode b_M_note 53 = .ok (.imul, 1) := by decide +kernel
theorem d_M_note_54 : decode b_M_note 54 = .ok (.iload_n 1, 1) := by decide +kernel
theorem d_M_note_55 : decode b_M_note 55 = .ok (.iastore, 1) := by decide +kernel
theorem d_M_note_56 : decode b_M_note 56 = .ok (.aload_n 0, 1) := by decide +kernel
theorem d_M_note_57 : decode b_M_note 57 = .ok (.getfield 67, 3) := by decide +kernel
theorem d_M_note_60 : decode b_M_note 60 = .ok (.iconst 5, 1) := by decide +kernel
theorem d_M_note_61 : decode b_M_note 61 = .ok (.aload_n 0, 1) := by decide +kernel
theorem d_M_note_62 : decode b_M_note 62 = .ok (.getfield 166, 3) := by decide +kernel
theorem d_M_note_65 : decode b_M_note 65 = .ok (.imul, 1) := by decide +kernel
theorem d_M_note_66 : decode b_M_note 66 = .ok (.iconst 1, 1) := by decide +kernel
theorem d_M_note_67 : decode b_M_note 67 = .ok (.iadd, 1) := by decide +kernel
theorem d_M_note_68 : decode b_M_note 68 = .ok (.iload_n 2, 1) := by decide +kernel
theorem d_M_note_69 : decode b_M_note 69 = .ok (.iastore, 1) := by decide +kernel
theorem d_M_note_70 : decode b_M_note 70 = .ok (.aload_n 0, 1) := by decide +kernel
theorem d_M_note_71 : decode b_M_note 71 = .ok (.getfield 67, 3) := by decide +kernel
theorem d_M_note_74 : decode b_M_note 74 = .ok (.iconst 5, 1) := by decide +kernel
theorem d_M_note_75 : decode b_M_note 75 = .ok (.aload_n 0, 1) := by decide +kernel
theorem d_M_note_76 : decode b_M_note 76 = .ok (.getfield 166, 3) := by decide +kernel
theorem d_M_note_79 : decode b_M_note 79 = .ok (.imul, 1) := by decide +kernel
theorem d_M_note_80 : decode b_M_note 80 = .ok (.iconst 2, 1) := by decide +kernel
theorem d_M_note_81 : decode b_M_note 81 = .ok (.iadd, 1) := by decide +kernel
theorem d_M_note_82 : decode b_M_note 82 = .ok (.iload 4, 2) := by decide +kernel
theorem d_M_note_84 : decode b_M_note 84 = .ok (.iastore, 1) := by decide +kernel
theorem d_M_note_85 : decode b_M_note 85 = .ok (.aload_n 0, 1) := by decide +kernel
theorem d_M_note_86 : decode b_M_note 86 = .ok (.getfield 67, 3) := by decide +kernel
theorem d_M_note_89 : decode b_M_note 89 = .ok (.iconst 5, 1) := by decide +kernel
theorem d_M_note_90 : decode b_M_note 90 = .ok (.aload_n 0, 1) := by decide +kernel
theorem d_M_note_91 : decode b_M_note 91 = .ok (.getfield 166, 3) := by decide +kernel
theorem d_M_note_94 : decode b_M_note 94 = .ok (.imul, 1) := by decide +kernel
theorem d_M_note_95 : decode b_M_note 95 = .ok (.iconst 3, 1) := by decide +kernel
theorem d_M_note_96 : decode b_M_note 96 = .ok (.iadd, 1) := by decide +kernel
theorem d_M_note_97 : decode b_M_note 97 = .ok (.iload 5, 2) := by decide +kernel
theorem d_M_note_99 : decode b_M_note 99 = .ok (.iastore, 1) := by decide +kernel
theorem d_M_note_100 : decode b_M_note 100 = .ok (.aload_n 0, 1) := by decide +kernel
theorem d_M_note_101 : decode b_M_note 101 = .ok (.getfield 67, 3) := by decide +kernel
theorem d_M_note_104 : decode b_M_note 104 = .ok (.iconst 5, 1) := by decide +kernel
theorem d_M_note_105 : decode b_M_note 105 = .ok (.aload_n 0, 1) := by decide +kernel
theorem d_M_note_106 : decode b_M_note 106 = .ok (.getfield 166, 3) := by decide +kernel
theorem d_M_note_109 : decode b_M_note 109 = .ok (.imul, 1) := by decide +kernel
theorem d_M_note_110 : decode b_M_note 110 = .ok (.iconst 4, 1) := by decide +kernel
theorem d_M_note_111 : decode b_M_note 111 = .ok (.iadd, 1) := by decide +kernel
theorem d_M_note_112 : decode b_M_note 112 = .ok (.iload_n 3, 1) := by decide +kernel
theorem d_M_note_113 : decode b_M_note 113 = .ok (.iastore, 1) := by decide +kernel
theorem d_M_note_114 : decode b_M_note 114 = .ok (.aload_n 0, 1) := by decide +kernel
theorem d_M_note_115 : decode b_M_note 115 = .ok (.dup, 1) := by decide +kernel
theorem d_M_note_116 : decode b_M_note 116 = .ok (.getfield 166, 3) := by decide +kernel
theorem d_M_note_119 : decode b_M_note 119 = .ok (.iconst 1, 1) := by decide +kernel
theorem d_M_note_120 : decode b_M_note 120 = .ok (.iadd, 1) := by decide +kernel
theorem d_M_note_121 : decode b_M_note 121 = .ok (.putfield 166, 3) := by decide +kernel
theorem d_M_note_124 : decode b_M_note 124 = .ok (.iinc 5 1, 3) := by decide +kernel
theorem d_M_note_127 : decode b_M_note 127 = .ok (.goto (-112), 3) := by decide +kernel
theorem d_M_note_130 : decode b_M_note 130 = .ok (.iinc 4 1, 3) := by decide +kernel
theorem d_M_note_133 : decode b_M_note 133 = .ok (.goto (-130), 3) := by decide +kernel
theorem d_M_note_136 : decode b_M_note 136 = .ok (.return_, 1) := by decide +kernel
abbrev b_M_left : ByteArray := prog_11_method_32_code
def y_M_left : MethodName := ⟨"RedactCheckModel", "left", "(II)I"⟩
theorem d_M_left_0 : decode b_M_left 0 = .ok (.aload_n 0, 1) := by decide +kernel
theorem d_M_left_1 : decode b_M_left 1 = .ok (.iload_n 1, 1) := by decide +kernel
theorem d_M_left_2 : decode b_M_left 2 = .ok (.iconst 0, 1) := by decide +kernel
theorem d_M_left_3 : decode b_M_left 3 = .ok (.aload_n 0, 1) := by decide +kernel
theorem d_M_left_4 : decode b_M_left 4 = .ok (.getfield 166, 3) := by decide +kernel
theorem d_M_left_7 : decode b_M_left 7 = .ok (.iconst 1, 1) := by decide +kernel
theorem d_M_left_8 : decode b_M_left 8 = .ok (.isub, 1) := by decide +kernel
theorem d_M_left_9 : decode b_M_left 9 = .ok (.invokestatic 90, 3) := by decide +kernel
theorem d_M_left_12 : decode b_M_left 12 = .ok (.ifCond .eq 16, 3) := by decide +kernel
theorem d_M_left_15 : decode b_M_left 15 = .ok (.iload_n 2, 1) := by decide +kernel
theorem d_M_left_16 : decode b_M_left 16 = .ok (.iconst 0, 1) := by decide +kernel
theorem d_M_left_17 : decode b_M_left 17 = .ok (.iconst 4, 1) := by decide +kernel
theorem d_M_left_18 : decode b_M_left 18 = .ok (.invokestatic 90, 3) := by decide +kernel
theorem d_M_left_21 : decode b_M_left 21 = .ok (.ifCond .eq 7, 3) := by decide +kernel
theorem d_M_left_24 : decode b_M_left 24 = .ok (.iconst 0, 1) := by decide +kernel
theorem d_M_left_25 : decode b_M_left 25 = .ok (.goto 4, 3) := by decide +kernel
theorem d_M_left_28 : decode b_M_left 28 = .ok (.iconst 1, 1) := by decide +kernel
theorem d_M_left_29 : decode b_M_left 29 = .ok (.putfield 87, 3) := by decide +kernel
theorem d_M_left_32 : decode b_M_left 32 = .ok (.aload_n 0, 1) := by decide +kernel
theorem d_M_left_33 : decode b_M_left 33 = .ok (.getfield 87, 3) := by decide +kernel
theorem d_M_left_36 : decode b_M_left 36 = .ok (.ifCond .le 7, 3) := by decide +kernel
theorem d_M_left_39 : decode b_M_left 39 = .ok (.iconst 0, 1) := by decide +kernel
theorem d_M_left_40 : decode b_M_left 40 = .ok (.goto 13, 3) := by decide +kernel
theorem d_M_left_43 : decode b_M_left 43 = .ok (.aload_n 0, 1) := by decide +kernel
theorem d_M_left_44 : decode b_M_left 44 = .ok (.getfield 67, 3) := by decide +kernel
theorem d_M_left_47 : decode b_M_left 47 = .ok (.iconst 5, 1) := by decide +kernel
theorem d_M_left_48 : decode b_M_left 48 = .ok (.iload_n 1, 1) := by decide +kernel
theorem d_M_left_49 : decode b_M_left 49 = .ok (.imul, 1) := by decide +kernel
theorem d_M_left_50 : decode b_M_left 50 = .ok (.iload_n 2, 1) := by decide +kernel
theorem d_M_left_51 : decode b_M_left 51 = .ok (.iadd, 1) := by decide +kernel
theorem d_M_left_52 : decode b_M_left 52 = .ok (.iaload, 1) := by decide +kernel
theorem d_M_left_53 : decode b_M_left 53 = .ok (.ireturn, 1) := by decide +kernel
abbrev b_M_at : ByteArray := prog_11_method_33_code
def y_M_at : MethodName := ⟨"RedactCheckModel", "at", "(IIII)I"⟩
theorem d_M_at_0 : decode b_M_at 0 = .ok (.iload_n 1, 1) := by decide +kernel
theorem d_M_at_1 : decode b_M_at 1 = .ok (.ifCond .ne 12, 3) := by decide +kernel
theorem d_M_at_4 : decode b_M_at 4 = .ok (.iload_n 2, 1) := by decide +kernel
theorem d_M_at_5 : decode b_M_at 5 = .ok (.iconst 0, 1) := by decide +kernel
theorem d_M_at_6 : decode b_M_at 6 = .ok (.iconst 3, 1) := by decide +kernel
theorem d_M_at_7 : decode b_M_at 7 = .ok (.invokestatic 90, 3) := by decide +kernel
theorem d_M_at_10 : decode b_M_at 10 = .ok (.ifCond .ne 22, 3) := by decide +kernel
theorem d_M_at_13 : decode b_M_at 13 = .ok (.iload_n 1, 1) := by decide +kernel
theorem d_M_at_14 : decode b_M_at 14 = .ok (.iconst 1, 1) := by decide +kernel
theorem d_M_at_15 : decode b_M_at 15 = .ok (.if_icmp .ne 21, 3) := by decide +kernel
theorem d_M_at_18 : decode b_M_at 18 = .ok (.iload_n 2, 1) := by decide +kernel
theorem d_M_at_19 : decode b_M_at 19 = .ok (.iconst 0, 1) := by decide +kernel
theorem d_M_at_20 : decode b_M_at 20 = .ok (.aload_n 0, 1) := by decide +kernel
theorem d_M_at_21 : decode b_M_at 21 = .ok (.getfield 83, 3) := by decide +kernel
theorem d_M_at_24 : decode b_M_at 24 = .ok (.iconst 1, 1) := by decide +kernel
theorem d_M_at_25 : decode b_M_at 25 = .ok (.isub, 1) := by decide +kernel
theorem d_M_at_26 : decode b_M_at 26 = .ok (.invokestatic 90, 3) := by decide +kernel
theorem d_M_at_29 : decode b_M_at 29 = .ok (.ifCond .eq 7, 3) := by decide +kernel
theorem d_M_at_32 : decode b_M_at 32 = .ok (.iconst 1, 1) := by decide +kernel
theorem d_M_at_33 : decode b_M_at 33 = .ok (.goto 4, 3) := by decide +kernel
theorem d_M_at_36 : decode b_M_at 36 = .ok (.iconst 0, 1) := by decide +kernel
theorem d_M_at_37 : decode b_M_at 37 = .ok (.istore 5, 2) := by decide +kernel
theorem d_M_at_39 : decode b_M_at 39 = .ok (.iload_n 1, 1) := by decide +kernel
theorem d_M_at_40 : decode b_M_at 40 = .ok (.ifCond .ne 7, 3) := by decide +kernel
theorem d_M_at_43 : decode b_M_at 43 = .ok (.iload_n 2, 1) := by decide +kernel
theorem d_M_at_44 : decode b_M_at 44 = .ok (.goto 6, 3) := by decide +kernel
theorem d_M_at_47 : decode b_M_at 47 = .ok (.iconst 4, 1) := by decide +kernel
theorem d_M_at_48 : decode b_M_at 48 = .ok (.iload_n 2, 1) := by decide +kernel
theorem d_M_at_49 : decode b_M_at 49 = .ok (.iadd, 1) := by decide +kernel
theorem d_M_at_50 : decode b_M_at 50 = .ok (.istore 6, 2) := by decide +kernel
theorem d_M_at_52 : decode b_M_at 52 = .ok (.aload_n 0, 1) := by decide +kernel
theorem d_M_at_53 : decode b_M_at 53 = .ok (.iload 5, 2) := by decide +kernel
theorem d_M_at_55 : decode b_M_at 55 = .ok (.ifCond .eq 43, 3) := by decide +kernel
theorem d_M_at_58 : decode b_M_at 58 = .ok (.iload_n 3, 1) := by decide +kernel
theorem d_M_at_59 : decode b_M_at 59 = .ok (.iconst 0, 1) := by decide +kernel
theorem d_M_at_60 : decode b_M_at 60 = .ok (.aload_n 0, 1) := by decide +kernel
theorem d_M_at_61 : decode b_M_at 61 = .ok (.getfield 7, 3) := by decide +kernel
theorem d_M_at_64 : decode b_M_at 64 = .ok (.iload 5, 2) := by decide +kernel
theorem d_M_at_66 : decode b_M_at 66 = .ok (.ifCond .eq 8, 3) := by decide +kernel
theorem d_M_at_69 : decode b_M_at 69 = .ok (.iload 6, 2) := by decide +kernel
theorem d_M_at_71 : decode b_M_at 71 = .ok (.goto 4, 3) := by decide +kernel
theorem d_M_at_74 : decode b_M_at 74 = .ok (.iconst 0, 1) := by decide +kernel
theorem d_M_at_75 : decode b_M_at 75 = .ok (.iaload, 1) := by decide +kernel
theorem d_M_at_76 : decode b_M_at 76 = .ok (.iconst 1, 1) := by decide +kernel
theorem d_M_at_77 : decode b_M_at 77 = .ok (.isub, 1) := by decide +kernel
theorem d_M_at_78 : decode b_M_at 78 = .ok (.invokestatic 90, 3) := by decide +kernel
theorem d_M_at_81 : decode b_M_at 81 = .ok (.ifCond .eq 17, 3) := by decide +kernel
theorem d_M_at_84 : decode b_M_at 84 = .ok (.iload 4, 2) := by decide +kernel
theorem d_M_at_86 : decode b_M_at 86 = .ok (.iconst 0, 1) := by decide +kernel
theorem d_M_at_87 : decode b_M_at 87 = .ok (.iconst 3, 1) := by decide +kernel
theorem d_M_at_88 : decode b_M_at 88 = .ok (.invokestatic 90, 3) := by decide +kernel
theorem d_M_at_91 : decode b_M_at 91 = .ok (.ifCond .eq 7, 3) := by decide +kernel
theorem d_M_at_94 : decode b_M_at 94 = .ok (.iconst 0, 1) := by decide +kernel
theorem d_M_at_95 : decode b_M_at 95 = .ok (.goto 4, 3) := by decide +kernel
theorem d_M_at_98 : decode b_M_at 98 = .ok (.iconst 1, 1) := by decide +kernel
theorem d_M_at_99 : decode b_M_at 99 = .ok (.putfield 87, 3) := by decide +kernel
theorem d_M_at_102 : decode b_M_at 102 = .ok (.aload_n 0, 1) := by decide +kernel
theorem d_M_at_103 : decode b_M_at 103 = .ok (.getfield 87, 3) := by decide +kernel
theorem d_M_at_106 : decode b_M_at 106 = .ok (.ifCond .le 5, 3) := by decide +kernel
theorem d_M_at_109 : decode b_M_at 109 = .ok (.iconst 0, 1) := by decide +kernel
theorem d_M_at_110 : decode b_M_at 110 = .ok (.ireturn, 1) := by decide +kernel
theorem d_M_at_111 : decode b_M_at 111 = .ok (.bipush 40, 2) := by decide +kernel
theorem d_M_at_113 : decode b_M_at 113 = .ok (.iload 6, 2) := by decide +kernel
theorem d_M_at_115 : decode b_M_at 115 = .ok (.imul, 1) := by decide +kernel
theorem d_M_at_116 : decode b_M_at 116 = .ok (.iload_n 3, 1) := by decide +kernel
theorem d_M_at_117 : decode b_M_at 117 = .ok (.iadd, 1) := by decide +kernel
theorem d_M_at_118 : decode b_M_at 118 = .ok (.istore 7, 2) := by decide +kernel
theorem d_M_at_120 : decode b_M_at 120 = .ok (.iload 4, 2) := by decide +kernel
theorem d_M_at_122 : decode b_M_at 122 = .ok (.ifCond .ne 13, 3) := by decide +kernel
theorem d_M_at_125 : decode b_M_at 125 = .ok (.aload_n 0, 1) := by decide +kernel
theorem d_M_at_126 : decode b_M_at 126 = .ok (.getfield 13, 3) := by decide +kernel
theorem d_M_at_129 : decode b_M_at 129 = .ok (.iload 7, 2) := by decide +kernel
theorem d_M_at_131 : decode b_M_at 131 = .ok (.iaload, 1) := by decide +kernel
theorem d_M_at_132 : decode b_M_at 132 = .ok (.goto 42, 3) := by decide +kernel
theorem d_M_at_135 : decode b_M_at 135 = .ok (.iload 4, 2) := by decide +kernel
theorem d_M_at_137 : decode b_M_at 137 = .ok (.iconst 1, 1) := by decide +kernel
theorem d_M_at_138 : decode b_M_at 138 = .ok (.if_icmp .ne 13, 3) := by decide +kernel
theorem d_M_at_141 : decode b_M_at 141 = .ok (.aload_n 0, 1) := by decide +kernel
theorem d_M_at_142 : decode b_M_at 142 = .ok (.getfield 16, 3) := by decide +kernel
theorem d_M_at_145 : decode b_M_at 145 = .ok (.iload 7, 2) := by decide +kernel
theorem d_M_at_147 : decode b_M_at 147 = .ok (.iaload, 1) := by decide +kernel
theorem d_M_at_148 : decode b_M_at 148 = .ok (.goto 26, 3) := by decide +kernel
theorem d_M_at_151 : decode b_M_at 151 = .ok (.iload 4, 2) := by decide +kernel
theorem d_M_at_153 : decode b_M_at 153 = .ok (.iconst 2, 1) := by decide +kernel
theorem d_M_at_154 : decode b_M_at 154 = .ok (.if_icmp .ne 13, 3) := by decide +kernel
theorem d_M_at_157 : decode b_M_at 157 = .ok (.aload_n 0, 1) := by decide +kernel
theorem d_M_at_158 : decode b_M_at 158 = .ok (.getfield 19, 3) := by decide +kernel
theorem d_M_at_161 : decode b_M_at 161 = .ok (.iload 7, 2) := by decide +kernel
theorem d_M_at_163 : decode b_M_at 163 = .ok (.iaload, 1) := by decide +kernel
theorem d_M_at_164 : decode b_M_at 164 = .ok (.goto 10, 3) := by decide +kernel
theorem d_M_at_167 : decode b_M_at 167 = .ok (.aload_n 0, 1) := by decide +kernel
theorem d_M_at_168 : decode b_M_at 168 = .ok (.getfield 22, 3) := by decide +kernel
theorem d_M_at_171 : decode b_M_at 171 = .ok (.iload 7, 2) := by decide +kernel
theorem d_M_at_173 : decode b_M_at 173 = .ok (.iaload, 1) := by decide +kernel
theorem d_M_at_174 : decode b_M_at 174 = .ok (.ireturn, 1) := by decide +kernel
abbrev b_M_byteOf : ByteArray := prog_11_method_34_code
def y_M_byteOf : MethodName := ⟨"RedactCheckModel", "byteOf", "(II)B"⟩
theorem d_M_byteOf_0 : decode b_M_byteOf 0 = .ok (.aload_n 0, 1) := by decide +kernel
theorem d_M_byteOf_1 : decode b_M_byteOf 1 = .ok (.iload_n 1, 1) := by decide +kernel
theorem d_M_byteOf_2 : decode b_M_byteOf 2 = .ok (.iconst 0, 1) := by decide +kernel
theorem d_M_byteOf_3 : decode b_M_byteOf 3 = .ok (.aload_n 0, 1) := by decide +kernel
theorem d_M_byteOf_4 : decode b_M_byteOf 4 = .ok (.getfield 111, 3) := by decide +kernel
theorem d_M_byteOf_7 : decode b_M_byteOf 7 = .ok (.iconst 1, 1) := by decide +kernel
theorem d_M_byteOf_8 : decode b_M_byteOf 8 = .ok (.isub, 1) := by decide +kernel
theorem d_M_byteOf_9 : decode b_M_byteOf 9 = .ok (.invokestatic 90, 3) := by decide +kernel
theorem d_M_byteOf_12 : decode b_M_byteOf 12 = .ok (.ifCond .eq 41, 3) := by decide +kernel
theorem d_M_byteOf_15 : decode b_M_byteOf 15 = .ok (.iload_n 2, 1) := by decide +kernel
theorem d_M_byteOf_16 : decode b_M_byteOf 16 = .ok (.iconst 0, 1) := by decide +kernel
theorem d_M_byteOf_17 : decode b_M_byteOf 17 = .ok (.aload_n 0, 1) := by decide +kernel
theorem d_M_byteOf_18 : decode b_M_byteOf 18 = .ok (.getfield 61, 3) := by decide +kernel
theorem d_M_byteOf_21 : decode b_M_byteOf 21 = .ok (.iload_n 1, 1) := by decide +kernel
theorem d_M_byteOf_22 : decode b_M_byteOf 22 = .ok (.iconst 0, 1) := by decide +kernel
theorem d_M_byteOf_23 : decode b_M_byteOf 23 = .ok (.aload_n 0, 1) := by decide +kernel
theorem d_M_byteOf_24 : decode b_M_byteOf 24 = .ok (.getfield 111, 3) := by decide +kernel
theorem d_M_byteOf_27 : decode b_M_byteOf 27 = .ok (.iconst 1, 1) := by decide +kernel
theorem d_M_byteOf_28 : decode b_M_byteOf 28 = .ok (.isub, 1) := by decide +kernel
theorem d_M_byteOf_29 : decode b_M_byteOf 29 = .ok (.invokestatic 90, 3) := by decide +kernel
theorem d_M_byteOf_32 : decode b_M_byteOf 32 = .ok (.ifCond .eq 7, 3) := by decide +kernel
theorem d_M_byteOf_35 : decode b_M_byteOf 35 = .ok (.iload_n 1, 1) := by decide +kernel
theorem d_M_byteOf_36 : decode b_M_byteOf 36 = .ok (.goto 4, 3) := by decide +kernel
theorem d_M_byteOf_39 : decode b_M_byteOf 39 = .ok (.iconst 0, 1) := by decide +kernel
theorem d_M_byteOf_40 : decode b_M_byteOf 40 = .ok (.iaload, 1) := by decide +kernel
theorem d_M_byteOf_41 : decode b_M_byteOf 41 = .ok (.iconst 1, 1) := by decide +kernel
theorem d_M_byteOf_42 : decode b_M_byteOf 42 = .ok (.isub, 1) := by decide +kernel
theorem d_M_byteOf_43 : decode b_M_byteOf 43 = .ok (.invokestatic 90, 3) := by decide +kernel
theorem d_M_byteOf_46 : decode b_M_byteOf 46 = .ok (.ifCond .eq 7, 3) := by decide +kernel
theorem d_M_byteOf_49 : decode b_M_byteOf 49 = .ok (.iconst 0, 1) := by decide +kernel
theorem d_M_byteOf_50 : decode b_M_byteOf 50 = .ok (.goto 4, 3) := by decide +kernel
theorem d_M_byteOf_53 : decode b_M_byteOf 53 = .ok (.iconst 1, 1) := by decide +kernel
theorem d_M_byteOf_54 : decode b_M_byteOf 54 = .ok (.putfield 87, 3) := by decide +kernel
theorem d_M_byteOf_57 : decode b_M_byteOf 57 = .ok (.aload_n 0, 1) := by decide +kernel
theorem d_M_byteOf_58 : decode b_M_byteOf 58 = .ok (.getfield 87, 3) := by decide +kernel
theorem d_M_byteOf_61 : decode b_M_byteOf 61 = .ok (.ifCond .le 7, 3) := by decide +kernel
theorem d_M_byteOf_64 : decode b_M_byteOf 64 = .ok (.iconst 0, 1) := by decide +kernel
theorem d_M_byteOf_65 : decode b_M_byteOf 65 = .ok (.goto 15, 3) := by decide +kernel
theorem d_M_byteOf_68 : decode b_M_byteOf 68 = .ok (.aload_n 0, 1) := by decide +kernel
theorem d_M_byteOf_69 : decode b_M_byteOf 69 = .ok (.getfield 64, 3) := by decide +kernel
theorem d_M_byteOf_72 : decode b_M_byteOf 72 = .ok (.bipush 60, 2) := by decide +kernel
theorem d_M_byteOf_74 : decode b_M_byteOf 74 = .ok (.iload_n 1, 1) := by decide +kernel
theorem d_M_byteOf_75 : decode b_M_byteOf 75 = .ok (.imul, 1) := by decide +kernel
theorem d_M_byteOf_76 : decode b_M_byteOf 76 = .ok (.iload_n 2, 1) := by decide +kernel
theorem d_M_byteOf_77 : decode b_M_byteOf 77 = .ok (.iadd, 1) := by decide +kernel
theorem d_M_byteOf_78 : decode b_M_byteOf 78 = .ok (.iaload, 1) := by decide +kernel
theorem d_M_byteOf_79 : decode b_M_byteOf 79 = .ok (.i2b, 1) := by decide +kernel
theorem d_M_byteOf_80 : decode b_M_byteOf 80 = .ok (.ireturn, 1) := by decide +kernel
abbrev b_M_formOf : ByteArray := prog_11_method_35_code
def y_M_formOf : MethodName := ⟨"RedactCheckModel", "formOf", "(I)I"⟩
theorem d_M_formOf_0 : decode b_M_formOf 0 = .ok (.aload_n 0, 1) := by decide +kernel
theorem d_M_formOf_1 : decode b_M_formOf 1 = .ok (.iload_n 1, 1) := by decide +kernel
theorem d_M_formOf_2 : decode b_M_formOf 2 = .ok (.iconst 0, 1) := by decide +kernel
theorem d_M_formOf_3 : decode b_M_formOf 3 = .ok (.aload_n 0, 1) := by decide +kernel
theorem d_M_formOf_4 : decode b_M_formOf 4 = .ok (.getfield 102, 3) := by decide +kernel
theorem d_M_formOf_7 : decode b_M_formOf 7 = .ok (.iconst 1, 1) := by decide +kernel
theorem d_M_formOf_8 : decode b_M_formOf 8 = .ok (.isub, 1) := by decide +kernel
theorem d_M_formOf_9 : decode b_M_formOf 9 = .ok (.invokestatic 90, 3) := by decide +kernel
theorem d_M_formOf_12 : decode b_M_formOf 12 = .ok (.ifCond .eq 7, 3) := by decide +kernel
theorem d_M_formOf_15 : decode b_M_formOf 15 = .ok (.iconst 0, 1) := by decide +kernel
theorem d_M_formOf_16 : decode b_M_formOf 16 = .ok (.goto 4, 3) := by decide +kernel
theorem d_M_formOf_19 : decode b_M_formOf 19 = .ok (.iconst 1, 1) := by decide +kernel
theorem d_M_formOf_20 : decode b_M_formOf 20 = .ok (.putfield 87, 3) := by decide +kernel
theorem d_M_formOf_23 : decode b_M_formOf 23 = .ok (.aload_n 0, 1) := by decide +kernel
theorem d_M_formOf_24 : decode b_M_formOf 24 = .ok (.getfield 87, 3) := by decide +kernel
theorem d_M_formOf_27 : decode b_M_formOf 27 = .ok (.ifCond .le 7, 3) := by decide +kernel
theorem d_M_formOf_30 : decode b_M_formOf 30 = .ok (.iconst 0, 1) := by decide +kernel
theorem d_M_formOf_31 : decode b_M_formOf 31 = .ok (.goto 9, 3) := by decide +kernel
theorem d_M_formOf_34 : decode b_M_formOf 34 = .ok (.aload_n 0, 1) := by decide +kernel
theorem d_M_formOf_35 : decode b_M_formOf 35 = .ok (.getfield 28, 3) := by decide +kernel
theorem d_M_formOf_38 : decode b_M_formOf 38 = .ok (.iload_n 1, 1) := by decide +kernel
theorem d_M_formOf_39 : decode b_M_formOf 39 = .ok (.iaload, 1) := by decide +kernel
theorem d_M_formOf_40 : decode b_M_formOf 40 = .ok (.ireturn, 1) := by decide +kernel
abbrev b_M_many : ByteArray := prog_11_method_36_code
def y_M_many : MethodName := ⟨"RedactCheckModel", "many", "(II)I"⟩
theorem d_M_many_0 : decode b_M_many 0 = .ok (.iload_n 1, 1) := by decide +kernel
theorem d_M_many_1 : decode b_M_many 1 = .ok (.ifCond .ne 7, 3) := by decide +kernel
theorem d_M_many_4 : decode b_M_many 4 = .ok (.iconst 4, 1) := by decide +kernel
theorem d_M_many_5 : decode b_M_many 5 = .ok (.goto 40, 3) := by decide +kernel
theorem d_M_many_8 : decode b_M_many 8 = .ok (.iload_n 1, 1) := by decide +kernel
theorem d_M_many_9 : decode b_M_many 9 = .ok (.iconst 1, 1) := by decide +kernel
theorem d_M_many_10 : decode b_M_many 10 = .ok (.if_icmp .ne 10, 3) := by decide +kernel
theorem d_M_many_13 : decode b_M_many 13 = .ok (.aload_n 0, 1) := by decide +kernel
theorem d_M_many_14 : decode b_M_many 14 = .ok (.getfield 83, 3) := by decide +kernel
theorem d_M_many_17 : decode b_M_many 17 = .ok (.goto 28, 3) := by decide +kernel
theorem d_M_many_20 : decode b_M_many 20 = .ok (.iload_n 1, 1) := by decide +kernel
theorem d_M_many_21 : decode b_M_many 21 = .ok (.iconst 2, 1) := by decide +kernel
theorem d_M_many_22 : decode b_M_many 22 = .ok (.if_icmp .ne 10, 3) := by decide +kernel
theorem d_M_many_25 : decode b_M_many 25 = .ok (.aload_n 0, 1) := by decide +kernel
theorem d_M_many_26 : decode b_M_many 26 = .ok (.getfield 111, 3) := by decide +kernel
theorem d_M_many_29 : decode b_M_many 29 = .ok (.goto 16, 3) := by decide +kernel
theorem d_M_many_32 : decode b_M_many 32 = .ok (.iload_n 1, 1) := by decide +kernel
theorem d_M_many_33 : decode b_M_many 33 = .ok (.iconst 3, 1) := by decide +kernel
theorem d_M_many_34 : decode b_M_many 34 = .ok (.if_icmp .ne 10, 3) := by decide +kernel
theorem d_M_many_37 : decode b_M_many 37 = .ok (.aload_n 0, 1) := by decide +kernel
theorem d_M_many_38 : decode b_M_many 38 = .ok (.getfield 105, 3) := by decide +kernel
theorem d_M_many_41 : decode b_M_many 41 = .ok (.goto 4, 3) := by decide +kernel
theorem d_M_many_44 : decode b_M_many 44 = .ok (.iconst 0, 1) := by decide +kernel
theorem d_M_many_45 : decode b_M_many 45 = .ok (.istore_n 3, 1) := by decide +kernel
theorem d_M_many_46 : decode b_M_many 46 = .ok (.aload_n 0, 1) := by decide +kernel
theorem d_M_many_47 : decode b_M_many 47 = .ok (.iload_n 2, 1) := by decide +kernel
theorem d_M_many_48 : decode b_M_many 48 = .ok (.iconst 0, 1) := by decide +kernel
theorem d_M_many_49 : decode b_M_many 49 = .ok (.iload_n 3, 1) := by decide +kernel
theorem d_M_many_50 : decode b_M_many 50 = .ok (.iconst 1, 1) := by decide +kernel
theorem d_M_many_51 : decode b_M_many 51 = .ok (.isub, 1) := by decide +kernel
theorem d_M_many_52 : decode b_M_many 52 = .ok (.invokestatic 90, 3) := by decide +kernel
theorem d_M_many_55 : decode b_M_many 55 = .ok (.ifCond .eq 7, 3) := by decide +kernel
theorem d_M_many_58 : decode b_M_many 58 = .ok (.iconst 0, 1) := by decide +kernel
theorem d_M_many_59 : decode b_M_many 59 = .ok (.goto 4, 3) := by decide +kernel
theorem d_M_many_62 : decode b_M_many 62 = .ok (.iconst 1, 1) := by decide +kernel
theorem d_M_many_63 : decode b_M_many 63 = .ok (.putfield 87, 3) := by decide +kernel
theorem d_M_many_66 : decode b_M_many 66 = .ok (.aload_n 0, 1) := by decide +kernel
theorem d_M_many_67 : decode b_M_many 67 = .ok (.getfield 87, 3) := by decide +kernel
theorem d_M_many_70 : decode b_M_many 70 = .ok (.ifCond .le 5, 3) := by decide +kernel
theorem d_M_many_73 : decode b_M_many 73 = .ok (.iconst 0, 1) := by decide +kernel
theorem d_M_many_74 : decode b_M_many 74 = .ok (.ireturn, 1) := by decide +kernel
theorem d_M_many_75 : decode b_M_many 75 = .ok (.iload_n 1, 1) := by decide +kernel
theorem d_M_many_76 : decode b_M_many 76 = .ok (.ifCond .ne 12, 3) := by decide +kernel
theorem d_M_many_79 : decode b_M_many 79 = .ok (.aload_n 0, 1) := by decide +kernel
theorem d_M_many_80 : decode b_M_many 80 = .ok (.getfield 7, 3) := by decide +kernel
theorem d_M_many_83 : decode b_M_many 83 = .ok (.iload_n 2, 1) := by decide +kernel
theorem d_M_many_84 : decode b_M_many 84 = .ok (.iaload, 1) := by decide +kernel
theorem d_M_many_85 : decode b_M_many 85 = .ok (.goto 39, 3) := by decide +kernel
theorem d_M_many_88 : decode b_M_many 88 = .ok (.iload_n 1, 1) := by decide +kernel
theorem d_M_many_89 : decode b_M_many 89 = .ok (.iconst 1, 1) := by decide +kernel
theorem d_M_many_90 : decode b_M_many 90 = .ok (.if_icmp .ne 14, 3) := by decide +kernel
theorem d_M_many_93 : decode b_M_many 93 = .ok (.aload_n 0, 1) := by decide +kernel
theorem d_M_many_94 : decode b_M_many 94 = .ok (.getfield 7, 3) := by decide +kernel
theorem d_M_many_97 : decode b_M_many 97 = .ok (.iconst 4, 1) := by decide +kernel
theorem d_M_many_98 : decode b_M_many 98 = .ok (.iload_n 2, 1) := by decide +kernel
theorem d_M_many_99 : decode b_M_many 99 = .ok (.iadd, 1) := by decide +kernel
theorem d_M_many_100 : decode b_M_many 100 = .ok (.iaload, 1) := by decide +kernel
theorem d_M_many_101 : decode b_M_many 101 = .ok (.goto 23, 3) := by decide +kernel
theorem d_M_many_104 : decode b_M_many 104 = .ok (.iload_n 1, 1) := by decide +kernel
theorem d_M_many_105 : decode b_M_many 105 = .ok (.iconst 2, 1) := by decide +kernel
theorem d_M_many_106 : decode b_M_many 106 = .ok (.if_icmp .ne 12, 3) := by decide +kernel
theorem d_M_many_109 : decode b_M_many 109 = .ok (.aload_n 0, 1) := by decide +kernel
theorem d_M_many_110 : decode b_M_many 110 = .ok (.getfield 61, 3) := by decide +kernel
theorem d_M_many_113 : decode b_M_many 113 = .ok (.iload_n 2, 1) := by decide +kernel
theorem d_M_many_114 : decode b_M_many 114 = .ok (.iaload, 1) := by decide +kernel
theorem d_M_many_115 : decode b_M_many 115 = .ok (.goto 9, 3) := by decide +kernel
theorem d_M_many_118 : decode b_M_many 118 = .ok (.aload_n 0, 1) := by decide +kernel
theorem d_M_many_119 : decode b_M_many 119 = .ok (.getfield 37, 3) := by decide +kernel
theorem d_M_many_122 : decode b_M_many 122 = .ok (.iload_n 2, 1) := by decide +kernel
theorem d_M_many_123 : decode b_M_many 123 = .ok (.iaload, 1) := by decide +kernel
theorem d_M_many_124 : decode b_M_many 124 = .ok (.ireturn, 1) := by decide +kernel
abbrev b_M_told : ByteArray := prog_11_method_37_code
def y_M_told : MethodName := ⟨"RedactCheckModel", "told", "(I)I"⟩
theorem d_M_told_0 : decode b_M_told 0 = .ok (.aload_n 0, 1) := by decide +kernel
theorem d_M_told_1 : decode b_M_told 1 = .ok (.iconst 0, 1) := by decide +kernel
theorem d_M_told_2 : decode b_M_told 2 = .ok (.putfield 87, 3) := by decide +kernel
theorem d_M_told_5 : decode b_M_told 5 = .ok (.iload_n 1, 1) := by decide +kernel
theorem d_M_told_6 : decode b_M_told 6 = .ok (.ifCond .ne 10, 3) := by decide +kernel
theorem d_M_told_9 : decode b_M_told 9 = .ok (.aload_n 0, 1) := by decide +kernel
theorem d_M_told_10 : decode b_M_told 10 = .ok (.getfield 83, 3) := by decide +kernel
theorem d_M_told_13 : decode b_M_told 13 = .ok (.goto 64, 3) := by decide +kernel
theorem d_M_told_16 : decode b_M_told 16 = .ok (.iload_n 1, 1) := by decide +kernel
theorem d_M_told_17 : decode b_M_told 17 = .ok (.iconst 1, 1) := by decide +kernel
theorem d_M_told_18 : decode b_M_told 18 = .ok (.if_icmp .ne 10, 3) := by decide +kernel
theorem d_M_told_21 : decode b_M_told 21 = .ok (.aload_n 0, 1) := by decide +kernel
theorem d_M_told_22 : decode b_M_told 22 = .ok (.getfield 102, 3) := by decide +kernel
theorem d_M_told_25 : decode b_M_told 25 = .ok (.goto 52, 3) := by decide +kernel
theorem d_M_told_28 : decode b_M_told 28 = .ok (.iload_n 1, 1) := by decide +kernel
theorem d_M_told_29 : decode b_M_told 29 = .ok (.iconst 2, 1) := by decide +kernel
