theorem d_R_twinOf_71 : decode b_R_twinOf 71 = .ok (.aconst_null, 1) := by decide +kernel
theorem d_R_twinOf_72 : decode b_R_twinOf 72 = .ok (.areturn, 1) := by decide +kernel
abbrev b_R_cutPages : ByteArray := prog_1_method_28_code
def y_R_cutPages : MethodName := ⟨"RedactCheck", "cutPages", "()I"⟩
theorem d_R_cutPages_0 : decode b_R_cutPages 0 = .ok (.iconst 0, 1) := by decide +kernel
theorem d_R_cutPages_1 : decode b_R_cutPages 1 = .ok (.istore_n 1, 1) := by decide +kernel
theorem d_R_cutPages_2 : decode b_R_cutPages 2 = .ok (.iconst 0, 1) := by decide +kernel
theorem d_R_cutPages_3 : decode b_R_cutPages 3 = .ok (.istore_n 2, 1) := by decide +kernel
theorem d_R_cutPages_4 : decode b_R_cutPages 4 = .ok (.iload_n 2, 1) := by decide +kernel
theorem d_R_cutPages_5 : decode b_R_cutPages 5 = .ok (.aload_n 0, 1) := by decide +kernel
theorem d_R_cutPages_6 : decode b_R_cutPages 6 = .ok (.getfield 10, 3) := by decide +kernel
theorem d_R_cutPages_9 : decode b_R_cutPages 9 = .ok (.invokevirtual 62, 3) := by decide +kernel
theorem d_R_cutPages_12 : decode b_R_cutPages 12 = .ok (.if_icmp .ge 45, 3) := by decide +kernel
theorem d_R_cutPages_15 : decode b_R_cutPages 15 = .ok (.aload_n 0, 1) := by decide +kernel
theorem d_R_cutPages_16 : decode b_R_cutPages 16 = .ok (.getfield 10, 3) := by decide +kernel
theorem d_R_cutPages_19 : decode b_R_cutPages 19 = .ok (.iload_n 2, 1) := by decide +kernel
theorem d_R_cutPages_20 : decode b_R_cutPages 20 = .ok (.invokevirtual 138, 3) := by decide +kernel
theorem d_R_cutPages_23 : decode b_R_cutPages 23 = .ok (.checkcast 45, 3) := by decide +kernel
theorem d_R_cutPages_26 : decode b_R_cutPages 26 = .ok (.astore_n 3, 1) := by decide +kernel
theorem d_R_cutPages_27 : decode b_R_cutPages 27 = .ok (.aload_n 0, 1) := by decide +kernel
theorem d_R_cutPages_28 : decode b_R_cutPages 28 = .ok (.aload_n 3, 1) := by decide +kernel
theorem d_R_cutPages_29 : decode b_R_cutPages 29 = .ok (.iload_n 2, 1) := by decide +kernel
theorem d_R_cutPages_30 : decode b_R_cutPages 30 = .ok (.iconst 0, 1) := by decide +kernel
theorem d_R_cutPages_31 : decode b_R_cutPages 31 = .ok (.iconst 0, 1) := by decide +kernel
theorem d_R_cutPages_32 : decode b_R_cutPages 32 = .ok (.invokevirtual 201, 3) := by decide +kernel
theorem d_R_cutPages_35 : decode b_R_cutPages 35 = .ok (.lstore 4, 2) := by decide +kernel
theorem d_R_cutPages_37 : decode b_R_cutPages 37 = .ok (.aload_n 3, 1) := by decide +kernel
theorem d_R_cutPages_38 : decode b_R_cutPages 38 = .ok (.lload 4, 2) := by decide +kernel
theorem d_R_cutPages_40 : decode b_R_cutPages 40 = .ok (.invokevirtual 217, 3) := by decide +kernel
theorem d_R_cutPages_43 : decode b_R_cutPages 43 = .ok (.iload_n 1, 1) := by decide +kernel
theorem d_R_cutPages_44 : decode b_R_cutPages 44 = .ok (.lload 4, 2) := by decide +kernel
theorem d_R_cutPages_46 : decode b_R_cutPages 46 = .ok (.invokestatic 221, 3) := by decide +kernel
theorem d_R_cutPages_49 : decode b_R_cutPages 49 = .ok (.iadd, 1) := by decide +kernel
theorem d_R_cutPages_50 : decode b_R_cutPages 50 = .ok (.istore_n 1, 1) := by decide +kernel
theorem d_R_cutPages_51 : decode b_R_cutPages 51 = .ok (.iinc 2 1, 3) := by decide +kernel
theorem d_R_cutPages_54 : decode b_R_cutPages 54 = .ok (.goto (-50), 3) := by decide +kernel
theorem d_R_cutPages_57 : decode b_R_cutPages 57 = .ok (.iload_n 1, 1) := by decide +kernel
theorem d_R_cutPages_58 : decode b_R_cutPages 58 = .ok (.ireturn, 1) := by decide +kernel
abbrev b_O_cut : ByteArray := prog_5_method_4_code
def y_O_cut : MethodName := ⟨"RedactCheck$Row", "cut", "(J)V"⟩
theorem d_O_cut_0 : decode b_O_cut 0 = .ok (.iconst 0, 1) := by decide +kernel
theorem d_O_cut_1 : decode b_O_cut 1 = .ok (.istore_n 3, 1) := by decide +kernel
theorem d_O_cut_2 : decode b_O_cut 2 = .ok (.iconst 0, 1) := by decide +kernel
theorem d_O_cut_3 : decode b_O_cut 3 = .ok (.istore 4, 2) := by decide +kernel
theorem d_O_cut_5 : decode b_O_cut 5 = .ok (.iconst 0, 1) := by decide +kernel
theorem d_O_cut_6 : decode b_O_cut 6 = .ok (.istore 5, 2) := by decide +kernel
theorem d_O_cut_8 : decode b_O_cut 8 = .ok (.iload 5, 2) := by decide +kernel
theorem d_O_cut_10 : decode b_O_cut 10 = .ok (.aload_n 0, 1) := by decide +kernel
theorem d_O_cut_11 : decode b_O_cut 11 = .ok (.getfield 7, 3) := by decide +kernel
theorem d_O_cut_14 : decode b_O_cut 14 = .ok (.if_icmp .ge 64, 3) := by decide +kernel
theorem d_O_cut_17 : decode b_O_cut 17 = .ok (.lload_n 1, 1) := by decide +kernel
theorem d_O_cut_18 : decode b_O_cut 18 = .ok (.iload 5, 2) := by decide +kernel
theorem d_O_cut_20 : decode b_O_cut 20 = .ok (.lushr, 1) := by decide +kernel
theorem d_O_cut_21 : decode b_O_cut 21 = .ok (.lconst 1, 1) := by decide +kernel
theorem d_O_cut_22 : decode b_O_cut 22 = .ok (.land, 1) := by decide +kernel
theorem d_O_cut_23 : decode b_O_cut 23 = .ok (.lconst 0, 1) := by decide +kernel
theorem d_O_cut_24 : decode b_O_cut 24 = .ok (.lcmp, 1) := by decide +kernel
theorem d_O_cut_25 : decode b_O_cut 25 = .ok (.ifCond .eq 7, 3) := by decide +kernel
theorem d_O_cut_28 : decode b_O_cut 28 = .ok (.iconst 1, 1) := by decide +kernel
theorem d_O_cut_29 : decode b_O_cut 29 = .ok (.goto 4, 3) := by decide +kernel
theorem d_O_cut_32 : decode b_O_cut 32 = .ok (.iconst 0, 1) := by decide +kernel
theorem d_O_cut_33 : decode b_O_cut 33 = .ok (.istore 6, 2) := by decide +kernel
theorem d_O_cut_35 : decode b_O_cut 35 = .ok (.iload 6, 2) := by decide +kernel
theorem d_O_cut_37 : decode b_O_cut 37 = .ok (.ifCond .ne 16, 3) := by decide +kernel
theorem d_O_cut_40 : decode b_O_cut 40 = .ok (.aload_n 0, 1) := by decide +kernel
theorem d_O_cut_41 : decode b_O_cut 41 = .ok (.iload 5, 2) := by decide +kernel
theorem d_O_cut_43 : decode b_O_cut 43 = .ok (.iload_n 3, 1) := by decide +kernel
theorem d_O_cut_44 : decode b_O_cut 44 = .ok (.invokevirtual 13, 3) := by decide +kernel
theorem d_O_cut_47 : decode b_O_cut 47 = .ok (.iinc 3 1, 3) := by decide +kernel
theorem d_O_cut_50 : decode b_O_cut 50 = .ok (.goto 18, 3) := by decide +kernel
theorem d_O_cut_53 : decode b_O_cut 53 = .ok (.iload 4, 2) := by decide +kernel
theorem d_O_cut_55 : decode b_O_cut 55 = .ok (.ifCond .ne 13, 3) := by decide +kernel
theorem d_O_cut_58 : decode b_O_cut 58 = .ok (.aload_n 0, 1) := by decide +kernel
theorem d_O_cut_59 : decode b_O_cut 59 = .ok (.iload 5, 2) := by decide +kernel
theorem d_O_cut_61 : decode b_O_cut 61 = .ok (.iload_n 3, 1) := by decide +kernel
theorem d_O_cut_62 : decode b_O_cut 62 = .ok (.invokevirtual 17, 3) := by decide +kernel
theorem d_O_cut_65 : decode b_O_cut 65 = .ok (.iinc 3 1, 3) := by decide +kernel
theorem d_O_cut_68 : decode b_O_cut 68 = .ok (.iload 6, 2) := by decide +kernel
theorem d_O_cut_70 : decode b_O_cut 70 = .ok (.istore 4, 2) := by decide +kernel
theorem d_O_cut_72 : decode b_O_cut 72 = .ok (.iinc 5 1, 3) := by decide +kernel
theorem d_O_cut_75 : decode b_O_cut 75 = .ok (.goto (-67), 3) := by decide +kernel
theorem d_O_cut_78 : decode b_O_cut 78 = .ok (.aload_n 0, 1) := by decide +kernel
theorem d_O_cut_79 : decode b_O_cut 79 = .ok (.iload_n 3, 1) := by decide +kernel
theorem d_O_cut_80 : decode b_O_cut 80 = .ok (.putfield 7, 3) := by decide +kernel
theorem d_O_cut_83 : decode b_O_cut 83 = .ok (.return_, 1) := by decide +kernel
abbrev b_C_keep : ByteArray := prog_3_method_4_code
def y_C_keep : MethodName := ⟨"RedactCheck$Codes", "keep", "(II)V"⟩
theorem d_C_keep_0 : decode b_C_keep 0 = .ok (.aload_n 0, 1) := by decide +kernel
theorem d_C_keep_1 : decode b_C_keep 1 = .ok (.iload_n 2, 1) := by decide +kernel
theorem d_C_keep_2 : decode b_C_keep 2 = .ok (.aload_n 0, 1) := by decide +kernel
theorem d_C_keep_3 : decode b_C_keep 3 = .ok (.iload_n 1, 1) := by decide +kernel
theorem d_C_keep_4 : decode b_C_keep 4 = .ok (.invokevirtual 19, 3) := by decide +kernel
theorem d_C_keep_7 : decode b_C_keep 7 = .ok (.invokevirtual 23, 3) := by decide +kernel
theorem d_C_keep_10 : decode b_C_keep 10 = .ok (.return_, 1) := by decide +kernel
abbrev b_C_put : ByteArray := prog_3_method_6_code
def y_C_put : MethodName := ⟨"RedactCheck$Codes", "put", "(II)V"⟩
theorem d_C_put_0 : decode b_C_put 0 = .ok (.iload_n 1, 1) := by decide +kernel
theorem d_C_put_1 : decode b_C_put 1 = .ok (.ifCond .lt 19, 3) := by decide +kernel
theorem d_C_put_4 : decode b_C_put 4 = .ok (.iload_n 1, 1) := by decide +kernel
theorem d_C_put_5 : decode b_C_put 5 = .ok (.aload_n 0, 1) := by decide +kernel
theorem d_C_put_6 : decode b_C_put 6 = .ok (.getfield 9, 3) := by decide +kernel
theorem d_C_put_9 : decode b_C_put 9 = .ok (.arraylength, 1) := by decide +kernel
theorem d_C_put_10 : decode b_C_put 10 = .ok (.if_icmp .ge 10, 3) := by decide +kernel
theorem d_C_put_13 : decode b_C_put 13 = .ok (.aload_n 0, 1) := by decide +kernel
theorem d_C_put_14 : decode b_C_put 14 = .ok (.getfield 9, 3) := by decide +kernel
theorem d_C_put_17 : decode b_C_put 17 = .ok (.iload_n 1, 1) := by decide +kernel
theorem d_C_put_18 : decode b_C_put 18 = .ok (.iload_n 2, 1) := by decide +kernel
theorem d_C_put_19 : decode b_C_put 19 = .ok (.iastore, 1) := by decide +kernel
theorem d_C_put_20 : decode b_C_put 20 = .ok (.return_, 1) := by decide +kernel
abbrev b_S_keep : ByteArray := prog_6_method_6_code
def y_S_keep : MethodName := ⟨"RedactCheck$SignRow", "keep", "(II)V"⟩
theorem d_S_keep_0 : decode b_S_keep 0 = .ok (.aload_n 0, 1) := by decide +kernel
theorem d_S_keep_1 : decode b_S_keep 1 = .ok (.iload_n 2, 1) := by decide +kernel
theorem d_S_keep_2 : decode b_S_keep 2 = .ok (.aload_n 0, 1) := by decide +kernel
theorem d_S_keep_3 : decode b_S_keep 3 = .ok (.iload_n 1, 1) := by decide +kernel
theorem d_S_keep_4 : decode b_S_keep 4 = .ok (.iconst 0, 1) := by decide +kernel
theorem d_S_keep_5 : decode b_S_keep 5 = .ok (.invokevirtual 29, 3) := by decide +kernel
theorem d_S_keep_8 : decode b_S_keep 8 = .ok (.aload_n 0, 1) := by decide +kernel
theorem d_S_keep_9 : decode b_S_keep 9 = .ok (.iload_n 1, 1) := by decide +kernel
theorem d_S_keep_10 : decode b_S_keep 10 = .ok (.iconst 1, 1) := by decide +kernel
theorem d_S_keep_11 : decode b_S_keep 11 = .ok (.invokevirtual 29, 3) := by decide +kernel
theorem d_S_keep_14 : decode b_S_keep 14 = .ok (.aload_n 0, 1) := by decide +kernel
theorem d_S_keep_15 : decode b_S_keep 15 = .ok (.iload_n 1, 1) := by decide +kernel
theorem d_S_keep_16 : decode b_S_keep 16 = .ok (.iconst 2, 1) := by decide +kernel
theorem d_S_keep_17 : decode b_S_keep 17 = .ok (.invokevirtual 29, 3) := by decide +kernel
theorem d_S_keep_20 : decode b_S_keep 20 = .ok (.aload_n 0, 1) := by decide +kernel
theorem d_S_keep_21 : decode b_S_keep 21 = .ok (.iload_n 1, 1) := by decide +kernel
theorem d_S_keep_22 : decode b_S_keep 22 = .ok (.iconst 3, 1) := by decide +kernel
theorem d_S_keep_23 : decode b_S_keep 23 = .ok (.invokevirtual 29, 3) := by decide +kernel
theorem d_S_keep_26 : decode b_S_keep 26 = .ok (.invokevirtual 22, 3) := by decide +kernel
theorem d_S_keep_29 : decode b_S_keep 29 = .ok (.return_, 1) := by decide +kernel
abbrev b_C_blot : ByteArray := prog_3_method_5_code
def y_C_blot : MethodName := ⟨"RedactCheck$Codes", "blot", "(II)V"⟩
theorem d_C_blot_0 : decode b_C_blot 0 = .ok (.aload_n 0, 1) := by decide +kernel
theorem d_C_blot_1 : decode b_C_blot 1 = .ok (.iload_n 2, 1) := by decide +kernel
theorem d_C_blot_2 : decode b_C_blot 2 = .ok (.bipush 42, 2) := by decide +kernel
theorem d_C_blot_4 : decode b_C_blot 4 = .ok (.invokevirtual 23, 3) := by decide +kernel
theorem d_C_blot_7 : decode b_C_blot 7 = .ok (.return_, 1) := by decide +kernel
abbrev b_S_blot : ByteArray := prog_6_method_7_code
def y_S_blot : MethodName := ⟨"RedactCheck$SignRow", "blot", "(II)V"⟩
theorem d_S_blot_0 : decode b_S_blot 0 = .ok (.aload_n 0, 1) := by decide +kernel
theorem d_S_blot_1 : decode b_S_blot 1 = .ok (.iload_n 2, 1) := by decide +kernel
theorem d_S_blot_2 : decode b_S_blot 2 = .ok (.iconst 0, 1) := by decide +kernel
theorem d_S_blot_3 : decode b_S_blot 3 = .ok (.aload_n 0, 1) := by decide +kernel
theorem d_S_blot_4 : decode b_S_blot 4 = .ok (.iload_n 1, 1) := by decide +kernel
theorem d_S_blot_5 : decode b_S_blot 5 = .ok (.iconst 1, 1) := by decide +kernel
theorem d_S_blot_6 : decode b_S_blot 6 = .ok (.invokevirtual 29, 3) := by decide +kernel
theorem d_S_blot_9 : decode b_S_blot 9 = .ok (.aload_n 0, 1) := by decide +kernel
theorem d_S_blot_10 : decode b_S_blot 10 = .ok (.iload_n 1, 1) := by decide +kernel
theorem d_S_blot_11 : decode b_S_blot 11 = .ok (.iconst 2, 1) := by decide +kernel
theorem d_S_blot_12 : decode b_S_blot 12 = .ok (.invokevirtual 29, 3) := by decide +kernel
theorem d_S_blot_15 : decode b_S_blot 15 = .ok (.bipush 100, 2) := by decide +kernel
theorem d_S_blot_17 : decode b_S_blot 17 = .ok (.invokevirtual 22, 3) := by decide +kernel
theorem d_S_blot_20 : decode b_S_blot 20 = .ok (.return_, 1) := by decide +kernel
abbrev b_R_cutUses : ByteArray := prog_1_method_29_code
def y_R_cutUses : MethodName := ⟨"RedactCheck", "cutUses", "()I"⟩
theorem d_R_cutUses_0 : decode b_R_cutUses 0 = .ok (.iconst 0, 1) := by decide +kernel
theorem d_R_cutUses_1 : decode b_R_cutUses 1 = .ok (.istore_n 1, 1) := by decide +kernel
theorem d_R_cutUses_2 : decode b_R_cutUses 2 = .ok (.iconst 0, 1) := by decide +kernel
theorem d_R_cutUses_3 : decode b_R_cutUses 3 = .ok (.istore_n 2, 1) := by decide +kernel
theorem d_R_cutUses_4 : decode b_R_cutUses 4 = .ok (.iload_n 2, 1) := by decide +kernel
theorem d_R_cutUses_5 : decode b_R_cutUses 5 = .ok (.aload_n 0, 1) := by decide +kernel
theorem d_R_cutUses_6 : decode b_R_cutUses 6 = .ok (.getfield 19, 3) := by decide +kernel
theorem d_R_cutUses_9 : decode b_R_cutUses 9 = .ok (.invokevirtual 62, 3) := by decide +kernel
theorem d_R_cutUses_12 : decode b_R_cutUses 12 = .ok (.if_icmp .ge 73, 3) := by decide +kernel
theorem d_R_cutUses_15 : decode b_R_cutUses 15 = .ok (.aload_n 0, 1) := by decide +kernel
theorem d_R_cutUses_16 : decode b_R_cutUses 16 = .ok (.getfield 19, 3) := by decide +kernel
theorem d_R_cutUses_19 : decode b_R_cutUses 19 = .ok (.iload_n 2, 1) := by decide +kernel
theorem d_R_cutUses_20 : decode b_R_cutUses 20 = .ok (.invokevirtual 138, 3) := by decide +kernel
theorem d_R_cutUses_23 : decode b_R_cutUses 23 = .ok (.checkcast 77, 3) := by decide +kernel
theorem d_R_cutUses_26 : decode b_R_cutUses 26 = .ok (.astore_n 3, 1) := by decide +kernel
theorem d_R_cutUses_27 : decode b_R_cutUses 27 = .ok (.aload_n 3, 1) := by decide +kernel
theorem d_R_cutUses_28 : decode b_R_cutUses 28 = .ok (.getfield 205, 3) := by decide +kernel
theorem d_R_cutUses_31 : decode b_R_cutUses 31 = .ok (.lconst 0, 1) := by decide +kernel
theorem d_R_cutUses_32 : decode b_R_cutUses 32 = .ok (.lcmp, 1) := by decide +kernel
theorem d_R_cutUses_33 : decode b_R_cutUses 33 = .ok (.ifCond .eq 46, 3) := by decide +kernel
theorem d_R_cutUses_36 : decode b_R_cutUses 36 = .ok (.aload_n 3, 1) := by decide +kernel
theorem d_R_cutUses_37 : decode b_R_cutUses 37 = .ok (.aload_n 3, 1) := by decide +kernel
theorem d_R_cutUses_38 : decode b_R_cutUses 38 = .ok (.getfield 213, 3) := by decide +kernel
theorem d_R_cutUses_41 : decode b_R_cutUses 41 = .ok (.ifnonnull 18, 3) := by decide +kernel
theorem d_R_cutUses_44 : decode b_R_cutUses 44 = .ok (.aload_n 0, 1) := by decide +kernel
theorem d_R_cutUses_45 : decode b_R_cutUses 45 = .ok (.aload_n 3, 1) := by decide +kernel
theorem d_R_cutUses_46 : decode b_R_cutUses 46 = .ok (.getfield 149, 3) := by decide +kernel
theorem d_R_cutUses_49 : decode b_R_cutUses 49 = .ok (.aload_n 3, 1) := by decide +kernel
theorem d_R_cutUses_50 : decode b_R_cutUses 50 = .ok (.getfield 205, 3) := by decide +kernel
theorem d_R_cutUses_53 : decode b_R_cutUses 53 = .ok (.invokevirtual 227, 3) := by decide +kernel
theorem d_R_cutUses_56 : decode b_R_cutUses 56 = .ok (.goto 10, 3) := by decide +kernel
theorem d_R_cutUses_59 : decode b_R_cutUses 59 = .ok (.aload_n 3, 1) := by decide +kernel
theorem d_R_cutUses_60 : decode b_R_cutUses 60 = .ok (.getfield 213, 3) := by decide +kernel
theorem d_R_cutUses_63 : decode b_R_cutUses 63 = .ok (.getfield 149, 3) := by decide +kernel
theorem d_R_cutUses_66 : decode b_R_cutUses 66 = .ok (.putfield 149, 3) := by decide +kernel
theorem d_R_cutUses_69 : decode b_R_cutUses 69 = .ok (.iload_n 1, 1) := by decide +kernel
theorem d_R_cutUses_70 : decode b_R_cutUses 70 = .ok (.aload_n 3, 1) := by decide +kernel
theorem d_R_cutUses_71 : decode b_R_cutUses 71 = .ok (.getfield 205, 3) := by decide +kernel
theorem d_R_cutUses_74 : decode b_R_cutUses 74 = .ok (.invokestatic 221, 3) := by decide +kernel
theorem d_R_cutUses_77 : decode b_R_cutUses 77 = .ok (.iadd, 1) := by decide +kernel
theorem d_R_cutUses_78 : decode b_R_cutUses 78 = .ok (.istore_n 1, 1) := by decide +kernel
theorem d_R_cutUses_79 : decode b_R_cutUses 79 = .ok (.iinc 2 1, 3) := by decide +kernel
theorem d_R_cutUses_82 : decode b_R_cutUses 82 = .ok (.goto (-78), 3) := by decide +kernel
theorem d_R_cutUses_85 : decode b_R_cutUses 85 = .ok (.iload_n 1, 1) := by decide +kernel
theorem d_R_cutUses_86 : decode b_R_cutUses 86 = .ok (.ireturn, 1) := by decide +kernel
abbrev b_R_addCutCopy : ByteArray := prog_1_method_30_code
def y_R_addCutCopy : MethodName := ⟨"RedactCheck", "addCutCopy", "(LRedactCheck$SignRow;J)LRedactCheck$SignRow;"⟩
theorem d_R_addCutCopy_0 : decode b_R_addCutCopy 0 = .ok (.aload_n 1, 1) := by decide +kernel
theorem d_R_addCutCopy_1 : decode b_R_addCutCopy 1 = .ok (.aload_n 0, 1) := by decide +kernel
theorem d_R_addCutCopy_2 : decode b_R_addCutCopy 2 = .ok (.getfield 16, 3) := by decide +kernel
theorem d_R_addCutCopy_5 : decode b_R_addCutCopy 5 = .ok (.invokevirtual 62, 3) := by decide +kernel
theorem d_R_addCutCopy_8 : decode b_R_addCutCopy 8 = .ok (.invokevirtual 231, 3) := by decide +kernel
theorem d_R_addCutCopy_11 : decode b_R_addCutCopy 11 = .ok (.astore 4, 2) := by decide +kernel
theorem d_R_addCutCopy_13 : decode b_R_addCutCopy 13 = .ok (.aload 4, 2) := by decide +kernel
theorem d_R_addCutCopy_15 : decode b_R_addCutCopy 15 = .ok (.lload_n 2, 1) := by decide +kernel
theorem d_R_addCutCopy_16 : decode b_R_addCutCopy 16 = .ok (.invokevirtual 217, 3) := by decide +kernel
theorem d_R_addCutCopy_19 : decode b_R_addCutCopy 19 = .ok (.aload_n 0, 1) := by decide +kernel
theorem d_R_addCutCopy_20 : decode b_R_addCutCopy 20 = .ok (.getfield 16, 3) := by decide +kernel
theorem d_R_addCutCopy_23 : decode b_R_addCutCopy 23 = .ok (.aload 4, 2) := by decide +kernel
theorem d_R_addCutCopy_25 : decode b_R_addCutCopy 25 = .ok (.invokevirtual 50, 3) := by decide +kernel
theorem d_R_addCutCopy_28 : decode b_R_addCutCopy 28 = .ok (.pop, 1) := by decide +kernel
theorem d_R_addCutCopy_29 : decode b_R_addCutCopy 29 = .ok (.aload 4, 2) := by decide +kernel
theorem d_R_addCutCopy_31 : decode b_R_addCutCopy 31 = .ok (.areturn, 1) := by decide +kernel
abbrev b_S_copyNumbered : ByteArray := prog_6_method_5_code
def y_S_copyNumbered : MethodName := ⟨"RedactCheck$SignRow", "copyNumbered", "(I)LRedactCheck$SignRow;"⟩
theorem d_S_copyNumbered_0 : decode b_S_copyNumbered 0 = .ok (.new 10, 3) := by decide +kernel
theorem d_S_copyNumbered_3 : decode b_S_copyNumbered 3 = .ok (.dup, 1) := by decide +kernel
theorem d_S_copyNumbered_4 : decode b_S_copyNumbered 4 = .ok (.iload_n 1, 1) := by decide +kernel
theorem d_S_copyNumbered_5 : decode b_S_copyNumbered 5 = .ok (.invokespecial 37, 3) := by decide +kernel
theorem d_S_copyNumbered_8 : decode b_S_copyNumbered 8 = .ok (.astore_n 2, 1) := by decide +kernel
theorem d_S_copyNumbered_9 : decode b_S_copyNumbered 9 = .ok (.iconst 0, 1) := by decide +kernel
theorem d_S_copyNumbered_10 : decode b_S_copyNumbered 10 = .ok (.istore_n 3, 1) := by decide +kernel
theorem d_S_copyNumbered_11 : decode b_S_copyNumbered 11 = .ok (.iload_n 3, 1) := by decide +kernel
theorem d_S_copyNumbered_12 : decode b_S_copyNumbered 12 = .ok (.aload_n 0, 1) := by decide +kernel
theorem d_S_copyNumbered_13 : decode b_S_copyNumbered 13 = .ok (.getfield 19, 3) := by decide +kernel
theorem d_S_copyNumbered_16 : decode b_S_copyNumbered 16 = .ok (.if_icmp .ge 37, 3) := by decide +kernel
theorem d_S_copyNumbered_19 : decode b_S_copyNumbered 19 = .ok (.aload_n 2, 1) := by decide +kernel
theorem d_S_copyNumbered_20 : decode b_S_copyNumbered 20 = .ok (.aload_n 0, 1) := by decide +kernel
theorem d_S_copyNumbered_21 : decode b_S_copyNumbered 21 = .ok (.iload_n 3, 1) := by decide +kernel
theorem d_S_copyNumbered_22 : decode b_S_copyNumbered 22 = .ok (.iconst 0, 1) := by decide +kernel
theorem d_S_copyNumbered_23 : decode b_S_copyNumbered 23 = .ok (.invokevirtual 29, 3) := by decide +kernel
theorem d_S_copyNumbered_26 : decode b_S_copyNumbered 26 = .ok (.aload_n 0, 1) := by decide +kernel
theorem d_S_copyNumbered_27 : decode b_S_copyNumbered 27 = .ok (.iload_n 3, 1) := by decide +kernel
theorem d_S_copyNumbered_28 : decode b_S_copyNumbered 28 = .ok (.iconst 1, 1) := by decide +kernel
theorem d_S_copyNumbered_29 : decode b_S_copyNumbered 29 = .ok (.invokevirtual 29, 3) := by decide +kernel
theorem d_S_copyNumbered_32 : decode b_S_copyNumbered 32 = .ok (.aload_n 0, 1) := by decide +kernel
theorem d_S_copyNumbered_33 : decode b_S_copyNumbered 33 = .ok (.iload_n 3, 1) := by decide +kernel
theorem d_S_copyNumbered_34 : decode b_S_copyNumbered 34 = .ok (.iconst 2, 1) := by decide +kernel
theorem d_S_copyNumbered_35 : decode b_S_copyNumbered 35 = .ok (.invokevirtual 29, 3) := by decide +kernel
theorem d_S_copyNumbered_38 : decode b_S_copyNumbered 38 = .ok (.aload_n 0, 1) := by decide +kernel
theorem d_S_copyNumbered_39 : decode b_S_copyNumbered 39 = .ok (.iload_n 3, 1) := by decide +kernel
theorem d_S_copyNumbered_40 : decode b_S_copyNumbered 40 = .ok (.iconst 3, 1) := by decide +kernel
theorem d_S_copyNumbered_41 : decode b_S_copyNumbered 41 = .ok (.invokevirtual 29, 3) := by decide +kernel
theorem d_S_copyNumbered_44 : decode b_S_copyNumbered 44 = .ok (.invokevirtual 39, 3) := by decide +kernel
theorem d_S_copyNumbered_47 : decode b_S_copyNumbered 47 = .ok (.iinc 3 1, 3) := by decide +kernel
theorem d_S_copyNumbered_50 : decode b_S_copyNumbered 50 = .ok (.goto (-39), 3) := by decide +kernel
theorem d_S_copyNumbered_53 : decode b_S_copyNumbered 53 = .ok (.aload_n 2, 1) := by decide +kernel
theorem d_S_copyNumbered_54 : decode b_S_copyNumbered 54 = .ok (.areturn, 1) := by decide +kernel
abbrev b_R_cutStores : ByteArray := prog_1_method_31_code
def y_R_cutStores : MethodName := ⟨"RedactCheck", "cutStores", "()I"⟩
theorem d_R_cutStores_0 : decode b_R_cutStores 0 = .ok (.iconst 0, 1) := by decide +kernel
theorem d_R_cutStores_1 : decode b_R_cutStores 1 = .ok (.istore_n 1, 1) := by decide +kernel
theorem d_R_cutStores_2 : decode b_R_cutStores 2 = .ok (.iconst 0, 1) := by decide +kernel
theorem d_R_cutStores_3 : decode b_R_cutStores 3 = .ok (.istore_n 2, 1) := by decide +kernel
theorem d_R_cutStores_4 : decode b_R_cutStores 4 = .ok (.iload_n 2, 1) := by decide +kernel
theorem d_R_cutStores_5 : decode b_R_cutStores 5 = .ok (.aload_n 0, 1) := by decide +kernel
theorem d_R_cutStores_6 : decode b_R_cutStores 6 = .ok (.getfield 28, 3) := by decide +kernel
theorem d_R_cutStores_9 : decode b_R_cutStores 9 = .ok (.invokevirtual 62, 3) := by decide +kernel
theorem d_R_cutStores_12 : decode b_R_cutStores 12 = .ok (.if_icmp .ge 75, 3) := by decide +kernel
theorem d_R_cutStores_15 : decode b_R_cutStores 15 = .ok (.aload_n 0, 1) := by decide +kernel
theorem d_R_cutStores_16 : decode b_R_cutStores 16 = .ok (.getfield 28, 3) := by decide +kernel
theorem d_R_cutStores_19 : decode b_R_cutStores 19 = .ok (.iload_n 2, 1) := by decide +kernel
theorem d_R_cutStores_20 : decode b_R_cutStores 20 = .ok (.invokevirtual 138, 3) := by decide +kernel
theorem d_R_cutStores_23 : decode b_R_cutStores 23 = .ok (.checkcast 107, 3) := by decide +kernel
theorem d_R_cutStores_26 : decode b_R_cutStores 26 = .ok (.astore_n 3, 1) := by decide +kernel
theorem d_R_cutStores_27 : decode b_R_cutStores 27 = .ok (.aload_n 3, 1) := by decide +kernel
theorem d_R_cutStores_28 : decode b_R_cutStores 28 = .ok (.aload_n 0, 1) := by decide +kernel
theorem d_R_cutStores_29 : decode b_R_cutStores 29 = .ok (.getfield 41, 3) := by decide +kernel
theorem d_R_cutStores_32 : decode b_R_cutStores 32 = .ok (.aload_n 3, 1) := by decide +kernel
theorem d_R_cutStores_33 : decode b_R_cutStores 33 = .ok (.getfield 235, 3) := by decide +kernel
theorem d_R_cutStores_36 : decode b_R_cutStores 36 = .ok (.invokevirtual 238, 3) := by decide +kernel
theorem d_R_cutStores_39 : decode b_R_cutStores 39 = .ok (.ifCond .eq 37, 3) := by decide +kernel
theorem d_R_cutStores_42 : decode b_R_cutStores 42 = .ok (.aload_n 0, 1) := by decide +kernel
theorem d_R_cutStores_43 : decode b_R_cutStores 43 = .ok (.invokevirtual 241, 3) := by decide +kernel
theorem d_R_cutStores_46 : decode b_R_cutStores 46 = .ok (.lstore 4, 2) := by decide +kernel
theorem d_R_cutStores_48 : decode b_R_cutStores 48 = .ok (.aload_n 0, 1) := by decide +kernel
theorem d_R_cutStores_49 : decode b_R_cutStores 49 = .ok (.getfield 41, 3) := by decide +kernel
theorem d_R_cutStores_52 : decode b_R_cutStores 52 = .ok (.lload 4, 2) := by decide +kernel
theorem d_R_cutStores_54 : decode b_R_cutStores 54 = .ok (.invokevirtual 245, 3) := by decide +kernel
theorem d_R_cutStores_57 : decode b_R_cutStores 57 = .ok (.aload_n 3, 1) := by decide +kernel
theorem d_R_cutStores_58 : decode b_R_cutStores 58 = .ok (.aload_n 0, 1) := by decide +kernel
theorem d_R_cutStores_59 : decode b_R_cutStores 59 = .ok (.getfield 41, 3) := by decide +kernel
theorem d_R_cutStores_62 : decode b_R_cutStores 62 = .ok (.invokevirtual 246, 3) := by decide +kernel
theorem d_R_cutStores_65 : decode b_R_cutStores 65 = .ok (.iload_n 1, 1) := by decide +kernel
theorem d_R_cutStores_66 : decode b_R_cutStores 66 = .ok (.lload 4, 2) := by decide +kernel
theorem d_R_cutStores_68 : decode b_R_cutStores 68 = .ok (.invokestatic 221, 3) := by decide +kernel
theorem d_R_cutStores_71 : decode b_R_cutStores 71 = .ok (.iadd, 1) := by decide +kernel
theorem d_R_cutStores_72 : decode b_R_cutStores 72 = .ok (.istore_n 1, 1) := by decide +kernel
theorem d_R_cutStores_73 : decode b_R_cutStores 73 = .ok (.goto 8, 3) := by decide +kernel
theorem d_R_cutStores_76 : decode b_R_cutStores 76 = .ok (.aload_n 3, 1) := by decide +kernel
theorem d_R_cutStores_77 : decode b_R_cutStores 77 = .ok (.iconst 0, 1) := by decide +kernel
theorem d_R_cutStores_78 : decode b_R_cutStores 78 = .ok (.putfield 114, 3) := by decide +kernel
theorem d_R_cutStores_81 : decode b_R_cutStores 81 = .ok (.iinc 2 1, 3) := by decide +kernel
theorem d_R_cutStores_84 : decode b_R_cutStores 84 = .ok (.goto (-80), 3) := by decide +kernel
theorem d_R_cutStores_87 : decode b_R_cutStores 87 = .ok (.iload_n 1, 1) := by decide +kernel
theorem d_R_cutStores_88 : decode b_R_cutStores 88 = .ok (.ireturn, 1) := by decide +kernel
abbrev b_T_write : ByteArray := prog_7_method_5_code
def y_T_write : MethodName := ⟨"RedactCheck$Store", "write", "(LRedactCheck$Codes;)V"⟩
theorem d_T_write_0 : decode b_T_write 0 = .ok (.aload_n 0, 1) := by decide +kernel
theorem d_T_write_1 : decode b_T_write 1 = .ok (.iconst 0, 1) := by decide +kernel
theorem d_T_write_2 : decode b_T_write 2 = .ok (.putfield 19, 3) := by decide +kernel
theorem d_T_write_5 : decode b_T_write 5 = .ok (.iconst 0, 1) := by decide +kernel
theorem d_T_write_6 : decode b_T_write 6 = .ok (.istore_n 2, 1) := by decide +kernel
theorem d_T_write_7 : decode b_T_write 7 = .ok (.iload_n 2, 1) := by decide +kernel
theorem d_T_write_8 : decode b_T_write 8 = .ok (.aload_n 1, 1) := by decide +kernel
theorem d_T_write_9 : decode b_T_write 9 = .ok (.getfield 22, 3) := by decide +kernel
theorem d_T_write_12 : decode b_T_write 12 = .ok (.if_icmp .ge 18, 3) := by decide +kernel
theorem d_T_write_15 : decode b_T_write 15 = .ok (.aload_n 0, 1) := by decide +kernel
theorem d_T_write_16 : decode b_T_write 16 = .ok (.aload_n 1, 1) := by decide +kernel
theorem d_T_write_17 : decode b_T_write 17 = .ok (.iload_n 2, 1) := by decide +kernel
theorem d_T_write_18 : decode b_T_write 18 = .ok (.invokevirtual 37, 3) := by decide +kernel
theorem d_T_write_21 : decode b_T_write 21 = .ok (.invokevirtual 40, 3) := by decide +kernel
theorem d_T_write_24 : decode b_T_write 24 = .ok (.iinc 2 1, 3) := by decide +kernel
theorem d_T_write_27 : decode b_T_write 27 = .ok (.goto (-20), 3) := by decide +kernel
theorem d_T_write_30 : decode b_T_write 30 = .ok (.return_, 1) := by decide +kernel
abbrev b_T_writeCode : ByteArray := prog_7_method_6_code
def y_T_writeCode : MethodName := ⟨"RedactCheck$Store", "writeCode", "(I)V"⟩
theorem d_T_writeCode_0 : decode b_T_writeCode 0 = .ok (.aload_n 0, 1) := by decide +kernel
theorem d_T_writeCode_1 : decode b_T_writeCode 1 = .ok (.getfield 15, 3) := by decide +kernel
theorem d_T_writeCode_4 : decode b_T_writeCode 4 = .ok (.tableswitch 65 0 2 #[28, 37, 51], 28) := by decide +kernel
theorem d_T_writeCode_32 : decode b_T_writeCode 32 = .ok (.aload_n 0, 1) := by decide +kernel
theorem d_T_writeCode_33 : decode b_T_writeCode 33 = .ok (.iload_n 1, 1) := by decide +kernel
theorem d_T_writeCode_34 : decode b_T_writeCode 34 = .ok (.i2b, 1) := by decide +kernel
theorem d_T_writeCode_35 : decode b_T_writeCode 35 = .ok (.invokevirtual 43, 3) := by decide +kernel
theorem d_T_writeCode_38 : decode b_T_writeCode 38 = .ok (.goto 55, 3) := by decide +kernel
theorem d_T_writeCode_41 : decode b_T_writeCode 41 = .ok (.aload_n 0, 1) := by decide +kernel
theorem d_T_writeCode_42 : decode b_T_writeCode 42 = .ok (.iconst 0, 1) := by decide +kernel
theorem d_T_writeCode_43 : decode b_T_writeCode 43 = .ok (.invokevirtual 43, 3) := by decide +kernel
theorem d_T_writeCode_46 : decode b_T_writeCode 46 = .ok (.aload_n 0, 1) := by decide +kernel
theorem d_T_writeCode_47 : decode b_T_writeCode 47 = .ok (.iload_n 1, 1) := by decide +kernel
theorem d_T_writeCode_48 : decode b_T_writeCode 48 = .ok (.i2b, 1) := by decide +kernel
theorem d_T_writeCode_49 : decode b_T_writeCode 49 = .ok (.invokevirtual 43, 3) := by decide +kernel
theorem d_T_writeCode_52 : decode b_T_writeCode 52 = .ok (.goto 41, 3) := by decide +kernel
theorem d_T_writeCode_55 : decode b_T_writeCode 55 = .ok (.aload_n 0, 1) := by decide +kernel
theorem d_T_writeCode_56 : decode b_T_writeCode 56 = .ok (.iload_n 1, 1) := by decide +kernel
theorem d_T_writeCode_57 : decode b_T_writeCode 57 = .ok (.i2b, 1) := by decide +kernel
theorem d_T_writeCode_58 : decode b_T_writeCode 58 = .ok (.invokevirtual 43, 3) := by decide +kernel
theorem d_T_writeCode_61 : decode b_T_writeCode 61 = .ok (.aload_n 0, 1) := by decide +kernel
theorem d_T_writeCode_62 : decode b_T_writeCode 62 = .ok (.iconst 0, 1) := by decide +kernel
theorem d_T_writeCode_63 : decode b_T_writeCode 63 = .ok (.invokevirtual 43, 3) := by decide +kernel
theorem d_T_writeCode_66 : decode b_T_writeCode 66 = .ok (.goto 27, 3) := by decide +kernel
theorem d_T_writeCode_69 : decode b_T_writeCode 69 = .ok (.aload_n 0, 1) := by decide +kernel
theorem d_T_writeCode_70 : decode b_T_writeCode 70 = .ok (.iload_n 1, 1) := by decide +kernel
theorem d_T_writeCode_71 : decode b_T_writeCode 71 = .ok (.iconst 4, 1) := by decide +kernel
theorem d_T_writeCode_72 : decode b_T_writeCode 72 = .ok (.ishr, 1) := by decide +kernel
theorem d_T_writeCode_73 : decode b_T_writeCode 73 = .ok (.bipush 15, 2) := by decide +kernel
theorem d_T_writeCode_75 : decode b_T_writeCode 75 = .ok (.iand, 1) := by decide +kernel
theorem d_T_writeCode_76 : decode b_T_writeCode 76 = .ok (.invokestatic 46, 3) := by decide +kernel
theorem d_T_writeCode_79 : decode b_T_writeCode 79 = .ok (.invokevirtual 43, 3) := by decide +kernel
theorem d_T_writeCode_82 : decode b_T_writeCode 82 = .ok (.aload_n 0, 1) := by decide +kernel
theorem d_T_writeCode_83 : decode b_T_writeCode 83 = .ok (.iload_n 1, 1) := by decide +kernel
theorem d_T_writeCode_84 : decode b_T_writeCode 84 = .ok (.bipush 15, 2) := by decide +kernel
theorem d_T_writeCode_86 : decode b_T_writeCode 86 = .ok (.iand, 1) := by decide +kernel
theorem d_T_writeCode_87 : decode b_T_writeCode 87 = .ok (.invokestatic 46, 3) := by decide +kernel
theorem d_T_writeCode_90 : decode b_T_writeCode 90 = .ok (.invokevirtual 43, 3) := by decide +kernel
theorem d_T_writeCode_93 : decode b_T_writeCode 93 = .ok (.return_, 1) := by decide +kernel
abbrev b_T_digitOf : ByteArray := prog_7_method_10_code
def y_T_digitOf : MethodName := ⟨"RedactCheck$Store", "digitOf", "(I)B"⟩
theorem d_T_digitOf_0 : decode b_T_digitOf 0 = .ok (.iload_n 0, 1) := by decide +kernel
theorem d_T_digitOf_1 : decode b_T_digitOf 1 = .ok (.bipush 10, 2) := by decide +kernel
theorem d_T_digitOf_3 : decode b_T_digitOf 3 = .ok (.if_icmp .ge 10, 3) := by decide +kernel
theorem d_T_digitOf_6 : decode b_T_digitOf 6 = .ok (.bipush 48, 2) := by decide +kernel
theorem d_T_digitOf_8 : decode b_T_digitOf 8 = .ok (.iload_n 0, 1) := by decide +kernel
theorem d_T_digitOf_9 : decode b_T_digitOf 9 = .ok (.iadd, 1) := by decide +kernel
theorem d_T_digitOf_10 : decode b_T_digitOf 10 = .ok (.goto 10, 3) := by decide +kernel
theorem d_T_digitOf_13 : decode b_T_digitOf 13 = .ok (.bipush 65, 2) := by decide +kernel
theorem d_T_digitOf_15 : decode b_T_digitOf 15 = .ok (.iload_n 0, 1) := by decide +kernel
theorem d_T_digitOf_16 : decode b_T_digitOf 16 = .ok (.iadd, 1) := by decide +kernel
theorem d_T_digitOf_17 : decode b_T_digitOf 17 = .ok (.bipush 10, 2) := by decide +kernel
theorem d_T_digitOf_19 : decode b_T_digitOf 19 = .ok (.isub, 1) := by decide +kernel
theorem d_T_digitOf_20 : decode b_T_digitOf 20 = .ok (.i2b, 1) := by decide +kernel
theorem d_T_digitOf_21 : decode b_T_digitOf 21 = .ok (.ireturn, 1) := by decide +kernel
abbrev b_R_left : ByteArray := prog_1_method_13_code
def y_R_left : MethodName := ⟨"RedactCheck", "left", "(II)I"⟩
theorem d_R_left_0 : decode b_R_left 0 = .ok (.iload_n 1, 1) := by decide +kernel
theorem d_R_left_1 : decode b_R_left 1 = .ok (.aload_n 0, 1) := by decide +kernel
theorem d_R_left_2 : decode b_R_left 2 = .ok (.getfield 34, 3) := by decide +kernel
theorem d_R_left_5 : decode b_R_left 5 = .ok (.getfield 156, 3) := by decide +kernel
theorem d_R_left_8 : decode b_R_left 8 = .ok (.invokestatic 70, 3) := by decide +kernel
theorem d_R_left_11 : decode b_R_left 11 = .ok (.iload_n 2, 1) := by decide +kernel
theorem d_R_left_12 : decode b_R_left 12 = .ok (.iconst 5, 1) := by decide +kernel
theorem d_R_left_13 : decode b_R_left 13 = .ok (.invokestatic 70, 3) := by decide +kernel
theorem d_R_left_16 : decode b_R_left 16 = .ok (.aload_n 0, 1) := by decide +kernel
theorem d_R_left_17 : decode b_R_left 17 = .ok (.getfield 34, 3) := by decide +kernel
theorem d_R_left_20 : decode b_R_left 20 = .ok (.iload_n 1, 1) := by decide +kernel
theorem d_R_left_21 : decode b_R_left 21 = .ok (.iload_n 2, 1) := by decide +kernel
theorem d_R_left_22 : decode b_R_left 22 = .ok (.invokevirtual 157, 3) := by decide +kernel
theorem d_R_left_25 : decode b_R_left 25 = .ok (.ireturn, 1) := by decide +kernel
abbrev b_F_part : ByteArray := prog_4_method_4_code
def y_F_part : MethodName := ⟨"RedactCheck$Findings", "part", "(II)I"⟩
theorem d_F_part_0 : decode b_F_part 0 = .ok (.iload_n 1, 1) := by decide +kernel
theorem d_F_part_1 : decode b_F_part 1 = .ok (.ifCond .lt 18, 3) := by decide +kernel
theorem d_F_part_4 : decode b_F_part 4 = .ok (.iload_n 1, 1) := by decide +kernel
theorem d_F_part_5 : decode b_F_part 5 = .ok (.bipush 100, 2) := by decide +kernel
theorem d_F_part_7 : decode b_F_part 7 = .ok (.if_icmp .ge 12, 3) := by decide +kernel
theorem d_F_part_10 : decode b_F_part 10 = .ok (.iload_n 2, 1) := by decide +kernel
theorem d_F_part_11 : decode b_F_part 11 = .ok (.ifCond .lt 8, 3) := by decide +kernel
theorem d_F_part_14 : decode b_F_part 14 = .ok (.iload_n 2, 1) := by decide +kernel
theorem d_F_part_15 : decode b_F_part 15 = .ok (.iconst 5, 1) := by decide +kernel
theorem d_F_part_16 : decode b_F_part 16 = .ok (.if_icmp .lt 5, 3) := by decide +kernel
theorem d_F_part_19 : decode b_F_part 19 = .ok (.iconst (-1), 1) := by decide +kernel
theorem d_F_part_20 : decode b_F_part 20 = .ok (.ireturn, 1) := by decide +kernel
theorem d_F_part_21 : decode b_F_part 21 = .ok (.aload_n 0, 1) := by decide +kernel
theorem d_F_part_22 : decode b_F_part 22 = .ok (.getfield 9, 3) := by decide +kernel
theorem d_F_part_25 : decode b_F_part 25 = .ok (.iload_n 1, 1) := by decide +kernel
theorem d_F_part_26 : decode b_F_part 26 = .ok (.iconst 5, 1) := by decide +kernel
theorem d_F_part_27 : decode b_F_part 27 = .ok (.imul, 1) := by decide +kernel
theorem d_F_part_28 : decode b_F_part 28 = .ok (.iload_n 2, 1) := by decide +kernel
theorem d_F_part_29 : decode b_F_part 29 = .ok (.iadd, 1) := by decide +kernel
theorem d_F_part_30 : decode b_F_part 30 = .ok (.iaload, 1) := by decide +kernel
theorem d_F_part_31 : decode b_F_part 31 = .ok (.ireturn, 1) := by decide +kernel
abbrev b_R_at : ByteArray := prog_1_method_14_code
def y_R_at : MethodName := ⟨"RedactCheck", "at", "(IIII)I"⟩
theorem d_R_at_0 : decode b_R_at 0 = .ok (.iload_n 1, 1) := by decide +kernel
theorem d_R_at_1 : decode b_R_at 1 = .ok (.iconst 2, 1) := by decide +kernel
theorem d_R_at_2 : decode b_R_at 2 = .ok (.invokestatic 70, 3) := by decide +kernel
theorem d_R_at_5 : decode b_R_at 5 = .ok (.iload_n 1, 1) := by decide +kernel
theorem d_R_at_6 : decode b_R_at 6 = .ok (.ifCond .ne 10, 3) := by decide +kernel
theorem d_R_at_9 : decode b_R_at 9 = .ok (.aload_n 0, 1) := by decide +kernel
theorem d_R_at_10 : decode b_R_at 10 = .ok (.getfield 10, 3) := by decide +kernel
theorem d_R_at_13 : decode b_R_at 13 = .ok (.goto 7, 3) := by decide +kernel
theorem d_R_at_16 : decode b_R_at 16 = .ok (.aload_n 0, 1) := by decide +kernel
theorem d_R_at_17 : decode b_R_at 17 = .ok (.getfield 16, 3) := by decide +kernel
theorem d_R_at_20 : decode b_R_at 20 = .ok (.iload_n 2, 1) := by decide +kernel
theorem d_R_at_21 : decode b_R_at 21 = .ok (.invokestatic 54, 3) := by decide +kernel
theorem d_R_at_24 : decode b_R_at 24 = .ok (.astore 5, 2) := by decide +kernel
theorem d_R_at_26 : decode b_R_at 26 = .ok (.iload_n 3, 1) := by decide +kernel
theorem d_R_at_27 : decode b_R_at 27 = .ok (.aload 5, 2) := by decide +kernel
theorem d_R_at_29 : decode b_R_at 29 = .ok (.getfield 161, 3) := by decide +kernel
theorem d_R_at_32 : decode b_R_at 32 = .ok (.invokestatic 70, 3) := by decide +kernel
theorem d_R_at_35 : decode b_R_at 35 = .ok (.iload 4, 2) := by decide +kernel
theorem d_R_at_37 : decode b_R_at 37 = .ok (.iconst 4, 1) := by decide +kernel
theorem d_R_at_38 : decode b_R_at 38 = .ok (.invokestatic 70, 3) := by decide +kernel
theorem d_R_at_41 : decode b_R_at 41 = .ok (.aload 5, 2) := by decide +kernel
theorem d_R_at_43 : decode b_R_at 43 = .ok (.iload_n 3, 1) := by decide +kernel
theorem d_R_at_44 : decode b_R_at 44 = .ok (.iload 4, 2) := by decide +kernel
theorem d_R_at_46 : decode b_R_at 46 = .ok (.invokevirtual 162, 3) := by decide +kernel
theorem d_R_at_49 : decode b_R_at 49 = .ok (.ireturn, 1) := by decide +kernel
abbrev b_R_byteOf : ByteArray := prog_1_method_15_code
def y_R_byteOf : MethodName := ⟨"RedactCheck", "byteOf", "(II)B"⟩
theorem d_R_byteOf_0 : decode b_R_byteOf 0 = .ok (.aload_n 0, 1) := by decide +kernel
theorem d_R_byteOf_1 : decode b_R_byteOf 1 = .ok (.iload_n 1, 1) := by decide +kernel
theorem d_R_byteOf_2 : decode b_R_byteOf 2 = .ok (.invokevirtual 110, 3) := by decide +kernel
theorem d_R_byteOf_5 : decode b_R_byteOf 5 = .ok (.astore_n 3, 1) := by decide +kernel
theorem d_R_byteOf_6 : decode b_R_byteOf 6 = .ok (.iload_n 2, 1) := by decide +kernel
theorem d_R_byteOf_7 : decode b_R_byteOf 7 = .ok (.aload_n 3, 1) := by decide +kernel
theorem d_R_byteOf_8 : decode b_R_byteOf 8 = .ok (.getfield 114, 3) := by decide +kernel
theorem d_R_byteOf_11 : decode b_R_byteOf 11 = .ok (.invokestatic 70, 3) := by decide +kernel
theorem d_R_byteOf_14 : decode b_R_byteOf 14 = .ok (.aload_n 3, 1) := by decide +kernel
theorem d_R_byteOf_15 : decode b_R_byteOf 15 = .ok (.iload_n 2, 1) := by decide +kernel
theorem d_R_byteOf_16 : decode b_R_byteOf 16 = .ok (.invokevirtual 163, 3) := by decide +kernel
theorem d_R_byteOf_19 : decode b_R_byteOf 19 = .ok (.ireturn, 1) := by decide +kernel
abbrev b_R_formOf : ByteArray := prog_1_method_16_code
def y_R_formOf : MethodName := ⟨"RedactCheck", "formOf", "(I)I"⟩
theorem d_R_formOf_0 : decode b_R_formOf 0 = .ok (.iload_n 1, 1) := by decide +kernel
theorem d_R_formOf_1 : decode b_R_formOf 1 = .ok (.ifCond .lt 14, 3) := by decide +kernel
theorem d_R_formOf_4 : decode b_R_formOf 4 = .ok (.iload_n 1, 1) := by decide +kernel
theorem d_R_formOf_5 : decode b_R_formOf 5 = .ok (.aload_n 0, 1) := by decide +kernel
theorem d_R_formOf_6 : decode b_R_formOf 6 = .ok (.getfield 19, 3) := by decide +kernel
theorem d_R_formOf_9 : decode b_R_formOf 9 = .ok (.invokevirtual 62, 3) := by decide +kernel
theorem d_R_formOf_12 : decode b_R_formOf 12 = .ok (.if_icmp .lt 13, 3) := by decide +kernel
theorem d_R_formOf_15 : decode b_R_formOf 15 = .ok (.new 167, 3) := by decide +kernel
theorem d_R_formOf_18 : decode b_R_formOf 18 = .ok (.dup, 1) := by decide +kernel
theorem d_R_formOf_19 : decode b_R_formOf 19 = .ok (.ldc 169, 2) := by decide +kernel
theorem d_R_formOf_21 : decode b_R_formOf 21 = .ok (.invokespecial 171, 3) := by decide +kernel
theorem d_R_formOf_24 : decode b_R_formOf 24 = .ok (.athrow, 1) := by decide +kernel
theorem d_R_formOf_25 : decode b_R_formOf 25 = .ok (.aload_n 0, 1) := by decide +kernel
theorem d_R_formOf_26 : decode b_R_formOf 26 = .ok (.getfield 19, 3) := by decide +kernel
theorem d_R_formOf_29 : decode b_R_formOf 29 = .ok (.iload_n 1, 1) := by decide +kernel
theorem d_R_formOf_30 : decode b_R_formOf 30 = .ok (.invokevirtual 138, 3) := by decide +kernel
theorem d_R_formOf_33 : decode b_R_formOf 33 = .ok (.checkcast 77, 3) := by decide +kernel
theorem d_R_formOf_36 : decode b_R_formOf 36 = .ok (.getfield 149, 3) := by decide +kernel
theorem d_R_formOf_39 : decode b_R_formOf 39 = .ok (.getfield 172, 3) := by decide +kernel
theorem d_R_formOf_42 : decode b_R_formOf 42 = .ok (.ireturn, 1) := by decide +kernel
abbrev b_R_many : ByteArray := prog_1_method_17_code
def y_R_many : MethodName := ⟨"RedactCheck", "many", "(II)I"⟩
theorem d_R_many_0 : decode b_R_many 0 = .ok (.iload_n 1, 1) := by decide +kernel
theorem d_R_many_1 : decode b_R_many 1 = .ok (.tableswitch 73 0 3 #[31, 43, 55, 64], 31) := by decide +kernel
theorem d_R_many_32 : decode b_R_many 32 = .ok (.aload_n 0, 1) := by decide +kernel
theorem d_R_many_33 : decode b_R_many 33 = .ok (.getfield 10, 3) := by decide +kernel
theorem d_R_many_36 : decode b_R_many 36 = .ok (.iload_n 2, 1) := by decide +kernel
theorem d_R_many_37 : decode b_R_many 37 = .ok (.invokestatic 54, 3) := by decide +kernel
theorem d_R_many_40 : decode b_R_many 40 = .ok (.getfield 161, 3) := by decide +kernel
theorem d_R_many_43 : decode b_R_many 43 = .ok (.ireturn, 1) := by decide +kernel
theorem d_R_many_44 : decode b_R_many 44 = .ok (.aload_n 0, 1) := by decide +kernel
theorem d_R_many_45 : decode b_R_many 45 = .ok (.getfield 16, 3) := by decide +kernel
theorem d_R_many_48 : decode b_R_many 48 = .ok (.iload_n 2, 1) := by decide +kernel
theorem d_R_many_49 : decode b_R_many 49 = .ok (.invokestatic 54, 3) := by decide +kernel
theorem d_R_many_52 : decode b_R_many 52 = .ok (.getfield 161, 3) := by decide +kernel
theorem d_R_many_55 : decode b_R_many 55 = .ok (.ireturn, 1) := by decide +kernel
theorem d_R_many_56 : decode b_R_many 56 = .ok (.aload_n 0, 1) := by decide +kernel
theorem d_R_many_57 : decode b_R_many 57 = .ok (.iload_n 2, 1) := by decide +kernel
theorem d_R_many_58 : decode b_R_many 58 = .ok (.invokevirtual 110, 3) := by decide +kernel
theorem d_R_many_61 : decode b_R_many 61 = .ok (.getfield 114, 3) := by decide +kernel
theorem d_R_many_64 : decode b_R_many 64 = .ok (.ireturn, 1) := by decide +kernel
theorem d_R_many_65 : decode b_R_many 65 = .ok (.aload_n 0, 1) := by decide +kernel
theorem d_R_many_66 : decode b_R_many 66 = .ok (.iload_n 2, 1) := by decide +kernel
theorem d_R_many_67 : decode b_R_many 67 = .ok (.invokevirtual 85, 3) := by decide +kernel
theorem d_R_many_70 : decode b_R_many 70 = .ok (.getfield 96, 3) := by decide +kernel
theorem d_R_many_73 : decode b_R_many 73 = .ok (.ireturn, 1) := by decide +kernel
theorem d_R_many_74 : decode b_R_many 74 = .ok (.new 167, 3) := by decide +kernel
theorem d_R_many_77 : decode b_R_many 77 = .ok (.dup, 1) := by decide +kernel
theorem d_R_many_78 : decode b_R_many 78 = .ok (.ldc 175, 2) := by decide +kernel
theorem d_R_many_80 : decode b_R_many 80 = .ok (.invokespecial 171, 3) := by decide +kernel
theorem d_R_many_83 : decode b_R_many 83 = .ok (.athrow, 1) := by decide +kernel
