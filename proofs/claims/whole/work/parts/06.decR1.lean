theorem d_S_add_16 : decode b_S_add 16 = .ok (.iload_n 3, 1) := by decide +kernel
theorem d_S_add_17 : decode b_S_add 17 = .ok (.iload 4, 2) := by decide +kernel
theorem d_S_add_19 : decode b_S_add 19 = .ok (.invokevirtual 22, 3) := by decide +kernel
theorem d_S_add_22 : decode b_S_add 22 = .ok (.aload_n 0, 1) := by decide +kernel
theorem d_S_add_23 : decode b_S_add 23 = .ok (.dup, 1) := by decide +kernel
theorem d_S_add_24 : decode b_S_add 24 = .ok (.getfield 19, 3) := by decide +kernel
theorem d_S_add_27 : decode b_S_add 27 = .ok (.iconst 1, 1) := by decide +kernel
theorem d_S_add_28 : decode b_S_add 28 = .ok (.iadd, 1) := by decide +kernel
theorem d_S_add_29 : decode b_S_add 29 = .ok (.putfield 19, 3) := by decide +kernel
theorem d_S_add_32 : decode b_S_add 32 = .ok (.return_, 1) := by decide +kernel
abbrev b_S_put : ByteArray := prog_6_method_8_code
def y_S_put : MethodName := ⟨"RedactCheck$SignRow", "put", "(IIIII)V"⟩
theorem d_S_put_0 : decode b_S_put 0 = .ok (.iload_n 1, 1) := by decide +kernel
theorem d_S_put_1 : decode b_S_put 1 = .ok (.ifCond .lt 9, 3) := by decide +kernel
theorem d_S_put_4 : decode b_S_put 4 = .ok (.iload_n 1, 1) := by decide +kernel
theorem d_S_put_5 : decode b_S_put 5 = .ok (.bipush 40, 2) := by decide +kernel
theorem d_S_put_7 : decode b_S_put 7 = .ok (.if_icmp .lt 4, 3) := by decide +kernel
theorem d_S_put_10 : decode b_S_put 10 = .ok (.return_, 1) := by decide +kernel
theorem d_S_put_11 : decode b_S_put 11 = .ok (.iload_n 1, 1) := by decide +kernel
theorem d_S_put_12 : decode b_S_put 12 = .ok (.iconst 4, 1) := by decide +kernel
theorem d_S_put_13 : decode b_S_put 13 = .ok (.imul, 1) := by decide +kernel
theorem d_S_put_14 : decode b_S_put 14 = .ok (.istore 6, 2) := by decide +kernel
theorem d_S_put_16 : decode b_S_put 16 = .ok (.aload_n 0, 1) := by decide +kernel
theorem d_S_put_17 : decode b_S_put 17 = .ok (.getfield 9, 3) := by decide +kernel
theorem d_S_put_20 : decode b_S_put 20 = .ok (.iload 6, 2) := by decide +kernel
theorem d_S_put_22 : decode b_S_put 22 = .ok (.iconst 0, 1) := by decide +kernel
theorem d_S_put_23 : decode b_S_put 23 = .ok (.iadd, 1) := by decide +kernel
theorem d_S_put_24 : decode b_S_put 24 = .ok (.iload_n 2, 1) := by decide +kernel
theorem d_S_put_25 : decode b_S_put 25 = .ok (.iastore, 1) := by decide +kernel
theorem d_S_put_26 : decode b_S_put 26 = .ok (.aload_n 0, 1) := by decide +kernel
theorem d_S_put_27 : decode b_S_put 27 = .ok (.getfield 9, 3) := by decide +kernel
theorem d_S_put_30 : decode b_S_put 30 = .ok (.iload 6, 2) := by decide +kernel
theorem d_S_put_32 : decode b_S_put 32 = .ok (.iconst 1, 1) := by decide +kernel
theorem d_S_put_33 : decode b_S_put 33 = .ok (.iadd, 1) := by decide +kernel
theorem d_S_put_34 : decode b_S_put 34 = .ok (.iload_n 3, 1) := by decide +kernel
theorem d_S_put_35 : decode b_S_put 35 = .ok (.iastore, 1) := by decide +kernel
theorem d_S_put_36 : decode b_S_put 36 = .ok (.aload_n 0, 1) := by decide +kernel
theorem d_S_put_37 : decode b_S_put 37 = .ok (.getfield 9, 3) := by decide +kernel
theorem d_S_put_40 : decode b_S_put 40 = .ok (.iload 6, 2) := by decide +kernel
theorem d_S_put_42 : decode b_S_put 42 = .ok (.iconst 2, 1) := by decide +kernel
theorem d_S_put_43 : decode b_S_put 43 = .ok (.iadd, 1) := by decide +kernel
theorem d_S_put_44 : decode b_S_put 44 = .ok (.iload 4, 2) := by decide +kernel
theorem d_S_put_46 : decode b_S_put 46 = .ok (.iastore, 1) := by decide +kernel
theorem d_S_put_47 : decode b_S_put 47 = .ok (.aload_n 0, 1) := by decide +kernel
theorem d_S_put_48 : decode b_S_put 48 = .ok (.getfield 9, 3) := by decide +kernel
theorem d_S_put_51 : decode b_S_put 51 = .ok (.iload 6, 2) := by decide +kernel
theorem d_S_put_53 : decode b_S_put 53 = .ok (.iconst 3, 1) := by decide +kernel
theorem d_S_put_54 : decode b_S_put 54 = .ok (.iadd, 1) := by decide +kernel
theorem d_S_put_55 : decode b_S_put 55 = .ok (.iload 5, 2) := by decide +kernel
theorem d_S_put_57 : decode b_S_put 57 = .ok (.iastore, 1) := by decide +kernel
theorem d_S_put_58 : decode b_S_put 58 = .ok (.return_, 1) := by decide +kernel
abbrev b_R_form : ByteArray := prog_1_method_3_code
def y_R_form : MethodName := ⟨"RedactCheck", "form", "()I"⟩
theorem d_R_form_0 : decode b_R_form 0 = .ok (.aload_n 0, 1) := by decide +kernel
theorem d_R_form_1 : decode b_R_form 1 = .ok (.getfield 16, 3) := by decide +kernel
theorem d_R_form_4 : decode b_R_form 4 = .ok (.invokevirtual 62, 3) := by decide +kernel
theorem d_R_form_7 : decode b_R_form 7 = .ok (.bipush 20, 2) := by decide +kernel
theorem d_R_form_9 : decode b_R_form 9 = .ok (.invokestatic 66, 3) := by decide +kernel
theorem d_R_form_12 : decode b_R_form 12 = .ok (.aload_n 0, 1) := by decide +kernel
theorem d_R_form_13 : decode b_R_form 13 = .ok (.getfield 16, 3) := by decide +kernel
theorem d_R_form_16 : decode b_R_form 16 = .ok (.new 45, 3) := by decide +kernel
theorem d_R_form_19 : decode b_R_form 19 = .ok (.dup, 1) := by decide +kernel
theorem d_R_form_20 : decode b_R_form 20 = .ok (.aload_n 0, 1) := by decide +kernel
theorem d_R_form_21 : decode b_R_form 21 = .ok (.getfield 16, 3) := by decide +kernel
theorem d_R_form_24 : decode b_R_form 24 = .ok (.invokevirtual 62, 3) := by decide +kernel
theorem d_R_form_27 : decode b_R_form 27 = .ok (.invokespecial 47, 3) := by decide +kernel
theorem d_R_form_30 : decode b_R_form 30 = .ok (.invokevirtual 50, 3) := by decide +kernel
theorem d_R_form_33 : decode b_R_form 33 = .ok (.pop, 1) := by decide +kernel
theorem d_R_form_34 : decode b_R_form 34 = .ok (.aload_n 0, 1) := by decide +kernel
theorem d_R_form_35 : decode b_R_form 35 = .ok (.getfield 16, 3) := by decide +kernel
theorem d_R_form_38 : decode b_R_form 38 = .ok (.invokevirtual 62, 3) := by decide +kernel
theorem d_R_form_41 : decode b_R_form 41 = .ok (.iconst 1, 1) := by decide +kernel
theorem d_R_form_42 : decode b_R_form 42 = .ok (.isub, 1) := by decide +kernel
theorem d_R_form_43 : decode b_R_form 43 = .ok (.ireturn, 1) := by decide +kernel
abbrev b_R_formSign : ByteArray := prog_1_method_4_code
def y_R_formSign : MethodName := ⟨"RedactCheck", "formSign", "(IIIII)I"⟩
theorem d_R_formSign_0 : decode b_R_formSign 0 = .ok (.aload_n 0, 1) := by decide +kernel
theorem d_R_formSign_1 : decode b_R_formSign 1 = .ok (.getfield 16, 3) := by decide +kernel
theorem d_R_formSign_4 : decode b_R_formSign 4 = .ok (.iload_n 1, 1) := by decide +kernel
theorem d_R_formSign_5 : decode b_R_formSign 5 = .ok (.invokestatic 54, 3) := by decide +kernel
theorem d_R_formSign_8 : decode b_R_formSign 8 = .ok (.iload_n 2, 1) := by decide +kernel
theorem d_R_formSign_9 : decode b_R_formSign 9 = .ok (.iload_n 3, 1) := by decide +kernel
theorem d_R_formSign_10 : decode b_R_formSign 10 = .ok (.iload 4, 2) := by decide +kernel
theorem d_R_formSign_12 : decode b_R_formSign 12 = .ok (.iload 5, 2) := by decide +kernel
theorem d_R_formSign_14 : decode b_R_formSign 14 = .ok (.invokestatic 58, 3) := by decide +kernel
theorem d_R_formSign_17 : decode b_R_formSign 17 = .ok (.ireturn, 1) := by decide +kernel
abbrev b_R_use : ByteArray := prog_1_method_5_code
def y_R_use : MethodName := ⟨"RedactCheck", "use", "(IIII)I"⟩
theorem d_R_use_0 : decode b_R_use 0 = .ok (.iload_n 1, 1) := by decide +kernel
theorem d_R_use_1 : decode b_R_use 1 = .ok (.iconst 4, 1) := by decide +kernel
theorem d_R_use_2 : decode b_R_use 2 = .ok (.invokestatic 70, 3) := by decide +kernel
theorem d_R_use_5 : decode b_R_use 5 = .ok (.aload_n 0, 1) := by decide +kernel
theorem d_R_use_6 : decode b_R_use 6 = .ok (.getfield 16, 3) := by decide +kernel
theorem d_R_use_9 : decode b_R_use 9 = .ok (.iload_n 2, 1) := by decide +kernel
theorem d_R_use_10 : decode b_R_use 10 = .ok (.invokestatic 54, 3) := by decide +kernel
theorem d_R_use_13 : decode b_R_use 13 = .ok (.astore 5, 2) := by decide +kernel
theorem d_R_use_15 : decode b_R_use 15 = .ok (.iload_n 3, 1) := by decide +kernel
theorem d_R_use_16 : decode b_R_use 16 = .ok (.sipush (-999), 3) := by decide +kernel
theorem d_R_use_19 : decode b_R_use 19 = .ok (.sipush 999, 3) := by decide +kernel
theorem d_R_use_22 : decode b_R_use 22 = .ok (.invokestatic 73, 3) := by decide +kernel
theorem d_R_use_25 : decode b_R_use 25 = .ok (.iload 4, 2) := by decide +kernel
theorem d_R_use_27 : decode b_R_use 27 = .ok (.sipush (-999), 3) := by decide +kernel
theorem d_R_use_30 : decode b_R_use 30 = .ok (.sipush 999, 3) := by decide +kernel
theorem d_R_use_33 : decode b_R_use 33 = .ok (.invokestatic 73, 3) := by decide +kernel
theorem d_R_use_36 : decode b_R_use 36 = .ok (.aload_n 0, 1) := by decide +kernel
theorem d_R_use_37 : decode b_R_use 37 = .ok (.getfield 19, 3) := by decide +kernel
theorem d_R_use_40 : decode b_R_use 40 = .ok (.invokevirtual 62, 3) := by decide +kernel
theorem d_R_use_43 : decode b_R_use 43 = .ok (.bipush 12, 2) := by decide +kernel
theorem d_R_use_45 : decode b_R_use 45 = .ok (.invokestatic 66, 3) := by decide +kernel
theorem d_R_use_48 : decode b_R_use 48 = .ok (.aload_n 0, 1) := by decide +kernel
theorem d_R_use_49 : decode b_R_use 49 = .ok (.getfield 19, 3) := by decide +kernel
theorem d_R_use_52 : decode b_R_use 52 = .ok (.new 77, 3) := by decide +kernel
theorem d_R_use_55 : decode b_R_use 55 = .ok (.dup, 1) := by decide +kernel
theorem d_R_use_56 : decode b_R_use 56 = .ok (.iload_n 1, 1) := by decide +kernel
theorem d_R_use_57 : decode b_R_use 57 = .ok (.aload 5, 2) := by decide +kernel
theorem d_R_use_59 : decode b_R_use 59 = .ok (.iload_n 3, 1) := by decide +kernel
theorem d_R_use_60 : decode b_R_use 60 = .ok (.iload 4, 2) := by decide +kernel
theorem d_R_use_62 : decode b_R_use 62 = .ok (.invokespecial 79, 3) := by decide +kernel
theorem d_R_use_65 : decode b_R_use 65 = .ok (.invokevirtual 50, 3) := by decide +kernel
theorem d_R_use_68 : decode b_R_use 68 = .ok (.pop, 1) := by decide +kernel
theorem d_R_use_69 : decode b_R_use 69 = .ok (.aload_n 0, 1) := by decide +kernel
theorem d_R_use_70 : decode b_R_use 70 = .ok (.getfield 19, 3) := by decide +kernel
theorem d_R_use_73 : decode b_R_use 73 = .ok (.invokevirtual 62, 3) := by decide +kernel
theorem d_R_use_76 : decode b_R_use 76 = .ok (.iconst 1, 1) := by decide +kernel
theorem d_R_use_77 : decode b_R_use 77 = .ok (.isub, 1) := by decide +kernel
theorem d_R_use_78 : decode b_R_use 78 = .ok (.ireturn, 1) := by decide +kernel
abbrev b_R_checkNumber : ByteArray := prog_1_method_19_code
def y_R_checkNumber : MethodName := ⟨"RedactCheck", "checkNumber", "(II)V"⟩
theorem d_R_checkNumber_0 : decode b_R_checkNumber 0 = .ok (.iload_n 0, 1) := by decide +kernel
theorem d_R_checkNumber_1 : decode b_R_checkNumber 1 = .ok (.ifCond .lt 8, 3) := by decide +kernel
theorem d_R_checkNumber_4 : decode b_R_checkNumber 4 = .ok (.iload_n 0, 1) := by decide +kernel
theorem d_R_checkNumber_5 : decode b_R_checkNumber 5 = .ok (.iload_n 1, 1) := by decide +kernel
theorem d_R_checkNumber_6 : decode b_R_checkNumber 6 = .ok (.if_icmp .lt 13, 3) := by decide +kernel
theorem d_R_checkNumber_9 : decode b_R_checkNumber 9 = .ok (.new 167, 3) := by decide +kernel
theorem d_R_checkNumber_12 : decode b_R_checkNumber 12 = .ok (.dup, 1) := by decide +kernel
theorem d_R_checkNumber_13 : decode b_R_checkNumber 13 = .ok (.ldc 177, 2) := by decide +kernel
theorem d_R_checkNumber_15 : decode b_R_checkNumber 15 = .ok (.invokespecial 171, 3) := by decide +kernel
theorem d_R_checkNumber_18 : decode b_R_checkNumber 18 = .ok (.athrow, 1) := by decide +kernel
theorem d_R_checkNumber_19 : decode b_R_checkNumber 19 = .ok (.return_, 1) := by decide +kernel
abbrev b_U_init : ByteArray := prog_8_method_1_code
def y_U_init : MethodName := ⟨"RedactCheck$Use", "<init>", "(ILRedactCheck$SignRow;II)V"⟩
theorem d_U_init_0 : decode b_U_init 0 = .ok (.aload_n 0, 1) := by decide +kernel
theorem d_U_init_1 : decode b_U_init 1 = .ok (.invokespecial 1, 3) := by decide +kernel
theorem d_U_init_4 : decode b_U_init 4 = .ok (.aload_n 0, 1) := by decide +kernel
theorem d_U_init_5 : decode b_U_init 5 = .ok (.iload_n 1, 1) := by decide +kernel
theorem d_U_init_6 : decode b_U_init 6 = .ok (.putfield 7, 3) := by decide +kernel
theorem d_U_init_9 : decode b_U_init 9 = .ok (.aload_n 0, 1) := by decide +kernel
theorem d_U_init_10 : decode b_U_init 10 = .ok (.aload_n 2, 1) := by decide +kernel
theorem d_U_init_11 : decode b_U_init 11 = .ok (.putfield 13, 3) := by decide +kernel
theorem d_U_init_14 : decode b_U_init 14 = .ok (.aload_n 0, 1) := by decide +kernel
theorem d_U_init_15 : decode b_U_init 15 = .ok (.iload_n 3, 1) := by decide +kernel
theorem d_U_init_16 : decode b_U_init 16 = .ok (.putfield 17, 3) := by decide +kernel
theorem d_U_init_19 : decode b_U_init 19 = .ok (.aload_n 0, 1) := by decide +kernel
theorem d_U_init_20 : decode b_U_init 20 = .ok (.iload 4, 2) := by decide +kernel
theorem d_U_init_22 : decode b_U_init 22 = .ok (.putfield 20, 3) := by decide +kernel
theorem d_U_init_25 : decode b_U_init 25 = .ok (.return_, 1) := by decide +kernel
abbrev b_R_word : ByteArray := prog_1_method_6_code
def y_R_word : MethodName := ⟨"RedactCheck", "word", "()I"⟩
theorem d_R_word_0 : decode b_R_word 0 = .ok (.aload_n 0, 1) := by decide +kernel
theorem d_R_word_1 : decode b_R_word 1 = .ok (.getfield 22, 3) := by decide +kernel
theorem d_R_word_4 : decode b_R_word 4 = .ok (.invokevirtual 62, 3) := by decide +kernel
theorem d_R_word_7 : decode b_R_word 7 = .ok (.iconst 4, 1) := by decide +kernel
theorem d_R_word_8 : decode b_R_word 8 = .ok (.invokestatic 66, 3) := by decide +kernel
theorem d_R_word_11 : decode b_R_word 11 = .ok (.aload_n 0, 1) := by decide +kernel
theorem d_R_word_12 : decode b_R_word 12 = .ok (.getfield 22, 3) := by decide +kernel
theorem d_R_word_15 : decode b_R_word 15 = .ok (.new 82, 3) := by decide +kernel
theorem d_R_word_18 : decode b_R_word 18 = .ok (.dup, 1) := by decide +kernel
theorem d_R_word_19 : decode b_R_word 19 = .ok (.invokespecial 84, 3) := by decide +kernel
theorem d_R_word_22 : decode b_R_word 22 = .ok (.invokevirtual 50, 3) := by decide +kernel
theorem d_R_word_25 : decode b_R_word 25 = .ok (.pop, 1) := by decide +kernel
theorem d_R_word_26 : decode b_R_word 26 = .ok (.aload_n 0, 1) := by decide +kernel
theorem d_R_word_27 : decode b_R_word 27 = .ok (.getfield 22, 3) := by decide +kernel
theorem d_R_word_30 : decode b_R_word 30 = .ok (.invokevirtual 62, 3) := by decide +kernel
theorem d_R_word_33 : decode b_R_word 33 = .ok (.iconst 1, 1) := by decide +kernel
theorem d_R_word_34 : decode b_R_word 34 = .ok (.isub, 1) := by decide +kernel
theorem d_R_word_35 : decode b_R_word 35 = .ok (.ireturn, 1) := by decide +kernel
abbrev b_D_init : ByteArray := prog_9_method_1_code
def y_D_init : MethodName := ⟨"RedactCheck$Word", "<init>", "()V"⟩
theorem d_D_init_0 : decode b_D_init 0 = .ok (.aload_n 0, 1) := by decide +kernel
theorem d_D_init_1 : decode b_D_init 1 = .ok (.invokespecial 3, 3) := by decide +kernel
theorem d_D_init_4 : decode b_D_init 4 = .ok (.aload_n 0, 1) := by decide +kernel
theorem d_D_init_5 : decode b_D_init 5 = .ok (.bipush 8, 2) := by decide +kernel
theorem d_D_init_7 : decode b_D_init 7 = .ok (.newarray .int, 2) := by decide +kernel
theorem d_D_init_9 : decode b_D_init 9 = .ok (.putfield 9, 3) := by decide +kernel
theorem d_D_init_12 : decode b_D_init 12 = .ok (.return_, 1) := by decide +kernel
abbrev b_R_letter : ByteArray := prog_1_method_7_code
def y_R_letter : MethodName := ⟨"RedactCheck", "letter", "(II)I"⟩
theorem d_R_letter_0 : decode b_R_letter 0 = .ok (.aload_n 0, 1) := by decide +kernel
theorem d_R_letter_1 : decode b_R_letter 1 = .ok (.iload_n 1, 1) := by decide +kernel
theorem d_R_letter_2 : decode b_R_letter 2 = .ok (.invokevirtual 85, 3) := by decide +kernel
theorem d_R_letter_5 : decode b_R_letter 5 = .ok (.astore_n 3, 1) := by decide +kernel
theorem d_R_letter_6 : decode b_R_letter 6 = .ok (.iload_n 2, 1) := by decide +kernel
theorem d_R_letter_7 : decode b_R_letter 7 = .ok (.bipush 33, 2) := by decide +kernel
theorem d_R_letter_9 : decode b_R_letter 9 = .ok (.bipush 126, 2) := by decide +kernel
theorem d_R_letter_11 : decode b_R_letter 11 = .ok (.invokestatic 73, 3) := by decide +kernel
theorem d_R_letter_14 : decode b_R_letter 14 = .ok (.iload_n 2, 1) := by decide +kernel
theorem d_R_letter_15 : decode b_R_letter 15 = .ok (.bipush 42, 2) := by decide +kernel
theorem d_R_letter_17 : decode b_R_letter 17 = .ok (.if_icmp .ne 13, 3) := by decide +kernel
theorem d_R_letter_20 : decode b_R_letter 20 = .ok (.new 89, 3) := by decide +kernel
theorem d_R_letter_23 : decode b_R_letter 23 = .ok (.dup, 1) := by decide +kernel
theorem d_R_letter_24 : decode b_R_letter 24 = .ok (.ldc 91, 2) := by decide +kernel
theorem d_R_letter_26 : decode b_R_letter 26 = .ok (.invokespecial 93, 3) := by decide +kernel
theorem d_R_letter_29 : decode b_R_letter 29 = .ok (.athrow, 1) := by decide +kernel
theorem d_R_letter_30 : decode b_R_letter 30 = .ok (.aload_n 3, 1) := by decide +kernel
theorem d_R_letter_31 : decode b_R_letter 31 = .ok (.getfield 96, 3) := by decide +kernel
theorem d_R_letter_34 : decode b_R_letter 34 = .ok (.bipush 8, 2) := by decide +kernel
theorem d_R_letter_36 : decode b_R_letter 36 = .ok (.invokestatic 66, 3) := by decide +kernel
theorem d_R_letter_39 : decode b_R_letter 39 = .ok (.aload_n 3, 1) := by decide +kernel
theorem d_R_letter_40 : decode b_R_letter 40 = .ok (.iload_n 2, 1) := by decide +kernel
theorem d_R_letter_41 : decode b_R_letter 41 = .ok (.invokevirtual 100, 3) := by decide +kernel
theorem d_R_letter_44 : decode b_R_letter 44 = .ok (.aload_n 3, 1) := by decide +kernel
theorem d_R_letter_45 : decode b_R_letter 45 = .ok (.getfield 96, 3) := by decide +kernel
theorem d_R_letter_48 : decode b_R_letter 48 = .ok (.ireturn, 1) := by decide +kernel
abbrev b_R_wordOf : ByteArray := prog_1_method_23_code
def y_R_wordOf : MethodName := ⟨"RedactCheck", "wordOf", "(I)LRedactCheck$Word;"⟩
theorem d_R_wordOf_0 : decode b_R_wordOf 0 = .ok (.iload_n 1, 1) := by decide +kernel
theorem d_R_wordOf_1 : decode b_R_wordOf 1 = .ok (.ifCond .lt 14, 3) := by decide +kernel
theorem d_R_wordOf_4 : decode b_R_wordOf 4 = .ok (.iload_n 1, 1) := by decide +kernel
theorem d_R_wordOf_5 : decode b_R_wordOf 5 = .ok (.aload_n 0, 1) := by decide +kernel
theorem d_R_wordOf_6 : decode b_R_wordOf 6 = .ok (.getfield 22, 3) := by decide +kernel
theorem d_R_wordOf_9 : decode b_R_wordOf 9 = .ok (.invokevirtual 62, 3) := by decide +kernel
theorem d_R_wordOf_12 : decode b_R_wordOf 12 = .ok (.if_icmp .lt 13, 3) := by decide +kernel
theorem d_R_wordOf_15 : decode b_R_wordOf 15 = .ok (.new 167, 3) := by decide +kernel
theorem d_R_wordOf_18 : decode b_R_wordOf 18 = .ok (.dup, 1) := by decide +kernel
theorem d_R_wordOf_19 : decode b_R_wordOf 19 = .ok (.ldc 185, 2) := by decide +kernel
theorem d_R_wordOf_21 : decode b_R_wordOf 21 = .ok (.invokespecial 171, 3) := by decide +kernel
theorem d_R_wordOf_24 : decode b_R_wordOf 24 = .ok (.athrow, 1) := by decide +kernel
theorem d_R_wordOf_25 : decode b_R_wordOf 25 = .ok (.aload_n 0, 1) := by decide +kernel
theorem d_R_wordOf_26 : decode b_R_wordOf 26 = .ok (.getfield 22, 3) := by decide +kernel
theorem d_R_wordOf_29 : decode b_R_wordOf 29 = .ok (.iload_n 1, 1) := by decide +kernel
theorem d_R_wordOf_30 : decode b_R_wordOf 30 = .ok (.invokevirtual 138, 3) := by decide +kernel
theorem d_R_wordOf_33 : decode b_R_wordOf 33 = .ok (.checkcast 82, 3) := by decide +kernel
theorem d_R_wordOf_36 : decode b_R_wordOf 36 = .ok (.areturn, 1) := by decide +kernel
abbrev b_D_add : ByteArray := prog_9_method_2_code
def y_D_add : MethodName := ⟨"RedactCheck$Word", "add", "(I)V"⟩
theorem d_D_add_0 : decode b_D_add 0 = .ok (.aload_n 0, 1) := by decide +kernel
theorem d_D_add_1 : decode b_D_add 1 = .ok (.getfield 15, 3) := by decide +kernel
theorem d_D_add_4 : decode b_D_add 4 = .ok (.ifCond .lt 35, 3) := by decide +kernel
theorem d_D_add_7 : decode b_D_add 7 = .ok (.aload_n 0, 1) := by decide +kernel
theorem d_D_add_8 : decode b_D_add 8 = .ok (.getfield 15, 3) := by decide +kernel
theorem d_D_add_11 : decode b_D_add 11 = .ok (.aload_n 0, 1) := by decide +kernel
theorem d_D_add_12 : decode b_D_add 12 = .ok (.getfield 9, 3) := by decide +kernel
theorem d_D_add_15 : decode b_D_add 15 = .ok (.arraylength, 1) := by decide +kernel
theorem d_D_add_16 : decode b_D_add 16 = .ok (.if_icmp .ge 23, 3) := by decide +kernel
theorem d_D_add_19 : decode b_D_add 19 = .ok (.aload_n 0, 1) := by decide +kernel
theorem d_D_add_20 : decode b_D_add 20 = .ok (.getfield 9, 3) := by decide +kernel
theorem d_D_add_23 : decode b_D_add 23 = .ok (.aload_n 0, 1) := by decide +kernel
theorem d_D_add_24 : decode b_D_add 24 = .ok (.getfield 15, 3) := by decide +kernel
theorem d_D_add_27 : decode b_D_add 27 = .ok (.iload_n 1, 1) := by decide +kernel
theorem d_D_add_28 : decode b_D_add 28 = .ok (.iastore, 1) := by decide +kernel
theorem d_D_add_29 : decode b_D_add 29 = .ok (.aload_n 0, 1) := by decide +kernel
theorem d_D_add_30 : decode b_D_add 30 = .ok (.dup, 1) := by decide +kernel
theorem d_D_add_31 : decode b_D_add 31 = .ok (.getfield 15, 3) := by decide +kernel
theorem d_D_add_34 : decode b_D_add 34 = .ok (.iconst 1, 1) := by decide +kernel
theorem d_D_add_35 : decode b_D_add 35 = .ok (.iadd, 1) := by decide +kernel
theorem d_D_add_36 : decode b_D_add 36 = .ok (.putfield 15, 3) := by decide +kernel
theorem d_D_add_39 : decode b_D_add 39 = .ok (.return_, 1) := by decide +kernel
abbrev b_R_area : ByteArray := prog_1_method_8_code
def y_R_area : MethodName := ⟨"RedactCheck", "area", "(IIIII)I"⟩
theorem d_R_area_0 : decode b_R_area 0 = .ok (.iload_n 1, 1) := by decide +kernel
theorem d_R_area_1 : decode b_R_area 1 = .ok (.iconst 4, 1) := by decide +kernel
theorem d_R_area_2 : decode b_R_area 2 = .ok (.invokestatic 70, 3) := by decide +kernel
theorem d_R_area_5 : decode b_R_area 5 = .ok (.iload_n 2, 1) := by decide +kernel
theorem d_R_area_6 : decode b_R_area 6 = .ok (.sipush (-999), 3) := by decide +kernel
theorem d_R_area_9 : decode b_R_area 9 = .ok (.sipush 999, 3) := by decide +kernel
theorem d_R_area_12 : decode b_R_area 12 = .ok (.invokestatic 73, 3) := by decide +kernel
theorem d_R_area_15 : decode b_R_area 15 = .ok (.iload_n 3, 1) := by decide +kernel
theorem d_R_area_16 : decode b_R_area 16 = .ok (.sipush (-999), 3) := by decide +kernel
theorem d_R_area_19 : decode b_R_area 19 = .ok (.sipush 999, 3) := by decide +kernel
theorem d_R_area_22 : decode b_R_area 22 = .ok (.invokestatic 73, 3) := by decide +kernel
theorem d_R_area_25 : decode b_R_area 25 = .ok (.iload 4, 2) := by decide +kernel
theorem d_R_area_27 : decode b_R_area 27 = .ok (.iconst 0, 1) := by decide +kernel
theorem d_R_area_28 : decode b_R_area 28 = .ok (.sipush 1999, 3) := by decide +kernel
theorem d_R_area_31 : decode b_R_area 31 = .ok (.invokestatic 73, 3) := by decide +kernel
theorem d_R_area_34 : decode b_R_area 34 = .ok (.iload 5, 2) := by decide +kernel
theorem d_R_area_36 : decode b_R_area 36 = .ok (.iconst 0, 1) := by decide +kernel
theorem d_R_area_37 : decode b_R_area 37 = .ok (.sipush 1999, 3) := by decide +kernel
theorem d_R_area_40 : decode b_R_area 40 = .ok (.invokestatic 73, 3) := by decide +kernel
theorem d_R_area_43 : decode b_R_area 43 = .ok (.aload_n 0, 1) := by decide +kernel
theorem d_R_area_44 : decode b_R_area 44 = .ok (.getfield 25, 3) := by decide +kernel
theorem d_R_area_47 : decode b_R_area 47 = .ok (.invokevirtual 62, 3) := by decide +kernel
theorem d_R_area_50 : decode b_R_area 50 = .ok (.bipush 8, 2) := by decide +kernel
theorem d_R_area_52 : decode b_R_area 52 = .ok (.invokestatic 66, 3) := by decide +kernel
theorem d_R_area_55 : decode b_R_area 55 = .ok (.aload_n 0, 1) := by decide +kernel
theorem d_R_area_56 : decode b_R_area 56 = .ok (.getfield 25, 3) := by decide +kernel
theorem d_R_area_59 : decode b_R_area 59 = .ok (.new 102, 3) := by decide +kernel
theorem d_R_area_62 : decode b_R_area 62 = .ok (.dup, 1) := by decide +kernel
theorem d_R_area_63 : decode b_R_area 63 = .ok (.iload_n 1, 1) := by decide +kernel
theorem d_R_area_64 : decode b_R_area 64 = .ok (.iload_n 2, 1) := by decide +kernel
theorem d_R_area_65 : decode b_R_area 65 = .ok (.iload_n 3, 1) := by decide +kernel
theorem d_R_area_66 : decode b_R_area 66 = .ok (.iload 4, 2) := by decide +kernel
theorem d_R_area_68 : decode b_R_area 68 = .ok (.iload 5, 2) := by decide +kernel
theorem d_R_area_70 : decode b_R_area 70 = .ok (.invokespecial 104, 3) := by decide +kernel
theorem d_R_area_73 : decode b_R_area 73 = .ok (.invokevirtual 50, 3) := by decide +kernel
theorem d_R_area_76 : decode b_R_area 76 = .ok (.pop, 1) := by decide +kernel
theorem d_R_area_77 : decode b_R_area 77 = .ok (.aload_n 0, 1) := by decide +kernel
theorem d_R_area_78 : decode b_R_area 78 = .ok (.getfield 25, 3) := by decide +kernel
theorem d_R_area_81 : decode b_R_area 81 = .ok (.invokevirtual 62, 3) := by decide +kernel
theorem d_R_area_84 : decode b_R_area 84 = .ok (.ireturn, 1) := by decide +kernel
abbrev b_A_init : ByteArray := prog_2_method_1_code
def y_A_init : MethodName := ⟨"RedactCheck$Area", "<init>", "(IIIII)V"⟩
theorem d_A_init_0 : decode b_A_init 0 = .ok (.aload_n 0, 1) := by decide +kernel
theorem d_A_init_1 : decode b_A_init 1 = .ok (.invokespecial 3, 3) := by decide +kernel
theorem d_A_init_4 : decode b_A_init 4 = .ok (.aload_n 0, 1) := by decide +kernel
theorem d_A_init_5 : decode b_A_init 5 = .ok (.iload_n 1, 1) := by decide +kernel
theorem d_A_init_6 : decode b_A_init 6 = .ok (.putfield 9, 3) := by decide +kernel
theorem d_A_init_9 : decode b_A_init 9 = .ok (.aload_n 0, 1) := by decide +kernel
theorem d_A_init_10 : decode b_A_init 10 = .ok (.iload_n 2, 1) := by decide +kernel
theorem d_A_init_11 : decode b_A_init 11 = .ok (.putfield 15, 3) := by decide +kernel
theorem d_A_init_14 : decode b_A_init 14 = .ok (.aload_n 0, 1) := by decide +kernel
theorem d_A_init_15 : decode b_A_init 15 = .ok (.iload_n 3, 1) := by decide +kernel
theorem d_A_init_16 : decode b_A_init 16 = .ok (.putfield 18, 3) := by decide +kernel
theorem d_A_init_19 : decode b_A_init 19 = .ok (.aload_n 0, 1) := by decide +kernel
theorem d_A_init_20 : decode b_A_init 20 = .ok (.iload 4, 2) := by decide +kernel
theorem d_A_init_22 : decode b_A_init 22 = .ok (.putfield 21, 3) := by decide +kernel
theorem d_A_init_25 : decode b_A_init 25 = .ok (.aload_n 0, 1) := by decide +kernel
theorem d_A_init_26 : decode b_A_init 26 = .ok (.iload 5, 2) := by decide +kernel
theorem d_A_init_28 : decode b_A_init 28 = .ok (.putfield 24, 3) := by decide +kernel
theorem d_A_init_31 : decode b_A_init 31 = .ok (.return_, 1) := by decide +kernel
abbrev b_R_store : ByteArray := prog_1_method_9_code
def y_R_store : MethodName := ⟨"RedactCheck", "store", "(I)I"⟩
theorem d_R_store_0 : decode b_R_store 0 = .ok (.iload_n 1, 1) := by decide +kernel
theorem d_R_store_1 : decode b_R_store 1 = .ok (.iconst 0, 1) := by decide +kernel
theorem d_R_store_2 : decode b_R_store 2 = .ok (.iconst 3, 1) := by decide +kernel
theorem d_R_store_3 : decode b_R_store 3 = .ok (.invokestatic 73, 3) := by decide +kernel
theorem d_R_store_6 : decode b_R_store 6 = .ok (.aload_n 0, 1) := by decide +kernel
theorem d_R_store_7 : decode b_R_store 7 = .ok (.getfield 28, 3) := by decide +kernel
theorem d_R_store_10 : decode b_R_store 10 = .ok (.invokevirtual 62, 3) := by decide +kernel
theorem d_R_store_13 : decode b_R_store 13 = .ok (.bipush 8, 2) := by decide +kernel
theorem d_R_store_15 : decode b_R_store 15 = .ok (.invokestatic 66, 3) := by decide +kernel
theorem d_R_store_18 : decode b_R_store 18 = .ok (.aload_n 0, 1) := by decide +kernel
theorem d_R_store_19 : decode b_R_store 19 = .ok (.getfield 28, 3) := by decide +kernel
theorem d_R_store_22 : decode b_R_store 22 = .ok (.new 107, 3) := by decide +kernel
theorem d_R_store_25 : decode b_R_store 25 = .ok (.dup, 1) := by decide +kernel
theorem d_R_store_26 : decode b_R_store 26 = .ok (.iload_n 1, 1) := by decide +kernel
theorem d_R_store_27 : decode b_R_store 27 = .ok (.invokespecial 109, 3) := by decide +kernel
theorem d_R_store_30 : decode b_R_store 30 = .ok (.invokevirtual 50, 3) := by decide +kernel
theorem d_R_store_33 : decode b_R_store 33 = .ok (.pop, 1) := by decide +kernel
theorem d_R_store_34 : decode b_R_store 34 = .ok (.aload_n 0, 1) := by decide +kernel
theorem d_R_store_35 : decode b_R_store 35 = .ok (.getfield 28, 3) := by decide +kernel
theorem d_R_store_38 : decode b_R_store 38 = .ok (.invokevirtual 62, 3) := by decide +kernel
theorem d_R_store_41 : decode b_R_store 41 = .ok (.iconst 1, 1) := by decide +kernel
theorem d_R_store_42 : decode b_R_store 42 = .ok (.isub, 1) := by decide +kernel
theorem d_R_store_43 : decode b_R_store 43 = .ok (.ireturn, 1) := by decide +kernel
abbrev b_T_init : ByteArray := prog_7_method_1_code
def y_T_init : MethodName := ⟨"RedactCheck$Store", "<init>", "(I)V"⟩
theorem d_T_init_0 : decode b_T_init 0 = .ok (.aload_n 0, 1) := by decide +kernel
theorem d_T_init_1 : decode b_T_init 1 = .ok (.invokespecial 3, 3) := by decide +kernel
theorem d_T_init_4 : decode b_T_init 4 = .ok (.aload_n 0, 1) := by decide +kernel
theorem d_T_init_5 : decode b_T_init 5 = .ok (.bipush 60, 2) := by decide +kernel
theorem d_T_init_7 : decode b_T_init 7 = .ok (.newarray .byte, 2) := by decide +kernel
theorem d_T_init_9 : decode b_T_init 9 = .ok (.putfield 9, 3) := by decide +kernel
theorem d_T_init_12 : decode b_T_init 12 = .ok (.aload_n 0, 1) := by decide +kernel
theorem d_T_init_13 : decode b_T_init 13 = .ok (.iload_n 1, 1) := by decide +kernel
theorem d_T_init_14 : decode b_T_init 14 = .ok (.putfield 15, 3) := by decide +kernel
theorem d_T_init_17 : decode b_T_init 17 = .ok (.return_, 1) := by decide +kernel
abbrev b_R_octet : ByteArray := prog_1_method_10_code
def y_R_octet : MethodName := ⟨"RedactCheck", "octet", "(IB)I"⟩
theorem d_R_octet_0 : decode b_R_octet 0 = .ok (.aload_n 0, 1) := by decide +kernel
theorem d_R_octet_1 : decode b_R_octet 1 = .ok (.iload_n 1, 1) := by decide +kernel
theorem d_R_octet_2 : decode b_R_octet 2 = .ok (.invokevirtual 110, 3) := by decide +kernel
theorem d_R_octet_5 : decode b_R_octet 5 = .ok (.astore_n 3, 1) := by decide +kernel
theorem d_R_octet_6 : decode b_R_octet 6 = .ok (.aload_n 3, 1) := by decide +kernel
theorem d_R_octet_7 : decode b_R_octet 7 = .ok (.getfield 114, 3) := by decide +kernel
theorem d_R_octet_10 : decode b_R_octet 10 = .ok (.bipush 60, 2) := by decide +kernel
theorem d_R_octet_12 : decode b_R_octet 12 = .ok (.invokestatic 66, 3) := by decide +kernel
theorem d_R_octet_15 : decode b_R_octet 15 = .ok (.aload_n 3, 1) := by decide +kernel
theorem d_R_octet_16 : decode b_R_octet 16 = .ok (.iload_n 2, 1) := by decide +kernel
theorem d_R_octet_17 : decode b_R_octet 17 = .ok (.invokevirtual 115, 3) := by decide +kernel
theorem d_R_octet_20 : decode b_R_octet 20 = .ok (.aload_n 3, 1) := by decide +kernel
theorem d_R_octet_21 : decode b_R_octet 21 = .ok (.getfield 114, 3) := by decide +kernel
theorem d_R_octet_24 : decode b_R_octet 24 = .ok (.ireturn, 1) := by decide +kernel
abbrev b_R_storeOf : ByteArray := prog_1_method_24_code
def y_R_storeOf : MethodName := ⟨"RedactCheck", "storeOf", "(I)LRedactCheck$Store;"⟩
theorem d_R_storeOf_0 : decode b_R_storeOf 0 = .ok (.iload_n 1, 1) := by decide +kernel
theorem d_R_storeOf_1 : decode b_R_storeOf 1 = .ok (.ifCond .lt 14, 3) := by decide +kernel
theorem d_R_storeOf_4 : decode b_R_storeOf 4 = .ok (.iload_n 1, 1) := by decide +kernel
theorem d_R_storeOf_5 : decode b_R_storeOf 5 = .ok (.aload_n 0, 1) := by decide +kernel
theorem d_R_storeOf_6 : decode b_R_storeOf 6 = .ok (.getfield 28, 3) := by decide +kernel
theorem d_R_storeOf_9 : decode b_R_storeOf 9 = .ok (.invokevirtual 62, 3) := by decide +kernel
theorem d_R_storeOf_12 : decode b_R_storeOf 12 = .ok (.if_icmp .lt 13, 3) := by decide +kernel
theorem d_R_storeOf_15 : decode b_R_storeOf 15 = .ok (.new 167, 3) := by decide +kernel
theorem d_R_storeOf_18 : decode b_R_storeOf 18 = .ok (.dup, 1) := by decide +kernel
theorem d_R_storeOf_19 : decode b_R_storeOf 19 = .ok (.ldc 187, 2) := by decide +kernel
theorem d_R_storeOf_21 : decode b_R_storeOf 21 = .ok (.invokespecial 171, 3) := by decide +kernel
theorem d_R_storeOf_24 : decode b_R_storeOf 24 = .ok (.athrow, 1) := by decide +kernel
theorem d_R_storeOf_25 : decode b_R_storeOf 25 = .ok (.aload_n 0, 1) := by decide +kernel
theorem d_R_storeOf_26 : decode b_R_storeOf 26 = .ok (.getfield 28, 3) := by decide +kernel
theorem d_R_storeOf_29 : decode b_R_storeOf 29 = .ok (.iload_n 1, 1) := by decide +kernel
theorem d_R_storeOf_30 : decode b_R_storeOf 30 = .ok (.invokevirtual 138, 3) := by decide +kernel
theorem d_R_storeOf_33 : decode b_R_storeOf 33 = .ok (.checkcast 107, 3) := by decide +kernel
theorem d_R_storeOf_36 : decode b_R_storeOf 36 = .ok (.areturn, 1) := by decide +kernel
abbrev b_T_add : ByteArray := prog_7_method_2_code
def y_T_add : MethodName := ⟨"RedactCheck$Store", "add", "(B)V"⟩
theorem d_T_add_0 : decode b_T_add 0 = .ok (.aload_n 0, 1) := by decide +kernel
theorem d_T_add_1 : decode b_T_add 1 = .ok (.getfield 19, 3) := by decide +kernel
theorem d_T_add_4 : decode b_T_add 4 = .ok (.ifCond .lt 35, 3) := by decide +kernel
theorem d_T_add_7 : decode b_T_add 7 = .ok (.aload_n 0, 1) := by decide +kernel
theorem d_T_add_8 : decode b_T_add 8 = .ok (.getfield 19, 3) := by decide +kernel
theorem d_T_add_11 : decode b_T_add 11 = .ok (.aload_n 0, 1) := by decide +kernel
theorem d_T_add_12 : decode b_T_add 12 = .ok (.getfield 9, 3) := by decide +kernel
theorem d_T_add_15 : decode b_T_add 15 = .ok (.arraylength, 1) := by decide +kernel
theorem d_T_add_16 : decode b_T_add 16 = .ok (.if_icmp .ge 23, 3) := by decide +kernel
theorem d_T_add_19 : decode b_T_add 19 = .ok (.aload_n 0, 1) := by decide +kernel
theorem d_T_add_20 : decode b_T_add 20 = .ok (.getfield 9, 3) := by decide +kernel
theorem d_T_add_23 : decode b_T_add 23 = .ok (.aload_n 0, 1) := by decide +kernel
theorem d_T_add_24 : decode b_T_add 24 = .ok (.getfield 19, 3) := by decide +kernel
theorem d_T_add_27 : decode b_T_add 27 = .ok (.iload_n 1, 1) := by decide +kernel
theorem d_T_add_28 : decode b_T_add 28 = .ok (.bastore, 1) := by decide +kernel
theorem d_T_add_29 : decode b_T_add 29 = .ok (.aload_n 0, 1) := by decide +kernel
theorem d_T_add_30 : decode b_T_add 30 = .ok (.dup, 1) := by decide +kernel
theorem d_T_add_31 : decode b_T_add 31 = .ok (.getfield 19, 3) := by decide +kernel
theorem d_T_add_34 : decode b_T_add 34 = .ok (.iconst 1, 1) := by decide +kernel
theorem d_T_add_35 : decode b_T_add 35 = .ok (.iadd, 1) := by decide +kernel
theorem d_T_add_36 : decode b_T_add 36 = .ok (.putfield 19, 3) := by decide +kernel
theorem d_T_add_39 : decode b_T_add 39 = .ok (.return_, 1) := by decide +kernel
abbrev b_R_black : ByteArray := prog_1_method_11_code
def y_R_black : MethodName := ⟨"RedactCheck", "black", "()I"⟩
theorem d_R_black_0 : decode b_R_black 0 = .ok (.aload_n 0, 1) := by decide +kernel
theorem d_R_black_1 : decode b_R_black 1 = .ok (.getfield 16, 3) := by decide +kernel
theorem d_R_black_4 : decode b_R_black 4 = .ok (.invokevirtual 62, 3) := by decide +kernel
theorem d_R_black_7 : decode b_R_black 7 = .ok (.aload_n 0, 1) := by decide +kernel
theorem d_R_black_8 : decode b_R_black 8 = .ok (.invokevirtual 118, 3) := by decide +kernel
theorem d_R_black_11 : decode b_R_black 11 = .ok (.iadd, 1) := by decide +kernel
theorem d_R_black_12 : decode b_R_black 12 = .ok (.bipush 20, 2) := by decide +kernel
theorem d_R_black_14 : decode b_R_black 14 = .ok (.if_icmp .le 13, 3) := by decide +kernel
theorem d_R_black_17 : decode b_R_black 17 = .ok (.new 121, 3) := by decide +kernel
theorem d_R_black_20 : decode b_R_black 20 = .ok (.dup, 1) := by decide +kernel
theorem d_R_black_21 : decode b_R_black 21 = .ok (.ldc 123, 2) := by decide +kernel
theorem d_R_black_23 : decode b_R_black 23 = .ok (.invokespecial 125, 3) := by decide +kernel
theorem d_R_black_26 : decode b_R_black 26 = .ok (.athrow, 1) := by decide +kernel
theorem d_R_black_27 : decode b_R_black 27 = .ok (.aload_n 0, 1) := by decide +kernel
theorem d_R_black_28 : decode b_R_black 28 = .ok (.invokevirtual 126, 3) := by decide +kernel
theorem d_R_black_31 : decode b_R_black 31 = .ok (.aload_n 0, 1) := by decide +kernel
theorem d_R_black_32 : decode b_R_black 32 = .ok (.invokevirtual 129, 3) := by decide +kernel
theorem d_R_black_35 : decode b_R_black 35 = .ok (.iadd, 1) := by decide +kernel
theorem d_R_black_36 : decode b_R_black 36 = .ok (.aload_n 0, 1) := by decide +kernel
theorem d_R_black_37 : decode b_R_black 37 = .ok (.invokevirtual 132, 3) := by decide +kernel
theorem d_R_black_40 : decode b_R_black 40 = .ok (.iadd, 1) := by decide +kernel
theorem d_R_black_41 : decode b_R_black 41 = .ok (.ireturn, 1) := by decide +kernel
abbrev b_R_markUses : ByteArray := prog_1_method_26_code
def y_R_markUses : MethodName := ⟨"RedactCheck", "markUses", "()I"⟩
theorem d_R_markUses_0 : decode b_R_markUses 0 = .ok (.iconst 0, 1) := by decide +kernel
theorem d_R_markUses_1 : decode b_R_markUses 1 = .ok (.istore_n 1, 1) := by decide +kernel
theorem d_R_markUses_2 : decode b_R_markUses 2 = .ok (.iconst 0, 1) := by decide +kernel
theorem d_R_markUses_3 : decode b_R_markUses 3 = .ok (.istore_n 2, 1) := by decide +kernel
theorem d_R_markUses_4 : decode b_R_markUses 4 = .ok (.iload_n 2, 1) := by decide +kernel
theorem d_R_markUses_5 : decode b_R_markUses 5 = .ok (.aload_n 0, 1) := by decide +kernel
theorem d_R_markUses_6 : decode b_R_markUses 6 = .ok (.getfield 19, 3) := by decide +kernel
theorem d_R_markUses_9 : decode b_R_markUses 9 = .ok (.invokevirtual 62, 3) := by decide +kernel
theorem d_R_markUses_12 : decode b_R_markUses 12 = .ok (.if_icmp .ge 74, 3) := by decide +kernel
theorem d_R_markUses_15 : decode b_R_markUses 15 = .ok (.aload_n 0, 1) := by decide +kernel
theorem d_R_markUses_16 : decode b_R_markUses 16 = .ok (.getfield 19, 3) := by decide +kernel
theorem d_R_markUses_19 : decode b_R_markUses 19 = .ok (.iload_n 2, 1) := by decide +kernel
theorem d_R_markUses_20 : decode b_R_markUses 20 = .ok (.invokevirtual 138, 3) := by decide +kernel
theorem d_R_markUses_23 : decode b_R_markUses 23 = .ok (.checkcast 77, 3) := by decide +kernel
theorem d_R_markUses_26 : decode b_R_markUses 26 = .ok (.astore_n 3, 1) := by decide +kernel
theorem d_R_markUses_27 : decode b_R_markUses 27 = .ok (.aload_n 3, 1) := by decide +kernel
theorem d_R_markUses_28 : decode b_R_markUses 28 = .ok (.aload_n 0, 1) := by decide +kernel
theorem d_R_markUses_29 : decode b_R_markUses 29 = .ok (.aload_n 3, 1) := by decide +kernel
theorem d_R_markUses_30 : decode b_R_markUses 30 = .ok (.getfield 149, 3) := by decide +kernel
theorem d_R_markUses_33 : decode b_R_markUses 33 = .ok (.aload_n 3, 1) := by decide +kernel
theorem d_R_markUses_34 : decode b_R_markUses 34 = .ok (.getfield 192, 3) := by decide +kernel
theorem d_R_markUses_37 : decode b_R_markUses 37 = .ok (.aload_n 3, 1) := by decide +kernel
theorem d_R_markUses_38 : decode b_R_markUses 38 = .ok (.getfield 195, 3) := by decide +kernel
theorem d_R_markUses_41 : decode b_R_markUses 41 = .ok (.aload_n 3, 1) := by decide +kernel
theorem d_R_markUses_42 : decode b_R_markUses 42 = .ok (.getfield 198, 3) := by decide +kernel
theorem d_R_markUses_45 : decode b_R_markUses 45 = .ok (.invokevirtual 201, 3) := by decide +kernel
theorem d_R_markUses_48 : decode b_R_markUses 48 = .ok (.putfield 205, 3) := by decide +kernel
theorem d_R_markUses_51 : decode b_R_markUses 51 = .ok (.aload_n 3, 1) := by decide +kernel
theorem d_R_markUses_52 : decode b_R_markUses 52 = .ok (.aload_n 0, 1) := by decide +kernel
theorem d_R_markUses_53 : decode b_R_markUses 53 = .ok (.aload_n 3, 1) := by decide +kernel
theorem d_R_markUses_54 : decode b_R_markUses 54 = .ok (.iload_n 2, 1) := by decide +kernel
theorem d_R_markUses_55 : decode b_R_markUses 55 = .ok (.invokevirtual 209, 3) := by decide +kernel
theorem d_R_markUses_58 : decode b_R_markUses 58 = .ok (.putfield 213, 3) := by decide +kernel
theorem d_R_markUses_61 : decode b_R_markUses 61 = .ok (.aload_n 3, 1) := by decide +kernel
theorem d_R_markUses_62 : decode b_R_markUses 62 = .ok (.getfield 205, 3) := by decide +kernel
theorem d_R_markUses_65 : decode b_R_markUses 65 = .ok (.lconst 0, 1) := by decide +kernel
theorem d_R_markUses_66 : decode b_R_markUses 66 = .ok (.lcmp, 1) := by decide +kernel
theorem d_R_markUses_67 : decode b_R_markUses 67 = .ok (.ifCond .eq 13, 3) := by decide +kernel
theorem d_R_markUses_70 : decode b_R_markUses 70 = .ok (.aload_n 3, 1) := by decide +kernel
theorem d_R_markUses_71 : decode b_R_markUses 71 = .ok (.getfield 213, 3) := by decide +kernel
theorem d_R_markUses_74 : decode b_R_markUses 74 = .ok (.ifnonnull 6, 3) := by decide +kernel
theorem d_R_markUses_77 : decode b_R_markUses 77 = .ok (.iinc 1 1, 3) := by decide +kernel
theorem d_R_markUses_80 : decode b_R_markUses 80 = .ok (.iinc 2 1, 3) := by decide +kernel
theorem d_R_markUses_83 : decode b_R_markUses 83 = .ok (.goto (-79), 3) := by decide +kernel
theorem d_R_markUses_86 : decode b_R_markUses 86 = .ok (.iload_n 1, 1) := by decide +kernel
theorem d_R_markUses_87 : decode b_R_markUses 87 = .ok (.ireturn, 1) := by decide +kernel
abbrev b_R_marksOf : ByteArray := prog_1_method_32_code
def y_R_marksOf : MethodName := ⟨"RedactCheck", "marksOf", "(LRedactCheck$SignRow;III)J"⟩
theorem d_R_marksOf_0 : decode b_R_marksOf 0 = .ok (.aload_n 1, 1) := by decide +kernel
theorem d_R_marksOf_1 : decode b_R_marksOf 1 = .ok (.aload_n 0, 1) := by decide +kernel
theorem d_R_marksOf_2 : decode b_R_marksOf 2 = .ok (.getfield 41, 3) := by decide +kernel
theorem d_R_marksOf_5 : decode b_R_marksOf 5 = .ok (.invokevirtual 142, 3) := by decide +kernel
theorem d_R_marksOf_8 : decode b_R_marksOf 8 = .ok (.aload_n 0, 1) := by decide +kernel
theorem d_R_marksOf_9 : decode b_R_marksOf 9 = .ok (.invokevirtual 241, 3) := by decide +kernel
theorem d_R_marksOf_12 : decode b_R_marksOf 12 = .ok (.aload_n 0, 1) := by decide +kernel
theorem d_R_marksOf_13 : decode b_R_marksOf 13 = .ok (.aload_n 1, 1) := by decide +kernel
theorem d_R_marksOf_14 : decode b_R_marksOf 14 = .ok (.iload_n 2, 1) := by decide +kernel
theorem d_R_marksOf_15 : decode b_R_marksOf 15 = .ok (.iload_n 3, 1) := by decide +kernel
theorem d_R_marksOf_16 : decode b_R_marksOf 16 = .ok (.iload 4, 2) := by decide +kernel
theorem d_R_marksOf_18 : decode b_R_marksOf 18 = .ok (.invokevirtual 249, 3) := by decide +kernel
theorem d_R_marksOf_21 : decode b_R_marksOf 21 = .ok (.lor, 1) := by decide +kernel
theorem d_R_marksOf_22 : decode b_R_marksOf 22 = .ok (.lreturn, 1) := by decide +kernel
abbrev b_R_marksOfWords : ByteArray := prog_1_method_35_code
def y_R_marksOfWords : MethodName := ⟨"RedactCheck", "marksOfWords", "()J"⟩
theorem d_R_marksOfWords_0 : decode b_R_marksOfWords 0 = .ok (.lconst 0, 1) := by decide +kernel
theorem d_R_marksOfWords_1 : decode b_R_marksOfWords 1 = .ok (.lstore_n 1, 1) := by decide +kernel
theorem d_R_marksOfWords_2 : decode b_R_marksOfWords 2 = .ok (.iconst 0, 1) := by decide +kernel
theorem d_R_marksOfWords_3 : decode b_R_marksOfWords 3 = .ok (.istore_n 3, 1) := by decide +kernel
theorem d_R_marksOfWords_4 : decode b_R_marksOfWords 4 = .ok (.iload_n 3, 1) := by decide +kernel
theorem d_R_marksOfWords_5 : decode b_R_marksOfWords 5 = .ok (.aload_n 0, 1) := by decide +kernel
theorem d_R_marksOfWords_6 : decode b_R_marksOfWords 6 = .ok (.getfield 41, 3) := by decide +kernel
theorem d_R_marksOfWords_9 : decode b_R_marksOfWords 9 = .ok (.getfield 261, 3) := by decide +kernel
theorem d_R_marksOfWords_12 : decode b_R_marksOfWords 12 = .ok (.if_icmp .ge 71, 3) := by decide +kernel
theorem d_R_marksOfWords_15 : decode b_R_marksOfWords 15 = .ok (.iconst 0, 1) := by decide +kernel
theorem d_R_marksOfWords_16 : decode b_R_marksOfWords 16 = .ok (.istore 4, 2) := by decide +kernel
theorem d_R_marksOfWords_18 : decode b_R_marksOfWords 18 = .ok (.iload 4, 2) := by decide +kernel
theorem d_R_marksOfWords_20 : decode b_R_marksOfWords 20 = .ok (.aload_n 0, 1) := by decide +kernel
theorem d_R_marksOfWords_21 : decode b_R_marksOfWords 21 = .ok (.getfield 22, 3) := by decide +kernel
theorem d_R_marksOfWords_24 : decode b_R_marksOfWords 24 = .ok (.invokevirtual 62, 3) := by decide +kernel
theorem d_R_marksOfWords_27 : decode b_R_marksOfWords 27 = .ok (.if_icmp .ge 50, 3) := by decide +kernel
theorem d_R_marksOfWords_30 : decode b_R_marksOfWords 30 = .ok (.aload_n 0, 1) := by decide +kernel
theorem d_R_marksOfWords_31 : decode b_R_marksOfWords 31 = .ok (.getfield 22, 3) := by decide +kernel
theorem d_R_marksOfWords_34 : decode b_R_marksOfWords 34 = .ok (.iload 4, 2) := by decide +kernel
theorem d_R_marksOfWords_36 : decode b_R_marksOfWords 36 = .ok (.invokevirtual 138, 3) := by decide +kernel
theorem d_R_marksOfWords_39 : decode b_R_marksOfWords 39 = .ok (.checkcast 82, 3) := by decide +kernel
theorem d_R_marksOfWords_42 : decode b_R_marksOfWords 42 = .ok (.astore 5, 2) := by decide +kernel
theorem d_R_marksOfWords_44 : decode b_R_marksOfWords 44 = .ok (.aload 5, 2) := by decide +kernel
theorem d_R_marksOfWords_46 : decode b_R_marksOfWords 46 = .ok (.aload_n 0, 1) := by decide +kernel
theorem d_R_marksOfWords_47 : decode b_R_marksOfWords 47 = .ok (.getfield 41, 3) := by decide +kernel
theorem d_R_marksOfWords_50 : decode b_R_marksOfWords 50 = .ok (.iload_n 3, 1) := by decide +kernel
theorem d_R_marksOfWords_51 : decode b_R_marksOfWords 51 = .ok (.invokevirtual 262, 3) := by decide +kernel
theorem d_R_marksOfWords_54 : decode b_R_marksOfWords 54 = .ok (.ifCond .eq 17, 3) := by decide +kernel
theorem d_R_marksOfWords_57 : decode b_R_marksOfWords 57 = .ok (.lload_n 1, 1) := by decide +kernel
theorem d_R_marksOfWords_58 : decode b_R_marksOfWords 58 = .ok (.lconst 1, 1) := by decide +kernel
theorem d_R_marksOfWords_59 : decode b_R_marksOfWords 59 = .ok (.aload 5, 2) := by decide +kernel
theorem d_R_marksOfWords_61 : decode b_R_marksOfWords 61 = .ok (.getfield 96, 3) := by decide +kernel
theorem d_R_marksOfWords_64 : decode b_R_marksOfWords 64 = .ok (.lshl, 1) := by decide +kernel
theorem d_R_marksOfWords_65 : decode b_R_marksOfWords 65 = .ok (.lconst 1, 1) := by decide +kernel
theorem d_R_marksOfWords_66 : decode b_R_marksOfWords 66 = .ok (.lsub, 1) := by decide +kernel
theorem d_R_marksOfWords_67 : decode b_R_marksOfWords 67 = .ok (.iload_n 3, 1) := by decide +kernel
theorem d_R_marksOfWords_68 : decode b_R_marksOfWords 68 = .ok (.lshl, 1) := by decide +kernel
theorem d_R_marksOfWords_69 : decode b_R_marksOfWords 69 = .ok (.lor, 1) := by decide +kernel
theorem d_R_marksOfWords_70 : decode b_R_marksOfWords 70 = .ok (.lstore_n 1, 1) := by decide +kernel
theorem d_R_marksOfWords_71 : decode b_R_marksOfWords 71 = .ok (.iinc 4 1, 3) := by decide +kernel
theorem d_R_marksOfWords_74 : decode b_R_marksOfWords 74 = .ok (.goto (-56), 3) := by decide +kernel
theorem d_R_marksOfWords_77 : decode b_R_marksOfWords 77 = .ok (.iinc 3 1, 3) := by decide +kernel
theorem d_R_marksOfWords_80 : decode b_R_marksOfWords 80 = .ok (.goto (-76), 3) := by decide +kernel
theorem d_R_marksOfWords_83 : decode b_R_marksOfWords 83 = .ok (.lload_n 1, 1) := by decide +kernel
theorem d_R_marksOfWords_84 : decode b_R_marksOfWords 84 = .ok (.lreturn, 1) := by decide +kernel
abbrev b_R_marksOfAreas : ByteArray := prog_1_method_33_code
def y_R_marksOfAreas : MethodName := ⟨"RedactCheck", "marksOfAreas", "(LRedactCheck$SignRow;III)J"⟩
theorem d_R_marksOfAreas_0 : decode b_R_marksOfAreas 0 = .ok (.lconst 0, 1) := by decide +kernel
theorem d_R_marksOfAreas_1 : decode b_R_marksOfAreas 1 = .ok (.lstore 5, 2) := by decide +kernel
theorem d_R_marksOfAreas_3 : decode b_R_marksOfAreas 3 = .ok (.iconst 0, 1) := by decide +kernel
theorem d_R_marksOfAreas_4 : decode b_R_marksOfAreas 4 = .ok (.istore 7, 2) := by decide +kernel
theorem d_R_marksOfAreas_6 : decode b_R_marksOfAreas 6 = .ok (.iload 7, 2) := by decide +kernel
theorem d_R_marksOfAreas_8 : decode b_R_marksOfAreas 8 = .ok (.aload_n 1, 1) := by decide +kernel
theorem d_R_marksOfAreas_9 : decode b_R_marksOfAreas 9 = .ok (.getfield 161, 3) := by decide +kernel
theorem d_R_marksOfAreas_12 : decode b_R_marksOfAreas 12 = .ok (.if_icmp .ge 62, 3) := by decide +kernel
theorem d_R_marksOfAreas_15 : decode b_R_marksOfAreas 15 = .ok (.aload_n 1, 1) := by decide +kernel
theorem d_R_marksOfAreas_16 : decode b_R_marksOfAreas 16 = .ok (.iload 7, 2) := by decide +kernel
theorem d_R_marksOfAreas_18 : decode b_R_marksOfAreas 18 = .ok (.iconst 0, 1) := by decide +kernel
theorem d_R_marksOfAreas_19 : decode b_R_marksOfAreas 19 = .ok (.invokevirtual 162, 3) := by decide +kernel
theorem d_R_marksOfAreas_22 : decode b_R_marksOfAreas 22 = .ok (.ifCond .eq 46, 3) := by decide +kernel
theorem d_R_marksOfAreas_25 : decode b_R_marksOfAreas 25 = .ok (.aload_n 0, 1) := by decide +kernel
theorem d_R_marksOfAreas_26 : decode b_R_marksOfAreas 26 = .ok (.iload_n 2, 1) := by decide +kernel
theorem d_R_marksOfAreas_27 : decode b_R_marksOfAreas 27 = .ok (.aload_n 1, 1) := by decide +kernel
theorem d_R_marksOfAreas_28 : decode b_R_marksOfAreas 28 = .ok (.iload 7, 2) := by decide +kernel
theorem d_R_marksOfAreas_30 : decode b_R_marksOfAreas 30 = .ok (.iconst 1, 1) := by decide +kernel
theorem d_R_marksOfAreas_31 : decode b_R_marksOfAreas 31 = .ok (.invokevirtual 162, 3) := by decide +kernel
theorem d_R_marksOfAreas_34 : decode b_R_marksOfAreas 34 = .ok (.iload_n 3, 1) := by decide +kernel
theorem d_R_marksOfAreas_35 : decode b_R_marksOfAreas 35 = .ok (.iadd, 1) := by decide +kernel
theorem d_R_marksOfAreas_36 : decode b_R_marksOfAreas 36 = .ok (.aload_n 1, 1) := by decide +kernel
theorem d_R_marksOfAreas_37 : decode b_R_marksOfAreas 37 = .ok (.iload 7, 2) := by decide +kernel
theorem d_R_marksOfAreas_39 : decode b_R_marksOfAreas 39 = .ok (.iconst 2, 1) := by decide +kernel
theorem d_R_marksOfAreas_40 : decode b_R_marksOfAreas 40 = .ok (.invokevirtual 162, 3) := by decide +kernel
theorem d_R_marksOfAreas_43 : decode b_R_marksOfAreas 43 = .ok (.iload 4, 2) := by decide +kernel
theorem d_R_marksOfAreas_45 : decode b_R_marksOfAreas 45 = .ok (.iadd, 1) := by decide +kernel
theorem d_R_marksOfAreas_46 : decode b_R_marksOfAreas 46 = .ok (.aload_n 1, 1) := by decide +kernel
theorem d_R_marksOfAreas_47 : decode b_R_marksOfAreas 47 = .ok (.iload 7, 2) := by decide +kernel
theorem d_R_marksOfAreas_49 : decode b_R_marksOfAreas 49 = .ok (.iconst 3, 1) := by decide +kernel
theorem d_R_marksOfAreas_50 : decode b_R_marksOfAreas 50 = .ok (.invokevirtual 162, 3) := by decide +kernel
theorem d_R_marksOfAreas_53 : decode b_R_marksOfAreas 53 = .ok (.invokevirtual 252, 3) := by decide +kernel
theorem d_R_marksOfAreas_56 : decode b_R_marksOfAreas 56 = .ok (.ifCond .eq 12, 3) := by decide +kernel
theorem d_R_marksOfAreas_59 : decode b_R_marksOfAreas 59 = .ok (.lload 5, 2) := by decide +kernel
theorem d_R_marksOfAreas_61 : decode b_R_marksOfAreas 61 = .ok (.lconst 1, 1) := by decide +kernel
theorem d_R_marksOfAreas_62 : decode b_R_marksOfAreas 62 = .ok (.iload 7, 2) := by decide +kernel
theorem d_R_marksOfAreas_64 : decode b_R_marksOfAreas 64 = .ok (.lshl, 1) := by decide +kernel
theorem d_R_marksOfAreas_65 : decode b_R_marksOfAreas 65 = .ok (.lor, 1) := by decide +kernel
theorem d_R_marksOfAreas_66 : decode b_R_marksOfAreas 66 = .ok (.lstore 5, 2) := by decide +kernel
theorem d_R_marksOfAreas_68 : decode b_R_marksOfAreas 68 = .ok (.iinc 7 1, 3) := by decide +kernel
theorem d_R_marksOfAreas_71 : decode b_R_marksOfAreas 71 = .ok (.goto (-65), 3) := by decide +kernel
theorem d_R_marksOfAreas_74 : decode b_R_marksOfAreas 74 = .ok (.lload 5, 2) := by decide +kernel
theorem d_R_marksOfAreas_76 : decode b_R_marksOfAreas 76 = .ok (.lreturn, 1) := by decide +kernel
abbrev b_R_isInArea : ByteArray := prog_1_method_34_code
def y_R_isInArea : MethodName := ⟨"RedactCheck", "isInArea", "(IIII)Z"⟩
theorem d_R_isInArea_0 : decode b_R_isInArea 0 = .ok (.iconst 0, 1) := by decide +kernel
theorem d_R_isInArea_1 : decode b_R_isInArea 1 = .ok (.istore 5, 2) := by decide +kernel
theorem d_R_isInArea_3 : decode b_R_isInArea 3 = .ok (.iload 5, 2) := by decide +kernel
theorem d_R_isInArea_5 : decode b_R_isInArea 5 = .ok (.aload_n 0, 1) := by decide +kernel
theorem d_R_isInArea_6 : decode b_R_isInArea 6 = .ok (.getfield 25, 3) := by decide +kernel
theorem d_R_isInArea_9 : decode b_R_isInArea 9 = .ok (.invokevirtual 62, 3) := by decide +kernel
theorem d_R_isInArea_12 : decode b_R_isInArea 12 = .ok (.if_icmp .ge 46, 3) := by decide +kernel
theorem d_R_isInArea_15 : decode b_R_isInArea 15 = .ok (.aload_n 0, 1) := by decide +kernel
theorem d_R_isInArea_16 : decode b_R_isInArea 16 = .ok (.getfield 25, 3) := by decide +kernel
theorem d_R_isInArea_19 : decode b_R_isInArea 19 = .ok (.iload 5, 2) := by decide +kernel
theorem d_R_isInArea_21 : decode b_R_isInArea 21 = .ok (.invokevirtual 138, 3) := by decide +kernel
theorem d_R_isInArea_24 : decode b_R_isInArea 24 = .ok (.checkcast 102, 3) := by decide +kernel
theorem d_R_isInArea_27 : decode b_R_isInArea 27 = .ok (.astore 6, 2) := by decide +kernel
theorem d_R_isInArea_29 : decode b_R_isInArea 29 = .ok (.aload 6, 2) := by decide +kernel
theorem d_R_isInArea_31 : decode b_R_isInArea 31 = .ok (.getfield 256, 3) := by decide +kernel
theorem d_R_isInArea_34 : decode b_R_isInArea 34 = .ok (.iload_n 1, 1) := by decide +kernel
theorem d_R_isInArea_35 : decode b_R_isInArea 35 = .ok (.if_icmp .ne 17, 3) := by decide +kernel
theorem d_R_isInArea_38 : decode b_R_isInArea 38 = .ok (.aload 6, 2) := by decide +kernel
theorem d_R_isInArea_40 : decode b_R_isInArea 40 = .ok (.iload_n 2, 1) := by decide +kernel
theorem d_R_isInArea_41 : decode b_R_isInArea 41 = .ok (.iload_n 3, 1) := by decide +kernel
theorem d_R_isInArea_42 : decode b_R_isInArea 42 = .ok (.iload 4, 2) := by decide +kernel
theorem d_R_isInArea_44 : decode b_R_isInArea 44 = .ok (.invokevirtual 257, 3) := by decide +kernel
theorem d_R_isInArea_47 : decode b_R_isInArea 47 = .ok (.ifCond .eq 5, 3) := by decide +kernel
theorem d_R_isInArea_50 : decode b_R_isInArea 50 = .ok (.iconst 1, 1) := by decide +kernel
theorem d_R_isInArea_51 : decode b_R_isInArea 51 = .ok (.ireturn, 1) := by decide +kernel
theorem d_R_isInArea_52 : decode b_R_isInArea 52 = .ok (.iinc 5 1, 3) := by decide +kernel
theorem d_R_isInArea_55 : decode b_R_isInArea 55 = .ok (.goto (-52), 3) := by decide +kernel
theorem d_R_isInArea_58 : decode b_R_isInArea 58 = .ok (.iconst 0, 1) := by decide +kernel
theorem d_R_isInArea_59 : decode b_R_isInArea 59 = .ok (.ireturn, 1) := by decide +kernel
abbrev b_A_touches : ByteArray := prog_2_method_2_code
def y_A_touches : MethodName := ⟨"RedactCheck$Area", "touches", "(III)Z"⟩
theorem d_A_touches_0 : decode b_A_touches 0 = .ok (.aload_n 0, 1) := by decide +kernel
theorem d_A_touches_1 : decode b_A_touches 1 = .ok (.getfield 21, 3) := by decide +kernel
theorem d_A_touches_4 : decode b_A_touches 4 = .ok (.ifCond .le 61, 3) := by decide +kernel
theorem d_A_touches_7 : decode b_A_touches 7 = .ok (.aload_n 0, 1) := by decide +kernel
theorem d_A_touches_8 : decode b_A_touches 8 = .ok (.getfield 24, 3) := by decide +kernel
theorem d_A_touches_11 : decode b_A_touches 11 = .ok (.ifCond .le 54, 3) := by decide +kernel
theorem d_A_touches_14 : decode b_A_touches 14 = .ok (.iload_n 1, 1) := by decide +kernel
theorem d_A_touches_15 : decode b_A_touches 15 = .ok (.aload_n 0, 1) := by decide +kernel
theorem d_A_touches_16 : decode b_A_touches 16 = .ok (.getfield 15, 3) := by decide +kernel
theorem d_A_touches_19 : decode b_A_touches 19 = .ok (.aload_n 0, 1) := by decide +kernel
theorem d_A_touches_20 : decode b_A_touches 20 = .ok (.getfield 21, 3) := by decide +kernel
theorem d_A_touches_23 : decode b_A_touches 23 = .ok (.iadd, 1) := by decide +kernel
theorem d_A_touches_24 : decode b_A_touches 24 = .ok (.if_icmp .ge 41, 3) := by decide +kernel
theorem d_A_touches_27 : decode b_A_touches 27 = .ok (.aload_n 0, 1) := by decide +kernel
theorem d_A_touches_28 : decode b_A_touches 28 = .ok (.getfield 15, 3) := by decide +kernel
theorem d_A_touches_31 : decode b_A_touches 31 = .ok (.iload_n 1, 1) := by decide +kernel
theorem d_A_touches_32 : decode b_A_touches 32 = .ok (.iload_n 3, 1) := by decide +kernel
theorem d_A_touches_33 : decode b_A_touches 33 = .ok (.iadd, 1) := by decide +kernel
theorem d_A_touches_34 : decode b_A_touches 34 = .ok (.if_icmp .ge 31, 3) := by decide +kernel
theorem d_A_touches_37 : decode b_A_touches 37 = .ok (.iload_n 2, 1) := by decide +kernel
theorem d_A_touches_38 : decode b_A_touches 38 = .ok (.aload_n 0, 1) := by decide +kernel
theorem d_A_touches_39 : decode b_A_touches 39 = .ok (.getfield 18, 3) := by decide +kernel
theorem d_A_touches_42 : decode b_A_touches 42 = .ok (.aload_n 0, 1) := by decide +kernel
theorem d_A_touches_43 : decode b_A_touches 43 = .ok (.getfield 24, 3) := by decide +kernel
theorem d_A_touches_46 : decode b_A_touches 46 = .ok (.iadd, 1) := by decide +kernel
theorem d_A_touches_47 : decode b_A_touches 47 = .ok (.if_icmp .ge 18, 3) := by decide +kernel
theorem d_A_touches_50 : decode b_A_touches 50 = .ok (.aload_n 0, 1) := by decide +kernel
theorem d_A_touches_51 : decode b_A_touches 51 = .ok (.getfield 18, 3) := by decide +kernel
theorem d_A_touches_54 : decode b_A_touches 54 = .ok (.iload_n 2, 1) := by decide +kernel
theorem d_A_touches_55 : decode b_A_touches 55 = .ok (.bipush 10, 2) := by decide +kernel
theorem d_A_touches_57 : decode b_A_touches 57 = .ok (.iadd, 1) := by decide +kernel
theorem d_A_touches_58 : decode b_A_touches 58 = .ok (.if_icmp .ge 7, 3) := by decide +kernel
theorem d_A_touches_61 : decode b_A_touches 61 = .ok (.iconst 1, 1) := by decide +kernel
theorem d_A_touches_62 : decode b_A_touches 62 = .ok (.goto 4, 3) := by decide +kernel
theorem d_A_touches_65 : decode b_A_touches 65 = .ok (.iconst 0, 1) := by decide +kernel
theorem d_A_touches_66 : decode b_A_touches 66 = .ok (.ireturn, 1) := by decide +kernel
abbrev b_R_twinOf : ByteArray := prog_1_method_27_code
def y_R_twinOf : MethodName := ⟨"RedactCheck", "twinOf", "(LRedactCheck$Use;I)LRedactCheck$Use;"⟩
theorem d_R_twinOf_0 : decode b_R_twinOf 0 = .ok (.iconst 0, 1) := by decide +kernel
theorem d_R_twinOf_1 : decode b_R_twinOf 1 = .ok (.istore_n 3, 1) := by decide +kernel
theorem d_R_twinOf_2 : decode b_R_twinOf 2 = .ok (.iload_n 3, 1) := by decide +kernel
theorem d_R_twinOf_3 : decode b_R_twinOf 3 = .ok (.iload_n 2, 1) := by decide +kernel
theorem d_R_twinOf_4 : decode b_R_twinOf 4 = .ok (.if_icmp .ge 67, 3) := by decide +kernel
theorem d_R_twinOf_7 : decode b_R_twinOf 7 = .ok (.iload_n 3, 1) := by decide +kernel
theorem d_R_twinOf_8 : decode b_R_twinOf 8 = .ok (.aload_n 0, 1) := by decide +kernel
theorem d_R_twinOf_9 : decode b_R_twinOf 9 = .ok (.getfield 19, 3) := by decide +kernel
theorem d_R_twinOf_12 : decode b_R_twinOf 12 = .ok (.invokevirtual 62, 3) := by decide +kernel
theorem d_R_twinOf_15 : decode b_R_twinOf 15 = .ok (.if_icmp .ge 56, 3) := by decide +kernel
theorem d_R_twinOf_18 : decode b_R_twinOf 18 = .ok (.aload_n 0, 1) := by decide +kernel
theorem d_R_twinOf_19 : decode b_R_twinOf 19 = .ok (.getfield 19, 3) := by decide +kernel
theorem d_R_twinOf_22 : decode b_R_twinOf 22 = .ok (.iload_n 3, 1) := by decide +kernel
theorem d_R_twinOf_23 : decode b_R_twinOf 23 = .ok (.invokevirtual 138, 3) := by decide +kernel
theorem d_R_twinOf_26 : decode b_R_twinOf 26 = .ok (.checkcast 77, 3) := by decide +kernel
theorem d_R_twinOf_29 : decode b_R_twinOf 29 = .ok (.astore 4, 2) := by decide +kernel
theorem d_R_twinOf_31 : decode b_R_twinOf 31 = .ok (.aload 4, 2) := by decide +kernel
theorem d_R_twinOf_33 : decode b_R_twinOf 33 = .ok (.getfield 149, 3) := by decide +kernel
theorem d_R_twinOf_36 : decode b_R_twinOf 36 = .ok (.getfield 172, 3) := by decide +kernel
theorem d_R_twinOf_39 : decode b_R_twinOf 39 = .ok (.aload_n 1, 1) := by decide +kernel
theorem d_R_twinOf_40 : decode b_R_twinOf 40 = .ok (.getfield 149, 3) := by decide +kernel
theorem d_R_twinOf_43 : decode b_R_twinOf 43 = .ok (.getfield 172, 3) := by decide +kernel
theorem d_R_twinOf_46 : decode b_R_twinOf 46 = .ok (.if_icmp .ne 19, 3) := by decide +kernel
theorem d_R_twinOf_49 : decode b_R_twinOf 49 = .ok (.aload 4, 2) := by decide +kernel
theorem d_R_twinOf_51 : decode b_R_twinOf 51 = .ok (.getfield 205, 3) := by decide +kernel
theorem d_R_twinOf_54 : decode b_R_twinOf 54 = .ok (.aload_n 1, 1) := by decide +kernel
theorem d_R_twinOf_55 : decode b_R_twinOf 55 = .ok (.getfield 205, 3) := by decide +kernel
theorem d_R_twinOf_58 : decode b_R_twinOf 58 = .ok (.lcmp, 1) := by decide +kernel
theorem d_R_twinOf_59 : decode b_R_twinOf 59 = .ok (.ifCond .ne 6, 3) := by decide +kernel
theorem d_R_twinOf_62 : decode b_R_twinOf 62 = .ok (.aload 4, 2) := by decide +kernel
theorem d_R_twinOf_64 : decode b_R_twinOf 64 = .ok (.areturn, 1) := by decide +kernel
theorem d_R_twinOf_65 : decode b_R_twinOf 65 = .ok (.iinc 3 1, 3) := by decide +kernel
theorem d_R_twinOf_68 : decode b_R_twinOf 68 = .ok (.goto (-66), 3) := by decide +kernel
