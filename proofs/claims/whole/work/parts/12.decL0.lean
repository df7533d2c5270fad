abbrev b_L_sign : ByteArray := method_3_code
def y_L_sign : MethodName := ⟨"RedactCheckLaw", "sign", "(LRedactCheck;IIIII[J)I"⟩
theorem d_L_sign_0 : decode b_L_sign 0 = .ok (.aload 6, 2) := by decide +kernel
theorem d_L_sign_2 : decode b_L_sign 2 = .ok (.iconst 0, 1) := by decide +kernel
theorem d_L_sign_3 : decode b_L_sign 3 = .ok (.aload_n 0, 1) := by decide +kernel
theorem d_L_sign_4 : decode b_L_sign 4 = .ok (.iload_n 1, 1) := by decide +kernel
theorem d_L_sign_5 : decode b_L_sign 5 = .ok (.iload_n 2, 1) := by decide +kernel
theorem d_L_sign_6 : decode b_L_sign 6 = .ok (.iload_n 3, 1) := by decide +kernel
theorem d_L_sign_7 : decode b_L_sign 7 = .ok (.iload 4, 2) := by decide +kernel
theorem d_L_sign_9 : decode b_L_sign 9 = .ok (.iload 5, 2) := by decide +kernel
theorem d_L_sign_11 : decode b_L_sign 11 = .ok (.invokevirtual 7, 3) := by decide +kernel
theorem d_L_sign_14 : decode b_L_sign 14 = .ok (.i2l, 1) := by decide +kernel
theorem d_L_sign_15 : decode b_L_sign 15 = .ok (.lastore, 1) := by decide +kernel
theorem d_L_sign_16 : decode b_L_sign 16 = .ok (.goto 15, 3) := by decide +kernel
theorem d_L_sign_19 : decode b_L_sign 19 = .ok (.astore 7, 2) := by decide +kernel
theorem d_L_sign_21 : decode b_L_sign 21 = .ok (.iconst 1, 1) := by decide +kernel
theorem d_L_sign_22 : decode b_L_sign 22 = .ok (.ireturn, 1) := by decide +kernel
theorem d_L_sign_23 : decode b_L_sign 23 = .ok (.astore 7, 2) := by decide +kernel
theorem d_L_sign_25 : decode b_L_sign 25 = .ok (.iconst 2, 1) := by decide +kernel
theorem d_L_sign_26 : decode b_L_sign 26 = .ok (.ireturn, 1) := by decide +kernel
theorem d_L_sign_27 : decode b_L_sign 27 = .ok (.astore 7, 2) := by decide +kernel
theorem d_L_sign_29 : decode b_L_sign 29 = .ok (.iconst 3, 1) := by decide +kernel
theorem d_L_sign_30 : decode b_L_sign 30 = .ok (.ireturn, 1) := by decide +kernel
theorem d_L_sign_31 : decode b_L_sign 31 = .ok (.iconst 0, 1) := by decide +kernel
theorem d_L_sign_32 : decode b_L_sign 32 = .ok (.ireturn, 1) := by decide +kernel
abbrev b_L_form : ByteArray := method_4_code
def y_L_form : MethodName := ⟨"RedactCheckLaw", "form", "(LRedactCheck;[J)I"⟩
theorem d_L_form_0 : decode b_L_form 0 = .ok (.aload_n 1, 1) := by decide +kernel
theorem d_L_form_1 : decode b_L_form 1 = .ok (.iconst 0, 1) := by decide +kernel
theorem d_L_form_2 : decode b_L_form 2 = .ok (.aload_n 0, 1) := by decide +kernel
theorem d_L_form_3 : decode b_L_form 3 = .ok (.invokevirtual 19, 3) := by decide +kernel
theorem d_L_form_6 : decode b_L_form 6 = .ok (.i2l, 1) := by decide +kernel
theorem d_L_form_7 : decode b_L_form 7 = .ok (.lastore, 1) := by decide +kernel
theorem d_L_form_8 : decode b_L_form 8 = .ok (.goto 6, 3) := by decide +kernel
theorem d_L_form_11 : decode b_L_form 11 = .ok (.astore_n 2, 1) := by decide +kernel
theorem d_L_form_12 : decode b_L_form 12 = .ok (.iconst 1, 1) := by decide +kernel
theorem d_L_form_13 : decode b_L_form 13 = .ok (.ireturn, 1) := by decide +kernel
theorem d_L_form_14 : decode b_L_form 14 = .ok (.iconst 0, 1) := by decide +kernel
theorem d_L_form_15 : decode b_L_form 15 = .ok (.ireturn, 1) := by decide +kernel
abbrev b_L_formSign : ByteArray := method_5_code
def y_L_formSign : MethodName := ⟨"RedactCheckLaw", "formSign", "(LRedactCheck;IIIII[J)I"⟩
theorem d_L_formSign_0 : decode b_L_formSign 0 = .ok (.aload 6, 2) := by decide +kernel
theorem d_L_formSign_2 : decode b_L_formSign 2 = .ok (.iconst 0, 1) := by decide +kernel
theorem d_L_formSign_3 : decode b_L_formSign 3 = .ok (.aload_n 0, 1) := by decide +kernel
theorem d_L_formSign_4 : decode b_L_formSign 4 = .ok (.iload_n 1, 1) := by decide +kernel
theorem d_L_formSign_5 : decode b_L_formSign 5 = .ok (.iload_n 2, 1) := by decide +kernel
theorem d_L_formSign_6 : decode b_L_formSign 6 = .ok (.iload_n 3, 1) := by decide +kernel
theorem d_L_formSign_7 : decode b_L_formSign 7 = .ok (.iload 4, 2) := by decide +kernel
theorem d_L_formSign_9 : decode b_L_formSign 9 = .ok (.iload 5, 2) := by decide +kernel
theorem d_L_formSign_11 : decode b_L_formSign 11 = .ok (.invokevirtual 23, 3) := by decide +kernel
theorem d_L_formSign_14 : decode b_L_formSign 14 = .ok (.i2l, 1) := by decide +kernel
theorem d_L_formSign_15 : decode b_L_formSign 15 = .ok (.lastore, 1) := by decide +kernel
theorem d_L_formSign_16 : decode b_L_formSign 16 = .ok (.goto 15, 3) := by decide +kernel
theorem d_L_formSign_19 : decode b_L_formSign 19 = .ok (.astore 7, 2) := by decide +kernel
theorem d_L_formSign_21 : decode b_L_formSign 21 = .ok (.iconst 1, 1) := by decide +kernel
theorem d_L_formSign_22 : decode b_L_formSign 22 = .ok (.ireturn, 1) := by decide +kernel
theorem d_L_formSign_23 : decode b_L_formSign 23 = .ok (.astore 7, 2) := by decide +kernel
theorem d_L_formSign_25 : decode b_L_formSign 25 = .ok (.iconst 2, 1) := by decide +kernel
theorem d_L_formSign_26 : decode b_L_formSign 26 = .ok (.ireturn, 1) := by decide +kernel
theorem d_L_formSign_27 : decode b_L_formSign 27 = .ok (.astore 7, 2) := by decide +kernel
theorem d_L_formSign_29 : decode b_L_formSign 29 = .ok (.iconst 3, 1) := by decide +kernel
theorem d_L_formSign_30 : decode b_L_formSign 30 = .ok (.ireturn, 1) := by decide +kernel
theorem d_L_formSign_31 : decode b_L_formSign 31 = .ok (.iconst 0, 1) := by decide +kernel
theorem d_L_formSign_32 : decode b_L_formSign 32 = .ok (.ireturn, 1) := by decide +kernel
abbrev b_L_use : ByteArray := method_6_code
def y_L_use : MethodName := ⟨"RedactCheckLaw", "use", "(LRedactCheck;IIII[J)I"⟩
theorem d_L_use_0 : decode b_L_use 0 = .ok (.aload 5, 2) := by decide +kernel
theorem d_L_use_2 : decode b_L_use 2 = .ok (.iconst 0, 1) := by decide +kernel
theorem d_L_use_3 : decode b_L_use 3 = .ok (.aload_n 0, 1) := by decide +kernel
theorem d_L_use_4 : decode b_L_use 4 = .ok (.iload_n 1, 1) := by decide +kernel
theorem d_L_use_5 : decode b_L_use 5 = .ok (.iload_n 2, 1) := by decide +kernel
theorem d_L_use_6 : decode b_L_use 6 = .ok (.iload_n 3, 1) := by decide +kernel
theorem d_L_use_7 : decode b_L_use 7 = .ok (.iload 4, 2) := by decide +kernel
theorem d_L_use_9 : decode b_L_use 9 = .ok (.invokevirtual 26, 3) := by decide +kernel
theorem d_L_use_12 : decode b_L_use 12 = .ok (.i2l, 1) := by decide +kernel
theorem d_L_use_13 : decode b_L_use 13 = .ok (.lastore, 1) := by decide +kernel
theorem d_L_use_14 : decode b_L_use 14 = .ok (.goto 15, 3) := by decide +kernel
theorem d_L_use_17 : decode b_L_use 17 = .ok (.astore 6, 2) := by decide +kernel
theorem d_L_use_19 : decode b_L_use 19 = .ok (.iconst 1, 1) := by decide +kernel
theorem d_L_use_20 : decode b_L_use 20 = .ok (.ireturn, 1) := by decide +kernel
theorem d_L_use_21 : decode b_L_use 21 = .ok (.astore 6, 2) := by decide +kernel
theorem d_L_use_23 : decode b_L_use 23 = .ok (.iconst 2, 1) := by decide +kernel
theorem d_L_use_24 : decode b_L_use 24 = .ok (.ireturn, 1) := by decide +kernel
theorem d_L_use_25 : decode b_L_use 25 = .ok (.astore 6, 2) := by decide +kernel
theorem d_L_use_27 : decode b_L_use 27 = .ok (.iconst 3, 1) := by decide +kernel
theorem d_L_use_28 : decode b_L_use 28 = .ok (.ireturn, 1) := by decide +kernel
theorem d_L_use_29 : decode b_L_use 29 = .ok (.iconst 0, 1) := by decide +kernel
theorem d_L_use_30 : decode b_L_use 30 = .ok (.ireturn, 1) := by decide +kernel
abbrev b_L_word : ByteArray := method_7_code
def y_L_word : MethodName := ⟨"RedactCheckLaw", "word", "(LRedactCheck;[J)I"⟩
theorem d_L_word_0 : decode b_L_word 0 = .ok (.aload_n 1, 1) := by decide +kernel
theorem d_L_word_1 : decode b_L_word 1 = .ok (.iconst 0, 1) := by decide +kernel
theorem d_L_word_2 : decode b_L_word 2 = .ok (.aload_n 0, 1) := by decide +kernel
theorem d_L_word_3 : decode b_L_word 3 = .ok (.invokevirtual 30, 3) := by decide +kernel
theorem d_L_word_6 : decode b_L_word 6 = .ok (.i2l, 1) := by decide +kernel
theorem d_L_word_7 : decode b_L_word 7 = .ok (.lastore, 1) := by decide +kernel
theorem d_L_word_8 : decode b_L_word 8 = .ok (.goto 6, 3) := by decide +kernel
theorem d_L_word_11 : decode b_L_word 11 = .ok (.astore_n 2, 1) := by decide +kernel
theorem d_L_word_12 : decode b_L_word 12 = .ok (.iconst 1, 1) := by decide +kernel
theorem d_L_word_13 : decode b_L_word 13 = .ok (.ireturn, 1) := by decide +kernel
theorem d_L_word_14 : decode b_L_word 14 = .ok (.iconst 0, 1) := by decide +kernel
theorem d_L_word_15 : decode b_L_word 15 = .ok (.ireturn, 1) := by decide +kernel
abbrev b_L_letter : ByteArray := method_8_code
def y_L_letter : MethodName := ⟨"RedactCheckLaw", "letter", "(LRedactCheck;II[J)I"⟩
theorem d_L_letter_0 : decode b_L_letter 0 = .ok (.aload_n 3, 1) := by decide +kernel
theorem d_L_letter_1 : decode b_L_letter 1 = .ok (.iconst 0, 1) := by decide +kernel
theorem d_L_letter_2 : decode b_L_letter 2 = .ok (.aload_n 0, 1) := by decide +kernel
theorem d_L_letter_3 : decode b_L_letter 3 = .ok (.iload_n 1, 1) := by decide +kernel
theorem d_L_letter_4 : decode b_L_letter 4 = .ok (.iload_n 2, 1) := by decide +kernel
theorem d_L_letter_5 : decode b_L_letter 5 = .ok (.invokevirtual 33, 3) := by decide +kernel
theorem d_L_letter_8 : decode b_L_letter 8 = .ok (.i2l, 1) := by decide +kernel
theorem d_L_letter_9 : decode b_L_letter 9 = .ok (.lastore, 1) := by decide +kernel
theorem d_L_letter_10 : decode b_L_letter 10 = .ok (.goto 15, 3) := by decide +kernel
theorem d_L_letter_13 : decode b_L_letter 13 = .ok (.astore 4, 2) := by decide +kernel
theorem d_L_letter_15 : decode b_L_letter 15 = .ok (.iconst 1, 1) := by decide +kernel
theorem d_L_letter_16 : decode b_L_letter 16 = .ok (.ireturn, 1) := by decide +kernel
theorem d_L_letter_17 : decode b_L_letter 17 = .ok (.astore 4, 2) := by decide +kernel
theorem d_L_letter_19 : decode b_L_letter 19 = .ok (.iconst 2, 1) := by decide +kernel
theorem d_L_letter_20 : decode b_L_letter 20 = .ok (.ireturn, 1) := by decide +kernel
theorem d_L_letter_21 : decode b_L_letter 21 = .ok (.astore 4, 2) := by decide +kernel
theorem d_L_letter_23 : decode b_L_letter 23 = .ok (.iconst 3, 1) := by decide +kernel
theorem d_L_letter_24 : decode b_L_letter 24 = .ok (.ireturn, 1) := by decide +kernel
theorem d_L_letter_25 : decode b_L_letter 25 = .ok (.iconst 0, 1) := by decide +kernel
theorem d_L_letter_26 : decode b_L_letter 26 = .ok (.ireturn, 1) := by decide +kernel
abbrev b_L_area : ByteArray := method_9_code
def y_L_area : MethodName := ⟨"RedactCheckLaw", "area", "(LRedactCheck;IIIII[J)I"⟩
theorem d_L_area_0 : decode b_L_area 0 = .ok (.aload 6, 2) := by decide +kernel
theorem d_L_area_2 : decode b_L_area 2 = .ok (.iconst 0, 1) := by decide +kernel
theorem d_L_area_3 : decode b_L_area 3 = .ok (.aload_n 0, 1) := by decide +kernel
theorem d_L_area_4 : decode b_L_area 4 = .ok (.iload_n 1, 1) := by decide +kernel
theorem d_L_area_5 : decode b_L_area 5 = .ok (.iload_n 2, 1) := by decide +kernel
theorem d_L_area_6 : decode b_L_area 6 = .ok (.iload_n 3, 1) := by decide +kernel
theorem d_L_area_7 : decode b_L_area 7 = .ok (.iload 4, 2) := by decide +kernel
theorem d_L_area_9 : decode b_L_area 9 = .ok (.iload 5, 2) := by decide +kernel
theorem d_L_area_11 : decode b_L_area 11 = .ok (.invokevirtual 37, 3) := by decide +kernel
theorem d_L_area_14 : decode b_L_area 14 = .ok (.i2l, 1) := by decide +kernel
theorem d_L_area_15 : decode b_L_area 15 = .ok (.lastore, 1) := by decide +kernel
theorem d_L_area_16 : decode b_L_area 16 = .ok (.goto 15, 3) := by decide +kernel
theorem d_L_area_19 : decode b_L_area 19 = .ok (.astore 7, 2) := by decide +kernel
theorem d_L_area_21 : decode b_L_area 21 = .ok (.iconst 1, 1) := by decide +kernel
theorem d_L_area_22 : decode b_L_area 22 = .ok (.ireturn, 1) := by decide +kernel
theorem d_L_area_23 : decode b_L_area 23 = .ok (.astore 7, 2) := by decide +kernel
theorem d_L_area_25 : decode b_L_area 25 = .ok (.iconst 2, 1) := by decide +kernel
theorem d_L_area_26 : decode b_L_area 26 = .ok (.ireturn, 1) := by decide +kernel
theorem d_L_area_27 : decode b_L_area 27 = .ok (.astore 7, 2) := by decide +kernel
theorem d_L_area_29 : decode b_L_area 29 = .ok (.iconst 3, 1) := by decide +kernel
theorem d_L_area_30 : decode b_L_area 30 = .ok (.ireturn, 1) := by decide +kernel
theorem d_L_area_31 : decode b_L_area 31 = .ok (.iconst 0, 1) := by decide +kernel
theorem d_L_area_32 : decode b_L_area 32 = .ok (.ireturn, 1) := by decide +kernel
abbrev b_L_store : ByteArray := method_10_code
def y_L_store : MethodName := ⟨"RedactCheckLaw", "store", "(LRedactCheck;I[J)I"⟩
theorem d_L_store_0 : decode b_L_store 0 = .ok (.aload_n 2, 1) := by decide +kernel
theorem d_L_store_1 : decode b_L_store 1 = .ok (.iconst 0, 1) := by decide +kernel
theorem d_L_store_2 : decode b_L_store 2 = .ok (.aload_n 0, 1) := by decide +kernel
theorem d_L_store_3 : decode b_L_store 3 = .ok (.iload_n 1, 1) := by decide +kernel
theorem d_L_store_4 : decode b_L_store 4 = .ok (.invokevirtual 40, 3) := by decide +kernel
theorem d_L_store_7 : decode b_L_store 7 = .ok (.i2l, 1) := by decide +kernel
theorem d_L_store_8 : decode b_L_store 8 = .ok (.lastore, 1) := by decide +kernel
theorem d_L_store_9 : decode b_L_store 9 = .ok (.goto 9, 3) := by decide +kernel
theorem d_L_store_12 : decode b_L_store 12 = .ok (.astore_n 3, 1) := by decide +kernel
theorem d_L_store_13 : decode b_L_store 13 = .ok (.iconst 1, 1) := by decide +kernel
theorem d_L_store_14 : decode b_L_store 14 = .ok (.ireturn, 1) := by decide +kernel
theorem d_L_store_15 : decode b_L_store 15 = .ok (.astore_n 3, 1) := by decide +kernel
theorem d_L_store_16 : decode b_L_store 16 = .ok (.iconst 2, 1) := by decide +kernel
theorem d_L_store_17 : decode b_L_store 17 = .ok (.ireturn, 1) := by decide +kernel
theorem d_L_store_18 : decode b_L_store 18 = .ok (.iconst 0, 1) := by decide +kernel
theorem d_L_store_19 : decode b_L_store 19 = .ok (.ireturn, 1) := by decide +kernel
abbrev b_L_octet : ByteArray := method_11_code
def y_L_octet : MethodName := ⟨"RedactCheckLaw", "octet", "(LRedactCheck;IB[J)I"⟩
theorem d_L_octet_0 : decode b_L_octet 0 = .ok (.aload_n 3, 1) := by decide +kernel
theorem d_L_octet_1 : decode b_L_octet 1 = .ok (.iconst 0, 1) := by decide +kernel
theorem d_L_octet_2 : decode b_L_octet 2 = .ok (.aload_n 0, 1) := by decide +kernel
theorem d_L_octet_3 : decode b_L_octet 3 = .ok (.iload_n 1, 1) := by decide +kernel
theorem d_L_octet_4 : decode b_L_octet 4 = .ok (.iload_n 2, 1) := by decide +kernel
theorem d_L_octet_5 : decode b_L_octet 5 = .ok (.invokevirtual 44, 3) := by decide +kernel
theorem d_L_octet_8 : decode b_L_octet 8 = .ok (.i2l, 1) := by decide +kernel
theorem d_L_octet_9 : decode b_L_octet 9 = .ok (.lastore, 1) := by decide +kernel
theorem d_L_octet_10 : decode b_L_octet 10 = .ok (.goto 11, 3) := by decide +kernel
theorem d_L_octet_13 : decode b_L_octet 13 = .ok (.astore 4, 2) := by decide +kernel
theorem d_L_octet_15 : decode b_L_octet 15 = .ok (.iconst 1, 1) := by decide +kernel
theorem d_L_octet_16 : decode b_L_octet 16 = .ok (.ireturn, 1) := by decide +kernel
theorem d_L_octet_17 : decode b_L_octet 17 = .ok (.astore 4, 2) := by decide +kernel
theorem d_L_octet_19 : decode b_L_octet 19 = .ok (.iconst 2, 1) := by decide +kernel
theorem d_L_octet_20 : decode b_L_octet 20 = .ok (.ireturn, 1) := by decide +kernel
theorem d_L_octet_21 : decode b_L_octet 21 = .ok (.iconst 0, 1) := by decide +kernel
theorem d_L_octet_22 : decode b_L_octet 22 = .ok (.ireturn, 1) := by decide +kernel
abbrev b_L_black : ByteArray := method_12_code
def y_L_black : MethodName := ⟨"RedactCheckLaw", "black", "(LRedactCheck;[J)I"⟩
theorem d_L_black_0 : decode b_L_black 0 = .ok (.aload_n 1, 1) := by decide +kernel
theorem d_L_black_1 : decode b_L_black 1 = .ok (.iconst 0, 1) := by decide +kernel
theorem d_L_black_2 : decode b_L_black 2 = .ok (.aload_n 0, 1) := by decide +kernel
theorem d_L_black_3 : decode b_L_black 3 = .ok (.invokevirtual 48, 3) := by decide +kernel
theorem d_L_black_6 : decode b_L_black 6 = .ok (.i2l, 1) := by decide +kernel
theorem d_L_black_7 : decode b_L_black 7 = .ok (.lastore, 1) := by decide +kernel
theorem d_L_black_8 : decode b_L_black 8 = .ok (.goto 6, 3) := by decide +kernel
theorem d_L_black_11 : decode b_L_black 11 = .ok (.astore_n 2, 1) := by decide +kernel
theorem d_L_black_12 : decode b_L_black 12 = .ok (.iconst 1, 1) := by decide +kernel
theorem d_L_black_13 : decode b_L_black 13 = .ok (.ireturn, 1) := by decide +kernel
theorem d_L_black_14 : decode b_L_black 14 = .ok (.iconst 0, 1) := by decide +kernel
theorem d_L_black_15 : decode b_L_black 15 = .ok (.ireturn, 1) := by decide +kernel
abbrev b_L_left : ByteArray := method_13_code
def y_L_left : MethodName := ⟨"RedactCheckLaw", "left", "(LRedactCheck;II[J)I"⟩
theorem d_L_left_0 : decode b_L_left 0 = .ok (.aload_n 3, 1) := by decide +kernel
theorem d_L_left_1 : decode b_L_left 1 = .ok (.iconst 0, 1) := by decide +kernel
theorem d_L_left_2 : decode b_L_left 2 = .ok (.aload_n 0, 1) := by decide +kernel
theorem d_L_left_3 : decode b_L_left 3 = .ok (.iload_n 1, 1) := by decide +kernel
theorem d_L_left_4 : decode b_L_left 4 = .ok (.iload_n 2, 1) := by decide +kernel
theorem d_L_left_5 : decode b_L_left 5 = .ok (.invokevirtual 51, 3) := by decide +kernel
theorem d_L_left_8 : decode b_L_left 8 = .ok (.i2l, 1) := by decide +kernel
theorem d_L_left_9 : decode b_L_left 9 = .ok (.lastore, 1) := by decide +kernel
theorem d_L_left_10 : decode b_L_left 10 = .ok (.goto 7, 3) := by decide +kernel
theorem d_L_left_13 : decode b_L_left 13 = .ok (.astore 4, 2) := by decide +kernel
theorem d_L_left_15 : decode b_L_left 15 = .ok (.iconst 1, 1) := by decide +kernel
theorem d_L_left_16 : decode b_L_left 16 = .ok (.ireturn, 1) := by decide +kernel
theorem d_L_left_17 : decode b_L_left 17 = .ok (.iconst 0, 1) := by decide +kernel
theorem d_L_left_18 : decode b_L_left 18 = .ok (.ireturn, 1) := by decide +kernel
abbrev b_L_at : ByteArray := method_14_code
def y_L_at : MethodName := ⟨"RedactCheckLaw", "at", "(LRedactCheck;IIII[J)I"⟩
theorem d_L_at_0 : decode b_L_at 0 = .ok (.aload 5, 2) := by decide +kernel
theorem d_L_at_2 : decode b_L_at 2 = .ok (.iconst 0, 1) := by decide +kernel
theorem d_L_at_3 : decode b_L_at 3 = .ok (.aload_n 0, 1) := by decide +kernel
theorem d_L_at_4 : decode b_L_at 4 = .ok (.iload_n 1, 1) := by decide +kernel
theorem d_L_at_5 : decode b_L_at 5 = .ok (.iload_n 2, 1) := by decide +kernel
theorem d_L_at_6 : decode b_L_at 6 = .ok (.iload_n 3, 1) := by decide +kernel
theorem d_L_at_7 : decode b_L_at 7 = .ok (.iload 4, 2) := by decide +kernel
theorem d_L_at_9 : decode b_L_at 9 = .ok (.invokevirtual 54, 3) := by decide +kernel
theorem d_L_at_12 : decode b_L_at 12 = .ok (.i2l, 1) := by decide +kernel
theorem d_L_at_13 : decode b_L_at 13 = .ok (.lastore, 1) := by decide +kernel
theorem d_L_at_14 : decode b_L_at 14 = .ok (.goto 7, 3) := by decide +kernel
theorem d_L_at_17 : decode b_L_at 17 = .ok (.astore 6, 2) := by decide +kernel
theorem d_L_at_19 : decode b_L_at 19 = .ok (.iconst 1, 1) := by decide +kernel
theorem d_L_at_20 : decode b_L_at 20 = .ok (.ireturn, 1) := by decide +kernel
theorem d_L_at_21 : decode b_L_at 21 = .ok (.iconst 0, 1) := by decide +kernel
theorem d_L_at_22 : decode b_L_at 22 = .ok (.ireturn, 1) := by decide +kernel
abbrev b_L_byteOf : ByteArray := method_15_code
def y_L_byteOf : MethodName := ⟨"RedactCheckLaw", "byteOf", "(LRedactCheck;II[J)I"⟩
theorem d_L_byteOf_0 : decode b_L_byteOf 0 = .ok (.aload_n 3, 1) := by decide +kernel
theorem d_L_byteOf_1 : decode b_L_byteOf 1 = .ok (.iconst 0, 1) := by decide +kernel
theorem d_L_byteOf_2 : decode b_L_byteOf 2 = .ok (.aload_n 0, 1) := by decide +kernel
theorem d_L_byteOf_3 : decode b_L_byteOf 3 = .ok (.iload_n 1, 1) := by decide +kernel
theorem d_L_byteOf_4 : decode b_L_byteOf 4 = .ok (.iload_n 2, 1) := by decide +kernel
theorem d_L_byteOf_5 : decode b_L_byteOf 5 = .ok (.invokevirtual 57, 3) := by decide +kernel
theorem d_L_byteOf_8 : decode b_L_byteOf 8 = .ok (.i2l, 1) := by decide +kernel
theorem d_L_byteOf_9 : decode b_L_byteOf 9 = .ok (.lastore, 1) := by decide +kernel
theorem d_L_byteOf_10 : decode b_L_byteOf 10 = .ok (.goto 7, 3) := by decide +kernel
theorem d_L_byteOf_13 : decode b_L_byteOf 13 = .ok (.astore 4, 2) := by decide +kernel
theorem d_L_byteOf_15 : decode b_L_byteOf 15 = .ok (.iconst 1, 1) := by decide +kernel
theorem d_L_byteOf_16 : decode b_L_byteOf 16 = .ok (.ireturn, 1) := by decide +kernel
theorem d_L_byteOf_17 : decode b_L_byteOf 17 = .ok (.iconst 0, 1) := by decide +kernel
theorem d_L_byteOf_18 : decode b_L_byteOf 18 = .ok (.ireturn, 1) := by decide +kernel
abbrev b_L_formOf : ByteArray := method_16_code
def y_L_formOf : MethodName := ⟨"RedactCheckLaw", "formOf", "(LRedactCheck;I[J)I"⟩
theorem d_L_formOf_0 : decode b_L_formOf 0 = .ok (.aload_n 2, 1) := by decide +kernel
theorem d_L_formOf_1 : decode b_L_formOf 1 = .ok (.iconst 0, 1) := by decide +kernel
theorem d_L_formOf_2 : decode b_L_formOf 2 = .ok (.aload_n 0, 1) := by decide +kernel
theorem d_L_formOf_3 : decode b_L_formOf 3 = .ok (.iload_n 1, 1) := by decide +kernel
theorem d_L_formOf_4 : decode b_L_formOf 4 = .ok (.invokevirtual 61, 3) := by decide +kernel
theorem d_L_formOf_7 : decode b_L_formOf 7 = .ok (.i2l, 1) := by decide +kernel
theorem d_L_formOf_8 : decode b_L_formOf 8 = .ok (.lastore, 1) := by decide +kernel
theorem d_L_formOf_9 : decode b_L_formOf 9 = .ok (.goto 6, 3) := by decide +kernel
theorem d_L_formOf_12 : decode b_L_formOf 12 = .ok (.astore_n 3, 1) := by decide +kernel
theorem d_L_formOf_13 : decode b_L_formOf 13 = .ok (.iconst 1, 1) := by decide +kernel
theorem d_L_formOf_14 : decode b_L_formOf 14 = .ok (.ireturn, 1) := by decide +kernel
theorem d_L_formOf_15 : decode b_L_formOf 15 = .ok (.iconst 0, 1) := by decide +kernel
theorem d_L_formOf_16 : decode b_L_formOf 16 = .ok (.ireturn, 1) := by decide +kernel
abbrev b_L_many : ByteArray := method_17_code
def y_L_many : MethodName := ⟨"RedactCheckLaw", "many", "(LRedactCheck;II[J)I"⟩
theorem d_L_many_0 : decode b_L_many 0 = .ok (.aload_n 3, 1) := by decide +kernel
theorem d_L_many_1 : decode b_L_many 1 = .ok (.iconst 0, 1) := by decide +kernel
theorem d_L_many_2 : decode b_L_many 2 = .ok (.aload_n 0, 1) := by decide +kernel
theorem d_L_many_3 : decode b_L_many 3 = .ok (.iload_n 1, 1) := by decide +kernel
theorem d_L_many_4 : decode b_L_many 4 = .ok (.iload_n 2, 1) := by decide +kernel
theorem d_L_many_5 : decode b_L_many 5 = .ok (.invokevirtual 64, 3) := by decide +kernel
theorem d_L_many_8 : decode b_L_many 8 = .ok (.i2l, 1) := by decide +kernel
theorem d_L_many_9 : decode b_L_many 9 = .ok (.lastore, 1) := by decide +kernel
theorem d_L_many_10 : decode b_L_many 10 = .ok (.goto 7, 3) := by decide +kernel
theorem d_L_many_13 : decode b_L_many 13 = .ok (.astore 4, 2) := by decide +kernel
theorem d_L_many_15 : decode b_L_many 15 = .ok (.iconst 1, 1) := by decide +kernel
theorem d_L_many_16 : decode b_L_many 16 = .ok (.ireturn, 1) := by decide +kernel
theorem d_L_many_17 : decode b_L_many 17 = .ok (.iconst 0, 1) := by decide +kernel
theorem d_L_many_18 : decode b_L_many 18 = .ok (.ireturn, 1) := by decide +kernel
abbrev b_L_law : ByteArray := code
def y_L_law : MethodName := ⟨"RedactCheckLaw", "law", "([I)Z"⟩
theorem d_L_law_0 : decode b_L_law 0 = .ok (.new 8, 3) := by decide +kernel
theorem d_L_law_3 : decode b_L_law 3 = .ok (.dup, 1) := by decide +kernel
theorem d_L_law_4 : decode b_L_law 4 = .ok (.invokespecial 67, 3) := by decide +kernel
theorem d_L_law_7 : decode b_L_law 7 = .ok (.astore_n 1, 1) := by decide +kernel
theorem d_L_law_8 : decode b_L_law 8 = .ok (.new 68, 3) := by decide +kernel
theorem d_L_law_11 : decode b_L_law 11 = .ok (.dup, 1) := by decide +kernel
theorem d_L_law_12 : decode b_L_law 12 = .ok (.invokespecial 70, 3) := by decide +kernel
theorem d_L_law_15 : decode b_L_law 15 = .ok (.astore_n 2, 1) := by decide +kernel
theorem d_L_law_16 : decode b_L_law 16 = .ok (.iconst 1, 1) := by decide +kernel
theorem d_L_law_17 : decode b_L_law 17 = .ok (.newarray .long, 2) := by decide +kernel
theorem d_L_law_19 : decode b_L_law 19 = .ok (.astore_n 3, 1) := by decide +kernel
theorem d_L_law_20 : decode b_L_law 20 = .ok (.iconst 0, 1) := by decide +kernel
theorem d_L_law_21 : decode b_L_law 21 = .ok (.istore 4, 2) := by decide +kernel
theorem d_L_law_23 : decode b_L_law 23 = .ok (.iload 4, 2) := by decide +kernel
theorem d_L_law_25 : decode b_L_law 25 = .ok (.aload_n 0, 1) := by decide +kernel
theorem d_L_law_26 : decode b_L_law 26 = .ok (.arraylength, 1) := by decide +kernel
theorem d_L_law_27 : decode b_L_law 27 = .ok (.bipush 6, 2) := by decide +kernel
theorem d_L_law_29 : decode b_L_law 29 = .ok (.isub, 1) := by decide +kernel
theorem d_L_law_30 : decode b_L_law 30 = .ok (.if_icmp .gt 1220, 3) := by decide +kernel
theorem d_L_law_33 : decode b_L_law 33 = .ok (.aload_n 0, 1) := by decide +kernel
theorem d_L_law_34 : decode b_L_law 34 = .ok (.iload 4, 2) := by decide +kernel
theorem d_L_law_36 : decode b_L_law 36 = .ok (.iaload, 1) := by decide +kernel
theorem d_L_law_37 : decode b_L_law 37 = .ok (.bipush 31, 2) := by decide +kernel
theorem d_L_law_39 : decode b_L_law 39 = .ok (.iand, 1) := by decide +kernel
theorem d_L_law_40 : decode b_L_law 40 = .ok (.tableswitch 1204 0 16 #[84, 188, 232, 336, 428, 472, 540, 644, 700, 770, 814, 827, 895, 987, 1055, 1111, 1179], 84) := by decide +kernel
theorem d_L_law_124 : decode b_L_law 124 = .ok (.aload_n 1, 1) := by decide +kernel
theorem d_L_law_125 : decode b_L_law 125 = .ok (.aload_n 0, 1) := by decide +kernel
theorem d_L_law_126 : decode b_L_law 126 = .ok (.iload 4, 2) := by decide +kernel
theorem d_L_law_128 : decode b_L_law 128 = .ok (.iconst 1, 1) := by decide +kernel
theorem d_L_law_129 : decode b_L_law 129 = .ok (.iadd, 1) := by decide +kernel
theorem d_L_law_130 : decode b_L_law 130 = .ok (.iaload, 1) := by decide +kernel
theorem d_L_law_131 : decode b_L_law 131 = .ok (.aload_n 0, 1) := by decide +kernel
theorem d_L_law_132 : decode b_L_law 132 = .ok (.iload 4, 2) := by decide +kernel
theorem d_L_law_134 : decode b_L_law 134 = .ok (.iconst 2, 1) := by decide +kernel
theorem d_L_law_135 : decode b_L_law 135 = .ok (.iadd, 1) := by decide +kernel
theorem d_L_law_136 : decode b_L_law 136 = .ok (.iaload, 1) := by decide +kernel
theorem d_L_law_137 : decode b_L_law 137 = .ok (.aload_n 0, 1) := by decide +kernel
theorem d_L_law_138 : decode b_L_law 138 = .ok (.iload 4, 2) := by decide +kernel
theorem d_L_law_140 : decode b_L_law 140 = .ok (.iconst 3, 1) := by decide +kernel
theorem d_L_law_141 : decode b_L_law 141 = .ok (.iadd, 1) := by decide +kernel
theorem d_L_law_142 : decode b_L_law 142 = .ok (.iaload, 1) := by decide +kernel
theorem d_L_law_143 : decode b_L_law 143 = .ok (.aload_n 0, 1) := by decide +kernel
theorem d_L_law_144 : decode b_L_law 144 = .ok (.iload 4, 2) := by decide +kernel
theorem d_L_law_146 : decode b_L_law 146 = .ok (.iconst 4, 1) := by decide +kernel
theorem d_L_law_147 : decode b_L_law 147 = .ok (.iadd, 1) := by decide +kernel
theorem d_L_law_148 : decode b_L_law 148 = .ok (.iaload, 1) := by decide +kernel
theorem d_L_law_149 : decode b_L_law 149 = .ok (.aload_n 0, 1) := by decide +kernel
theorem d_L_law_150 : decode b_L_law 150 = .ok (.iload 4, 2) := by decide +kernel
theorem d_L_law_152 : decode b_L_law 152 = .ok (.iconst 5, 1) := by decide +kernel
theorem d_L_law_153 : decode b_L_law 153 = .ok (.iadd, 1) := by decide +kernel
theorem d_L_law_154 : decode b_L_law 154 = .ok (.iaload, 1) := by decide +kernel
theorem d_L_law_155 : decode b_L_law 155 = .ok (.aload_n 3, 1) := by decide +kernel
theorem d_L_law_156 : decode b_L_law 156 = .ok (.invokestatic 71, 3) := by decide +kernel
theorem d_L_law_159 : decode b_L_law 159 = .ok (.istore 5, 2) := by decide +kernel
theorem d_L_law_161 : decode b_L_law 161 = .ok (.aload_n 2, 1) := by decide +kernel
theorem d_L_law_162 : decode b_L_law 162 = .ok (.aload_n 0, 1) := by decide +kernel
theorem d_L_law_163 : decode b_L_law 163 = .ok (.iload 4, 2) := by decide +kernel
theorem d_L_law_165 : decode b_L_law 165 = .ok (.iconst 1, 1) := by decide +kernel
theorem d_L_law_166 : decode b_L_law 166 = .ok (.iadd, 1) := by decide +kernel
theorem d_L_law_167 : decode b_L_law 167 = .ok (.iaload, 1) := by decide +kernel
theorem d_L_law_168 : decode b_L_law 168 = .ok (.aload_n 0, 1) := by decide +kernel
theorem d_L_law_169 : decode b_L_law 169 = .ok (.iload 4, 2) := by decide +kernel
theorem d_L_law_171 : decode b_L_law 171 = .ok (.iconst 2, 1) := by decide +kernel
theorem d_L_law_172 : decode b_L_law 172 = .ok (.iadd, 1) := by decide +kernel
theorem d_L_law_173 : decode b_L_law 173 = .ok (.iaload, 1) := by decide +kernel
theorem d_L_law_174 : decode b_L_law 174 = .ok (.aload_n 0, 1) := by decide +kernel
theorem d_L_law_175 : decode b_L_law 175 = .ok (.iload 4, 2) := by decide +kernel
theorem d_L_law_177 : decode b_L_law 177 = .ok (.iconst 3, 1) := by decide +kernel
theorem d_L_law_178 : decode b_L_law 178 = .ok (.iadd, 1) := by decide +kernel
theorem d_L_law_179 : decode b_L_law 179 = .ok (.iaload, 1) := by decide +kernel
theorem d_L_law_180 : decode b_L_law 180 = .ok (.aload_n 0, 1) := by decide +kernel
theorem d_L_law_181 : decode b_L_law 181 = .ok (.iload 4, 2) := by decide +kernel
theorem d_L_law_183 : decode b_L_law 183 = .ok (.iconst 4, 1) := by decide +kernel
theorem d_L_law_184 : decode b_L_law 184 = .ok (.iadd, 1) := by decide +kernel
theorem d_L_law_185 : decode b_L_law 185 = .ok (.iaload, 1) := by decide +kernel
theorem d_L_law_186 : decode b_L_law 186 = .ok (.aload_n 0, 1) := by decide +kernel
theorem d_L_law_187 : decode b_L_law 187 = .ok (.iload 4, 2) := by decide +kernel
theorem d_L_law_189 : decode b_L_law 189 = .ok (.iconst 5, 1) := by decide +kernel
theorem d_L_law_190 : decode b_L_law 190 = .ok (.iadd, 1) := by decide +kernel
theorem d_L_law_191 : decode b_L_law 191 = .ok (.iaload, 1) := by decide +kernel
theorem d_L_law_192 : decode b_L_law 192 = .ok (.invokevirtual 76, 3) := by decide +kernel
theorem d_L_law_195 : decode b_L_law 195 = .ok (.istore 6, 2) := by decide +kernel
theorem d_L_law_197 : decode b_L_law 197 = .ok (.aload_n 2, 1) := by decide +kernel
theorem d_L_law_198 : decode b_L_law 198 = .ok (.invokevirtual 77, 3) := by decide +kernel
theorem d_L_law_201 : decode b_L_law 201 = .ok (.iload 5, 2) := by decide +kernel
theorem d_L_law_203 : decode b_L_law 203 = .ok (.if_icmp .eq 5, 3) := by decide +kernel
theorem d_L_law_206 : decode b_L_law 206 = .ok (.iconst 0, 1) := by decide +kernel
theorem d_L_law_207 : decode b_L_law 207 = .ok (.ireturn, 1) := by decide +kernel
theorem d_L_law_208 : decode b_L_law 208 = .ok (.iload 5, 2) := by decide +kernel
theorem d_L_law_210 : decode b_L_law 210 = .ok (.ifCond .ne 15, 3) := by decide +kernel
theorem d_L_law_213 : decode b_L_law 213 = .ok (.aload_n 3, 1) := by decide +kernel
theorem d_L_law_214 : decode b_L_law 214 = .ok (.iconst 0, 1) := by decide +kernel
theorem d_L_law_215 : decode b_L_law 215 = .ok (.laload, 1) := by decide +kernel
theorem d_L_law_216 : decode b_L_law 216 = .ok (.iload 6, 2) := by decide +kernel
theorem d_L_law_218 : decode b_L_law 218 = .ok (.i2l, 1) := by decide +kernel
theorem d_L_law_219 : decode b_L_law 219 = .ok (.lcmp, 1) := by decide +kernel
theorem d_L_law_220 : decode b_L_law 220 = .ok (.ifCond .eq 5, 3) := by decide +kernel
theorem d_L_law_223 : decode b_L_law 223 = .ok (.iconst 0, 1) := by decide +kernel
theorem d_L_law_224 : decode b_L_law 224 = .ok (.ireturn, 1) := by decide +kernel
theorem d_L_law_225 : decode b_L_law 225 = .ok (.goto 1019, 3) := by decide +kernel
theorem d_L_law_228 : decode b_L_law 228 = .ok (.aload_n 1, 1) := by decide +kernel
theorem d_L_law_229 : decode b_L_law 229 = .ok (.aload_n 3, 1) := by decide +kernel
theorem d_L_law_230 : decode b_L_law 230 = .ok (.invokestatic 80, 3) := by decide +kernel
theorem d_L_law_233 : decode b_L_law 233 = .ok (.istore 5, 2) := by decide +kernel
theorem d_L_law_235 : decode b_L_law 235 = .ok (.aload_n 2, 1) := by decide +kernel
theorem d_L_law_236 : decode b_L_law 236 = .ok (.invokevirtual 83, 3) := by decide +kernel
theorem d_L_law_239 : decode b_L_law 239 = .ok (.istore 6, 2) := by decide +kernel
theorem d_L_law_241 : decode b_L_law 241 = .ok (.aload_n 2, 1) := by decide +kernel
theorem d_L_law_242 : decode b_L_law 242 = .ok (.invokevirtual 77, 3) := by decide +kernel
theorem d_L_law_245 : decode b_L_law 245 = .ok (.iload 5, 2) := by decide +kernel
theorem d_L_law_247 : decode b_L_law 247 = .ok (.if_icmp .eq 5, 3) := by decide +kernel
theorem d_L_law_250 : decode b_L_law 250 = .ok (.iconst 0, 1) := by decide +kernel
theorem d_L_law_251 : decode b_L_law 251 = .ok (.ireturn, 1) := by decide +kernel
theorem d_L_law_252 : decode b_L_law 252 = .ok (.iload 5, 2) := by decide +kernel
theorem d_L_law_254 : decode b_L_law 254 = .ok (.ifCond .ne 15, 3) := by decide +kernel
theorem d_L_law_257 : decode b_L_law 257 = .ok (.aload_n 3, 1) := by decide +kernel
theorem d_L_law_258 : decode b_L_law 258 = .ok (.iconst 0, 1) := by decide +kernel
theorem d_L_law_259 : decode b_L_law 259 = .ok (.laload, 1) := by decide +kernel
theorem d_L_law_260 : decode b_L_law 260 = .ok (.iload 6, 2) := by decide +kernel
theorem d_L_law_262 : decode b_L_law 262 = .ok (.i2l, 1) := by decide +kernel
theorem d_L_law_263 : decode b_L_law 263 = .ok (.lcmp, 1) := by decide +kernel
theorem d_L_law_264 : decode b_L_law 264 = .ok (.ifCond .eq 5, 3) := by decide +kernel
theorem d_L_law_267 : decode b_L_law 267 = .ok (.iconst 0, 1) := by decide +kernel
theorem d_L_law_268 : decode b_L_law 268 = .ok (.ireturn, 1) := by decide +kernel
theorem d_L_law_269 : decode b_L_law 269 = .ok (.goto 975, 3) := by decide +kernel
theorem d_L_law_272 : decode b_L_law 272 = .ok (.aload_n 1, 1) := by decide +kernel
theorem d_L_law_273 : decode b_L_law 273 = .ok (.aload_n 0, 1) := by decide +kernel
theorem d_L_law_274 : decode b_L_law 274 = .ok (.iload 4, 2) := by decide +kernel
theorem d_L_law_276 : decode b_L_law 276 = .ok (.iconst 1, 1) := by decide +kernel
theorem d_L_law_277 : decode b_L_law 277 = .ok (.iadd, 1) := by decide +kernel
theorem d_L_law_278 : decode b_L_law 278 = .ok (.iaload, 1) := by decide +kernel
theorem d_L_law_279 : decode b_L_law 279 = .ok (.aload_n 0, 1) := by decide +kernel
theorem d_L_law_280 : decode b_L_law 280 = .ok (.iload 4, 2) := by decide +kernel
theorem d_L_law_282 : decode b_L_law 282 = .ok (.iconst 2, 1) := by decide +kernel
theorem d_L_law_283 : decode b_L_law 283 = .ok (.iadd, 1) := by decide +kernel
theorem d_L_law_284 : decode b_L_law 284 = .ok (.iaload, 1) := by decide +kernel
theorem d_L_law_285 : decode b_L_law 285 = .ok (.aload_n 0, 1) := by decide +kernel
theorem d_L_law_286 : decode b_L_law 286 = .ok (.iload 4, 2) := by decide +kernel
theorem d_L_law_288 : decode b_L_law 288 = .ok (.iconst 3, 1) := by decide +kernel
theorem d_L_law_289 : decode b_L_law 289 = .ok (.iadd, 1) := by decide +kernel
theorem d_L_law_290 : decode b_L_law 290 = .ok (.iaload, 1) := by decide +kernel
theorem d_L_law_291 : decode b_L_law 291 = .ok (.aload_n 0, 1) := by decide +kernel
theorem d_L_law_292 : decode b_L_law 292 = .ok (.iload 4, 2) := by decide +kernel
theorem d_L_law_294 : decode b_L_law 294 = .ok (.iconst 4, 1) := by decide +kernel
theorem d_L_law_295 : decode b_L_law 295 = .ok (.iadd, 1) := by decide +kernel
theorem d_L_law_296 : decode b_L_law 296 = .ok (.iaload, 1) := by decide +kernel
theorem d_L_law_297 : decode b_L_law 297 = .ok (.aload_n 0, 1) := by decide +kernel
theorem d_L_law_298 : decode b_L_law 298 = .ok (.iload 4, 2) := by decide +kernel
theorem d_L_law_300 : decode b_L_law 300 = .ok (.iconst 5, 1) := by decide +kernel
theorem d_L_law_301 : decode b_L_law 301 = .ok (.iadd, 1) := by decide +kernel
theorem d_L_law_302 : decode b_L_law 302 = .ok (.iaload, 1) := by decide +kernel
theorem d_L_law_303 : decode b_L_law 303 = .ok (.aload_n 3, 1) := by decide +kernel
theorem d_L_law_304 : decode b_L_law 304 = .ok (.invokestatic 84, 3) := by decide +kernel
theorem d_L_law_307 : decode b_L_law 307 = .ok (.istore 5, 2) := by decide +kernel
theorem d_L_law_309 : decode b_L_law 309 = .ok (.aload_n 2, 1) := by decide +kernel
theorem d_L_law_310 : decode b_L_law 310 = .ok (.aload_n 0, 1) := by decide +kernel
theorem d_L_law_311 : decode b_L_law 311 = .ok (.iload 4, 2) := by decide +kernel
theorem d_L_law_313 : decode b_L_law 313 = .ok (.iconst 1, 1) := by decide +kernel
theorem d_L_law_314 : decode b_L_law 314 = .ok (.iadd, 1) := by decide +kernel
theorem d_L_law_315 : decode b_L_law 315 = .ok (.iaload, 1) := by decide +kernel
theorem d_L_law_316 : decode b_L_law 316 = .ok (.aload_n 0, 1) := by decide +kernel
theorem d_L_law_317 : decode b_L_law 317 = .ok (.iload 4, 2) := by decide +kernel
theorem d_L_law_319 : decode b_L_law 319 = .ok (.iconst 2, 1) := by decide +kernel
theorem d_L_law_320 : decode b_L_law 320 = .ok (.iadd, 1) := by decide +kernel
theorem d_L_law_321 : decode b_L_law 321 = .ok (.iaload, 1) := by decide +kernel
theorem d_L_law_322 : decode b_L_law 322 = .ok (.aload_n 0, 1) := by decide +kernel
theorem d_L_law_323 : decode b_L_law 323 = .ok (.iload 4, 2) := by decide +kernel
theorem d_L_law_325 : decode b_L_law 325 = .ok (.iconst 3, 1) := by decide +kernel
theorem d_L_law_326 : decode b_L_law 326 = .ok (.iadd, 1) := by decide +kernel
theorem d_L_law_327 : decode b_L_law 327 = .ok (.iaload, 1) := by decide +kernel
theorem d_L_law_328 : decode b_L_law 328 = .ok (.aload_n 0, 1) := by decide +kernel
theorem d_L_law_329 : decode b_L_law 329 = .ok (.iload 4, 2) := by decide +kernel
theorem d_L_law_331 : decode b_L_law 331 = .ok (.iconst 4, 1) := by decide +kernel
theorem d_L_law_332 : decode b_L_law 332 = .ok (.iadd, 1) := by decide +kernel
theorem d_L_law_333 : decode b_L_law 333 = .ok (.iaload, 1) := by decide +kernel
theorem d_L_law_334 : decode b_L_law 334 = .ok (.aload_n 0, 1) := by decide +kernel
theorem d_L_law_335 : decode b_L_law 335 = .ok (.iload 4, 2) := by decide +kernel
theorem d_L_law_337 : decode b_L_law 337 = .ok (.iconst 5, 1) := by decide +kernel
theorem d_L_law_338 : decode b_L_law 338 = .ok (.iadd, 1) := by decide +kernel
theorem d_L_law_339 : decode b_L_law 339 = .ok (.iaload, 1) := by decide +kernel
theorem d_L_law_340 : decode b_L_law 340 = .ok (.invokevirtual 86, 3) := by decide +kernel
theorem d_L_law_343 : decode b_L_law 343 = .ok (.istore 6, 2) := by decide +kernel
theorem d_L_law_345 : decode b_L_law 345 = .ok (.aload_n 2, 1) := by decide +kernel
theorem d_L_law_346 : decode b_L_law 346 = .ok (.invokevirtual 77, 3) := by decide +kernel
theorem d_L_law_349 : decode b_L_law 349 = .ok (.iload 5, 2) := by decide +kernel
theorem d_L_law_351 : decode b_L_law 351 = .ok (.if_icmp .eq 5, 3) := by decide +kernel
theorem d_L_law_354 : decode b_L_law 354 = .ok (.iconst 0, 1) := by decide +kernel
theorem d_L_law_355 : decode b_L_law 355 = .ok (.ireturn, 1) := by decide +kernel
theorem d_L_law_356 : decode b_L_law 356 = .ok (.iload 5, 2) := by decide +kernel
theorem d_L_law_358 : decode b_L_law 358 = .ok (.ifCond .ne 15, 3) := by decide +kernel
theorem d_L_law_361 : decode b_L_law 361 = .ok (.aload_n 3, 1) := by decide +kernel
theorem d_L_law_362 : decode b_L_law 362 = .ok (.iconst 0, 1) := by decide +kernel
theorem d_L_law_363 : decode b_L_law 363 = .ok (.laload, 1) := by decide +kernel
theorem d_L_law_364 : decode b_L_law 364 = .ok (.iload 6, 2) := by decide +kernel
theorem d_L_law_366 : decode b_L_law 366 = .ok (.i2l, 1) := by decide +kernel
theorem d_L_law_367 : decode b_L_law 367 = .ok (.lcmp, 1) := by decide +kernel
theorem d_L_law_368 : decode b_L_law 368 = .ok (.ifCond .eq 5, 3) := by decide +kernel
theorem d_L_law_371 : decode b_L_law 371 = .ok (.iconst 0, 1) := by decide +kernel
theorem d_L_law_372 : decode b_L_law 372 = .ok (.ireturn, 1) := by decide +kernel
theorem d_L_law_373 : decode b_L_law 373 = .ok (.goto 871, 3) := by decide +kernel
theorem d_L_law_376 : decode b_L_law 376 = .ok (.aload_n 1, 1) := by decide +kernel
theorem d_L_law_377 : decode b_L_law 377 = .ok (.aload_n 0, 1) := by decide +kernel
theorem d_L_law_378 : decode b_L_law 378 = .ok (.iload 4, 2) := by decide +kernel
theorem d_L_law_380 : decode b_L_law 380 = .ok (.iconst 1, 1) := by decide +kernel
theorem d_L_law_381 : decode b_L_law 381 = .ok (.iadd, 1) := by decide +kernel
theorem d_L_law_382 : decode b_L_law 382 = .ok (.iaload, 1) := by decide +kernel
theorem d_L_law_383 : decode b_L_law 383 = .ok (.aload_n 0, 1) := by decide +kernel
theorem d_L_law_384 : decode b_L_law 384 = .ok (.iload 4, 2) := by decide +kernel
theorem d_L_law_386 : decode b_L_law 386 = .ok (.iconst 2, 1) := by decide +kernel
theorem d_L_law_387 : decode b_L_law 387 = .ok (.iadd, 1) := by decide +kernel
theorem d_L_law_388 : decode b_L_law 388 = .ok (.iaload, 1) := by decide +kernel
theorem d_L_law_389 : decode b_L_law 389 = .ok (.aload_n 0, 1) := by decide +kernel
theorem d_L_law_390 : decode b_L_law 390 = .ok (.iload 4, 2) := by decide +kernel
theorem d_L_law_392 : decode b_L_law 392 = .ok (.iconst 3, 1) := by decide +kernel
theorem d_L_law_393 : decode b_L_law 393 = .ok (.iadd, 1) := by decide +kernel
theorem d_L_law_394 : decode b_L_law 394 = .ok (.iaload, 1) := by decide +kernel
theorem d_L_law_395 : decode b_L_law 395 = .ok (.aload_n 0, 1) := by decide +kernel
theorem d_L_law_396 : decode b_L_law 396 = .ok (.iload 4, 2) := by decide +kernel
theorem d_L_law_398 : decode b_L_law 398 = .ok (.iconst 4, 1) := by decide +kernel
theorem d_L_law_399 : decode b_L_law 399 = .ok (.iadd, 1) := by decide +kernel
theorem d_L_law_400 : decode b_L_law 400 = .ok (.iaload, 1) := by decide +kernel
theorem d_L_law_401 : decode b_L_law 401 = .ok (.aload_n 3, 1) := by decide +kernel
theorem d_L_law_402 : decode b_L_law 402 = .ok (.invokestatic 87, 3) := by decide +kernel
theorem d_L_law_405 : decode b_L_law 405 = .ok (.istore 5, 2) := by decide +kernel
theorem d_L_law_407 : decode b_L_law 407 = .ok (.aload_n 2, 1) := by decide +kernel
theorem d_L_law_408 : decode b_L_law 408 = .ok (.aload_n 0, 1) := by decide +kernel
theorem d_L_law_409 : decode b_L_law 409 = .ok (.iload 4, 2) := by decide +kernel
theorem d_L_law_411 : decode b_L_law 411 = .ok (.iconst 1, 1) := by decide +kernel
theorem d_L_law_412 : decode b_L_law 412 = .ok (.iadd, 1) := by decide +kernel
theorem d_L_law_413 : decode b_L_law 413 = .ok (.iaload, 1) := by decide +kernel
theorem d_L_law_414 : decode b_L_law 414 = .ok (.aload_n 0, 1) := by decide +kernel
theorem d_L_law_415 : decode b_L_law 415 = .ok (.iload 4, 2) := by decide +kernel
theorem d_L_law_417 : decode b_L_law 417 = .ok (.iconst 2, 1) := by decide +kernel
theorem d_L_law_418 : decode b_L_law 418 = .ok (.iadd, 1) := by decide +kernel
theorem d_L_law_419 : decode b_L_law 419 = .ok (.iaload, 1) := by decide +kernel
theorem d_L_law_420 : decode b_L_law 420 = .ok (.aload_n 0, 1) := by decide +kernel
theorem d_L_law_421 : decode b_L_law 421 = .ok (.iload 4, 2) := by decide +kernel
theorem d_L_law_423 : decode b_L_law 423 = .ok (.iconst 3, 1) := by decide +kernel
theorem d_L_law_424 : decode b_L_law 424 = .ok (.iadd, 1) := by decide +kernel
theorem d_L_law_425 : decode b_L_law 425 = .ok (.iaload, 1) := by decide +kernel
theorem d_L_law_426 : decode b_L_law 426 = .ok (.aload_n 0, 1) := by decide +kernel
theorem d_L_law_427 : decode b_L_law 427 = .ok (.iload 4, 2) := by decide +kernel
theorem d_L_law_429 : decode b_L_law 429 = .ok (.iconst 4, 1) := by decide +kernel
theorem d_L_law_430 : decode b_L_law 430 = .ok (.iadd, 1) := by decide +kernel
theorem d_L_law_431 : decode b_L_law 431 = .ok (.iaload, 1) := by decide +kernel
theorem d_L_law_432 : decode b_L_law 432 = .ok (.invokevirtual 90, 3) := by decide +kernel
theorem d_L_law_435 : decode b_L_law 435 = .ok (.istore 6, 2) := by decide +kernel
theorem d_L_law_437 : decode b_L_law 437 = .ok (.aload_n 2, 1) := by decide +kernel
theorem d_L_law_438 : decode b_L_law 438 = .ok (.invokevirtual 77, 3) := by decide +kernel
theorem d_L_law_441 : decode b_L_law 441 = .ok (.iload 5, 2) := by decide +kernel
theorem d_L_law_443 : decode b_L_law 443 = .ok (.if_icmp .eq 5, 3) := by decide +kernel
theorem d_L_law_446 : decode b_L_law 446 = .ok (.iconst 0, 1) := by decide +kernel
theorem d_L_law_447 : decode b_L_law 447 = .ok (.ireturn, 1) := by decide +kernel
theorem d_L_law_448 : decode b_L_law 448 = .ok (.iload 5, 2) := by decide +kernel
theorem d_L_law_450 : decode b_L_law 450 = .ok (.ifCond .ne 15, 3) := by decide +kernel
theorem d_L_law_453 : decode b_L_law 453 = .ok (.aload_n 3, 1) := by decide +kernel
theorem d_L_law_454 : decode b_L_law 454 = .ok (.iconst 0, 1) := by decide +kernel
theorem d_L_law_455 : decode b_L_law 455 = .ok (.laload, 1) := by decide +kernel
theorem d_L_law_456 : decode b_L_law 456 = .ok (.iload 6, 2) := by decide +kernel
theorem d_L_law_458 : decode b_L_law 458 = .ok (.i2l, 1) := by decide +kernel
theorem d_L_law_459 : decode b_L_law 459 = .ok (.lcmp, 1) := by decide +kernel
theorem d_L_law_460 : decode b_L_law 460 = .ok (.ifCond .eq 5, 3) := by decide +kernel
theorem d_L_law_463 : decode b_L_law 463 = .ok (.iconst 0, 1) := by decide +kernel
theorem d_L_law_464 : decode b_L_law 464 = .ok (.ireturn, 1) := by decide +kernel
theorem d_L_law_465 : decode b_L_law 465 = .ok (.goto 779, 3) := by decide +kernel
theorem d_L_law_468 : decode b_L_law 468 = .ok (.aload_n 1, 1) := by decide +kernel
theorem d_L_law_469 : decode b_L_law 469 = .ok (.aload_n 3, 1) := by decide +kernel
theorem d_L_law_470 : decode b_L_law 470 = .ok (.invokestatic 91, 3) := by decide +kernel
theorem d_L_law_473 : decode b_L_law 473 = .ok (.istore 5, 2) := by decide +kernel
theorem d_L_law_475 : decode b_L_law 475 = .ok (.aload_n 2, 1) := by decide +kernel
theorem d_L_law_476 : decode b_L_law 476 = .ok (.invokevirtual 93, 3) := by decide +kernel
theorem d_L_law_479 : decode b_L_law 479 = .ok (.istore 6, 2) := by decide +kernel
theorem d_L_law_481 : decode b_L_law 481 = .ok (.aload_n 2, 1) := by decide +kernel
theorem d_L_law_482 : decode b_L_law 482 = .ok (.invokevirtual 77, 3) := by decide +kernel
theorem d_L_law_485 : decode b_L_law 485 = .ok (.iload 5, 2) := by decide +kernel
theorem d_L_law_487 : decode b_L_law 487 = .ok (.if_icmp .eq 5, 3) := by decide +kernel
theorem d_L_law_490 : decode b_L_law 490 = .ok (.iconst 0, 1) := by decide +kernel
theorem d_L_law_491 : decode b_L_law 491 = .ok (.ireturn, 1) := by decide +kernel
theorem d_L_law_492 : decode b_L_law 492 = .ok (.iload 5, 2) := by decide +kernel
theorem d_L_law_494 : decode b_L_law 494 = .ok (.ifCond .ne 15, 3) := by decide +kernel
theorem d_L_law_497 : decode b_L_law 497 = .ok (.aload_n 3, 1) := by decide +kernel
theorem d_L_law_498 : decode b_L_law 498 = .ok (.iconst 0, 1) := by decide +kernel
theorem d_L_law_499 : decode b_L_law 499 = .ok (.laload, 1) := by decide +kernel
theorem d_L_law_500 : decode b_L_law 500 = .ok (.iload 6, 2) := by decide +kernel
theorem d_L_law_502 : decode b_L_law 502 = .ok (.i2l, 1) := by decide +kernel
theorem d_L_law_503 : decode b_L_law 503 = .ok (.lcmp, 1) := by decide +kernel
theorem d_L_law_504 : decode b_L_law 504 = .ok (.ifCond .eq 5, 3) := by decide +kernel
theorem d_L_law_507 : decode b_L_law 507 = .ok (.iconst 0, 1) := by decide +kernel
theorem d_L_law_508 : decode b_L_law 508 = .ok (.ireturn, 1) := by decide +kernel
theorem d_L_law_509 : decode b_L_law 509 = .ok (.goto 735, 3) := by decide +kernel
theorem d_L_law_512 : decode b_L_law 512 = .ok (.aload_n 1, 1) := by decide +kernel
theorem d_L_law_513 : decode b_L_law 513 = .ok (.aload_n 0, 1) := by decide +kernel
theorem d_L_law_514 : decode b_L_law 514 = .ok (.iload 4, 2) := by decide +kernel
theorem d_L_law_516 : decode b_L_law 516 = .ok (.iconst 1, 1) := by decide +kernel
theorem d_L_law_517 : decode b_L_law 517 = .ok (.iadd, 1) := by decide +kernel
theorem d_L_law_518 : decode b_L_law 518 = .ok (.iaload, 1) := by decide +kernel
theorem d_L_law_519 : decode b_L_law 519 = .ok (.aload_n 0, 1) := by decide +kernel
theorem d_L_law_520 : decode b_L_law 520 = .ok (.iload 4, 2) := by decide +kernel
theorem d_L_law_522 : decode b_L_law 522 = .ok (.iconst 2, 1) := by decide +kernel
theorem d_L_law_523 : decode b_L_law 523 = .ok (.iadd, 1) := by decide +kernel
theorem d_L_law_524 : decode b_L_law 524 = .ok (.iaload, 1) := by decide +kernel
theorem d_L_law_525 : decode b_L_law 525 = .ok (.aload_n 3, 1) := by decide +kernel
theorem d_L_law_526 : decode b_L_law 526 = .ok (.invokestatic 94, 3) := by decide +kernel
theorem d_L_law_529 : decode b_L_law 529 = .ok (.istore 5, 2) := by decide +kernel
theorem d_L_law_531 : decode b_L_law 531 = .ok (.aload_n 2, 1) := by decide +kernel
theorem d_L_law_532 : decode b_L_law 532 = .ok (.aload_n 0, 1) := by decide +kernel
theorem d_L_law_533 : decode b_L_law 533 = .ok (.iload 4, 2) := by decide +kernel
theorem d_L_law_535 : decode b_L_law 535 = .ok (.iconst 1, 1) := by decide +kernel
theorem d_L_law_536 : decode b_L_law 536 = .ok (.iadd, 1) := by decide +kernel
theorem d_L_law_537 : decode b_L_law 537 = .ok (.iaload, 1) := by decide +kernel
theorem d_L_law_538 : decode b_L_law 538 = .ok (.aload_n 0, 1) := by decide +kernel
theorem d_L_law_539 : decode b_L_law 539 = .ok (.iload 4, 2) := by decide +kernel
theorem d_L_law_541 : decode b_L_law 541 = .ok (.iconst 2, 1) := by decide +kernel
theorem d_L_law_542 : decode b_L_law 542 = .ok (.iadd, 1) := by decide +kernel
theorem d_L_law_543 : decode b_L_law 543 = .ok (.iaload, 1) := by decide +kernel
theorem d_L_law_544 : decode b_L_law 544 = .ok (.invokevirtual 97, 3) := by decide +kernel
theorem d_L_law_547 : decode b_L_law 547 = .ok (.istore 6, 2) := by decide +kernel
theorem d_L_law_549 : decode b_L_law 549 = .ok (.aload_n 2, 1) := by decide +kernel
theorem d_L_law_550 : decode b_L_law 550 = .ok (.invokevirtual 77, 3) := by decide +kernel
theorem d_L_law_553 : decode b_L_law 553 = .ok (.iload 5, 2) := by decide +kernel
theorem d_L_law_555 : decode b_L_law 555 = .ok (.if_icmp .eq 5, 3) := by decide +kernel
theorem d_L_law_558 : decode b_L_law 558 = .ok (.iconst 0, 1) := by decide +kernel
theorem d_L_law_559 : decode b_L_law 559 = .ok (.ireturn, 1) := by decide +kernel
theorem d_L_law_560 : decode b_L_law 560 = .ok (.iload 5, 2) := by decide +kernel
theorem d_L_law_562 : decode b_L_law 562 = .ok (.ifCond .ne 15, 3) := by decide +kernel
theorem d_L_law_565 : decode b_L_law 565 = .ok (.aload_n 3, 1) := by decide +kernel
theorem d_L_law_566 : decode b_L_law 566 = .ok (.iconst 0, 1) := by decide +kernel
theorem d_L_law_567 : decode b_L_law 567 = .ok (.laload, 1) := by decide +kernel
theorem d_L_law_568 : decode b_L_law 568 = .ok (.iload 6, 2) := by decide +kernel
theorem d_L_law_570 : decode b_L_law 570 = .ok (.i2l, 1) := by decide +kernel
theorem d_L_law_571 : decode b_L_law 571 = .ok (.lcmp, 1) := by decide +kernel
theorem d_L_law_572 : decode b_L_law 572 = .ok (.ifCond .eq 5, 3) := by decide +kernel
theorem d_L_law_575 : decode b_L_law 575 = .ok (.iconst 0, 1) := by decide +kernel
theorem d_L_law_576 : decode b_L_law 576 = .ok (.ireturn, 1) := by decide +kernel
theorem d_L_law_577 : decode b_L_law 577 = .ok (.goto 667, 3) := by decide +kernel
theorem d_L_law_580 : decode b_L_law 580 = .ok (.aload_n 1, 1) := by decide +kernel
theorem d_L_law_581 : decode b_L_law 581 = .ok (.aload_n 0, 1) := by decide +kernel
theorem d_L_law_582 : decode b_L_law 582 = .ok (.iload 4, 2) := by decide +kernel
theorem d_L_law_584 : decode b_L_law 584 = .ok (.iconst 1, 1) := by decide +kernel
theorem d_L_law_585 : decode b_L_law 585 = .ok (.iadd, 1) := by decide +kernel
theorem d_L_law_586 : decode b_L_law 586 = .ok (.iaload, 1) := by decide +kernel
theorem d_L_law_587 : decode b_L_law 587 = .ok (.aload_n 0, 1) := by decide +kernel
theorem d_L_law_588 : decode b_L_law 588 = .ok (.iload 4, 2) := by decide +kernel
theorem d_L_law_590 : decode b_L_law 590 = .ok (.iconst 2, 1) := by decide +kernel
theorem d_L_law_591 : decode b_L_law 591 = .ok (.iadd, 1) := by decide +kernel
theorem d_L_law_592 : decode b_L_law 592 = .ok (.iaload, 1) := by decide +kernel
theorem d_L_law_593 : decode b_L_law 593 = .ok (.aload_n 0, 1) := by decide +kernel
theorem d_L_law_594 : decode b_L_law 594 = .ok (.iload 4, 2) := by decide +kernel
theorem d_L_law_596 : decode b_L_law 596 = .ok (.iconst 3, 1) := by decide +kernel
theorem d_L_law_597 : decode b_L_law 597 = .ok (.iadd, 1) := by decide +kernel
theorem d_L_law_598 : decode b_L_law 598 = .ok (.iaload, 1) := by decide +kernel
theorem d_L_law_599 : decode b_L_law 599 = .ok (.aload_n 0, 1) := by decide +kernel
theorem d_L_law_600 : decode b_L_law 600 = .ok (.iload 4, 2) := by decide +kernel
theorem d_L_law_602 : decode b_L_law 602 = .ok (.iconst 4, 1) := by decide +kernel
theorem d_L_law_603 : decode b_L_law 603 = .ok (.iadd, 1) := by decide +kernel
theorem d_L_law_604 : decode b_L_law 604 = .ok (.iaload, 1) := by decide +kernel
theorem d_L_law_605 : decode b_L_law 605 = .ok (.aload_n 0, 1) := by decide +kernel
theorem d_L_law_606 : decode b_L_law 606 = .ok (.iload 4, 2) := by decide +kernel
theorem d_L_law_608 : decode b_L_law 608 = .ok (.iconst 5, 1) := by decide +kernel
theorem d_L_law_609 : decode b_L_law 609 = .ok (.iadd, 1) := by decide +kernel
theorem d_L_law_610 : decode b_L_law 610 = .ok (.iaload, 1) := by decide +kernel
theorem d_L_law_611 : decode b_L_law 611 = .ok (.aload_n 3, 1) := by decide +kernel
theorem d_L_law_612 : decode b_L_law 612 = .ok (.invokestatic 98, 3) := by decide +kernel
theorem d_L_law_615 : decode b_L_law 615 = .ok (.istore 5, 2) := by decide +kernel
theorem d_L_law_617 : decode b_L_law 617 = .ok (.aload_n 2, 1) := by decide +kernel
theorem d_L_law_618 : decode b_L_law 618 = .ok (.aload_n 0, 1) := by decide +kernel
theorem d_L_law_619 : decode b_L_law 619 = .ok (.iload 4, 2) := by decide +kernel
theorem d_L_law_621 : decode b_L_law 621 = .ok (.iconst 1, 1) := by decide +kernel
theorem d_L_law_622 : decode b_L_law 622 = .ok (.iadd, 1) := by decide +kernel
theorem d_L_law_623 : decode b_L_law 623 = .ok (.iaload, 1) := by decide +kernel
theorem d_L_law_624 : decode b_L_law 624 = .ok (.aload_n 0, 1) := by decide +kernel
theorem d_L_law_625 : decode b_L_law 625 = .ok (.iload 4, 2) := by decide +kernel
theorem d_L_law_627 : decode b_L_law 627 = .ok (.iconst 2, 1) := by decide +kernel
theorem d_L_law_628 : decode b_L_law 628 = .ok (.iadd, 1) := by decide +kernel
theorem d_L_law_629 : decode b_L_law 629 = .ok (.iaload, 1) := by decide +kernel
theorem d_L_law_630 : decode b_L_law 630 = .ok (.aload_n 0, 1) := by decide +kernel
theorem d_L_law_631 : decode b_L_law 631 = .ok (.iload 4, 2) := by decide +kernel
theorem d_L_law_633 : decode b_L_law 633 = .ok (.iconst 3, 1) := by decide +kernel
theorem d_L_law_634 : decode b_L_law 634 = .ok (.iadd, 1) := by decide +kernel
theorem d_L_law_635 : decode b_L_law 635 = .ok (.iaload, 1) := by decide +kernel
theorem d_L_law_636 : decode b_L_law 636 = .ok (.aload_n 0, 1) := by decide +kernel
theorem d_L_law_637 : decode b_L_law 637 = .ok (.iload 4, 2) := by decide +kernel
theorem d_L_law_639 : decode b_L_law 639 = .ok (.iconst 4, 1) := by decide +kernel
theorem d_L_law_640 : decode b_L_law 640 = .ok (.iadd, 1) := by decide +kernel
theorem d_L_law_641 : decode b_L_law 641 = .ok (.iaload, 1) := by decide +kernel
theorem d_L_law_642 : decode b_L_law 642 = .ok (.aload_n 0, 1) := by decide +kernel
theorem d_L_law_643 : decode b_L_law 643 = .ok (.iload 4, 2) := by decide +kernel
theorem d_L_law_645 : decode b_L_law 645 = .ok (.iconst 5, 1) := by decide +kernel
theorem d_L_law_646 : decode b_L_law 646 = .ok (.iadd, 1) := by decide +kernel
theorem d_L_law_647 : decode b_L_law 647 = .ok (.iaload, 1) := by decide +kernel
theorem d_L_law_648 : decode b_L_law 648 = .ok (.invokevirtual 100, 3) := by decide +kernel
theorem d_L_law_651 : decode b_L_law 651 = .ok (.istore 6, 2) := by decide +kernel
theorem d_L_law_653 : decode b_L_law 653 = .ok (.aload_n 2, 1) := by decide +kernel
theorem d_L_law_654 : decode b_L_law 654 = .ok (.invokevirtual 77, 3) := by decide +kernel
theorem d_L_law_657 : decode b_L_law 657 = .ok (.iload 5, 2) := by decide +kernel
theorem d_L_law_659 : decode b_L_law 659 = .ok (.if_icmp .eq 5, 3) := by decide +kernel
theorem d_L_law_662 : decode b_L_law 662 = .ok (.iconst 0, 1) := by decide +kernel
theorem d_L_law_663 : decode b_L_law 663 = .ok (.ireturn, 1) := by decide +kernel
theorem d_L_law_664 : decode b_L_law 664 = .ok (.iload 5, 2) := by decide +kernel
theorem d_L_law_666 : decode b_L_law 666 = .ok (.ifCond .ne 15, 3) := by decide +kernel
theorem d_L_law_669 : decode b_L_law 669 = .ok (.aload_n 3, 1) := by decide +kernel
theorem d_L_law_670 : decode b_L_law 670 = .ok (.iconst 0, 1) := by decide +kernel
theorem d_L_law_671 : decode b_L_law 671 = .ok (.laload, 1) := by decide +kernel
theorem d_L_law_672 : decode b_L_law 672 = .ok (.iload 6, 2) := by decide +kernel
theorem d_L_law_674 : decode b_L_law 674 = .ok (.i2l, 1) := by decide +kernel
theorem d_L_law_675 : decode b_L_law 675 = .ok (.lcmp, 1) := by decide +kernel
theorem d_L_law_676 : decode b_L_law 676 = .ok (.ifCond .eq 5, 3) := by decide +kernel
theorem d_L_law_679 : decode b_L_law 679 = .ok (.iconst 0, 1) := by decide +kernel
theorem d_L_law_680 : decode b_L_law 680 = .ok (.ireturn, 1) := by decide +kernel
theorem d_L_law_681 : decode b_L_law 681 = .ok (.goto 563, 3) := by decide +kernel
theorem d_L_law_684 : decode b_L_law 684 = .ok (.aload_n 1, 1) := by decide +kernel
theorem d_L_law_685 : decode b_L_law 685 = .ok (.aload_n 0, 1) := by decide +kernel
theorem d_L_law_686 : decode b_L_law 686 = .ok (.iload 4, 2) := by decide +kernel
theorem d_L_law_688 : decode b_L_law 688 = .ok (.iconst 1, 1) := by decide +kernel
theorem d_L_law_689 : decode b_L_law 689 = .ok (.iadd, 1) := by decide +kernel
theorem d_L_law_690 : decode b_L_law 690 = .ok (.iaload, 1) := by decide +kernel
theorem d_L_law_691 : decode b_L_law 691 = .ok (.aload_n 3, 1) := by decide +kernel
