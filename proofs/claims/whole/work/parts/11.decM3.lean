theorem d_M_told_30 : decode b_M_told 30 = .ok (.if_icmp .ne 10, 3) := by decide +kernel
theorem d_M_told_33 : decode b_M_told 33 = .ok (.aload_n 0, 1) := by decide +kernel
theorem d_M_told_34 : decode b_M_told 34 = .ok (.getfield 105, 3) := by decide +kernel
theorem d_M_told_37 : decode b_M_told 37 = .ok (.goto 40, 3) := by decide +kernel
theorem d_M_told_40 : decode b_M_told 40 = .ok (.iload_n 1, 1) := by decide +kernel
theorem d_M_told_41 : decode b_M_told 41 = .ok (.iconst 3, 1) := by decide +kernel
theorem d_M_told_42 : decode b_M_told 42 = .ok (.if_icmp .ne 10, 3) := by decide +kernel
theorem d_M_told_45 : decode b_M_told 45 = .ok (.aload_n 0, 1) := by decide +kernel
theorem d_M_told_46 : decode b_M_told 46 = .ok (.getfield 108, 3) := by decide +kernel
theorem d_M_told_49 : decode b_M_told 49 = .ok (.goto 28, 3) := by decide +kernel
theorem d_M_told_52 : decode b_M_told 52 = .ok (.iload_n 1, 1) := by decide +kernel
theorem d_M_told_53 : decode b_M_told 53 = .ok (.iconst 4, 1) := by decide +kernel
theorem d_M_told_54 : decode b_M_told 54 = .ok (.if_icmp .ne 10, 3) := by decide +kernel
theorem d_M_told_57 : decode b_M_told 57 = .ok (.aload_n 0, 1) := by decide +kernel
theorem d_M_told_58 : decode b_M_told 58 = .ok (.getfield 111, 3) := by decide +kernel
theorem d_M_told_61 : decode b_M_told 61 = .ok (.goto 16, 3) := by decide +kernel
theorem d_M_told_64 : decode b_M_told 64 = .ok (.iload_n 1, 1) := by decide +kernel
theorem d_M_told_65 : decode b_M_told 65 = .ok (.iconst 5, 1) := by decide +kernel
theorem d_M_told_66 : decode b_M_told 66 = .ok (.if_icmp .ne 10, 3) := by decide +kernel
theorem d_M_told_69 : decode b_M_told 69 = .ok (.aload_n 0, 1) := by decide +kernel
theorem d_M_told_70 : decode b_M_told 70 = .ok (.getfield 166, 3) := by decide +kernel
theorem d_M_told_73 : decode b_M_told 73 = .ok (.goto 4, 3) := by decide +kernel
theorem d_M_told_76 : decode b_M_told 76 = .ok (.iconst (-1), 1) := by decide +kernel
theorem d_M_told_77 : decode b_M_told 77 = .ok (.ireturn, 1) := by decide +kernel
