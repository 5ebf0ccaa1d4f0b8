theorem dn_X0_init_0 : decode cn_X0_init 0 = .ok (.aload_n 0, 1) := by decide +kernel
theorem dn_X0_init_1 : decode cn_X0_init 1 = .ok (.invokespecial 1, 3) := by decide +kernel
theorem dn_X0_init_4 : decode cn_X0_init 4 = .ok (.aload_n 0, 1) := by decide +kernel
theorem dn_X0_init_5 : decode cn_X0_init 5 = .ok (.new 7, 3) := by decide +kernel
theorem dn_X0_init_8 : decode cn_X0_init 8 = .ok (.dup, 1) := by decide +kernel
theorem dn_X0_init_9 : decode cn_X0_init 9 = .ok (.invokespecial 9, 3) := by decide +kernel
theorem dn_X0_init_12 : decode cn_X0_init 12 = .ok (.putfield 10, 3) := by decide +kernel
theorem dn_X0_init_15 : decode cn_X0_init 15 = .ok (.aload_n 0, 1) := by decide +kernel
theorem dn_X0_init_16 : decode cn_X0_init 16 = .ok (.aload_n 0, 1) := by decide +kernel
theorem dn_X0_init_17 : decode cn_X0_init 17 = .ok (.getfield 10, 3) := by decide +kernel
theorem dn_X0_init_20 : decode cn_X0_init 20 = .ok (.getfield 16, 3) := by decide +kernel
theorem dn_X0_init_23 : decode cn_X0_init 23 = .ok (.putfield 20, 3) := by decide +kernel
theorem dn_X0_init_26 : decode cn_X0_init 26 = .ok (.aload_n 0, 1) := by decide +kernel
theorem dn_X0_init_27 : decode cn_X0_init 27 = .ok (.new 21, 3) := by decide +kernel
theorem dn_X0_init_30 : decode cn_X0_init 30 = .ok (.dup, 1) := by decide +kernel
theorem dn_X0_init_31 : decode cn_X0_init 31 = .ok (.invokespecial 23, 3) := by decide +kernel
theorem dn_X0_init_34 : decode cn_X0_init 34 = .ok (.putfield 24, 3) := by decide +kernel
theorem dn_X0_init_37 : decode cn_X0_init 37 = .ok (.return_, 1) := by decide +kernel
theorem dn_X0_bar_0 : decode cn_X0_bar 0 = .ok (.aload_n 0, 1) := by decide +kernel
theorem dn_X0_bar_1 : decode cn_X0_bar 1 = .ok (.getfield 20, 3) := by decide +kernel
theorem dn_X0_bar_4 : decode cn_X0_bar 4 = .ok (.getfield 28, 3) := by decide +kernel
theorem dn_X0_bar_7 : decode cn_X0_bar 7 = .ok (.bipush 60, 2) := by decide +kernel
theorem dn_X0_bar_9 : decode cn_X0_bar 9 = .ok (.if_icmp .lt 13, 3) := by decide +kernel
theorem dn_X0_bar_12 : decode cn_X0_bar 12 = .ok (.new 34, 3) := by decide +kernel
theorem dn_X0_bar_15 : decode cn_X0_bar 15 = .ok (.dup, 1) := by decide +kernel
theorem dn_X0_bar_16 : decode cn_X0_bar 16 = .ok (.ldc 36, 2) := by decide +kernel
theorem dn_X0_bar_18 : decode cn_X0_bar 18 = .ok (.invokespecial 38, 3) := by decide +kernel
theorem dn_X0_bar_21 : decode cn_X0_bar 21 = .ok (.athrow, 1) := by decide +kernel
theorem dn_X0_bar_22 : decode cn_X0_bar 22 = .ok (.aload_n 0, 1) := by decide +kernel
theorem dn_X0_bar_23 : decode cn_X0_bar 23 = .ok (.getfield 20, 3) := by decide +kernel
theorem dn_X0_bar_26 : decode cn_X0_bar 26 = .ok (.iload_n 1, 1) := by decide +kernel
theorem dn_X0_bar_27 : decode cn_X0_bar 27 = .ok (.invokevirtual 41, 3) := by decide +kernel
theorem dn_X0_bar_30 : decode cn_X0_bar 30 = .ok (.ireturn, 1) := by decide +kernel
theorem dn_X0_repeat_0 : decode cn_X0_repeat 0 = .ok (.aload_n 0, 1) := by decide +kernel
theorem dn_X0_repeat_1 : decode cn_X0_repeat 1 = .ok (.getfield 20, 3) := by decide +kernel
theorem dn_X0_repeat_4 : decode cn_X0_repeat 4 = .ok (.iload_n 1, 1) := by decide +kernel
theorem dn_X0_repeat_5 : decode cn_X0_repeat 5 = .ok (.invokevirtual 45, 3) := by decide +kernel
theorem dn_X0_repeat_8 : decode cn_X0_repeat 8 = .ok (.ifCond .eq 14, 3) := by decide +kernel
theorem dn_X0_repeat_11 : decode cn_X0_repeat 11 = .ok (.aload_n 0, 1) := by decide +kernel
theorem dn_X0_repeat_12 : decode cn_X0_repeat 12 = .ok (.getfield 20, 3) := by decide +kernel
theorem dn_X0_repeat_15 : decode cn_X0_repeat 15 = .ok (.iload_n 2, 1) := by decide +kernel
theorem dn_X0_repeat_16 : decode cn_X0_repeat 16 = .ok (.invokevirtual 45, 3) := by decide +kernel
theorem dn_X0_repeat_19 : decode cn_X0_repeat 19 = .ok (.ifCond .ne 13, 3) := by decide +kernel
theorem dn_X0_repeat_22 : decode cn_X0_repeat 22 = .ok (.new 49, 3) := by decide +kernel
theorem dn_X0_repeat_25 : decode cn_X0_repeat 25 = .ok (.dup, 1) := by decide +kernel
theorem dn_X0_repeat_26 : decode cn_X0_repeat 26 = .ok (.ldc 51, 2) := by decide +kernel
theorem dn_X0_repeat_28 : decode cn_X0_repeat 28 = .ok (.invokespecial 53, 3) := by decide +kernel
theorem dn_X0_repeat_31 : decode cn_X0_repeat 31 = .ok (.athrow, 1) := by decide +kernel
theorem dn_X0_repeat_32 : decode cn_X0_repeat 32 = .ok (.iload_n 3, 1) := by decide +kernel
theorem dn_X0_repeat_33 : decode cn_X0_repeat 33 = .ok (.iconst 2, 1) := by decide +kernel
theorem dn_X0_repeat_34 : decode cn_X0_repeat 34 = .ok (.if_icmp .lt 13, 3) := by decide +kernel
theorem dn_X0_repeat_37 : decode cn_X0_repeat 37 = .ok (.iload_n 3, 1) := by decide +kernel
theorem dn_X0_repeat_38 : decode cn_X0_repeat 38 = .ok (.iconst 4, 1) := by decide +kernel
theorem dn_X0_repeat_39 : decode cn_X0_repeat 39 = .ok (.if_icmp .gt 8, 3) := by decide +kernel
theorem dn_X0_repeat_42 : decode cn_X0_repeat 42 = .ok (.iload_n 2, 1) := by decide +kernel
theorem dn_X0_repeat_43 : decode cn_X0_repeat 43 = .ok (.iload_n 1, 1) := by decide +kernel
theorem dn_X0_repeat_44 : decode cn_X0_repeat 44 = .ok (.if_icmp .ge 13, 3) := by decide +kernel
theorem dn_X0_repeat_47 : decode cn_X0_repeat 47 = .ok (.new 54, 3) := by decide +kernel
theorem dn_X0_repeat_50 : decode cn_X0_repeat 50 = .ok (.dup, 1) := by decide +kernel
theorem dn_X0_repeat_51 : decode cn_X0_repeat 51 = .ok (.ldc 56, 2) := by decide +kernel
theorem dn_X0_repeat_53 : decode cn_X0_repeat 53 = .ok (.invokespecial 58, 3) := by decide +kernel
theorem dn_X0_repeat_56 : decode cn_X0_repeat 56 = .ok (.athrow, 1) := by decide +kernel
theorem dn_X0_repeat_57 : decode cn_X0_repeat 57 = .ok (.aload_n 0, 1) := by decide +kernel
theorem dn_X0_repeat_58 : decode cn_X0_repeat 58 = .ok (.getfield 20, 3) := by decide +kernel
theorem dn_X0_repeat_61 : decode cn_X0_repeat 61 = .ok (.iload_n 1, 1) := by decide +kernel
theorem dn_X0_repeat_62 : decode cn_X0_repeat 62 = .ok (.iload_n 2, 1) := by decide +kernel
theorem dn_X0_repeat_63 : decode cn_X0_repeat 63 = .ok (.invokevirtual 59, 3) := by decide +kernel
theorem dn_X0_repeat_66 : decode cn_X0_repeat 66 = .ok (.ifCond .ne 13, 3) := by decide +kernel
theorem dn_X0_repeat_69 : decode cn_X0_repeat 69 = .ok (.new 34, 3) := by decide +kernel
theorem dn_X0_repeat_72 : decode cn_X0_repeat 72 = .ok (.dup, 1) := by decide +kernel
theorem dn_X0_repeat_73 : decode cn_X0_repeat 73 = .ok (.ldc 63, 2) := by decide +kernel
theorem dn_X0_repeat_75 : decode cn_X0_repeat 75 = .ok (.invokespecial 38, 3) := by decide +kernel
theorem dn_X0_repeat_78 : decode cn_X0_repeat 78 = .ok (.athrow, 1) := by decide +kernel
theorem dn_X0_repeat_79 : decode cn_X0_repeat 79 = .ok (.aload_n 0, 1) := by decide +kernel
theorem dn_X0_repeat_80 : decode cn_X0_repeat 80 = .ok (.getfield 20, 3) := by decide +kernel
theorem dn_X0_repeat_83 : decode cn_X0_repeat 83 = .ok (.iload_n 1, 1) := by decide +kernel
theorem dn_X0_repeat_84 : decode cn_X0_repeat 84 = .ok (.iload_n 2, 1) := by decide +kernel
theorem dn_X0_repeat_85 : decode cn_X0_repeat 85 = .ok (.iload_n 3, 1) := by decide +kernel
theorem dn_X0_repeat_86 : decode cn_X0_repeat 86 = .ok (.invokevirtual 65, 3) := by decide +kernel
theorem dn_X0_repeat_89 : decode cn_X0_repeat 89 = .ok (.ireturn, 1) := by decide +kernel
theorem dn_X0_ending_0 : decode cn_X0_ending 0 = .ok (.aload_n 0, 1) := by decide +kernel
theorem dn_X0_ending_1 : decode cn_X0_ending 1 = .ok (.getfield 20, 3) := by decide +kernel
theorem dn_X0_ending_4 : decode cn_X0_ending 4 = .ok (.iload_n 1, 1) := by decide +kernel
theorem dn_X0_ending_5 : decode cn_X0_ending 5 = .ok (.invokevirtual 69, 3) := by decide +kernel
theorem dn_X0_ending_8 : decode cn_X0_ending 8 = .ok (.ifCond .eq 25, 3) := by decide +kernel
theorem dn_X0_ending_11 : decode cn_X0_ending 11 = .ok (.aload_n 0, 1) := by decide +kernel
theorem dn_X0_ending_12 : decode cn_X0_ending 12 = .ok (.getfield 20, 3) := by decide +kernel
theorem dn_X0_ending_15 : decode cn_X0_ending 15 = .ok (.iload_n 2, 1) := by decide +kernel
theorem dn_X0_ending_16 : decode cn_X0_ending 16 = .ok (.invokevirtual 45, 3) := by decide +kernel
theorem dn_X0_ending_19 : decode cn_X0_ending 19 = .ok (.ifCond .eq 14, 3) := by decide +kernel
theorem dn_X0_ending_22 : decode cn_X0_ending 22 = .ok (.aload_n 0, 1) := by decide +kernel
theorem dn_X0_ending_23 : decode cn_X0_ending 23 = .ok (.getfield 20, 3) := by decide +kernel
theorem dn_X0_ending_26 : decode cn_X0_ending 26 = .ok (.iload_n 3, 1) := by decide +kernel
theorem dn_X0_ending_27 : decode cn_X0_ending 27 = .ok (.invokevirtual 45, 3) := by decide +kernel
theorem dn_X0_ending_30 : decode cn_X0_ending 30 = .ok (.ifCond .ne 13, 3) := by decide +kernel
theorem dn_X0_ending_33 : decode cn_X0_ending 33 = .ok (.new 49, 3) := by decide +kernel
theorem dn_X0_ending_36 : decode cn_X0_ending 36 = .ok (.dup, 1) := by decide +kernel
theorem dn_X0_ending_37 : decode cn_X0_ending 37 = .ok (.ldc 72, 2) := by decide +kernel
theorem dn_X0_ending_39 : decode cn_X0_ending 39 = .ok (.invokespecial 53, 3) := by decide +kernel
theorem dn_X0_ending_42 : decode cn_X0_ending 42 = .ok (.athrow, 1) := by decide +kernel
theorem dn_X0_ending_43 : decode cn_X0_ending 43 = .ok (.iload_n 3, 1) := by decide +kernel
theorem dn_X0_ending_44 : decode cn_X0_ending 44 = .ok (.iload_n 2, 1) := by decide +kernel
theorem dn_X0_ending_45 : decode cn_X0_ending 45 = .ok (.if_icmp .lt 16, 3) := by decide +kernel
theorem dn_X0_ending_48 : decode cn_X0_ending 48 = .ok (.aload_n 0, 1) := by decide +kernel
theorem dn_X0_ending_49 : decode cn_X0_ending 49 = .ok (.getfield 20, 3) := by decide +kernel
theorem dn_X0_ending_52 : decode cn_X0_ending 52 = .ok (.iload_n 1, 1) := by decide +kernel
theorem dn_X0_ending_53 : decode cn_X0_ending 53 = .ok (.iload 4, 2) := by decide +kernel
theorem dn_X0_ending_55 : decode cn_X0_ending 55 = .ok (.invokevirtual 74, 3) := by decide +kernel
theorem dn_X0_ending_58 : decode cn_X0_ending 58 = .ok (.ifCond .ne 13, 3) := by decide +kernel
theorem dn_X0_ending_61 : decode cn_X0_ending 61 = .ok (.new 54, 3) := by decide +kernel
theorem dn_X0_ending_64 : decode cn_X0_ending 64 = .ok (.dup, 1) := by decide +kernel
theorem dn_X0_ending_65 : decode cn_X0_ending 65 = .ok (.ldc 77, 2) := by decide +kernel
theorem dn_X0_ending_67 : decode cn_X0_ending 67 = .ok (.invokespecial 58, 3) := by decide +kernel
theorem dn_X0_ending_70 : decode cn_X0_ending 70 = .ok (.athrow, 1) := by decide +kernel
theorem dn_X0_ending_71 : decode cn_X0_ending 71 = .ok (.aload_n 0, 1) := by decide +kernel
theorem dn_X0_ending_72 : decode cn_X0_ending 72 = .ok (.getfield 20, 3) := by decide +kernel
theorem dn_X0_ending_75 : decode cn_X0_ending 75 = .ok (.iload_n 1, 1) := by decide +kernel
theorem dn_X0_ending_76 : decode cn_X0_ending 76 = .ok (.iload_n 2, 1) := by decide +kernel
theorem dn_X0_ending_77 : decode cn_X0_ending 77 = .ok (.iload_n 3, 1) := by decide +kernel
theorem dn_X0_ending_78 : decode cn_X0_ending 78 = .ok (.invokevirtual 79, 3) := by decide +kernel
theorem dn_X0_ending_81 : decode cn_X0_ending 81 = .ok (.ifCond .ne 13, 3) := by decide +kernel
theorem dn_X0_ending_84 : decode cn_X0_ending 84 = .ok (.new 34, 3) := by decide +kernel
theorem dn_X0_ending_87 : decode cn_X0_ending 87 = .ok (.dup, 1) := by decide +kernel
theorem dn_X0_ending_88 : decode cn_X0_ending 88 = .ok (.ldc 83, 2) := by decide +kernel
theorem dn_X0_ending_90 : decode cn_X0_ending 90 = .ok (.invokespecial 38, 3) := by decide +kernel
theorem dn_X0_ending_93 : decode cn_X0_ending 93 = .ok (.athrow, 1) := by decide +kernel
theorem dn_X0_ending_94 : decode cn_X0_ending 94 = .ok (.aload_n 0, 1) := by decide +kernel
theorem dn_X0_ending_95 : decode cn_X0_ending 95 = .ok (.getfield 20, 3) := by decide +kernel
theorem dn_X0_ending_98 : decode cn_X0_ending 98 = .ok (.iload_n 1, 1) := by decide +kernel
theorem dn_X0_ending_99 : decode cn_X0_ending 99 = .ok (.iload_n 2, 1) := by decide +kernel
theorem dn_X0_ending_100 : decode cn_X0_ending 100 = .ok (.iload_n 3, 1) := by decide +kernel
theorem dn_X0_ending_101 : decode cn_X0_ending 101 = .ok (.iload 4, 2) := by decide +kernel
theorem dn_X0_ending_103 : decode cn_X0_ending 103 = .ok (.invokevirtual 85, 3) := by decide +kernel
theorem dn_X0_ending_106 : decode cn_X0_ending 106 = .ok (.ireturn, 1) := by decide +kernel
theorem dn_X0_sign_0 : decode cn_X0_sign 0 = .ok (.iload_n 1, 1) := by decide +kernel
theorem dn_X0_sign_1 : decode cn_X0_sign 1 = .ok (.ifCond .lt 8, 3) := by decide +kernel
theorem dn_X0_sign_4 : decode cn_X0_sign 4 = .ok (.iload_n 1, 1) := by decide +kernel
theorem dn_X0_sign_5 : decode cn_X0_sign 5 = .ok (.iconst 4, 1) := by decide +kernel
theorem dn_X0_sign_6 : decode cn_X0_sign 6 = .ok (.if_icmp .lt 13, 3) := by decide +kernel
theorem dn_X0_sign_9 : decode cn_X0_sign 9 = .ok (.new 54, 3) := by decide +kernel
theorem dn_X0_sign_12 : decode cn_X0_sign 12 = .ok (.dup, 1) := by decide +kernel
theorem dn_X0_sign_13 : decode cn_X0_sign 13 = .ok (.ldc 89, 2) := by decide +kernel
theorem dn_X0_sign_15 : decode cn_X0_sign 15 = .ok (.invokespecial 58, 3) := by decide +kernel
theorem dn_X0_sign_18 : decode cn_X0_sign 18 = .ok (.athrow, 1) := by decide +kernel
theorem dn_X0_sign_19 : decode cn_X0_sign 19 = .ok (.iload_n 2, 1) := by decide +kernel
theorem dn_X0_sign_20 : decode cn_X0_sign 20 = .ok (.iconst (-1), 1) := by decide +kernel
theorem dn_X0_sign_21 : decode cn_X0_sign 21 = .ok (.if_icmp .eq 24, 3) := by decide +kernel
theorem dn_X0_sign_24 : decode cn_X0_sign 24 = .ok (.aload_n 0, 1) := by decide +kernel
theorem dn_X0_sign_25 : decode cn_X0_sign 25 = .ok (.getfield 20, 3) := by decide +kernel
theorem dn_X0_sign_28 : decode cn_X0_sign 28 = .ok (.iload_n 2, 1) := by decide +kernel
theorem dn_X0_sign_29 : decode cn_X0_sign 29 = .ok (.invokevirtual 45, 3) := by decide +kernel
theorem dn_X0_sign_32 : decode cn_X0_sign 32 = .ok (.ifCond .ne 13, 3) := by decide +kernel
theorem dn_X0_sign_35 : decode cn_X0_sign 35 = .ok (.new 49, 3) := by decide +kernel
theorem dn_X0_sign_38 : decode cn_X0_sign 38 = .ok (.dup, 1) := by decide +kernel
theorem dn_X0_sign_39 : decode cn_X0_sign 39 = .ok (.ldc 51, 2) := by decide +kernel
theorem dn_X0_sign_41 : decode cn_X0_sign 41 = .ok (.invokespecial 53, 3) := by decide +kernel
theorem dn_X0_sign_44 : decode cn_X0_sign 44 = .ok (.athrow, 1) := by decide +kernel
theorem dn_X0_sign_45 : decode cn_X0_sign 45 = .ok (.aload_n 0, 1) := by decide +kernel
theorem dn_X0_sign_46 : decode cn_X0_sign 46 = .ok (.getfield 20, 3) := by decide +kernel
theorem dn_X0_sign_49 : decode cn_X0_sign 49 = .ok (.iload_n 1, 1) := by decide +kernel
theorem dn_X0_sign_50 : decode cn_X0_sign 50 = .ok (.iload_n 2, 1) := by decide +kernel
theorem dn_X0_sign_51 : decode cn_X0_sign 51 = .ok (.invokevirtual 91, 3) := by decide +kernel
theorem dn_X0_sign_54 : decode cn_X0_sign 54 = .ok (.ireturn, 1) := by decide +kernel
theorem dn_X0_jump_0 : decode cn_X0_jump 0 = .ok (.aload_n 0, 1) := by decide +kernel
theorem dn_X0_jump_1 : decode cn_X0_jump 1 = .ok (.getfield 20, 3) := by decide +kernel
theorem dn_X0_jump_4 : decode cn_X0_jump 4 = .ok (.iload_n 1, 1) := by decide +kernel
theorem dn_X0_jump_5 : decode cn_X0_jump 5 = .ok (.invokevirtual 45, 3) := by decide +kernel
theorem dn_X0_jump_8 : decode cn_X0_jump 8 = .ok (.ifCond .ne 13, 3) := by decide +kernel
theorem dn_X0_jump_11 : decode cn_X0_jump 11 = .ok (.new 49, 3) := by decide +kernel
theorem dn_X0_jump_14 : decode cn_X0_jump 14 = .ok (.dup, 1) := by decide +kernel
theorem dn_X0_jump_15 : decode cn_X0_jump 15 = .ok (.ldc 51, 2) := by decide +kernel
theorem dn_X0_jump_17 : decode cn_X0_jump 17 = .ok (.invokespecial 53, 3) := by decide +kernel
theorem dn_X0_jump_20 : decode cn_X0_jump 20 = .ok (.athrow, 1) := by decide +kernel
theorem dn_X0_jump_21 : decode cn_X0_jump 21 = .ok (.iload_n 2, 1) := by decide +kernel
theorem dn_X0_jump_22 : decode cn_X0_jump 22 = .ok (.ifCond .lt 17, 3) := by decide +kernel
theorem dn_X0_jump_25 : decode cn_X0_jump 25 = .ok (.iload_n 2, 1) := by decide +kernel
theorem dn_X0_jump_26 : decode cn_X0_jump 26 = .ok (.iconst 1, 1) := by decide +kernel
theorem dn_X0_jump_27 : decode cn_X0_jump 27 = .ok (.if_icmp .gt 12, 3) := by decide +kernel
theorem dn_X0_jump_30 : decode cn_X0_jump 30 = .ok (.iload_n 3, 1) := by decide +kernel
theorem dn_X0_jump_31 : decode cn_X0_jump 31 = .ok (.ifCond .lt 8, 3) := by decide +kernel
theorem dn_X0_jump_34 : decode cn_X0_jump 34 = .ok (.iload_n 3, 1) := by decide +kernel
theorem dn_X0_jump_35 : decode cn_X0_jump 35 = .ok (.iconst 2, 1) := by decide +kernel
theorem dn_X0_jump_36 : decode cn_X0_jump 36 = .ok (.if_icmp .le 13, 3) := by decide +kernel
theorem dn_X0_jump_39 : decode cn_X0_jump 39 = .ok (.new 54, 3) := by decide +kernel
theorem dn_X0_jump_42 : decode cn_X0_jump 42 = .ok (.dup, 1) := by decide +kernel
theorem dn_X0_jump_43 : decode cn_X0_jump 43 = .ok (.ldc 95, 2) := by decide +kernel
theorem dn_X0_jump_45 : decode cn_X0_jump 45 = .ok (.invokespecial 58, 3) := by decide +kernel
theorem dn_X0_jump_48 : decode cn_X0_jump 48 = .ok (.athrow, 1) := by decide +kernel
theorem dn_X0_jump_49 : decode cn_X0_jump 49 = .ok (.aload_n 0, 1) := by decide +kernel
theorem dn_X0_jump_50 : decode cn_X0_jump 50 = .ok (.getfield 20, 3) := by decide +kernel
theorem dn_X0_jump_53 : decode cn_X0_jump 53 = .ok (.iload_n 1, 1) := by decide +kernel
theorem dn_X0_jump_54 : decode cn_X0_jump 54 = .ok (.iload_n 2, 1) := by decide +kernel
theorem dn_X0_jump_55 : decode cn_X0_jump 55 = .ok (.iload_n 3, 1) := by decide +kernel
theorem dn_X0_jump_56 : decode cn_X0_jump 56 = .ok (.iload 4, 2) := by decide +kernel
theorem dn_X0_jump_58 : decode cn_X0_jump 58 = .ok (.invokevirtual 97, 3) := by decide +kernel
theorem dn_X0_jump_61 : decode cn_X0_jump 61 = .ok (.return_, 1) := by decide +kernel
theorem dn_X0_plain_0 : decode cn_X0_plain 0 = .ok (.aload_n 0, 1) := by decide +kernel
theorem dn_X0_plain_1 : decode cn_X0_plain 1 = .ok (.getfield 20, 3) := by decide +kernel
theorem dn_X0_plain_4 : decode cn_X0_plain 4 = .ok (.iload_n 1, 1) := by decide +kernel
theorem dn_X0_plain_5 : decode cn_X0_plain 5 = .ok (.invokevirtual 45, 3) := by decide +kernel
theorem dn_X0_plain_8 : decode cn_X0_plain 8 = .ok (.ifCond .ne 13, 3) := by decide +kernel
theorem dn_X0_plain_11 : decode cn_X0_plain 11 = .ok (.new 49, 3) := by decide +kernel
theorem dn_X0_plain_14 : decode cn_X0_plain 14 = .ok (.dup, 1) := by decide +kernel
theorem dn_X0_plain_15 : decode cn_X0_plain 15 = .ok (.ldc 51, 2) := by decide +kernel
theorem dn_X0_plain_17 : decode cn_X0_plain 17 = .ok (.invokespecial 53, 3) := by decide +kernel
theorem dn_X0_plain_20 : decode cn_X0_plain 20 = .ok (.athrow, 1) := by decide +kernel
theorem dn_X0_plain_21 : decode cn_X0_plain 21 = .ok (.aload_n 0, 1) := by decide +kernel
theorem dn_X0_plain_22 : decode cn_X0_plain 22 = .ok (.getfield 20, 3) := by decide +kernel
theorem dn_X0_plain_25 : decode cn_X0_plain 25 = .ok (.iload_n 1, 1) := by decide +kernel
theorem dn_X0_plain_26 : decode cn_X0_plain 26 = .ok (.invokevirtual 101, 3) := by decide +kernel
theorem dn_X0_plain_29 : decode cn_X0_plain 29 = .ok (.ifCond .ne 13, 3) := by decide +kernel
theorem dn_X0_plain_32 : decode cn_X0_plain 32 = .ok (.new 34, 3) := by decide +kernel
theorem dn_X0_plain_35 : decode cn_X0_plain 35 = .ok (.dup, 1) := by decide +kernel
theorem dn_X0_plain_36 : decode cn_X0_plain 36 = .ok (.ldc 104, 2) := by decide +kernel
theorem dn_X0_plain_38 : decode cn_X0_plain 38 = .ok (.invokespecial 38, 3) := by decide +kernel
theorem dn_X0_plain_41 : decode cn_X0_plain 41 = .ok (.athrow, 1) := by decide +kernel
theorem dn_X0_plain_42 : decode cn_X0_plain 42 = .ok (.aload_n 0, 1) := by decide +kernel
theorem dn_X0_plain_43 : decode cn_X0_plain 43 = .ok (.getfield 20, 3) := by decide +kernel
theorem dn_X0_plain_46 : decode cn_X0_plain 46 = .ok (.iload_n 1, 1) := by decide +kernel
theorem dn_X0_plain_47 : decode cn_X0_plain 47 = .ok (.invokevirtual 106, 3) := by decide +kernel
theorem dn_X0_plain_50 : decode cn_X0_plain 50 = .ok (.return_, 1) := by decide +kernel
theorem dn_X0_unfold_0 : decode cn_X0_unfold 0 = .ok (.aload_n 0, 1) := by decide +kernel
theorem dn_X0_unfold_1 : decode cn_X0_unfold 1 = .ok (.getfield 10, 3) := by decide +kernel
theorem dn_X0_unfold_4 : decode cn_X0_unfold 4 = .ok (.invokevirtual 110, 3) := by decide +kernel
theorem dn_X0_unfold_7 : decode cn_X0_unfold 7 = .ok (.ireturn, 1) := by decide +kernel
theorem dn_X0_fault_0 : decode cn_X0_fault 0 = .ok (.aload_n 0, 1) := by decide +kernel
theorem dn_X0_fault_1 : decode cn_X0_fault 1 = .ok (.getfield 10, 3) := by decide +kernel
theorem dn_X0_fault_4 : decode cn_X0_fault 4 = .ok (.getfield 114, 3) := by decide +kernel
theorem dn_X0_fault_7 : decode cn_X0_fault 7 = .ok (.ireturn, 1) := by decide +kernel
theorem dn_X0_played_0 : decode cn_X0_played 0 = .ok (.iload_n 1, 1) := by decide +kernel
theorem dn_X0_played_1 : decode cn_X0_played 1 = .ok (.ifCond .lt 14, 3) := by decide +kernel
theorem dn_X0_played_4 : decode cn_X0_played 4 = .ok (.iload_n 1, 1) := by decide +kernel
theorem dn_X0_played_5 : decode cn_X0_played 5 = .ok (.aload_n 0, 1) := by decide +kernel
theorem dn_X0_played_6 : decode cn_X0_played 6 = .ok (.getfield 10, 3) := by decide +kernel
theorem dn_X0_played_9 : decode cn_X0_played 9 = .ok (.getfield 117, 3) := by decide +kernel
theorem dn_X0_played_12 : decode cn_X0_played 12 = .ok (.if_icmp .lt 13, 3) := by decide +kernel
theorem dn_X0_played_15 : decode cn_X0_played 15 = .ok (.new 49, 3) := by decide +kernel
theorem dn_X0_played_18 : decode cn_X0_played 18 = .ok (.dup, 1) := by decide +kernel
theorem dn_X0_played_19 : decode cn_X0_played 19 = .ok (.ldc 120, 2) := by decide +kernel
theorem dn_X0_played_21 : decode cn_X0_played 21 = .ok (.invokespecial 53, 3) := by decide +kernel
theorem dn_X0_played_24 : decode cn_X0_played 24 = .ok (.athrow, 1) := by decide +kernel
theorem dn_X0_played_25 : decode cn_X0_played 25 = .ok (.iload_n 2, 1) := by decide +kernel
theorem dn_X0_played_26 : decode cn_X0_played 26 = .ok (.tableswitch 92 0 4 #[34, 44, 62, 72, 82], 34) := by decide +kernel
theorem dn_X0_played_60 : decode cn_X0_played 60 = .ok (.aload_n 0, 1) := by decide +kernel
theorem dn_X0_played_61 : decode cn_X0_played 61 = .ok (.getfield 10, 3) := by decide +kernel
theorem dn_X0_played_64 : decode cn_X0_played 64 = .ok (.getfield 122, 3) := by decide +kernel
theorem dn_X0_played_67 : decode cn_X0_played 67 = .ok (.iload_n 1, 1) := by decide +kernel
theorem dn_X0_played_68 : decode cn_X0_played 68 = .ok (.iaload, 1) := by decide +kernel
theorem dn_X0_played_69 : decode cn_X0_played 69 = .ok (.ireturn, 1) := by decide +kernel
theorem dn_X0_played_70 : decode cn_X0_played 70 = .ok (.aload_n 0, 1) := by decide +kernel
theorem dn_X0_played_71 : decode cn_X0_played 71 = .ok (.getfield 20, 3) := by decide +kernel
theorem dn_X0_played_74 : decode cn_X0_played 74 = .ok (.getfield 126, 3) := by decide +kernel
theorem dn_X0_played_77 : decode cn_X0_played 77 = .ok (.aload_n 0, 1) := by decide +kernel
theorem dn_X0_played_78 : decode cn_X0_played 78 = .ok (.getfield 10, 3) := by decide +kernel
theorem dn_X0_played_81 : decode cn_X0_played 81 = .ok (.getfield 122, 3) := by decide +kernel
theorem dn_X0_played_84 : decode cn_X0_played 84 = .ok (.iload_n 1, 1) := by decide +kernel
theorem dn_X0_played_85 : decode cn_X0_played 85 = .ok (.iaload, 1) := by decide +kernel
theorem dn_X0_played_86 : decode cn_X0_played 86 = .ok (.iaload, 1) := by decide +kernel
theorem dn_X0_played_87 : decode cn_X0_played 87 = .ok (.ireturn, 1) := by decide +kernel
theorem dn_X0_played_88 : decode cn_X0_played 88 = .ok (.aload_n 0, 1) := by decide +kernel
theorem dn_X0_played_89 : decode cn_X0_played 89 = .ok (.getfield 10, 3) := by decide +kernel
theorem dn_X0_played_92 : decode cn_X0_played 92 = .ok (.getfield 129, 3) := by decide +kernel
theorem dn_X0_played_95 : decode cn_X0_played 95 = .ok (.iload_n 1, 1) := by decide +kernel
theorem dn_X0_played_96 : decode cn_X0_played 96 = .ok (.iaload, 1) := by decide +kernel
theorem dn_X0_played_97 : decode cn_X0_played 97 = .ok (.ireturn, 1) := by decide +kernel
theorem dn_X0_played_98 : decode cn_X0_played 98 = .ok (.aload_n 0, 1) := by decide +kernel
theorem dn_X0_played_99 : decode cn_X0_played 99 = .ok (.getfield 10, 3) := by decide +kernel
theorem dn_X0_played_102 : decode cn_X0_played 102 = .ok (.getfield 132, 3) := by decide +kernel
theorem dn_X0_played_105 : decode cn_X0_played 105 = .ok (.iload_n 1, 1) := by decide +kernel
theorem dn_X0_played_106 : decode cn_X0_played 106 = .ok (.iaload, 1) := by decide +kernel
theorem dn_X0_played_107 : decode cn_X0_played 107 = .ok (.ireturn, 1) := by decide +kernel
theorem dn_X0_played_108 : decode cn_X0_played 108 = .ok (.aload_n 0, 1) := by decide +kernel
theorem dn_X0_played_109 : decode cn_X0_played 109 = .ok (.getfield 10, 3) := by decide +kernel
theorem dn_X0_played_112 : decode cn_X0_played 112 = .ok (.getfield 135, 3) := by decide +kernel
theorem dn_X0_played_115 : decode cn_X0_played 115 = .ok (.iload_n 1, 1) := by decide +kernel
theorem dn_X0_played_116 : decode cn_X0_played 116 = .ok (.iaload, 1) := by decide +kernel
theorem dn_X0_played_117 : decode cn_X0_played 117 = .ok (.ireturn, 1) := by decide +kernel
theorem dn_X0_played_118 : decode cn_X0_played 118 = .ok (.new 54, 3) := by decide +kernel
theorem dn_X0_played_121 : decode cn_X0_played 121 = .ok (.dup, 1) := by decide +kernel
theorem dn_X0_played_122 : decode cn_X0_played 122 = .ok (.ldc 138, 2) := by decide +kernel
theorem dn_X0_played_124 : decode cn_X0_played 124 = .ok (.invokespecial 58, 3) := by decide +kernel
theorem dn_X0_played_127 : decode cn_X0_played 127 = .ok (.athrow, 1) := by decide +kernel
theorem dn_X0_times_0 : decode cn_X0_times 0 = .ok (.aload_n 0, 1) := by decide +kernel
theorem dn_X0_times_1 : decode cn_X0_times 1 = .ok (.getfield 20, 3) := by decide +kernel
theorem dn_X0_times_4 : decode cn_X0_times 4 = .ok (.iload_n 1, 1) := by decide +kernel
theorem dn_X0_times_5 : decode cn_X0_times 5 = .ok (.invokevirtual 45, 3) := by decide +kernel
theorem dn_X0_times_8 : decode cn_X0_times 8 = .ok (.ifCond .ne 13, 3) := by decide +kernel
theorem dn_X0_times_11 : decode cn_X0_times 11 = .ok (.new 49, 3) := by decide +kernel
theorem dn_X0_times_14 : decode cn_X0_times 14 = .ok (.dup, 1) := by decide +kernel
theorem dn_X0_times_15 : decode cn_X0_times 15 = .ok (.ldc 51, 2) := by decide +kernel
theorem dn_X0_times_17 : decode cn_X0_times 17 = .ok (.invokespecial 53, 3) := by decide +kernel
theorem dn_X0_times_20 : decode cn_X0_times 20 = .ok (.athrow, 1) := by decide +kernel
theorem dn_X0_times_21 : decode cn_X0_times 21 = .ok (.aload_n 0, 1) := by decide +kernel
theorem dn_X0_times_22 : decode cn_X0_times 22 = .ok (.getfield 10, 3) := by decide +kernel
theorem dn_X0_times_25 : decode cn_X0_times 25 = .ok (.getfield 140, 3) := by decide +kernel
theorem dn_X0_times_28 : decode cn_X0_times 28 = .ok (.iload_n 1, 1) := by decide +kernel
theorem dn_X0_times_29 : decode cn_X0_times 29 = .ok (.iaload, 1) := by decide +kernel
theorem dn_X0_times_30 : decode cn_X0_times 30 = .ok (.ireturn, 1) := by decide +kernel
theorem dn_X0_comes_0 : decode cn_X0_comes 0 = .ok (.aload_n 0, 1) := by decide +kernel
theorem dn_X0_comes_1 : decode cn_X0_comes 1 = .ok (.getfield 20, 3) := by decide +kernel
theorem dn_X0_comes_4 : decode cn_X0_comes 4 = .ok (.iload_n 1, 1) := by decide +kernel
theorem dn_X0_comes_5 : decode cn_X0_comes 5 = .ok (.invokevirtual 45, 3) := by decide +kernel
theorem dn_X0_comes_8 : decode cn_X0_comes 8 = .ok (.ifCond .ne 13, 3) := by decide +kernel
theorem dn_X0_comes_11 : decode cn_X0_comes 11 = .ok (.new 49, 3) := by decide +kernel
theorem dn_X0_comes_14 : decode cn_X0_comes 14 = .ok (.dup, 1) := by decide +kernel
theorem dn_X0_comes_15 : decode cn_X0_comes 15 = .ok (.ldc 51, 2) := by decide +kernel
theorem dn_X0_comes_17 : decode cn_X0_comes 17 = .ok (.invokespecial 53, 3) := by decide +kernel
theorem dn_X0_comes_20 : decode cn_X0_comes 20 = .ok (.athrow, 1) := by decide +kernel
theorem dn_X0_comes_21 : decode cn_X0_comes 21 = .ok (.aload_n 0, 1) := by decide +kernel
theorem dn_X0_comes_22 : decode cn_X0_comes 22 = .ok (.getfield 10, 3) := by decide +kernel
theorem dn_X0_comes_25 : decode cn_X0_comes 25 = .ok (.getfield 143, 3) := by decide +kernel
theorem dn_X0_comes_28 : decode cn_X0_comes 28 = .ok (.iload_n 1, 1) := by decide +kernel
theorem dn_X0_comes_29 : decode cn_X0_comes 29 = .ok (.iaload, 1) := by decide +kernel
theorem dn_X0_comes_30 : decode cn_X0_comes 30 = .ok (.ireturn, 1) := by decide +kernel
theorem dn_X0_fold_0 : decode cn_X0_fold 0 = .ok (.iload_n 2, 1) := by decide +kernel
theorem dn_X0_fold_1 : decode cn_X0_fold 1 = .ok (.iconst 1, 1) := by decide +kernel
theorem dn_X0_fold_2 : decode cn_X0_fold 2 = .ok (.if_icmp .lt 9, 3) := by decide +kernel
theorem dn_X0_fold_5 : decode cn_X0_fold 5 = .ok (.iload_n 2, 1) := by decide +kernel
theorem dn_X0_fold_6 : decode cn_X0_fold 6 = .ok (.bipush 40, 2) := by decide +kernel
theorem dn_X0_fold_8 : decode cn_X0_fold 8 = .ok (.if_icmp .le 13, 3) := by decide +kernel
theorem dn_X0_fold_11 : decode cn_X0_fold 11 = .ok (.new 54, 3) := by decide +kernel
theorem dn_X0_fold_14 : decode cn_X0_fold 14 = .ok (.dup, 1) := by decide +kernel
theorem dn_X0_fold_15 : decode cn_X0_fold 15 = .ok (.ldc 146, 2) := by decide +kernel
theorem dn_X0_fold_17 : decode cn_X0_fold 17 = .ok (.invokespecial 58, 3) := by decide +kernel
theorem dn_X0_fold_20 : decode cn_X0_fold 20 = .ok (.athrow, 1) := by decide +kernel
theorem dn_X0_fold_21 : decode cn_X0_fold 21 = .ok (.iload_n 1, 1) := by decide +kernel
theorem dn_X0_fold_22 : decode cn_X0_fold 22 = .ok (.ifCond .lt 16, 3) := by decide +kernel
theorem dn_X0_fold_25 : decode cn_X0_fold 25 = .ok (.iload_n 1, 1) := by decide +kernel
theorem dn_X0_fold_26 : decode cn_X0_fold 26 = .ok (.aload_n 0, 1) := by decide +kernel
theorem dn_X0_fold_27 : decode cn_X0_fold 27 = .ok (.getfield 10, 3) := by decide +kernel
theorem dn_X0_fold_30 : decode cn_X0_fold 30 = .ok (.getfield 117, 3) := by decide +kernel
theorem dn_X0_fold_33 : decode cn_X0_fold 33 = .ok (.iload_n 2, 1) := by decide +kernel
theorem dn_X0_fold_34 : decode cn_X0_fold 34 = .ok (.isub, 1) := by decide +kernel
theorem dn_X0_fold_35 : decode cn_X0_fold 35 = .ok (.if_icmp .le 13, 3) := by decide +kernel
theorem dn_X0_fold_38 : decode cn_X0_fold 38 = .ok (.new 49, 3) := by decide +kernel
theorem dn_X0_fold_41 : decode cn_X0_fold 41 = .ok (.dup, 1) := by decide +kernel
theorem dn_X0_fold_42 : decode cn_X0_fold 42 = .ok (.ldc 148, 2) := by decide +kernel
theorem dn_X0_fold_44 : decode cn_X0_fold 44 = .ok (.invokespecial 53, 3) := by decide +kernel
theorem dn_X0_fold_47 : decode cn_X0_fold 47 = .ok (.athrow, 1) := by decide +kernel
theorem dn_X0_fold_48 : decode cn_X0_fold 48 = .ok (.iconst 0, 1) := by decide +kernel
theorem dn_X0_fold_49 : decode cn_X0_fold 49 = .ok (.istore_n 3, 1) := by decide +kernel
theorem dn_X0_fold_50 : decode cn_X0_fold 50 = .ok (.iload_n 3, 1) := by decide +kernel
theorem dn_X0_fold_51 : decode cn_X0_fold 51 = .ok (.iload_n 2, 1) := by decide +kernel
theorem dn_X0_fold_52 : decode cn_X0_fold 52 = .ok (.if_icmp .ge 37, 3) := by decide +kernel
theorem dn_X0_fold_55 : decode cn_X0_fold 55 = .ok (.aload_n 0, 1) := by decide +kernel
theorem dn_X0_fold_56 : decode cn_X0_fold 56 = .ok (.getfield 24, 3) := by decide +kernel
theorem dn_X0_fold_59 : decode cn_X0_fold 59 = .ok (.getfield 150, 3) := by decide +kernel
theorem dn_X0_fold_62 : decode cn_X0_fold 62 = .ok (.iload_n 3, 1) := by decide +kernel
theorem dn_X0_fold_63 : decode cn_X0_fold 63 = .ok (.aload_n 0, 1) := by decide +kernel
theorem dn_X0_fold_64 : decode cn_X0_fold 64 = .ok (.getfield 20, 3) := by decide +kernel
theorem dn_X0_fold_67 : decode cn_X0_fold 67 = .ok (.getfield 126, 3) := by decide +kernel
theorem dn_X0_fold_70 : decode cn_X0_fold 70 = .ok (.aload_n 0, 1) := by decide +kernel
theorem dn_X0_fold_71 : decode cn_X0_fold 71 = .ok (.getfield 10, 3) := by decide +kernel
theorem dn_X0_fold_74 : decode cn_X0_fold 74 = .ok (.getfield 122, 3) := by decide +kernel
theorem dn_X0_fold_77 : decode cn_X0_fold 77 = .ok (.iload_n 1, 1) := by decide +kernel
theorem dn_X0_fold_78 : decode cn_X0_fold 78 = .ok (.iload_n 3, 1) := by decide +kernel
theorem dn_X0_fold_79 : decode cn_X0_fold 79 = .ok (.iadd, 1) := by decide +kernel
theorem dn_X0_fold_80 : decode cn_X0_fold 80 = .ok (.iaload, 1) := by decide +kernel
theorem dn_X0_fold_81 : decode cn_X0_fold 81 = .ok (.iaload, 1) := by decide +kernel
theorem dn_X0_fold_82 : decode cn_X0_fold 82 = .ok (.iastore, 1) := by decide +kernel
theorem dn_X0_fold_83 : decode cn_X0_fold 83 = .ok (.iinc 3 1, 3) := by decide +kernel
theorem dn_X0_fold_86 : decode cn_X0_fold 86 = .ok (.goto (-36), 3) := by decide +kernel
theorem dn_X0_fold_89 : decode cn_X0_fold 89 = .ok (.aload_n 0, 1) := by decide +kernel
theorem dn_X0_fold_90 : decode cn_X0_fold 90 = .ok (.getfield 24, 3) := by decide +kernel
theorem dn_X0_fold_93 : decode cn_X0_fold 93 = .ok (.iload_n 2, 1) := by decide +kernel
theorem dn_X0_fold_94 : decode cn_X0_fold 94 = .ok (.invokevirtual 153, 3) := by decide +kernel
theorem dn_X0_fold_97 : decode cn_X0_fold 97 = .ok (.ireturn, 1) := by decide +kernel
theorem dn_X0_folded_0 : decode cn_X0_folded 0 = .ok (.iload_n 1, 1) := by decide +kernel
theorem dn_X0_folded_1 : decode cn_X0_folded 1 = .ok (.ifCond .lt 14, 3) := by decide +kernel
theorem dn_X0_folded_4 : decode cn_X0_folded 4 = .ok (.iload_n 1, 1) := by decide +kernel
theorem dn_X0_folded_5 : decode cn_X0_folded 5 = .ok (.aload_n 0, 1) := by decide +kernel
theorem dn_X0_folded_6 : decode cn_X0_folded 6 = .ok (.getfield 24, 3) := by decide +kernel
theorem dn_X0_folded_9 : decode cn_X0_folded 9 = .ok (.getfield 156, 3) := by decide +kernel
theorem dn_X0_folded_12 : decode cn_X0_folded 12 = .ok (.if_icmp .lt 13, 3) := by decide +kernel
theorem dn_X0_folded_15 : decode cn_X0_folded 15 = .ok (.new 49, 3) := by decide +kernel
theorem dn_X0_folded_18 : decode cn_X0_folded 18 = .ok (.dup, 1) := by decide +kernel
theorem dn_X0_folded_19 : decode cn_X0_folded 19 = .ok (.ldc 159, 2) := by decide +kernel
theorem dn_X0_folded_21 : decode cn_X0_folded 21 = .ok (.invokespecial 53, 3) := by decide +kernel
theorem dn_X0_folded_24 : decode cn_X0_folded 24 = .ok (.athrow, 1) := by decide +kernel
theorem dn_X0_folded_25 : decode cn_X0_folded 25 = .ok (.iload_n 2, 1) := by decide +kernel
theorem dn_X0_folded_26 : decode cn_X0_folded 26 = .ok (.lookupswitch 46 #[(0, 26), (1, 36)], 26) := by decide +kernel
theorem dn_X0_folded_52 : decode cn_X0_folded 52 = .ok (.aload_n 0, 1) := by decide +kernel
theorem dn_X0_folded_53 : decode cn_X0_folded 53 = .ok (.getfield 24, 3) := by decide +kernel
theorem dn_X0_folded_56 : decode cn_X0_folded 56 = .ok (.getfield 161, 3) := by decide +kernel
theorem dn_X0_folded_59 : decode cn_X0_folded 59 = .ok (.iload_n 1, 1) := by decide +kernel
theorem dn_X0_folded_60 : decode cn_X0_folded 60 = .ok (.iaload, 1) := by decide +kernel
theorem dn_X0_folded_61 : decode cn_X0_folded 61 = .ok (.ireturn, 1) := by decide +kernel
theorem dn_X0_folded_62 : decode cn_X0_folded 62 = .ok (.aload_n 0, 1) := by decide +kernel
theorem dn_X0_folded_63 : decode cn_X0_folded 63 = .ok (.getfield 24, 3) := by decide +kernel
theorem dn_X0_folded_66 : decode cn_X0_folded 66 = .ok (.getfield 164, 3) := by decide +kernel
theorem dn_X0_folded_69 : decode cn_X0_folded 69 = .ok (.iload_n 1, 1) := by decide +kernel
theorem dn_X0_folded_70 : decode cn_X0_folded 70 = .ok (.iaload, 1) := by decide +kernel
theorem dn_X0_folded_71 : decode cn_X0_folded 71 = .ok (.ireturn, 1) := by decide +kernel
theorem dn_X0_folded_72 : decode cn_X0_folded 72 = .ok (.new 54, 3) := by decide +kernel
theorem dn_X0_folded_75 : decode cn_X0_folded 75 = .ok (.dup, 1) := by decide +kernel
theorem dn_X0_folded_76 : decode cn_X0_folded 76 = .ok (.ldc 167, 2) := by decide +kernel
theorem dn_X0_folded_78 : decode cn_X0_folded 78 = .ok (.invokespecial 58, 3) := by decide +kernel
theorem dn_X0_folded_81 : decode cn_X0_folded 81 = .ok (.athrow, 1) := by decide +kernel
theorem dn_X0_told_0 : decode cn_X0_told 0 = .ok (.iload_n 1, 1) := by decide +kernel
theorem dn_X0_told_1 : decode cn_X0_told 1 = .ok (.tableswitch 111 0 7 #[47, 55, 63, 71, 79, 87, 95, 103], 47) := by decide +kernel
theorem dn_X0_told_48 : decode cn_X0_told 48 = .ok (.aload_n 0, 1) := by decide +kernel
theorem dn_X0_told_49 : decode cn_X0_told 49 = .ok (.getfield 20, 3) := by decide +kernel
theorem dn_X0_told_52 : decode cn_X0_told 52 = .ok (.getfield 28, 3) := by decide +kernel
theorem dn_X0_told_55 : decode cn_X0_told 55 = .ok (.ireturn, 1) := by decide +kernel
theorem dn_X0_told_56 : decode cn_X0_told 56 = .ok (.aload_n 0, 1) := by decide +kernel
theorem dn_X0_told_57 : decode cn_X0_told 57 = .ok (.getfield 20, 3) := by decide +kernel
theorem dn_X0_told_60 : decode cn_X0_told 60 = .ok (.getfield 169, 3) := by decide +kernel
theorem dn_X0_told_63 : decode cn_X0_told 63 = .ok (.ireturn, 1) := by decide +kernel
theorem dn_X0_told_64 : decode cn_X0_told 64 = .ok (.aload_n 0, 1) := by decide +kernel
theorem dn_X0_told_65 : decode cn_X0_told 65 = .ok (.getfield 20, 3) := by decide +kernel
theorem dn_X0_told_68 : decode cn_X0_told 68 = .ok (.getfield 172, 3) := by decide +kernel
theorem dn_X0_told_71 : decode cn_X0_told 71 = .ok (.ireturn, 1) := by decide +kernel
theorem dn_X0_told_72 : decode cn_X0_told 72 = .ok (.aload_n 0, 1) := by decide +kernel
theorem dn_X0_told_73 : decode cn_X0_told 73 = .ok (.getfield 20, 3) := by decide +kernel
theorem dn_X0_told_76 : decode cn_X0_told 76 = .ok (.getfield 175, 3) := by decide +kernel
theorem dn_X0_told_79 : decode cn_X0_told 79 = .ok (.ireturn, 1) := by decide +kernel
theorem dn_X0_told_80 : decode cn_X0_told 80 = .ok (.aload_n 0, 1) := by decide +kernel
theorem dn_X0_told_81 : decode cn_X0_told 81 = .ok (.getfield 10, 3) := by decide +kernel
theorem dn_X0_told_84 : decode cn_X0_told 84 = .ok (.getfield 117, 3) := by decide +kernel
theorem dn_X0_told_87 : decode cn_X0_told 87 = .ok (.ireturn, 1) := by decide +kernel
theorem dn_X0_told_88 : decode cn_X0_told 88 = .ok (.aload_n 0, 1) := by decide +kernel
theorem dn_X0_told_89 : decode cn_X0_told 89 = .ok (.getfield 10, 3) := by decide +kernel
theorem dn_X0_told_92 : decode cn_X0_told 92 = .ok (.getfield 178, 3) := by decide +kernel
theorem dn_X0_told_95 : decode cn_X0_told 95 = .ok (.ireturn, 1) := by decide +kernel
theorem dn_X0_told_96 : decode cn_X0_told 96 = .ok (.aload_n 0, 1) := by decide +kernel
theorem dn_X0_told_97 : decode cn_X0_told 97 = .ok (.getfield 24, 3) := by decide +kernel
theorem dn_X0_told_100 : decode cn_X0_told 100 = .ok (.getfield 156, 3) := by decide +kernel
theorem dn_X0_told_103 : decode cn_X0_told 103 = .ok (.ireturn, 1) := by decide +kernel
theorem dn_X0_told_104 : decode cn_X0_told 104 = .ok (.aload_n 0, 1) := by decide +kernel
theorem dn_X0_told_105 : decode cn_X0_told 105 = .ok (.getfield 24, 3) := by decide +kernel
theorem dn_X0_told_108 : decode cn_X0_told 108 = .ok (.getfield 179, 3) := by decide +kernel
theorem dn_X0_told_111 : decode cn_X0_told 111 = .ok (.ireturn, 1) := by decide +kernel
theorem dn_X0_told_112 : decode cn_X0_told 112 = .ok (.new 54, 3) := by decide +kernel
theorem dn_X0_told_115 : decode cn_X0_told 115 = .ok (.dup, 1) := by decide +kernel
theorem dn_X0_told_116 : decode cn_X0_told 116 = .ok (.ldc 180, 2) := by decide +kernel
theorem dn_X0_told_118 : decode cn_X0_told 118 = .ok (.invokespecial 58, 3) := by decide +kernel
theorem dn_X0_told_121 : decode cn_X0_told 121 = .ok (.athrow, 1) := by decide +kernel
