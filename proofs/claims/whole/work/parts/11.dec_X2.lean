theorem dn_X2_init_0 : decode cn_X2_init 0 = .ok (.aload_n 0, 1) := by decide +kernel
theorem dn_X2_init_1 : decode cn_X2_init 1 = .ok (.invokespecial 3, 3) := by decide +kernel
theorem dn_X2_init_4 : decode cn_X2_init 4 = .ok (.aload_n 0, 1) := by decide +kernel
theorem dn_X2_init_5 : decode cn_X2_init 5 = .ok (.new 9, 3) := by decide +kernel
theorem dn_X2_init_8 : decode cn_X2_init 8 = .ok (.dup, 1) := by decide +kernel
theorem dn_X2_init_9 : decode cn_X2_init 9 = .ok (.invokespecial 11, 3) := by decide +kernel
theorem dn_X2_init_12 : decode cn_X2_init 12 = .ok (.putfield 12, 3) := by decide +kernel
theorem dn_X2_init_15 : decode cn_X2_init 15 = .ok (.aload_n 0, 1) := by decide +kernel
theorem dn_X2_init_16 : decode cn_X2_init 16 = .ok (.sipush 1000, 3) := by decide +kernel
theorem dn_X2_init_19 : decode cn_X2_init 19 = .ok (.newarray .int, 2) := by decide +kernel
theorem dn_X2_init_21 : decode cn_X2_init 21 = .ok (.putfield 18, 3) := by decide +kernel
theorem dn_X2_init_24 : decode cn_X2_init 24 = .ok (.aload_n 0, 1) := by decide +kernel
theorem dn_X2_init_25 : decode cn_X2_init 25 = .ok (.sipush 1000, 3) := by decide +kernel
theorem dn_X2_init_28 : decode cn_X2_init 28 = .ok (.newarray .int, 2) := by decide +kernel
theorem dn_X2_init_30 : decode cn_X2_init 30 = .ok (.putfield 22, 3) := by decide +kernel
theorem dn_X2_init_33 : decode cn_X2_init 33 = .ok (.aload_n 0, 1) := by decide +kernel
theorem dn_X2_init_34 : decode cn_X2_init 34 = .ok (.sipush 1000, 3) := by decide +kernel
theorem dn_X2_init_37 : decode cn_X2_init 37 = .ok (.newarray .int, 2) := by decide +kernel
theorem dn_X2_init_39 : decode cn_X2_init 39 = .ok (.putfield 25, 3) := by decide +kernel
theorem dn_X2_init_42 : decode cn_X2_init 42 = .ok (.aload_n 0, 1) := by decide +kernel
theorem dn_X2_init_43 : decode cn_X2_init 43 = .ok (.sipush 1000, 3) := by decide +kernel
theorem dn_X2_init_46 : decode cn_X2_init 46 = .ok (.newarray .int, 2) := by decide +kernel
theorem dn_X2_init_48 : decode cn_X2_init 48 = .ok (.putfield 28, 3) := by decide +kernel
theorem dn_X2_init_51 : decode cn_X2_init 51 = .ok (.aload_n 0, 1) := by decide +kernel
theorem dn_X2_init_52 : decode cn_X2_init 52 = .ok (.bipush 60, 2) := by decide +kernel
theorem dn_X2_init_54 : decode cn_X2_init 54 = .ok (.newarray .int, 2) := by decide +kernel
theorem dn_X2_init_56 : decode cn_X2_init 56 = .ok (.putfield 31, 3) := by decide +kernel
theorem dn_X2_init_59 : decode cn_X2_init 59 = .ok (.aload_n 0, 1) := by decide +kernel
theorem dn_X2_init_60 : decode cn_X2_init 60 = .ok (.bipush 60, 2) := by decide +kernel
theorem dn_X2_init_62 : decode cn_X2_init 62 = .ok (.newarray .int, 2) := by decide +kernel
theorem dn_X2_init_64 : decode cn_X2_init 64 = .ok (.putfield 34, 3) := by decide +kernel
theorem dn_X2_init_67 : decode cn_X2_init 67 = .ok (.aload_n 0, 1) := by decide +kernel
theorem dn_X2_init_68 : decode cn_X2_init 68 = .ok (.bipush 20, 2) := by decide +kernel
theorem dn_X2_init_70 : decode cn_X2_init 70 = .ok (.newarray .int, 2) := by decide +kernel
theorem dn_X2_init_72 : decode cn_X2_init 72 = .ok (.putfield 37, 3) := by decide +kernel
theorem dn_X2_init_75 : decode cn_X2_init 75 = .ok (.aload_n 0, 1) := by decide +kernel
theorem dn_X2_init_76 : decode cn_X2_init 76 = .ok (.bipush 60, 2) := by decide +kernel
theorem dn_X2_init_78 : decode cn_X2_init 78 = .ok (.newarray .boolean, 2) := by decide +kernel
theorem dn_X2_init_80 : decode cn_X2_init 80 = .ok (.putfield 40, 3) := by decide +kernel
theorem dn_X2_init_83 : decode cn_X2_init 83 = .ok (.aload_n 0, 1) := by decide +kernel
theorem dn_X2_init_84 : decode cn_X2_init 84 = .ok (.iconst (-1), 1) := by decide +kernel
theorem dn_X2_init_85 : decode cn_X2_init 85 = .ok (.putfield 44, 3) := by decide +kernel
theorem dn_X2_init_88 : decode cn_X2_init 88 = .ok (.aload_n 0, 1) := by decide +kernel
theorem dn_X2_init_89 : decode cn_X2_init 89 = .ok (.iconst 0, 1) := by decide +kernel
theorem dn_X2_init_90 : decode cn_X2_init 90 = .ok (.putfield 48, 3) := by decide +kernel
theorem dn_X2_init_93 : decode cn_X2_init 93 = .ok (.aload_n 0, 1) := by decide +kernel
theorem dn_X2_init_94 : decode cn_X2_init 94 = .ok (.iconst (-1), 1) := by decide +kernel
theorem dn_X2_init_95 : decode cn_X2_init 95 = .ok (.putfield 51, 3) := by decide +kernel
theorem dn_X2_init_98 : decode cn_X2_init 98 = .ok (.return_, 1) := by decide +kernel
theorem dn_X2_go_0 : decode cn_X2_go 0 = .ok (.aload_n 0, 1) := by decide +kernel
theorem dn_X2_go_1 : decode cn_X2_go 1 = .ok (.invokevirtual 54, 3) := by decide +kernel
theorem dn_X2_go_4 : decode cn_X2_go 4 = .ok (.aload_n 0, 1) := by decide +kernel
theorem dn_X2_go_5 : decode cn_X2_go 5 = .ok (.iconst 0, 1) := by decide +kernel
theorem dn_X2_go_6 : decode cn_X2_go 6 = .ok (.iconst (-1), 1) := by decide +kernel
theorem dn_X2_go_7 : decode cn_X2_go 7 = .ok (.invokevirtual 57, 3) := by decide +kernel
theorem dn_X2_go_10 : decode cn_X2_go 10 = .ok (.aload_n 0, 1) := by decide +kernel
theorem dn_X2_go_11 : decode cn_X2_go 11 = .ok (.invokevirtual 61, 3) := by decide +kernel
theorem dn_X2_go_14 : decode cn_X2_go 14 = .ok (.aload_n 0, 1) := by decide +kernel
theorem dn_X2_go_15 : decode cn_X2_go 15 = .ok (.getfield 48, 3) := by decide +kernel
theorem dn_X2_go_18 : decode cn_X2_go 18 = .ok (.ifCond .ne 7, 3) := by decide +kernel
theorem dn_X2_go_21 : decode cn_X2_go 21 = .ok (.aload_n 0, 1) := by decide +kernel
theorem dn_X2_go_22 : decode cn_X2_go 22 = .ok (.invokevirtual 64, 3) := by decide +kernel
theorem dn_X2_go_25 : decode cn_X2_go 25 = .ok (.aload_n 0, 1) := by decide +kernel
theorem dn_X2_go_26 : decode cn_X2_go 26 = .ok (.getfield 48, 3) := by decide +kernel
theorem dn_X2_go_29 : decode cn_X2_go 29 = .ok (.ifCond .eq 14, 3) := by decide +kernel
theorem dn_X2_go_32 : decode cn_X2_go 32 = .ok (.aload_n 0, 1) := by decide +kernel
theorem dn_X2_go_33 : decode cn_X2_go 33 = .ok (.invokevirtual 54, 3) := by decide +kernel
theorem dn_X2_go_36 : decode cn_X2_go 36 = .ok (.iconst (-1), 1) := by decide +kernel
theorem dn_X2_go_37 : decode cn_X2_go 37 = .ok (.aload_n 0, 1) := by decide +kernel
theorem dn_X2_go_38 : decode cn_X2_go 38 = .ok (.getfield 48, 3) := by decide +kernel
theorem dn_X2_go_41 : decode cn_X2_go 41 = .ok (.isub, 1) := by decide +kernel
theorem dn_X2_go_42 : decode cn_X2_go 42 = .ok (.ireturn, 1) := by decide +kernel
theorem dn_X2_go_43 : decode cn_X2_go 43 = .ok (.aload_n 0, 1) := by decide +kernel
theorem dn_X2_go_44 : decode cn_X2_go 44 = .ok (.getfield 67, 3) := by decide +kernel
theorem dn_X2_go_47 : decode cn_X2_go 47 = .ok (.ireturn, 1) := by decide +kernel
theorem dn_X2_forget_0 : decode cn_X2_forget 0 = .ok (.aload_n 0, 1) := by decide +kernel
theorem dn_X2_forget_1 : decode cn_X2_forget 1 = .ok (.iconst 0, 1) := by decide +kernel
theorem dn_X2_forget_2 : decode cn_X2_forget 2 = .ok (.putfield 67, 3) := by decide +kernel
theorem dn_X2_forget_5 : decode cn_X2_forget 5 = .ok (.aload_n 0, 1) := by decide +kernel
theorem dn_X2_forget_6 : decode cn_X2_forget 6 = .ok (.iconst 0, 1) := by decide +kernel
theorem dn_X2_forget_7 : decode cn_X2_forget 7 = .ok (.putfield 70, 3) := by decide +kernel
theorem dn_X2_forget_10 : decode cn_X2_forget 10 = .ok (.aload_n 0, 1) := by decide +kernel
theorem dn_X2_forget_11 : decode cn_X2_forget 11 = .ok (.iconst (-1), 1) := by decide +kernel
theorem dn_X2_forget_12 : decode cn_X2_forget 12 = .ok (.putfield 44, 3) := by decide +kernel
theorem dn_X2_forget_15 : decode cn_X2_forget 15 = .ok (.aload_n 0, 1) := by decide +kernel
theorem dn_X2_forget_16 : decode cn_X2_forget 16 = .ok (.iconst 0, 1) := by decide +kernel
theorem dn_X2_forget_17 : decode cn_X2_forget 17 = .ok (.putfield 73, 3) := by decide +kernel
theorem dn_X2_forget_20 : decode cn_X2_forget 20 = .ok (.aload_n 0, 1) := by decide +kernel
theorem dn_X2_forget_21 : decode cn_X2_forget 21 = .ok (.getfield 31, 3) := by decide +kernel
theorem dn_X2_forget_24 : decode cn_X2_forget 24 = .ok (.iconst 0, 1) := by decide +kernel
theorem dn_X2_forget_25 : decode cn_X2_forget 25 = .ok (.invokestatic 77, 3) := by decide +kernel
theorem dn_X2_forget_28 : decode cn_X2_forget 28 = .ok (.aload_n 0, 1) := by decide +kernel
theorem dn_X2_forget_29 : decode cn_X2_forget 29 = .ok (.getfield 34, 3) := by decide +kernel
theorem dn_X2_forget_32 : decode cn_X2_forget 32 = .ok (.iconst 0, 1) := by decide +kernel
theorem dn_X2_forget_33 : decode cn_X2_forget 33 = .ok (.invokestatic 77, 3) := by decide +kernel
theorem dn_X2_forget_36 : decode cn_X2_forget 36 = .ok (.iconst 0, 1) := by decide +kernel
theorem dn_X2_forget_37 : decode cn_X2_forget 37 = .ok (.istore_n 1, 1) := by decide +kernel
theorem dn_X2_forget_38 : decode cn_X2_forget 38 = .ok (.iload_n 1, 1) := by decide +kernel
theorem dn_X2_forget_39 : decode cn_X2_forget 39 = .ok (.bipush 60, 2) := by decide +kernel
theorem dn_X2_forget_41 : decode cn_X2_forget 41 = .ok (.if_icmp .ge 16, 3) := by decide +kernel
theorem dn_X2_forget_44 : decode cn_X2_forget 44 = .ok (.aload_n 0, 1) := by decide +kernel
theorem dn_X2_forget_45 : decode cn_X2_forget 45 = .ok (.getfield 40, 3) := by decide +kernel
theorem dn_X2_forget_48 : decode cn_X2_forget 48 = .ok (.iload_n 1, 1) := by decide +kernel
theorem dn_X2_forget_49 : decode cn_X2_forget 49 = .ok (.iconst 0, 1) := by decide +kernel
theorem dn_X2_forget_50 : decode cn_X2_forget 50 = .ok (.bastore, 1) := by decide +kernel
theorem dn_X2_forget_51 : decode cn_X2_forget 51 = .ok (.iinc 1 1, 3) := by decide +kernel
theorem dn_X2_forget_54 : decode cn_X2_forget 54 = .ok (.goto (-16), 3) := by decide +kernel
theorem dn_X2_forget_57 : decode cn_X2_forget 57 = .ok (.aload_n 0, 1) := by decide +kernel
theorem dn_X2_forget_58 : decode cn_X2_forget 58 = .ok (.invokevirtual 83, 3) := by decide +kernel
theorem dn_X2_forget_61 : decode cn_X2_forget 61 = .ok (.return_, 1) := by decide +kernel
theorem dn_X2_setFault_0 : decode cn_X2_setFault 0 = .ok (.aload_n 0, 1) := by decide +kernel
theorem dn_X2_setFault_1 : decode cn_X2_setFault 1 = .ok (.iload_n 1, 1) := by decide +kernel
theorem dn_X2_setFault_2 : decode cn_X2_setFault 2 = .ok (.putfield 48, 3) := by decide +kernel
theorem dn_X2_setFault_5 : decode cn_X2_setFault 5 = .ok (.aload_n 0, 1) := by decide +kernel
theorem dn_X2_setFault_6 : decode cn_X2_setFault 6 = .ok (.iload_n 2, 1) := by decide +kernel
theorem dn_X2_setFault_7 : decode cn_X2_setFault 7 = .ok (.putfield 51, 3) := by decide +kernel
theorem dn_X2_setFault_10 : decode cn_X2_setFault 10 = .ok (.return_, 1) := by decide +kernel
theorem dn_X2_findFaultOfJumps_0 : decode cn_X2_findFaultOfJumps 0 = .ok (.iconst 0, 1) := by decide +kernel
theorem dn_X2_findFaultOfJumps_1 : decode cn_X2_findFaultOfJumps 1 = .ok (.istore_n 1, 1) := by decide +kernel
theorem dn_X2_findFaultOfJumps_2 : decode cn_X2_findFaultOfJumps 2 = .ok (.iload_n 1, 1) := by decide +kernel
theorem dn_X2_findFaultOfJumps_3 : decode cn_X2_findFaultOfJumps 3 = .ok (.aload_n 0, 1) := by decide +kernel
theorem dn_X2_findFaultOfJumps_4 : decode cn_X2_findFaultOfJumps 4 = .ok (.getfield 12, 3) := by decide +kernel
theorem dn_X2_findFaultOfJumps_7 : decode cn_X2_findFaultOfJumps 7 = .ok (.getfield 86, 3) := by decide +kernel
theorem dn_X2_findFaultOfJumps_10 : decode cn_X2_findFaultOfJumps 10 = .ok (.if_icmp .ge 50, 3) := by decide +kernel
theorem dn_X2_findFaultOfJumps_13 : decode cn_X2_findFaultOfJumps 13 = .ok (.aload_n 0, 1) := by decide +kernel
theorem dn_X2_findFaultOfJumps_14 : decode cn_X2_findFaultOfJumps 14 = .ok (.getfield 48, 3) := by decide +kernel
theorem dn_X2_findFaultOfJumps_17 : decode cn_X2_findFaultOfJumps 17 = .ok (.ifCond .ne 43, 3) := by decide +kernel
theorem dn_X2_findFaultOfJumps_20 : decode cn_X2_findFaultOfJumps 20 = .ok (.aload_n 0, 1) := by decide +kernel
theorem dn_X2_findFaultOfJumps_21 : decode cn_X2_findFaultOfJumps 21 = .ok (.getfield 12, 3) := by decide +kernel
theorem dn_X2_findFaultOfJumps_24 : decode cn_X2_findFaultOfJumps 24 = .ok (.iload_n 1, 1) := by decide +kernel
theorem dn_X2_findFaultOfJumps_25 : decode cn_X2_findFaultOfJumps 25 = .ok (.invokevirtual 89, 3) := by decide +kernel
theorem dn_X2_findFaultOfJumps_28 : decode cn_X2_findFaultOfJumps 28 = .ok (.ifCond .eq 26, 3) := by decide +kernel
theorem dn_X2_findFaultOfJumps_31 : decode cn_X2_findFaultOfJumps 31 = .ok (.aload_n 0, 1) := by decide +kernel
theorem dn_X2_findFaultOfJumps_32 : decode cn_X2_findFaultOfJumps 32 = .ok (.getfield 12, 3) := by decide +kernel
theorem dn_X2_findFaultOfJumps_35 : decode cn_X2_findFaultOfJumps 35 = .ok (.iload_n 1, 1) := by decide +kernel
theorem dn_X2_findFaultOfJumps_36 : decode cn_X2_findFaultOfJumps 36 = .ok (.invokevirtual 93, 3) := by decide +kernel
theorem dn_X2_findFaultOfJumps_39 : decode cn_X2_findFaultOfJumps 39 = .ok (.istore_n 2, 1) := by decide +kernel
theorem dn_X2_findFaultOfJumps_40 : decode cn_X2_findFaultOfJumps 40 = .ok (.aload_n 0, 1) := by decide +kernel
theorem dn_X2_findFaultOfJumps_41 : decode cn_X2_findFaultOfJumps 41 = .ok (.iload_n 2, 1) := by decide +kernel
theorem dn_X2_findFaultOfJumps_42 : decode cn_X2_findFaultOfJumps 42 = .ok (.iload_n 2, 1) := by decide +kernel
theorem dn_X2_findFaultOfJumps_43 : decode cn_X2_findFaultOfJumps 43 = .ok (.ifCond .ne 7, 3) := by decide +kernel
theorem dn_X2_findFaultOfJumps_46 : decode cn_X2_findFaultOfJumps 46 = .ok (.iconst (-1), 1) := by decide +kernel
theorem dn_X2_findFaultOfJumps_47 : decode cn_X2_findFaultOfJumps 47 = .ok (.goto 4, 3) := by decide +kernel
theorem dn_X2_findFaultOfJumps_50 : decode cn_X2_findFaultOfJumps 50 = .ok (.iload_n 1, 1) := by decide +kernel
theorem dn_X2_findFaultOfJumps_51 : decode cn_X2_findFaultOfJumps 51 = .ok (.invokevirtual 57, 3) := by decide +kernel
theorem dn_X2_findFaultOfJumps_54 : decode cn_X2_findFaultOfJumps 54 = .ok (.iinc 1 1, 3) := by decide +kernel
theorem dn_X2_findFaultOfJumps_57 : decode cn_X2_findFaultOfJumps 57 = .ok (.goto (-55), 3) := by decide +kernel
theorem dn_X2_findFaultOfJumps_60 : decode cn_X2_findFaultOfJumps 60 = .ok (.return_, 1) := by decide +kernel
theorem dn_X2_playFromFirstBar_0 : decode cn_X2_playFromFirstBar 0 = .ok (.aload_n 0, 1) := by decide +kernel
theorem dn_X2_playFromFirstBar_1 : decode cn_X2_playFromFirstBar 1 = .ok (.getfield 12, 3) := by decide +kernel
theorem dn_X2_playFromFirstBar_4 : decode cn_X2_playFromFirstBar 4 = .ok (.getfield 86, 3) := by decide +kernel
theorem dn_X2_playFromFirstBar_7 : decode cn_X2_playFromFirstBar 7 = .ok (.ifCond .le 7, 3) := by decide +kernel
theorem dn_X2_playFromFirstBar_10 : decode cn_X2_playFromFirstBar 10 = .ok (.iconst 0, 1) := by decide +kernel
theorem dn_X2_playFromFirstBar_11 : decode cn_X2_playFromFirstBar 11 = .ok (.goto 4, 3) := by decide +kernel
theorem dn_X2_playFromFirstBar_14 : decode cn_X2_playFromFirstBar 14 = .ok (.iconst (-1), 1) := by decide +kernel
theorem dn_X2_playFromFirstBar_15 : decode cn_X2_playFromFirstBar 15 = .ok (.istore_n 1, 1) := by decide +kernel
theorem dn_X2_playFromFirstBar_16 : decode cn_X2_playFromFirstBar 16 = .ok (.iconst 0, 1) := by decide +kernel
theorem dn_X2_playFromFirstBar_17 : decode cn_X2_playFromFirstBar 17 = .ok (.istore_n 2, 1) := by decide +kernel
theorem dn_X2_playFromFirstBar_18 : decode cn_X2_playFromFirstBar 18 = .ok (.iload_n 2, 1) := by decide +kernel
theorem dn_X2_playFromFirstBar_19 : decode cn_X2_playFromFirstBar 19 = .ok (.ldc 97, 2) := by decide +kernel
theorem dn_X2_playFromFirstBar_21 : decode cn_X2_playFromFirstBar 21 = .ok (.if_icmp .ge 20, 3) := by decide +kernel
theorem dn_X2_playFromFirstBar_24 : decode cn_X2_playFromFirstBar 24 = .ok (.iload_n 1, 1) := by decide +kernel
theorem dn_X2_playFromFirstBar_25 : decode cn_X2_playFromFirstBar 25 = .ok (.iconst (-1), 1) := by decide +kernel
theorem dn_X2_playFromFirstBar_26 : decode cn_X2_playFromFirstBar 26 = .ok (.if_icmp .eq 15, 3) := by decide +kernel
theorem dn_X2_playFromFirstBar_29 : decode cn_X2_playFromFirstBar 29 = .ok (.aload_n 0, 1) := by decide +kernel
theorem dn_X2_playFromFirstBar_30 : decode cn_X2_playFromFirstBar 30 = .ok (.iload_n 1, 1) := by decide +kernel
theorem dn_X2_playFromFirstBar_31 : decode cn_X2_playFromFirstBar 31 = .ok (.invokevirtual 98, 3) := by decide +kernel
theorem dn_X2_playFromFirstBar_34 : decode cn_X2_playFromFirstBar 34 = .ok (.istore_n 1, 1) := by decide +kernel
theorem dn_X2_playFromFirstBar_35 : decode cn_X2_playFromFirstBar 35 = .ok (.iinc 2 1, 3) := by decide +kernel
theorem dn_X2_playFromFirstBar_38 : decode cn_X2_playFromFirstBar 38 = .ok (.goto (-20), 3) := by decide +kernel
theorem dn_X2_playFromFirstBar_41 : decode cn_X2_playFromFirstBar 41 = .ok (.return_, 1) := by decide +kernel
theorem dn_X2_comeTo_0 : decode cn_X2_comeTo 0 = .ok (.aload_n 0, 1) := by decide +kernel
theorem dn_X2_comeTo_1 : decode cn_X2_comeTo 1 = .ok (.getfield 34, 3) := by decide +kernel
theorem dn_X2_comeTo_4 : decode cn_X2_comeTo 4 = .ok (.iload_n 1, 1) := by decide +kernel
theorem dn_X2_comeTo_5 : decode cn_X2_comeTo 5 = .ok (.dup2, 1) := by decide +kernel
theorem dn_X2_comeTo_6 : decode cn_X2_comeTo 6 = .ok (.iaload, 1) := by decide +kernel
theorem dn_X2_comeTo_7 : decode cn_X2_comeTo 7 = .ok (.iconst 1, 1) := by decide +kernel
theorem dn_X2_comeTo_8 : decode cn_X2_comeTo 8 = .ok (.iadd, 1) := by decide +kernel
theorem dn_X2_comeTo_9 : decode cn_X2_comeTo 9 = .ok (.iastore, 1) := by decide +kernel
theorem dn_X2_comeTo_10 : decode cn_X2_comeTo 10 = .ok (.aload_n 0, 1) := by decide +kernel
theorem dn_X2_comeTo_11 : decode cn_X2_comeTo 11 = .ok (.iload_n 1, 1) := by decide +kernel
theorem dn_X2_comeTo_12 : decode cn_X2_comeTo 12 = .ok (.invokevirtual 101, 3) := by decide +kernel
theorem dn_X2_comeTo_15 : decode cn_X2_comeTo 15 = .ok (.aload_n 0, 1) := by decide +kernel
theorem dn_X2_comeTo_16 : decode cn_X2_comeTo 16 = .ok (.getfield 12, 3) := by decide +kernel
theorem dn_X2_comeTo_19 : decode cn_X2_comeTo 19 = .ok (.getfield 105, 3) := by decide +kernel
theorem dn_X2_comeTo_22 : decode cn_X2_comeTo 22 = .ok (.iload_n 1, 1) := by decide +kernel
theorem dn_X2_comeTo_23 : decode cn_X2_comeTo 23 = .ok (.iaload, 1) := by decide +kernel
theorem dn_X2_comeTo_24 : decode cn_X2_comeTo 24 = .ok (.istore_n 2, 1) := by decide +kernel
theorem dn_X2_comeTo_25 : decode cn_X2_comeTo 25 = .ok (.iload_n 2, 1) := by decide +kernel
theorem dn_X2_comeTo_26 : decode cn_X2_comeTo 26 = .ok (.iconst (-1), 1) := by decide +kernel
theorem dn_X2_comeTo_27 : decode cn_X2_comeTo 27 = .ok (.if_icmp .eq 30, 3) := by decide +kernel
theorem dn_X2_comeTo_30 : decode cn_X2_comeTo 30 = .ok (.aload_n 0, 1) := by decide +kernel
theorem dn_X2_comeTo_31 : decode cn_X2_comeTo 31 = .ok (.iload_n 2, 1) := by decide +kernel
theorem dn_X2_comeTo_32 : decode cn_X2_comeTo 32 = .ok (.invokevirtual 108, 3) := by decide +kernel
theorem dn_X2_comeTo_35 : decode cn_X2_comeTo 35 = .ok (.ifCond .eq 22, 3) := by decide +kernel
theorem dn_X2_comeTo_38 : decode cn_X2_comeTo 38 = .ok (.aload_n 0, 1) := by decide +kernel
theorem dn_X2_comeTo_39 : decode cn_X2_comeTo 39 = .ok (.iload_n 2, 1) := by decide +kernel
theorem dn_X2_comeTo_40 : decode cn_X2_comeTo 40 = .ok (.invokevirtual 111, 3) := by decide +kernel
theorem dn_X2_comeTo_43 : decode cn_X2_comeTo 43 = .ok (.aload_n 0, 1) := by decide +kernel
theorem dn_X2_comeTo_44 : decode cn_X2_comeTo 44 = .ok (.aload_n 0, 1) := by decide +kernel
theorem dn_X2_comeTo_45 : decode cn_X2_comeTo 45 = .ok (.getfield 12, 3) := by decide +kernel
theorem dn_X2_comeTo_48 : decode cn_X2_comeTo 48 = .ok (.getfield 114, 3) := by decide +kernel
theorem dn_X2_comeTo_51 : decode cn_X2_comeTo 51 = .ok (.iload_n 2, 1) := by decide +kernel
theorem dn_X2_comeTo_52 : decode cn_X2_comeTo 52 = .ok (.iaload, 1) := by decide +kernel
theorem dn_X2_comeTo_53 : decode cn_X2_comeTo 53 = .ok (.invokevirtual 117, 3) := by decide +kernel
theorem dn_X2_comeTo_56 : decode cn_X2_comeTo 56 = .ok (.ireturn, 1) := by decide +kernel
theorem dn_X2_comeTo_57 : decode cn_X2_comeTo 57 = .ok (.aload_n 0, 1) := by decide +kernel
theorem dn_X2_comeTo_58 : decode cn_X2_comeTo 58 = .ok (.getfield 67, 3) := by decide +kernel
theorem dn_X2_comeTo_61 : decode cn_X2_comeTo 61 = .ok (.sipush 1000, 3) := by decide +kernel
theorem dn_X2_comeTo_64 : decode cn_X2_comeTo 64 = .ok (.if_icmp .lt 11, 3) := by decide +kernel
theorem dn_X2_comeTo_67 : decode cn_X2_comeTo 67 = .ok (.aload_n 0, 1) := by decide +kernel
theorem dn_X2_comeTo_68 : decode cn_X2_comeTo 68 = .ok (.iconst 4, 1) := by decide +kernel
theorem dn_X2_comeTo_69 : decode cn_X2_comeTo 69 = .ok (.iload_n 1, 1) := by decide +kernel
theorem dn_X2_comeTo_70 : decode cn_X2_comeTo 70 = .ok (.invokevirtual 57, 3) := by decide +kernel
theorem dn_X2_comeTo_73 : decode cn_X2_comeTo 73 = .ok (.iconst (-1), 1) := by decide +kernel
theorem dn_X2_comeTo_74 : decode cn_X2_comeTo 74 = .ok (.ireturn, 1) := by decide +kernel
theorem dn_X2_comeTo_75 : decode cn_X2_comeTo 75 = .ok (.aload_n 0, 1) := by decide +kernel
theorem dn_X2_comeTo_76 : decode cn_X2_comeTo 76 = .ok (.iload_n 1, 1) := by decide +kernel
theorem dn_X2_comeTo_77 : decode cn_X2_comeTo 77 = .ok (.invokevirtual 120, 3) := by decide +kernel
theorem dn_X2_comeTo_80 : decode cn_X2_comeTo 80 = .ok (.aload_n 0, 1) := by decide +kernel
theorem dn_X2_comeTo_81 : decode cn_X2_comeTo 81 = .ok (.iload_n 1, 1) := by decide +kernel
theorem dn_X2_comeTo_82 : decode cn_X2_comeTo 82 = .ok (.invokevirtual 123, 3) := by decide +kernel
theorem dn_X2_comeTo_85 : decode cn_X2_comeTo 85 = .ok (.ireturn, 1) := by decide +kernel
theorem dn_X2_openAround_0 : decode cn_X2_openAround 0 = .ok (.aload_n 0, 1) := by decide +kernel
theorem dn_X2_openAround_1 : decode cn_X2_openAround 1 = .ok (.getfield 44, 3) := by decide +kernel
theorem dn_X2_openAround_4 : decode cn_X2_openAround 4 = .ok (.iconst (-1), 1) := by decide +kernel
theorem dn_X2_openAround_5 : decode cn_X2_openAround 5 = .ok (.if_icmp .eq 22, 3) := by decide +kernel
theorem dn_X2_openAround_8 : decode cn_X2_openAround 8 = .ok (.aload_n 0, 1) := by decide +kernel
theorem dn_X2_openAround_9 : decode cn_X2_openAround 9 = .ok (.getfield 12, 3) := by decide +kernel
theorem dn_X2_openAround_12 : decode cn_X2_openAround 12 = .ok (.getfield 126, 3) := by decide +kernel
theorem dn_X2_openAround_15 : decode cn_X2_openAround 15 = .ok (.aload_n 0, 1) := by decide +kernel
theorem dn_X2_openAround_16 : decode cn_X2_openAround 16 = .ok (.getfield 44, 3) := by decide +kernel
theorem dn_X2_openAround_19 : decode cn_X2_openAround 19 = .ok (.baload, 1) := by decide +kernel
theorem dn_X2_openAround_20 : decode cn_X2_openAround 20 = .ok (.ifCond .ne 7, 3) := by decide +kernel
theorem dn_X2_openAround_23 : decode cn_X2_openAround 23 = .ok (.iconst 1, 1) := by decide +kernel
theorem dn_X2_openAround_24 : decode cn_X2_openAround 24 = .ok (.goto 4, 3) := by decide +kernel
theorem dn_X2_openAround_27 : decode cn_X2_openAround 27 = .ok (.iconst 0, 1) := by decide +kernel
theorem dn_X2_openAround_28 : decode cn_X2_openAround 28 = .ok (.istore_n 2, 1) := by decide +kernel
theorem dn_X2_openAround_29 : decode cn_X2_openAround 29 = .ok (.iconst 0, 1) := by decide +kernel
theorem dn_X2_openAround_30 : decode cn_X2_openAround 30 = .ok (.istore_n 3, 1) := by decide +kernel
theorem dn_X2_openAround_31 : decode cn_X2_openAround 31 = .ok (.iload_n 3, 1) := by decide +kernel
theorem dn_X2_openAround_32 : decode cn_X2_openAround 32 = .ok (.aload_n 0, 1) := by decide +kernel
theorem dn_X2_openAround_33 : decode cn_X2_openAround 33 = .ok (.getfield 12, 3) := by decide +kernel
theorem dn_X2_openAround_36 : decode cn_X2_openAround 36 = .ok (.getfield 129, 3) := by decide +kernel
theorem dn_X2_openAround_39 : decode cn_X2_openAround 39 = .ok (.iload_n 1, 1) := by decide +kernel
theorem dn_X2_openAround_40 : decode cn_X2_openAround 40 = .ok (.iaload, 1) := by decide +kernel
theorem dn_X2_openAround_41 : decode cn_X2_openAround 41 = .ok (.if_icmp .ge 55, 3) := by decide +kernel
theorem dn_X2_openAround_44 : decode cn_X2_openAround 44 = .ok (.aload_n 0, 1) := by decide +kernel
theorem dn_X2_openAround_45 : decode cn_X2_openAround 45 = .ok (.getfield 12, 3) := by decide +kernel
theorem dn_X2_openAround_48 : decode cn_X2_openAround 48 = .ok (.iload_n 1, 1) := by decide +kernel
theorem dn_X2_openAround_49 : decode cn_X2_openAround 49 = .ok (.iload_n 3, 1) := by decide +kernel
theorem dn_X2_openAround_50 : decode cn_X2_openAround 50 = .ok (.invokevirtual 132, 3) := by decide +kernel
theorem dn_X2_openAround_53 : decode cn_X2_openAround 53 = .ok (.istore 4, 2) := by decide +kernel
theorem dn_X2_openAround_55 : decode cn_X2_openAround 55 = .ok (.aload_n 0, 1) := by decide +kernel
theorem dn_X2_openAround_56 : decode cn_X2_openAround 56 = .ok (.getfield 37, 3) := by decide +kernel
theorem dn_X2_openAround_59 : decode cn_X2_openAround 59 = .ok (.iload 4, 2) := by decide +kernel
theorem dn_X2_openAround_61 : decode cn_X2_openAround 61 = .ok (.iaload, 1) := by decide +kernel
theorem dn_X2_openAround_62 : decode cn_X2_openAround 62 = .ok (.ifCond .ne 28, 3) := by decide +kernel
theorem dn_X2_openAround_65 : decode cn_X2_openAround 65 = .ok (.aload_n 0, 1) := by decide +kernel
theorem dn_X2_openAround_66 : decode cn_X2_openAround 66 = .ok (.getfield 37, 3) := by decide +kernel
theorem dn_X2_openAround_69 : decode cn_X2_openAround 69 = .ok (.iload 4, 2) := by decide +kernel
theorem dn_X2_openAround_71 : decode cn_X2_openAround 71 = .ok (.iload_n 2, 1) := by decide +kernel
theorem dn_X2_openAround_72 : decode cn_X2_openAround 72 = .ok (.ifCond .eq 16, 3) := by decide +kernel
theorem dn_X2_openAround_75 : decode cn_X2_openAround 75 = .ok (.aload_n 0, 1) := by decide +kernel
theorem dn_X2_openAround_76 : decode cn_X2_openAround 76 = .ok (.getfield 12, 3) := by decide +kernel
theorem dn_X2_openAround_79 : decode cn_X2_openAround 79 = .ok (.getfield 136, 3) := by decide +kernel
theorem dn_X2_openAround_82 : decode cn_X2_openAround 82 = .ok (.iload 4, 2) := by decide +kernel
theorem dn_X2_openAround_84 : decode cn_X2_openAround 84 = .ok (.iaload, 1) := by decide +kernel
theorem dn_X2_openAround_85 : decode cn_X2_openAround 85 = .ok (.goto 4, 3) := by decide +kernel
theorem dn_X2_openAround_88 : decode cn_X2_openAround 88 = .ok (.iconst 1, 1) := by decide +kernel
theorem dn_X2_openAround_89 : decode cn_X2_openAround 89 = .ok (.iastore, 1) := by decide +kernel
theorem dn_X2_openAround_90 : decode cn_X2_openAround 90 = .ok (.iinc 3 1, 3) := by decide +kernel
theorem dn_X2_openAround_93 : decode cn_X2_openAround 93 = .ok (.goto (-62), 3) := by decide +kernel
theorem dn_X2_openAround_96 : decode cn_X2_openAround 96 = .ok (.return_, 1) := by decide +kernel
theorem dn_X2_isLeftOut_0 : decode cn_X2_isLeftOut 0 = .ok (.iconst 1, 1) := by decide +kernel
theorem dn_X2_isLeftOut_1 : decode cn_X2_isLeftOut 1 = .ok (.aload_n 0, 1) := by decide +kernel
theorem dn_X2_isLeftOut_2 : decode cn_X2_isLeftOut 2 = .ok (.getfield 37, 3) := by decide +kernel
theorem dn_X2_isLeftOut_5 : decode cn_X2_isLeftOut 5 = .ok (.aload_n 0, 1) := by decide +kernel
theorem dn_X2_isLeftOut_6 : decode cn_X2_isLeftOut 6 = .ok (.getfield 12, 3) := by decide +kernel
theorem dn_X2_isLeftOut_9 : decode cn_X2_isLeftOut 9 = .ok (.getfield 139, 3) := by decide +kernel
theorem dn_X2_isLeftOut_12 : decode cn_X2_isLeftOut 12 = .ok (.iload_n 1, 1) := by decide +kernel
theorem dn_X2_isLeftOut_13 : decode cn_X2_isLeftOut 13 = .ok (.iaload, 1) := by decide +kernel
theorem dn_X2_isLeftOut_14 : decode cn_X2_isLeftOut 14 = .ok (.iaload, 1) := by decide +kernel
theorem dn_X2_isLeftOut_15 : decode cn_X2_isLeftOut 15 = .ok (.iconst 1, 1) := by decide +kernel
theorem dn_X2_isLeftOut_16 : decode cn_X2_isLeftOut 16 = .ok (.isub, 1) := by decide +kernel
theorem dn_X2_isLeftOut_17 : decode cn_X2_isLeftOut 17 = .ok (.ishl, 1) := by decide +kernel
theorem dn_X2_isLeftOut_18 : decode cn_X2_isLeftOut 18 = .ok (.istore_n 2, 1) := by decide +kernel
theorem dn_X2_isLeftOut_19 : decode cn_X2_isLeftOut 19 = .ok (.aload_n 0, 1) := by decide +kernel
theorem dn_X2_isLeftOut_20 : decode cn_X2_isLeftOut 20 = .ok (.getfield 12, 3) := by decide +kernel
theorem dn_X2_isLeftOut_23 : decode cn_X2_isLeftOut 23 = .ok (.getfield 142, 3) := by decide +kernel
theorem dn_X2_isLeftOut_26 : decode cn_X2_isLeftOut 26 = .ok (.iload_n 1, 1) := by decide +kernel
theorem dn_X2_isLeftOut_27 : decode cn_X2_isLeftOut 27 = .ok (.iaload, 1) := by decide +kernel
theorem dn_X2_isLeftOut_28 : decode cn_X2_isLeftOut 28 = .ok (.iload_n 2, 1) := by decide +kernel
theorem dn_X2_isLeftOut_29 : decode cn_X2_isLeftOut 29 = .ok (.iand, 1) := by decide +kernel
theorem dn_X2_isLeftOut_30 : decode cn_X2_isLeftOut 30 = .ok (.ifCond .ne 7, 3) := by decide +kernel
theorem dn_X2_isLeftOut_33 : decode cn_X2_isLeftOut 33 = .ok (.iconst 1, 1) := by decide +kernel
theorem dn_X2_isLeftOut_34 : decode cn_X2_isLeftOut 34 = .ok (.goto 4, 3) := by decide +kernel
theorem dn_X2_isLeftOut_37 : decode cn_X2_isLeftOut 37 = .ok (.iconst 0, 1) := by decide +kernel
theorem dn_X2_isLeftOut_38 : decode cn_X2_isLeftOut 38 = .ok (.ireturn, 1) := by decide +kernel
theorem dn_X2_leaveWithin_0 : decode cn_X2_leaveWithin 0 = .ok (.iconst 0, 1) := by decide +kernel
theorem dn_X2_leaveWithin_1 : decode cn_X2_leaveWithin 1 = .ok (.istore_n 2, 1) := by decide +kernel
theorem dn_X2_leaveWithin_2 : decode cn_X2_leaveWithin 2 = .ok (.iload_n 2, 1) := by decide +kernel
theorem dn_X2_leaveWithin_3 : decode cn_X2_leaveWithin 3 = .ok (.aload_n 0, 1) := by decide +kernel
theorem dn_X2_leaveWithin_4 : decode cn_X2_leaveWithin 4 = .ok (.getfield 12, 3) := by decide +kernel
theorem dn_X2_leaveWithin_7 : decode cn_X2_leaveWithin 7 = .ok (.getfield 145, 3) := by decide +kernel
theorem dn_X2_leaveWithin_10 : decode cn_X2_leaveWithin 10 = .ok (.if_icmp .ge 41, 3) := by decide +kernel
theorem dn_X2_leaveWithin_13 : decode cn_X2_leaveWithin 13 = .ok (.iload_n 2, 1) := by decide +kernel
theorem dn_X2_leaveWithin_14 : decode cn_X2_leaveWithin 14 = .ok (.aload_n 0, 1) := by decide +kernel
theorem dn_X2_leaveWithin_15 : decode cn_X2_leaveWithin 15 = .ok (.getfield 12, 3) := by decide +kernel
theorem dn_X2_leaveWithin_18 : decode cn_X2_leaveWithin 18 = .ok (.getfield 139, 3) := by decide +kernel
theorem dn_X2_leaveWithin_21 : decode cn_X2_leaveWithin 21 = .ok (.iload_n 1, 1) := by decide +kernel
theorem dn_X2_leaveWithin_22 : decode cn_X2_leaveWithin 22 = .ok (.iaload, 1) := by decide +kernel
theorem dn_X2_leaveWithin_23 : decode cn_X2_leaveWithin 23 = .ok (.if_icmp .eq 22, 3) := by decide +kernel
theorem dn_X2_leaveWithin_26 : decode cn_X2_leaveWithin 26 = .ok (.aload_n 0, 1) := by decide +kernel
theorem dn_X2_leaveWithin_27 : decode cn_X2_leaveWithin 27 = .ok (.getfield 12, 3) := by decide +kernel
theorem dn_X2_leaveWithin_30 : decode cn_X2_leaveWithin 30 = .ok (.iload_n 2, 1) := by decide +kernel
theorem dn_X2_leaveWithin_31 : decode cn_X2_leaveWithin 31 = .ok (.iload_n 1, 1) := by decide +kernel
theorem dn_X2_leaveWithin_32 : decode cn_X2_leaveWithin 32 = .ok (.invokevirtual 148, 3) := by decide +kernel
theorem dn_X2_leaveWithin_35 : decode cn_X2_leaveWithin 35 = .ok (.ifCond .eq 10, 3) := by decide +kernel
theorem dn_X2_leaveWithin_38 : decode cn_X2_leaveWithin 38 = .ok (.aload_n 0, 1) := by decide +kernel
theorem dn_X2_leaveWithin_39 : decode cn_X2_leaveWithin 39 = .ok (.getfield 37, 3) := by decide +kernel
theorem dn_X2_leaveWithin_42 : decode cn_X2_leaveWithin 42 = .ok (.iload_n 2, 1) := by decide +kernel
theorem dn_X2_leaveWithin_43 : decode cn_X2_leaveWithin 43 = .ok (.iconst 0, 1) := by decide +kernel
theorem dn_X2_leaveWithin_44 : decode cn_X2_leaveWithin 44 = .ok (.iastore, 1) := by decide +kernel
theorem dn_X2_leaveWithin_45 : decode cn_X2_leaveWithin 45 = .ok (.iinc 2 1, 3) := by decide +kernel
theorem dn_X2_leaveWithin_48 : decode cn_X2_leaveWithin 48 = .ok (.goto (-46), 3) := by decide +kernel
theorem dn_X2_leaveWithin_51 : decode cn_X2_leaveWithin 51 = .ok (.return_, 1) := by decide +kernel
theorem dn_X2_leaveAll_0 : decode cn_X2_leaveAll 0 = .ok (.aload_n 0, 1) := by decide +kernel
theorem dn_X2_leaveAll_1 : decode cn_X2_leaveAll 1 = .ok (.getfield 37, 3) := by decide +kernel
theorem dn_X2_leaveAll_4 : decode cn_X2_leaveAll 4 = .ok (.iconst 0, 1) := by decide +kernel
theorem dn_X2_leaveAll_5 : decode cn_X2_leaveAll 5 = .ok (.invokestatic 77, 3) := by decide +kernel
theorem dn_X2_leaveAll_8 : decode cn_X2_leaveAll 8 = .ok (.return_, 1) := by decide +kernel
theorem dn_X2_play_0 : decode cn_X2_play 0 = .ok (.aload_n 0, 1) := by decide +kernel
theorem dn_X2_play_1 : decode cn_X2_play 1 = .ok (.getfield 12, 3) := by decide +kernel
theorem dn_X2_play_4 : decode cn_X2_play 4 = .ok (.getfield 129, 3) := by decide +kernel
theorem dn_X2_play_7 : decode cn_X2_play 7 = .ok (.iload_n 1, 1) := by decide +kernel
theorem dn_X2_play_8 : decode cn_X2_play 8 = .ok (.iaload, 1) := by decide +kernel
theorem dn_X2_play_9 : decode cn_X2_play 9 = .ok (.istore_n 2, 1) := by decide +kernel
theorem dn_X2_play_10 : decode cn_X2_play 10 = .ok (.aload_n 0, 1) := by decide +kernel
theorem dn_X2_play_11 : decode cn_X2_play 11 = .ok (.getfield 18, 3) := by decide +kernel
theorem dn_X2_play_14 : decode cn_X2_play 14 = .ok (.aload_n 0, 1) := by decide +kernel
theorem dn_X2_play_15 : decode cn_X2_play 15 = .ok (.getfield 67, 3) := by decide +kernel
theorem dn_X2_play_18 : decode cn_X2_play 18 = .ok (.iload_n 1, 1) := by decide +kernel
theorem dn_X2_play_19 : decode cn_X2_play 19 = .ok (.iastore, 1) := by decide +kernel
theorem dn_X2_play_20 : decode cn_X2_play 20 = .ok (.aload_n 0, 1) := by decide +kernel
theorem dn_X2_play_21 : decode cn_X2_play 21 = .ok (.getfield 22, 3) := by decide +kernel
theorem dn_X2_play_24 : decode cn_X2_play 24 = .ok (.aload_n 0, 1) := by decide +kernel
theorem dn_X2_play_25 : decode cn_X2_play 25 = .ok (.getfield 67, 3) := by decide +kernel
theorem dn_X2_play_28 : decode cn_X2_play 28 = .ok (.aload_n 0, 1) := by decide +kernel
theorem dn_X2_play_29 : decode cn_X2_play 29 = .ok (.getfield 70, 3) := by decide +kernel
theorem dn_X2_play_32 : decode cn_X2_play 32 = .ok (.iastore, 1) := by decide +kernel
theorem dn_X2_play_33 : decode cn_X2_play 33 = .ok (.aload_n 0, 1) := by decide +kernel
theorem dn_X2_play_34 : decode cn_X2_play 34 = .ok (.getfield 25, 3) := by decide +kernel
theorem dn_X2_play_37 : decode cn_X2_play 37 = .ok (.aload_n 0, 1) := by decide +kernel
theorem dn_X2_play_38 : decode cn_X2_play 38 = .ok (.getfield 67, 3) := by decide +kernel
theorem dn_X2_play_41 : decode cn_X2_play 41 = .ok (.iload_n 2, 1) := by decide +kernel
theorem dn_X2_play_42 : decode cn_X2_play 42 = .ok (.ifCond .ne 7, 3) := by decide +kernel
theorem dn_X2_play_45 : decode cn_X2_play 45 = .ok (.iconst 0, 1) := by decide +kernel
theorem dn_X2_play_46 : decode cn_X2_play 46 = .ok (.goto 19, 3) := by decide +kernel
theorem dn_X2_play_49 : decode cn_X2_play 49 = .ok (.aload_n 0, 1) := by decide +kernel
theorem dn_X2_play_50 : decode cn_X2_play 50 = .ok (.getfield 37, 3) := by decide +kernel
theorem dn_X2_play_53 : decode cn_X2_play 53 = .ok (.aload_n 0, 1) := by decide +kernel
theorem dn_X2_play_54 : decode cn_X2_play 54 = .ok (.getfield 12, 3) := by decide +kernel
theorem dn_X2_play_57 : decode cn_X2_play 57 = .ok (.iload_n 1, 1) := by decide +kernel
theorem dn_X2_play_58 : decode cn_X2_play 58 = .ok (.iload_n 2, 1) := by decide +kernel
theorem dn_X2_play_59 : decode cn_X2_play 59 = .ok (.iconst 1, 1) := by decide +kernel
theorem dn_X2_play_60 : decode cn_X2_play 60 = .ok (.isub, 1) := by decide +kernel
theorem dn_X2_play_61 : decode cn_X2_play 61 = .ok (.invokevirtual 132, 3) := by decide +kernel
theorem dn_X2_play_64 : decode cn_X2_play 64 = .ok (.iaload, 1) := by decide +kernel
theorem dn_X2_play_65 : decode cn_X2_play 65 = .ok (.iastore, 1) := by decide +kernel
theorem dn_X2_play_66 : decode cn_X2_play 66 = .ok (.aload_n 0, 1) := by decide +kernel
theorem dn_X2_play_67 : decode cn_X2_play 67 = .ok (.getfield 28, 3) := by decide +kernel
theorem dn_X2_play_70 : decode cn_X2_play 70 = .ok (.aload_n 0, 1) := by decide +kernel
theorem dn_X2_play_71 : decode cn_X2_play 71 = .ok (.getfield 67, 3) := by decide +kernel
theorem dn_X2_play_74 : decode cn_X2_play 74 = .ok (.iload_n 2, 1) := by decide +kernel
theorem dn_X2_play_75 : decode cn_X2_play 75 = .ok (.ifCond .ne 7, 3) := by decide +kernel
theorem dn_X2_play_78 : decode cn_X2_play 78 = .ok (.iconst 0, 1) := by decide +kernel
theorem dn_X2_play_79 : decode cn_X2_play 79 = .ok (.goto 17, 3) := by decide +kernel
theorem dn_X2_play_82 : decode cn_X2_play 82 = .ok (.aload_n 0, 1) := by decide +kernel
theorem dn_X2_play_83 : decode cn_X2_play 83 = .ok (.getfield 37, 3) := by decide +kernel
theorem dn_X2_play_86 : decode cn_X2_play 86 = .ok (.aload_n 0, 1) := by decide +kernel
theorem dn_X2_play_87 : decode cn_X2_play 87 = .ok (.getfield 12, 3) := by decide +kernel
theorem dn_X2_play_90 : decode cn_X2_play 90 = .ok (.iload_n 1, 1) := by decide +kernel
theorem dn_X2_play_91 : decode cn_X2_play 91 = .ok (.iconst 0, 1) := by decide +kernel
theorem dn_X2_play_92 : decode cn_X2_play 92 = .ok (.invokevirtual 132, 3) := by decide +kernel
theorem dn_X2_play_95 : decode cn_X2_play 95 = .ok (.iaload, 1) := by decide +kernel
theorem dn_X2_play_96 : decode cn_X2_play 96 = .ok (.iastore, 1) := by decide +kernel
theorem dn_X2_play_97 : decode cn_X2_play 97 = .ok (.aload_n 0, 1) := by decide +kernel
theorem dn_X2_play_98 : decode cn_X2_play 98 = .ok (.dup, 1) := by decide +kernel
theorem dn_X2_play_99 : decode cn_X2_play 99 = .ok (.getfield 67, 3) := by decide +kernel
theorem dn_X2_play_102 : decode cn_X2_play 102 = .ok (.iconst 1, 1) := by decide +kernel
theorem dn_X2_play_103 : decode cn_X2_play 103 = .ok (.iadd, 1) := by decide +kernel
theorem dn_X2_play_104 : decode cn_X2_play 104 = .ok (.putfield 67, 3) := by decide +kernel
theorem dn_X2_play_107 : decode cn_X2_play 107 = .ok (.aload_n 0, 1) := by decide +kernel
theorem dn_X2_play_108 : decode cn_X2_play 108 = .ok (.getfield 31, 3) := by decide +kernel
theorem dn_X2_play_111 : decode cn_X2_play 111 = .ok (.iload_n 1, 1) := by decide +kernel
theorem dn_X2_play_112 : decode cn_X2_play 112 = .ok (.dup2, 1) := by decide +kernel
theorem dn_X2_play_113 : decode cn_X2_play 113 = .ok (.iaload, 1) := by decide +kernel
theorem dn_X2_play_114 : decode cn_X2_play 114 = .ok (.iconst 1, 1) := by decide +kernel
theorem dn_X2_play_115 : decode cn_X2_play 115 = .ok (.iadd, 1) := by decide +kernel
theorem dn_X2_play_116 : decode cn_X2_play 116 = .ok (.iastore, 1) := by decide +kernel
theorem dn_X2_play_117 : decode cn_X2_play 117 = .ok (.return_, 1) := by decide +kernel
theorem dn_X2_behind_0 : decode cn_X2_behind 0 = .ok (.aload_n 0, 1) := by decide +kernel
theorem dn_X2_behind_1 : decode cn_X2_behind 1 = .ok (.iload_n 1, 1) := by decide +kernel
theorem dn_X2_behind_2 : decode cn_X2_behind 2 = .ok (.invokevirtual 152, 3) := by decide +kernel
theorem dn_X2_behind_5 : decode cn_X2_behind 5 = .ok (.ifCond .ne 9, 3) := by decide +kernel
theorem dn_X2_behind_8 : decode cn_X2_behind 8 = .ok (.aload_n 0, 1) := by decide +kernel
theorem dn_X2_behind_9 : decode cn_X2_behind 9 = .ok (.iload_n 1, 1) := by decide +kernel
theorem dn_X2_behind_10 : decode cn_X2_behind 10 = .ok (.invokevirtual 117, 3) := by decide +kernel
theorem dn_X2_behind_13 : decode cn_X2_behind 13 = .ok (.ireturn, 1) := by decide +kernel
theorem dn_X2_behind_14 : decode cn_X2_behind 14 = .ok (.aload_n 0, 1) := by decide +kernel
theorem dn_X2_behind_15 : decode cn_X2_behind 15 = .ok (.getfield 12, 3) := by decide +kernel
theorem dn_X2_behind_18 : decode cn_X2_behind 18 = .ok (.getfield 155, 3) := by decide +kernel
theorem dn_X2_behind_21 : decode cn_X2_behind 21 = .ok (.iconst 3, 1) := by decide +kernel
theorem dn_X2_behind_22 : decode cn_X2_behind 22 = .ok (.iaload, 1) := by decide +kernel
theorem dn_X2_behind_23 : decode cn_X2_behind 23 = .ok (.iload_n 1, 1) := by decide +kernel
theorem dn_X2_behind_24 : decode cn_X2_behind 24 = .ok (.if_icmp .ne 13, 3) := by decide +kernel
theorem dn_X2_behind_27 : decode cn_X2_behind 27 = .ok (.aload_n 0, 1) := by decide +kernel
theorem dn_X2_behind_28 : decode cn_X2_behind 28 = .ok (.iconst 1, 1) := by decide +kernel
theorem dn_X2_behind_29 : decode cn_X2_behind 29 = .ok (.invokevirtual 158, 3) := by decide +kernel
theorem dn_X2_behind_32 : decode cn_X2_behind 32 = .ok (.ifCond .eq 5, 3) := by decide +kernel
theorem dn_X2_behind_35 : decode cn_X2_behind 35 = .ok (.iconst (-1), 1) := by decide +kernel
theorem dn_X2_behind_36 : decode cn_X2_behind 36 = .ok (.ireturn, 1) := by decide +kernel
theorem dn_X2_behind_37 : decode cn_X2_behind 37 = .ok (.aload_n 0, 1) := by decide +kernel
theorem dn_X2_behind_38 : decode cn_X2_behind 38 = .ok (.getfield 12, 3) := by decide +kernel
theorem dn_X2_behind_41 : decode cn_X2_behind 41 = .ok (.getfield 155, 3) := by decide +kernel
theorem dn_X2_behind_44 : decode cn_X2_behind 44 = .ok (.iconst 2, 1) := by decide +kernel
theorem dn_X2_behind_45 : decode cn_X2_behind 45 = .ok (.iaload, 1) := by decide +kernel
theorem dn_X2_behind_46 : decode cn_X2_behind 46 = .ok (.iload_n 1, 1) := by decide +kernel
theorem dn_X2_behind_47 : decode cn_X2_behind 47 = .ok (.if_icmp .ne 37, 3) := by decide +kernel
theorem dn_X2_behind_50 : decode cn_X2_behind 50 = .ok (.aload_n 0, 1) := by decide +kernel
theorem dn_X2_behind_51 : decode cn_X2_behind 51 = .ok (.iconst 2, 1) := by decide +kernel
theorem dn_X2_behind_52 : decode cn_X2_behind 52 = .ok (.invokevirtual 158, 3) := by decide +kernel
theorem dn_X2_behind_55 : decode cn_X2_behind 55 = .ok (.ifCond .eq 29, 3) := by decide +kernel
theorem dn_X2_behind_58 : decode cn_X2_behind 58 = .ok (.aload_n 0, 1) := by decide +kernel
theorem dn_X2_behind_59 : decode cn_X2_behind 59 = .ok (.getfield 73, 3) := by decide +kernel
theorem dn_X2_behind_62 : decode cn_X2_behind 62 = .ok (.ifCond .ne 22, 3) := by decide +kernel
theorem dn_X2_behind_65 : decode cn_X2_behind 65 = .ok (.aload_n 0, 1) := by decide +kernel
theorem dn_X2_behind_66 : decode cn_X2_behind 66 = .ok (.invokevirtual 83, 3) := by decide +kernel
theorem dn_X2_behind_69 : decode cn_X2_behind 69 = .ok (.aload_n 0, 1) := by decide +kernel
theorem dn_X2_behind_70 : decode cn_X2_behind 70 = .ok (.iconst 1, 1) := by decide +kernel
theorem dn_X2_behind_71 : decode cn_X2_behind 71 = .ok (.putfield 73, 3) := by decide +kernel
theorem dn_X2_behind_74 : decode cn_X2_behind 74 = .ok (.aload_n 0, 1) := by decide +kernel
theorem dn_X2_behind_75 : decode cn_X2_behind 75 = .ok (.getfield 12, 3) := by decide +kernel
theorem dn_X2_behind_78 : decode cn_X2_behind 78 = .ok (.getfield 155, 3) := by decide +kernel
theorem dn_X2_behind_81 : decode cn_X2_behind 81 = .ok (.iconst 1, 1) := by decide +kernel
theorem dn_X2_behind_82 : decode cn_X2_behind 82 = .ok (.iaload, 1) := by decide +kernel
theorem dn_X2_behind_83 : decode cn_X2_behind 83 = .ok (.ireturn, 1) := by decide +kernel
theorem dn_X2_behind_84 : decode cn_X2_behind 84 = .ok (.aload_n 0, 1) := by decide +kernel
theorem dn_X2_behind_85 : decode cn_X2_behind 85 = .ok (.getfield 12, 3) := by decide +kernel
theorem dn_X2_behind_88 : decode cn_X2_behind 88 = .ok (.iload_n 1, 1) := by decide +kernel
theorem dn_X2_behind_89 : decode cn_X2_behind 89 = .ok (.invokevirtual 89, 3) := by decide +kernel
theorem dn_X2_behind_92 : decode cn_X2_behind 92 = .ok (.ifCond .eq 18, 3) := by decide +kernel
theorem dn_X2_behind_95 : decode cn_X2_behind 95 = .ok (.aload_n 0, 1) := by decide +kernel
theorem dn_X2_behind_96 : decode cn_X2_behind 96 = .ok (.getfield 40, 3) := by decide +kernel
theorem dn_X2_behind_99 : decode cn_X2_behind 99 = .ok (.iload_n 1, 1) := by decide +kernel
theorem dn_X2_behind_100 : decode cn_X2_behind 100 = .ok (.baload, 1) := by decide +kernel
theorem dn_X2_behind_101 : decode cn_X2_behind 101 = .ok (.ifCond .ne 9, 3) := by decide +kernel
theorem dn_X2_behind_104 : decode cn_X2_behind 104 = .ok (.aload_n 0, 1) := by decide +kernel
theorem dn_X2_behind_105 : decode cn_X2_behind 105 = .ok (.iload_n 1, 1) := by decide +kernel
theorem dn_X2_behind_106 : decode cn_X2_behind 106 = .ok (.invokevirtual 161, 3) := by decide +kernel
theorem dn_X2_behind_109 : decode cn_X2_behind 109 = .ok (.ireturn, 1) := by decide +kernel
theorem dn_X2_behind_110 : decode cn_X2_behind 110 = .ok (.aload_n 0, 1) := by decide +kernel
theorem dn_X2_behind_111 : decode cn_X2_behind 111 = .ok (.iload_n 1, 1) := by decide +kernel
theorem dn_X2_behind_112 : decode cn_X2_behind 112 = .ok (.invokevirtual 117, 3) := by decide +kernel
theorem dn_X2_behind_115 : decode cn_X2_behind 115 = .ok (.ireturn, 1) := by decide +kernel
theorem dn_X2_isInLastPasses_0 : decode cn_X2_isInLastPasses 0 = .ok (.iconst 0, 1) := by decide +kernel
theorem dn_X2_isInLastPasses_1 : decode cn_X2_isInLastPasses 1 = .ok (.istore_n 2, 1) := by decide +kernel
theorem dn_X2_isInLastPasses_2 : decode cn_X2_isInLastPasses 2 = .ok (.iload_n 2, 1) := by decide +kernel
theorem dn_X2_isInLastPasses_3 : decode cn_X2_isInLastPasses 3 = .ok (.aload_n 0, 1) := by decide +kernel
theorem dn_X2_isInLastPasses_4 : decode cn_X2_isInLastPasses 4 = .ok (.getfield 12, 3) := by decide +kernel
theorem dn_X2_isInLastPasses_7 : decode cn_X2_isInLastPasses 7 = .ok (.getfield 129, 3) := by decide +kernel
theorem dn_X2_isInLastPasses_10 : decode cn_X2_isInLastPasses 10 = .ok (.iload_n 1, 1) := by decide +kernel
theorem dn_X2_isInLastPasses_11 : decode cn_X2_isInLastPasses 11 = .ok (.iaload, 1) := by decide +kernel
theorem dn_X2_isInLastPasses_12 : decode cn_X2_isInLastPasses 12 = .ok (.if_icmp .ge 39, 3) := by decide +kernel
theorem dn_X2_isInLastPasses_15 : decode cn_X2_isInLastPasses 15 = .ok (.aload_n 0, 1) := by decide +kernel
theorem dn_X2_isInLastPasses_16 : decode cn_X2_isInLastPasses 16 = .ok (.getfield 12, 3) := by decide +kernel
theorem dn_X2_isInLastPasses_19 : decode cn_X2_isInLastPasses 19 = .ok (.iload_n 1, 1) := by decide +kernel
theorem dn_X2_isInLastPasses_20 : decode cn_X2_isInLastPasses 20 = .ok (.iload_n 2, 1) := by decide +kernel
theorem dn_X2_isInLastPasses_21 : decode cn_X2_isInLastPasses 21 = .ok (.invokevirtual 132, 3) := by decide +kernel
theorem dn_X2_isInLastPasses_24 : decode cn_X2_isInLastPasses 24 = .ok (.istore_n 3, 1) := by decide +kernel
theorem dn_X2_isInLastPasses_25 : decode cn_X2_isInLastPasses 25 = .ok (.aload_n 0, 1) := by decide +kernel
theorem dn_X2_isInLastPasses_26 : decode cn_X2_isInLastPasses 26 = .ok (.getfield 37, 3) := by decide +kernel
theorem dn_X2_isInLastPasses_29 : decode cn_X2_isInLastPasses 29 = .ok (.iload_n 3, 1) := by decide +kernel
theorem dn_X2_isInLastPasses_30 : decode cn_X2_isInLastPasses 30 = .ok (.iaload, 1) := by decide +kernel
theorem dn_X2_isInLastPasses_31 : decode cn_X2_isInLastPasses 31 = .ok (.aload_n 0, 1) := by decide +kernel
theorem dn_X2_isInLastPasses_32 : decode cn_X2_isInLastPasses 32 = .ok (.getfield 12, 3) := by decide +kernel
theorem dn_X2_isInLastPasses_35 : decode cn_X2_isInLastPasses 35 = .ok (.getfield 136, 3) := by decide +kernel
theorem dn_X2_isInLastPasses_38 : decode cn_X2_isInLastPasses 38 = .ok (.iload_n 3, 1) := by decide +kernel
theorem dn_X2_isInLastPasses_39 : decode cn_X2_isInLastPasses 39 = .ok (.iaload, 1) := by decide +kernel
theorem dn_X2_isInLastPasses_40 : decode cn_X2_isInLastPasses 40 = .ok (.if_icmp .ge 5, 3) := by decide +kernel
theorem dn_X2_isInLastPasses_43 : decode cn_X2_isInLastPasses 43 = .ok (.iconst 0, 1) := by decide +kernel
theorem dn_X2_isInLastPasses_44 : decode cn_X2_isInLastPasses 44 = .ok (.ireturn, 1) := by decide +kernel
theorem dn_X2_isInLastPasses_45 : decode cn_X2_isInLastPasses 45 = .ok (.iinc 2 1, 3) := by decide +kernel
theorem dn_X2_isInLastPasses_48 : decode cn_X2_isInLastPasses 48 = .ok (.goto (-46), 3) := by decide +kernel
theorem dn_X2_isInLastPasses_51 : decode cn_X2_isInLastPasses 51 = .ok (.iconst 1, 1) := by decide +kernel
theorem dn_X2_isInLastPasses_52 : decode cn_X2_isInLastPasses 52 = .ok (.ireturn, 1) := by decide +kernel
theorem dn_X2_isLatestJumpTill_0 : decode cn_X2_isLatestJumpTill 0 = .ok (.aload_n 0, 1) := by decide +kernel
theorem dn_X2_isLatestJumpTill_1 : decode cn_X2_isLatestJumpTill 1 = .ok (.getfield 44, 3) := by decide +kernel
theorem dn_X2_isLatestJumpTill_4 : decode cn_X2_isLatestJumpTill 4 = .ok (.iconst (-1), 1) := by decide +kernel
theorem dn_X2_isLatestJumpTill_5 : decode cn_X2_isLatestJumpTill 5 = .ok (.if_icmp .eq 23, 3) := by decide +kernel
theorem dn_X2_isLatestJumpTill_8 : decode cn_X2_isLatestJumpTill 8 = .ok (.aload_n 0, 1) := by decide +kernel
theorem dn_X2_isLatestJumpTill_9 : decode cn_X2_isLatestJumpTill 9 = .ok (.getfield 12, 3) := by decide +kernel
theorem dn_X2_isLatestJumpTill_12 : decode cn_X2_isLatestJumpTill 12 = .ok (.getfield 164, 3) := by decide +kernel
theorem dn_X2_isLatestJumpTill_15 : decode cn_X2_isLatestJumpTill 15 = .ok (.aload_n 0, 1) := by decide +kernel
theorem dn_X2_isLatestJumpTill_16 : decode cn_X2_isLatestJumpTill 16 = .ok (.getfield 44, 3) := by decide +kernel
theorem dn_X2_isLatestJumpTill_19 : decode cn_X2_isLatestJumpTill 19 = .ok (.iaload, 1) := by decide +kernel
theorem dn_X2_isLatestJumpTill_20 : decode cn_X2_isLatestJumpTill 20 = .ok (.iload_n 1, 1) := by decide +kernel
theorem dn_X2_isLatestJumpTill_21 : decode cn_X2_isLatestJumpTill 21 = .ok (.if_icmp .ne 7, 3) := by decide +kernel
theorem dn_X2_isLatestJumpTill_24 : decode cn_X2_isLatestJumpTill 24 = .ok (.iconst 1, 1) := by decide +kernel
theorem dn_X2_isLatestJumpTill_25 : decode cn_X2_isLatestJumpTill 25 = .ok (.goto 4, 3) := by decide +kernel
theorem dn_X2_isLatestJumpTill_28 : decode cn_X2_isLatestJumpTill 28 = .ok (.iconst 0, 1) := by decide +kernel
theorem dn_X2_isLatestJumpTill_29 : decode cn_X2_isLatestJumpTill 29 = .ok (.ireturn, 1) := by decide +kernel
theorem dn_X2_act_0 : decode cn_X2_act 0 = .ok (.aload_n 0, 1) := by decide +kernel
theorem dn_X2_act_1 : decode cn_X2_act 1 = .ok (.getfield 40, 3) := by decide +kernel
theorem dn_X2_act_4 : decode cn_X2_act 4 = .ok (.iload_n 1, 1) := by decide +kernel
theorem dn_X2_act_5 : decode cn_X2_act 5 = .ok (.iconst 1, 1) := by decide +kernel
theorem dn_X2_act_6 : decode cn_X2_act 6 = .ok (.bastore, 1) := by decide +kernel
theorem dn_X2_act_7 : decode cn_X2_act 7 = .ok (.aload_n 0, 1) := by decide +kernel
theorem dn_X2_act_8 : decode cn_X2_act 8 = .ok (.iload_n 1, 1) := by decide +kernel
theorem dn_X2_act_9 : decode cn_X2_act 9 = .ok (.putfield 44, 3) := by decide +kernel
theorem dn_X2_act_12 : decode cn_X2_act 12 = .ok (.aload_n 0, 1) := by decide +kernel
theorem dn_X2_act_13 : decode cn_X2_act 13 = .ok (.iconst 0, 1) := by decide +kernel
theorem dn_X2_act_14 : decode cn_X2_act 14 = .ok (.putfield 73, 3) := by decide +kernel
theorem dn_X2_act_17 : decode cn_X2_act 17 = .ok (.aload_n 0, 1) := by decide +kernel
theorem dn_X2_act_18 : decode cn_X2_act 18 = .ok (.dup, 1) := by decide +kernel
theorem dn_X2_act_19 : decode cn_X2_act 19 = .ok (.getfield 70, 3) := by decide +kernel
theorem dn_X2_act_22 : decode cn_X2_act 22 = .ok (.iconst 1, 1) := by decide +kernel
theorem dn_X2_act_23 : decode cn_X2_act 23 = .ok (.iadd, 1) := by decide +kernel
theorem dn_X2_act_24 : decode cn_X2_act 24 = .ok (.putfield 70, 3) := by decide +kernel
theorem dn_X2_act_27 : decode cn_X2_act 27 = .ok (.aload_n 0, 1) := by decide +kernel
theorem dn_X2_act_28 : decode cn_X2_act 28 = .ok (.invokevirtual 83, 3) := by decide +kernel
theorem dn_X2_act_31 : decode cn_X2_act 31 = .ok (.aload_n 0, 1) := by decide +kernel
theorem dn_X2_act_32 : decode cn_X2_act 32 = .ok (.getfield 12, 3) := by decide +kernel
theorem dn_X2_act_35 : decode cn_X2_act 35 = .ok (.getfield 167, 3) := by decide +kernel
theorem dn_X2_act_38 : decode cn_X2_act 38 = .ok (.iload_n 1, 1) := by decide +kernel
theorem dn_X2_act_39 : decode cn_X2_act 39 = .ok (.iaload, 1) := by decide +kernel
theorem dn_X2_act_40 : decode cn_X2_act 40 = .ok (.iconst 1, 1) := by decide +kernel
theorem dn_X2_act_41 : decode cn_X2_act 41 = .ok (.if_icmp .ne 15, 3) := by decide +kernel
theorem dn_X2_act_44 : decode cn_X2_act 44 = .ok (.aload_n 0, 1) := by decide +kernel
theorem dn_X2_act_45 : decode cn_X2_act 45 = .ok (.getfield 12, 3) := by decide +kernel
theorem dn_X2_act_48 : decode cn_X2_act 48 = .ok (.getfield 155, 3) := by decide +kernel
theorem dn_X2_act_51 : decode cn_X2_act 51 = .ok (.iconst 0, 1) := by decide +kernel
theorem dn_X2_act_52 : decode cn_X2_act 52 = .ok (.iaload, 1) := by decide +kernel
theorem dn_X2_act_53 : decode cn_X2_act 53 = .ok (.goto 4, 3) := by decide +kernel
theorem dn_X2_act_56 : decode cn_X2_act 56 = .ok (.iconst 0, 1) := by decide +kernel
theorem dn_X2_act_57 : decode cn_X2_act 57 = .ok (.ireturn, 1) := by decide +kernel
theorem dn_X2_endOf_0 : decode cn_X2_endOf 0 = .ok (.aload_n 0, 1) := by decide +kernel
theorem dn_X2_endOf_1 : decode cn_X2_endOf 1 = .ok (.getfield 12, 3) := by decide +kernel
theorem dn_X2_endOf_4 : decode cn_X2_endOf 4 = .ok (.getfield 129, 3) := by decide +kernel
theorem dn_X2_endOf_7 : decode cn_X2_endOf 7 = .ok (.iload_n 1, 1) := by decide +kernel
theorem dn_X2_endOf_8 : decode cn_X2_endOf 8 = .ok (.iaload, 1) := by decide +kernel
theorem dn_X2_endOf_9 : decode cn_X2_endOf 9 = .ok (.iconst 1, 1) := by decide +kernel
theorem dn_X2_endOf_10 : decode cn_X2_endOf 10 = .ok (.isub, 1) := by decide +kernel
theorem dn_X2_endOf_11 : decode cn_X2_endOf 11 = .ok (.istore_n 2, 1) := by decide +kernel
theorem dn_X2_endOf_12 : decode cn_X2_endOf 12 = .ok (.iload_n 2, 1) := by decide +kernel
theorem dn_X2_endOf_13 : decode cn_X2_endOf 13 = .ok (.ifCond .lt 86, 3) := by decide +kernel
theorem dn_X2_endOf_16 : decode cn_X2_endOf 16 = .ok (.aload_n 0, 1) := by decide +kernel
theorem dn_X2_endOf_17 : decode cn_X2_endOf 17 = .ok (.getfield 12, 3) := by decide +kernel
theorem dn_X2_endOf_20 : decode cn_X2_endOf 20 = .ok (.iload_n 1, 1) := by decide +kernel
theorem dn_X2_endOf_21 : decode cn_X2_endOf 21 = .ok (.iload_n 2, 1) := by decide +kernel
theorem dn_X2_endOf_22 : decode cn_X2_endOf 22 = .ok (.invokevirtual 132, 3) := by decide +kernel
theorem dn_X2_endOf_25 : decode cn_X2_endOf 25 = .ok (.istore_n 3, 1) := by decide +kernel
theorem dn_X2_endOf_26 : decode cn_X2_endOf 26 = .ok (.aload_n 0, 1) := by decide +kernel
theorem dn_X2_endOf_27 : decode cn_X2_endOf 27 = .ok (.getfield 12, 3) := by decide +kernel
theorem dn_X2_endOf_30 : decode cn_X2_endOf 30 = .ok (.getfield 170, 3) := by decide +kernel
theorem dn_X2_endOf_33 : decode cn_X2_endOf 33 = .ok (.iload_n 3, 1) := by decide +kernel
theorem dn_X2_endOf_34 : decode cn_X2_endOf 34 = .ok (.iaload, 1) := by decide +kernel
theorem dn_X2_endOf_35 : decode cn_X2_endOf 35 = .ok (.iload_n 1, 1) := by decide +kernel
theorem dn_X2_endOf_36 : decode cn_X2_endOf 36 = .ok (.if_icmp .ne 57, 3) := by decide +kernel
theorem dn_X2_endOf_39 : decode cn_X2_endOf 39 = .ok (.aload_n 0, 1) := by decide +kernel
theorem dn_X2_endOf_40 : decode cn_X2_endOf 40 = .ok (.getfield 37, 3) := by decide +kernel
theorem dn_X2_endOf_43 : decode cn_X2_endOf 43 = .ok (.iload_n 3, 1) := by decide +kernel
theorem dn_X2_endOf_44 : decode cn_X2_endOf 44 = .ok (.iaload, 1) := by decide +kernel
theorem dn_X2_endOf_45 : decode cn_X2_endOf 45 = .ok (.ifCond .eq 48, 3) := by decide +kernel
theorem dn_X2_endOf_48 : decode cn_X2_endOf 48 = .ok (.aload_n 0, 1) := by decide +kernel
theorem dn_X2_endOf_49 : decode cn_X2_endOf 49 = .ok (.getfield 37, 3) := by decide +kernel
theorem dn_X2_endOf_52 : decode cn_X2_endOf 52 = .ok (.iload_n 3, 1) := by decide +kernel
theorem dn_X2_endOf_53 : decode cn_X2_endOf 53 = .ok (.iaload, 1) := by decide +kernel
theorem dn_X2_endOf_54 : decode cn_X2_endOf 54 = .ok (.aload_n 0, 1) := by decide +kernel
theorem dn_X2_endOf_55 : decode cn_X2_endOf 55 = .ok (.getfield 12, 3) := by decide +kernel
theorem dn_X2_endOf_58 : decode cn_X2_endOf 58 = .ok (.getfield 136, 3) := by decide +kernel
theorem dn_X2_endOf_61 : decode cn_X2_endOf 61 = .ok (.iload_n 3, 1) := by decide +kernel
theorem dn_X2_endOf_62 : decode cn_X2_endOf 62 = .ok (.iaload, 1) := by decide +kernel
theorem dn_X2_endOf_63 : decode cn_X2_endOf 63 = .ok (.if_icmp .ge 23, 3) := by decide +kernel
theorem dn_X2_endOf_66 : decode cn_X2_endOf 66 = .ok (.aload_n 0, 1) := by decide +kernel
theorem dn_X2_endOf_67 : decode cn_X2_endOf 67 = .ok (.getfield 37, 3) := by decide +kernel
theorem dn_X2_endOf_70 : decode cn_X2_endOf 70 = .ok (.iload_n 3, 1) := by decide +kernel
theorem dn_X2_endOf_71 : decode cn_X2_endOf 71 = .ok (.dup2, 1) := by decide +kernel
theorem dn_X2_endOf_72 : decode cn_X2_endOf 72 = .ok (.iaload, 1) := by decide +kernel
theorem dn_X2_endOf_73 : decode cn_X2_endOf 73 = .ok (.iconst 1, 1) := by decide +kernel
theorem dn_X2_endOf_74 : decode cn_X2_endOf 74 = .ok (.iadd, 1) := by decide +kernel
theorem dn_X2_endOf_75 : decode cn_X2_endOf 75 = .ok (.iastore, 1) := by decide +kernel
theorem dn_X2_endOf_76 : decode cn_X2_endOf 76 = .ok (.aload_n 0, 1) := by decide +kernel
theorem dn_X2_endOf_77 : decode cn_X2_endOf 77 = .ok (.getfield 12, 3) := by decide +kernel
theorem dn_X2_endOf_80 : decode cn_X2_endOf 80 = .ok (.getfield 173, 3) := by decide +kernel
theorem dn_X2_endOf_83 : decode cn_X2_endOf 83 = .ok (.iload_n 3, 1) := by decide +kernel
theorem dn_X2_endOf_84 : decode cn_X2_endOf 84 = .ok (.iaload, 1) := by decide +kernel
theorem dn_X2_endOf_85 : decode cn_X2_endOf 85 = .ok (.ireturn, 1) := by decide +kernel
theorem dn_X2_endOf_86 : decode cn_X2_endOf 86 = .ok (.aload_n 0, 1) := by decide +kernel
theorem dn_X2_endOf_87 : decode cn_X2_endOf 87 = .ok (.getfield 37, 3) := by decide +kernel
theorem dn_X2_endOf_90 : decode cn_X2_endOf 90 = .ok (.iload_n 3, 1) := by decide +kernel
theorem dn_X2_endOf_91 : decode cn_X2_endOf 91 = .ok (.iconst 0, 1) := by decide +kernel
theorem dn_X2_endOf_92 : decode cn_X2_endOf 92 = .ok (.iastore, 1) := by decide +kernel
theorem dn_X2_endOf_93 : decode cn_X2_endOf 93 = .ok (.iinc 2 (-1), 3) := by decide +kernel
theorem dn_X2_endOf_96 : decode cn_X2_endOf 96 = .ok (.goto (-84), 3) := by decide +kernel
theorem dn_X2_endOf_99 : decode cn_X2_endOf 99 = .ok (.iload_n 1, 1) := by decide +kernel
theorem dn_X2_endOf_100 : decode cn_X2_endOf 100 = .ok (.iconst 1, 1) := by decide +kernel
theorem dn_X2_endOf_101 : decode cn_X2_endOf 101 = .ok (.iadd, 1) := by decide +kernel
theorem dn_X2_endOf_102 : decode cn_X2_endOf 102 = .ok (.aload_n 0, 1) := by decide +kernel
theorem dn_X2_endOf_103 : decode cn_X2_endOf 103 = .ok (.getfield 12, 3) := by decide +kernel
theorem dn_X2_endOf_106 : decode cn_X2_endOf 106 = .ok (.getfield 86, 3) := by decide +kernel
theorem dn_X2_endOf_109 : decode cn_X2_endOf 109 = .ok (.if_icmp .ge 9, 3) := by decide +kernel
theorem dn_X2_endOf_112 : decode cn_X2_endOf 112 = .ok (.iload_n 1, 1) := by decide +kernel
theorem dn_X2_endOf_113 : decode cn_X2_endOf 113 = .ok (.iconst 1, 1) := by decide +kernel
theorem dn_X2_endOf_114 : decode cn_X2_endOf 114 = .ok (.iadd, 1) := by decide +kernel
theorem dn_X2_endOf_115 : decode cn_X2_endOf 115 = .ok (.goto 4, 3) := by decide +kernel
theorem dn_X2_endOf_118 : decode cn_X2_endOf 118 = .ok (.iconst (-1), 1) := by decide +kernel
theorem dn_X2_endOf_119 : decode cn_X2_endOf 119 = .ok (.ireturn, 1) := by decide +kernel
