theorem dn_X3_init_0 : decode cn_X3_init 0 = .ok (.aload_n 0, 1) := by decide +kernel
theorem dn_X3_init_1 : decode cn_X3_init 1 = .ok (.invokespecial 3, 3) := by decide +kernel
theorem dn_X3_init_4 : decode cn_X3_init 4 = .ok (.aload_n 0, 1) := by decide +kernel
theorem dn_X3_init_5 : decode cn_X3_init 5 = .ok (.bipush 40, 2) := by decide +kernel
theorem dn_X3_init_7 : decode cn_X3_init 7 = .ok (.newarray .int, 2) := by decide +kernel
theorem dn_X3_init_9 : decode cn_X3_init 9 = .ok (.putfield 9, 3) := by decide +kernel
theorem dn_X3_init_12 : decode cn_X3_init 12 = .ok (.aload_n 0, 1) := by decide +kernel
theorem dn_X3_init_13 : decode cn_X3_init 13 = .ok (.sipush 1681, 3) := by decide +kernel
theorem dn_X3_init_16 : decode cn_X3_init 16 = .ok (.newarray .int, 2) := by decide +kernel
theorem dn_X3_init_18 : decode cn_X3_init 18 = .ok (.putfield 15, 3) := by decide +kernel
theorem dn_X3_init_21 : decode cn_X3_init 21 = .ok (.aload_n 0, 1) := by decide +kernel
theorem dn_X3_init_22 : decode cn_X3_init 22 = .ok (.sipush 1681, 3) := by decide +kernel
theorem dn_X3_init_25 : decode cn_X3_init 25 = .ok (.newarray .int, 2) := by decide +kernel
theorem dn_X3_init_27 : decode cn_X3_init 27 = .ok (.putfield 18, 3) := by decide +kernel
theorem dn_X3_init_30 : decode cn_X3_init 30 = .ok (.aload_n 0, 1) := by decide +kernel
theorem dn_X3_init_31 : decode cn_X3_init 31 = .ok (.sipush 1681, 3) := by decide +kernel
theorem dn_X3_init_34 : decode cn_X3_init 34 = .ok (.newarray .int, 2) := by decide +kernel
theorem dn_X3_init_36 : decode cn_X3_init 36 = .ok (.putfield 21, 3) := by decide +kernel
theorem dn_X3_init_39 : decode cn_X3_init 39 = .ok (.aload_n 0, 1) := by decide +kernel
theorem dn_X3_init_40 : decode cn_X3_init 40 = .ok (.sipush 160, 3) := by decide +kernel
theorem dn_X3_init_43 : decode cn_X3_init 43 = .ok (.newarray .int, 2) := by decide +kernel
theorem dn_X3_init_45 : decode cn_X3_init 45 = .ok (.putfield 24, 3) := by decide +kernel
theorem dn_X3_init_48 : decode cn_X3_init 48 = .ok (.aload_n 0, 1) := by decide +kernel
theorem dn_X3_init_49 : decode cn_X3_init 49 = .ok (.sipush 160, 3) := by decide +kernel
theorem dn_X3_init_52 : decode cn_X3_init 52 = .ok (.newarray .int, 2) := by decide +kernel
theorem dn_X3_init_54 : decode cn_X3_init 54 = .ok (.putfield 27, 3) := by decide +kernel
theorem dn_X3_init_57 : decode cn_X3_init 57 = .ok (.aload_n 0, 1) := by decide +kernel
theorem dn_X3_init_58 : decode cn_X3_init 58 = .ok (.bipush 80, 2) := by decide +kernel
theorem dn_X3_init_60 : decode cn_X3_init 60 = .ok (.newarray .int, 2) := by decide +kernel
theorem dn_X3_init_62 : decode cn_X3_init 62 = .ok (.putfield 30, 3) := by decide +kernel
theorem dn_X3_init_65 : decode cn_X3_init 65 = .ok (.aload_n 0, 1) := by decide +kernel
theorem dn_X3_init_66 : decode cn_X3_init 66 = .ok (.bipush 80, 2) := by decide +kernel
theorem dn_X3_init_68 : decode cn_X3_init 68 = .ok (.newarray .int, 2) := by decide +kernel
theorem dn_X3_init_70 : decode cn_X3_init 70 = .ok (.putfield 33, 3) := by decide +kernel
theorem dn_X3_init_73 : decode cn_X3_init 73 = .ok (.return_, 1) := by decide +kernel
theorem dn_X3_cell_0 : decode cn_X3_cell 0 = .ok (.iload_n 0, 1) := by decide +kernel
theorem dn_X3_cell_1 : decode cn_X3_cell 1 = .ok (.bipush 41, 2) := by decide +kernel
theorem dn_X3_cell_3 : decode cn_X3_cell 3 = .ok (.imul, 1) := by decide +kernel
theorem dn_X3_cell_4 : decode cn_X3_cell 4 = .ok (.iload_n 1, 1) := by decide +kernel
theorem dn_X3_cell_5 : decode cn_X3_cell 5 = .ok (.iadd, 1) := by decide +kernel
theorem dn_X3_cell_6 : decode cn_X3_cell 6 = .ok (.ireturn, 1) := by decide +kernel
theorem dn_X3_writeRow_0 : decode cn_X3_writeRow 0 = .ok (.aload_n 0, 1) := by decide +kernel
theorem dn_X3_writeRow_1 : decode cn_X3_writeRow 1 = .ok (.iload_n 1, 1) := by decide +kernel
theorem dn_X3_writeRow_2 : decode cn_X3_writeRow 2 = .ok (.invokevirtual 36, 3) := by decide +kernel
theorem dn_X3_writeRow_5 : decode cn_X3_writeRow 5 = .ok (.iconst 1, 1) := by decide +kernel
theorem dn_X3_writeRow_6 : decode cn_X3_writeRow 6 = .ok (.istore_n 2, 1) := by decide +kernel
theorem dn_X3_writeRow_7 : decode cn_X3_writeRow 7 = .ok (.iload_n 2, 1) := by decide +kernel
theorem dn_X3_writeRow_8 : decode cn_X3_writeRow 8 = .ok (.iload_n 1, 1) := by decide +kernel
theorem dn_X3_writeRow_9 : decode cn_X3_writeRow 9 = .ok (.if_icmp .gt 30, 3) := by decide +kernel
theorem dn_X3_writeRow_12 : decode cn_X3_writeRow 12 = .ok (.iconst 0, 1) := by decide +kernel
theorem dn_X3_writeRow_13 : decode cn_X3_writeRow 13 = .ok (.istore_n 3, 1) := by decide +kernel
theorem dn_X3_writeRow_14 : decode cn_X3_writeRow 14 = .ok (.iload_n 3, 1) := by decide +kernel
theorem dn_X3_writeRow_15 : decode cn_X3_writeRow 15 = .ok (.iload_n 2, 1) := by decide +kernel
theorem dn_X3_writeRow_16 : decode cn_X3_writeRow 16 = .ok (.iadd, 1) := by decide +kernel
theorem dn_X3_writeRow_17 : decode cn_X3_writeRow 17 = .ok (.iload_n 1, 1) := by decide +kernel
theorem dn_X3_writeRow_18 : decode cn_X3_writeRow 18 = .ok (.if_icmp .gt 15, 3) := by decide +kernel
theorem dn_X3_writeRow_21 : decode cn_X3_writeRow 21 = .ok (.aload_n 0, 1) := by decide +kernel
theorem dn_X3_writeRow_22 : decode cn_X3_writeRow 22 = .ok (.iload_n 3, 1) := by decide +kernel
theorem dn_X3_writeRow_23 : decode cn_X3_writeRow 23 = .ok (.iload_n 2, 1) := by decide +kernel
theorem dn_X3_writeRow_24 : decode cn_X3_writeRow 24 = .ok (.invokevirtual 40, 3) := by decide +kernel
theorem dn_X3_writeRow_27 : decode cn_X3_writeRow 27 = .ok (.iinc 3 1, 3) := by decide +kernel
theorem dn_X3_writeRow_30 : decode cn_X3_writeRow 30 = .ok (.goto (-16), 3) := by decide +kernel
theorem dn_X3_writeRow_33 : decode cn_X3_writeRow 33 = .ok (.iinc 2 1, 3) := by decide +kernel
theorem dn_X3_writeRow_36 : decode cn_X3_writeRow 36 = .ok (.goto (-29), 3) := by decide +kernel
theorem dn_X3_writeRow_39 : decode cn_X3_writeRow 39 = .ok (.aload_n 0, 1) := by decide +kernel
theorem dn_X3_writeRow_40 : decode cn_X3_writeRow 40 = .ok (.iload_n 1, 1) := by decide +kernel
theorem dn_X3_writeRow_41 : decode cn_X3_writeRow 41 = .ok (.invokevirtual 44, 3) := by decide +kernel
theorem dn_X3_writeRow_44 : decode cn_X3_writeRow 44 = .ok (.aload_n 0, 1) := by decide +kernel
theorem dn_X3_writeRow_45 : decode cn_X3_writeRow 45 = .ok (.getfield 47, 3) := by decide +kernel
theorem dn_X3_writeRow_48 : decode cn_X3_writeRow 48 = .ok (.ireturn, 1) := by decide +kernel
theorem dn_X3_compareContents_0 : decode cn_X3_compareContents 0 = .ok (.iload_n 1, 1) := by decide +kernel
theorem dn_X3_compareContents_1 : decode cn_X3_compareContents 1 = .ok (.iconst 1, 1) := by decide +kernel
theorem dn_X3_compareContents_2 : decode cn_X3_compareContents 2 = .ok (.isub, 1) := by decide +kernel
theorem dn_X3_compareContents_3 : decode cn_X3_compareContents 3 = .ok (.istore_n 2, 1) := by decide +kernel
theorem dn_X3_compareContents_4 : decode cn_X3_compareContents 4 = .ok (.iload_n 2, 1) := by decide +kernel
theorem dn_X3_compareContents_5 : decode cn_X3_compareContents 5 = .ok (.ifCond .lt 84, 3) := by decide +kernel
theorem dn_X3_compareContents_8 : decode cn_X3_compareContents 8 = .ok (.iload_n 1, 1) := by decide +kernel
theorem dn_X3_compareContents_9 : decode cn_X3_compareContents 9 = .ok (.iconst 1, 1) := by decide +kernel
theorem dn_X3_compareContents_10 : decode cn_X3_compareContents 10 = .ok (.isub, 1) := by decide +kernel
theorem dn_X3_compareContents_11 : decode cn_X3_compareContents 11 = .ok (.istore_n 3, 1) := by decide +kernel
theorem dn_X3_compareContents_12 : decode cn_X3_compareContents 12 = .ok (.iload_n 3, 1) := by decide +kernel
theorem dn_X3_compareContents_13 : decode cn_X3_compareContents 13 = .ok (.iload_n 2, 1) := by decide +kernel
theorem dn_X3_compareContents_14 : decode cn_X3_compareContents 14 = .ok (.if_icmp .le 69, 3) := by decide +kernel
theorem dn_X3_compareContents_17 : decode cn_X3_compareContents 17 = .ok (.iload_n 3, 1) := by decide +kernel
theorem dn_X3_compareContents_18 : decode cn_X3_compareContents 18 = .ok (.iconst 1, 1) := by decide +kernel
theorem dn_X3_compareContents_19 : decode cn_X3_compareContents 19 = .ok (.iadd, 1) := by decide +kernel
theorem dn_X3_compareContents_20 : decode cn_X3_compareContents 20 = .ok (.iload_n 1, 1) := by decide +kernel
theorem dn_X3_compareContents_21 : decode cn_X3_compareContents 21 = .ok (.if_icmp .ge 20, 3) := by decide +kernel
theorem dn_X3_compareContents_24 : decode cn_X3_compareContents 24 = .ok (.aload_n 0, 1) := by decide +kernel
theorem dn_X3_compareContents_25 : decode cn_X3_compareContents 25 = .ok (.getfield 15, 3) := by decide +kernel
theorem dn_X3_compareContents_28 : decode cn_X3_compareContents 28 = .ok (.iload_n 2, 1) := by decide +kernel
theorem dn_X3_compareContents_29 : decode cn_X3_compareContents 29 = .ok (.iconst 1, 1) := by decide +kernel
theorem dn_X3_compareContents_30 : decode cn_X3_compareContents 30 = .ok (.iadd, 1) := by decide +kernel
theorem dn_X3_compareContents_31 : decode cn_X3_compareContents 31 = .ok (.iload_n 3, 1) := by decide +kernel
theorem dn_X3_compareContents_32 : decode cn_X3_compareContents 32 = .ok (.iconst 1, 1) := by decide +kernel
theorem dn_X3_compareContents_33 : decode cn_X3_compareContents 33 = .ok (.iadd, 1) := by decide +kernel
theorem dn_X3_compareContents_34 : decode cn_X3_compareContents 34 = .ok (.invokestatic 51, 3) := by decide +kernel
theorem dn_X3_compareContents_37 : decode cn_X3_compareContents 37 = .ok (.iaload, 1) := by decide +kernel
theorem dn_X3_compareContents_38 : decode cn_X3_compareContents 38 = .ok (.goto 4, 3) := by decide +kernel
theorem dn_X3_compareContents_41 : decode cn_X3_compareContents 41 = .ok (.iconst 0, 1) := by decide +kernel
theorem dn_X3_compareContents_42 : decode cn_X3_compareContents 42 = .ok (.istore 4, 2) := by decide +kernel
theorem dn_X3_compareContents_44 : decode cn_X3_compareContents 44 = .ok (.aload_n 0, 1) := by decide +kernel
theorem dn_X3_compareContents_45 : decode cn_X3_compareContents 45 = .ok (.getfield 15, 3) := by decide +kernel
theorem dn_X3_compareContents_48 : decode cn_X3_compareContents 48 = .ok (.iload_n 2, 1) := by decide +kernel
theorem dn_X3_compareContents_49 : decode cn_X3_compareContents 49 = .ok (.iload_n 3, 1) := by decide +kernel
theorem dn_X3_compareContents_50 : decode cn_X3_compareContents 50 = .ok (.invokestatic 51, 3) := by decide +kernel
theorem dn_X3_compareContents_53 : decode cn_X3_compareContents 53 = .ok (.aload_n 0, 1) := by decide +kernel
theorem dn_X3_compareContents_54 : decode cn_X3_compareContents 54 = .ok (.getfield 9, 3) := by decide +kernel
theorem dn_X3_compareContents_57 : decode cn_X3_compareContents 57 = .ok (.iload_n 2, 1) := by decide +kernel
theorem dn_X3_compareContents_58 : decode cn_X3_compareContents 58 = .ok (.iaload, 1) := by decide +kernel
theorem dn_X3_compareContents_59 : decode cn_X3_compareContents 59 = .ok (.aload_n 0, 1) := by decide +kernel
theorem dn_X3_compareContents_60 : decode cn_X3_compareContents 60 = .ok (.getfield 9, 3) := by decide +kernel
theorem dn_X3_compareContents_63 : decode cn_X3_compareContents 63 = .ok (.iload_n 3, 1) := by decide +kernel
theorem dn_X3_compareContents_64 : decode cn_X3_compareContents 64 = .ok (.iaload, 1) := by decide +kernel
theorem dn_X3_compareContents_65 : decode cn_X3_compareContents 65 = .ok (.if_icmp .ne 10, 3) := by decide +kernel
theorem dn_X3_compareContents_68 : decode cn_X3_compareContents 68 = .ok (.iload 4, 2) := by decide +kernel
theorem dn_X3_compareContents_70 : decode cn_X3_compareContents 70 = .ok (.iconst 1, 1) := by decide +kernel
theorem dn_X3_compareContents_71 : decode cn_X3_compareContents 71 = .ok (.iadd, 1) := by decide +kernel
theorem dn_X3_compareContents_72 : decode cn_X3_compareContents 72 = .ok (.goto 4, 3) := by decide +kernel
theorem dn_X3_compareContents_75 : decode cn_X3_compareContents 75 = .ok (.iconst 0, 1) := by decide +kernel
theorem dn_X3_compareContents_76 : decode cn_X3_compareContents 76 = .ok (.iastore, 1) := by decide +kernel
theorem dn_X3_compareContents_77 : decode cn_X3_compareContents 77 = .ok (.iinc 3 (-1), 3) := by decide +kernel
theorem dn_X3_compareContents_80 : decode cn_X3_compareContents 80 = .ok (.goto (-68), 3) := by decide +kernel
theorem dn_X3_compareContents_83 : decode cn_X3_compareContents 83 = .ok (.iinc 2 (-1), 3) := by decide +kernel
theorem dn_X3_compareContents_86 : decode cn_X3_compareContents 86 = .ok (.goto (-82), 3) := by decide +kernel
theorem dn_X3_compareContents_89 : decode cn_X3_compareContents 89 = .ok (.return_, 1) := by decide +kernel
theorem dn_X3_choose_0 : decode cn_X3_choose 0 = .ok (.iload_n 1, 1) := by decide +kernel
theorem dn_X3_choose_1 : decode cn_X3_choose 1 = .ok (.iload_n 2, 1) := by decide +kernel
theorem dn_X3_choose_2 : decode cn_X3_choose 2 = .ok (.invokestatic 51, 3) := by decide +kernel
theorem dn_X3_choose_5 : decode cn_X3_choose 5 = .ok (.istore_n 3, 1) := by decide +kernel
theorem dn_X3_choose_6 : decode cn_X3_choose 6 = .ok (.iload_n 2, 1) := by decide +kernel
theorem dn_X3_choose_7 : decode cn_X3_choose 7 = .ok (.iconst 1, 1) := by decide +kernel
theorem dn_X3_choose_8 : decode cn_X3_choose 8 = .ok (.if_icmp .ne 18, 3) := by decide +kernel
theorem dn_X3_choose_11 : decode cn_X3_choose 11 = .ok (.aload_n 0, 1) := by decide +kernel
theorem dn_X3_choose_12 : decode cn_X3_choose 12 = .ok (.getfield 18, 3) := by decide +kernel
theorem dn_X3_choose_15 : decode cn_X3_choose 15 = .ok (.iload_n 3, 1) := by decide +kernel
theorem dn_X3_choose_16 : decode cn_X3_choose 16 = .ok (.iconst 1, 1) := by decide +kernel
theorem dn_X3_choose_17 : decode cn_X3_choose 17 = .ok (.iastore, 1) := by decide +kernel
theorem dn_X3_choose_18 : decode cn_X3_choose 18 = .ok (.aload_n 0, 1) := by decide +kernel
theorem dn_X3_choose_19 : decode cn_X3_choose 19 = .ok (.getfield 21, 3) := by decide +kernel
theorem dn_X3_choose_22 : decode cn_X3_choose 22 = .ok (.iload_n 3, 1) := by decide +kernel
theorem dn_X3_choose_23 : decode cn_X3_choose 23 = .ok (.iconst 0, 1) := by decide +kernel
theorem dn_X3_choose_24 : decode cn_X3_choose 24 = .ok (.iastore, 1) := by decide +kernel
theorem dn_X3_choose_25 : decode cn_X3_choose 25 = .ok (.return_, 1) := by decide +kernel
theorem dn_X3_choose_26 : decode cn_X3_choose 26 = .ok (.aload_n 0, 1) := by decide +kernel
theorem dn_X3_choose_27 : decode cn_X3_choose 27 = .ok (.getfield 18, 3) := by decide +kernel
theorem dn_X3_choose_30 : decode cn_X3_choose 30 = .ok (.iload_n 3, 1) := by decide +kernel
theorem dn_X3_choose_31 : decode cn_X3_choose 31 = .ok (.iload_n 2, 1) := by decide +kernel
theorem dn_X3_choose_32 : decode cn_X3_choose 32 = .ok (.iconst 1, 1) := by decide +kernel
theorem dn_X3_choose_33 : decode cn_X3_choose 33 = .ok (.iadd, 1) := by decide +kernel
theorem dn_X3_choose_34 : decode cn_X3_choose 34 = .ok (.iastore, 1) := by decide +kernel
theorem dn_X3_choose_35 : decode cn_X3_choose 35 = .ok (.aload_n 0, 1) := by decide +kernel
theorem dn_X3_choose_36 : decode cn_X3_choose 36 = .ok (.iload_n 1, 1) := by decide +kernel
theorem dn_X3_choose_37 : decode cn_X3_choose 37 = .ok (.iload_n 2, 1) := by decide +kernel
theorem dn_X3_choose_38 : decode cn_X3_choose 38 = .ok (.invokevirtual 55, 3) := by decide +kernel
theorem dn_X3_choose_41 : decode cn_X3_choose 41 = .ok (.aload_n 0, 1) := by decide +kernel
theorem dn_X3_choose_42 : decode cn_X3_choose 42 = .ok (.iload_n 1, 1) := by decide +kernel
theorem dn_X3_choose_43 : decode cn_X3_choose 43 = .ok (.iload_n 2, 1) := by decide +kernel
theorem dn_X3_choose_44 : decode cn_X3_choose 44 = .ok (.invokevirtual 58, 3) := by decide +kernel
theorem dn_X3_choose_47 : decode cn_X3_choose 47 = .ok (.return_, 1) := by decide +kernel
theorem dn_X3_chooseBlock_0 : decode cn_X3_chooseBlock 0 = .ok (.iload_n 1, 1) := by decide +kernel
theorem dn_X3_chooseBlock_1 : decode cn_X3_chooseBlock 1 = .ok (.iload_n 2, 1) := by decide +kernel
theorem dn_X3_chooseBlock_2 : decode cn_X3_chooseBlock 2 = .ok (.invokestatic 51, 3) := by decide +kernel
theorem dn_X3_chooseBlock_5 : decode cn_X3_chooseBlock 5 = .ok (.istore_n 3, 1) := by decide +kernel
theorem dn_X3_chooseBlock_6 : decode cn_X3_chooseBlock 6 = .ok (.iconst 1, 1) := by decide +kernel
theorem dn_X3_chooseBlock_7 : decode cn_X3_chooseBlock 7 = .ok (.istore 4, 2) := by decide +kernel
theorem dn_X3_chooseBlock_9 : decode cn_X3_chooseBlock 9 = .ok (.iconst 2, 1) := by decide +kernel
theorem dn_X3_chooseBlock_10 : decode cn_X3_chooseBlock 10 = .ok (.iload 4, 2) := by decide +kernel
theorem dn_X3_chooseBlock_12 : decode cn_X3_chooseBlock 12 = .ok (.imul, 1) := by decide +kernel
theorem dn_X3_chooseBlock_13 : decode cn_X3_chooseBlock 13 = .ok (.iload_n 2, 1) := by decide +kernel
theorem dn_X3_chooseBlock_14 : decode cn_X3_chooseBlock 14 = .ok (.if_icmp .gt 81, 3) := by decide +kernel
theorem dn_X3_chooseBlock_17 : decode cn_X3_chooseBlock 17 = .ok (.iload_n 2, 1) := by decide +kernel
theorem dn_X3_chooseBlock_18 : decode cn_X3_chooseBlock 18 = .ok (.iload 4, 2) := by decide +kernel
theorem dn_X3_chooseBlock_20 : decode cn_X3_chooseBlock 20 = .ok (.irem, 1) := by decide +kernel
theorem dn_X3_chooseBlock_21 : decode cn_X3_chooseBlock 21 = .ok (.ifCond .ne 68, 3) := by decide +kernel
theorem dn_X3_chooseBlock_24 : decode cn_X3_chooseBlock 24 = .ok (.aload_n 0, 1) := by decide +kernel
theorem dn_X3_chooseBlock_25 : decode cn_X3_chooseBlock 25 = .ok (.getfield 15, 3) := by decide +kernel
theorem dn_X3_chooseBlock_28 : decode cn_X3_chooseBlock 28 = .ok (.iload_n 1, 1) := by decide +kernel
theorem dn_X3_chooseBlock_29 : decode cn_X3_chooseBlock 29 = .ok (.iload_n 1, 1) := by decide +kernel
theorem dn_X3_chooseBlock_30 : decode cn_X3_chooseBlock 30 = .ok (.iload 4, 2) := by decide +kernel
theorem dn_X3_chooseBlock_32 : decode cn_X3_chooseBlock 32 = .ok (.iadd, 1) := by decide +kernel
theorem dn_X3_chooseBlock_33 : decode cn_X3_chooseBlock 33 = .ok (.invokestatic 51, 3) := by decide +kernel
theorem dn_X3_chooseBlock_36 : decode cn_X3_chooseBlock 36 = .ok (.iaload, 1) := by decide +kernel
theorem dn_X3_chooseBlock_37 : decode cn_X3_chooseBlock 37 = .ok (.iload_n 2, 1) := by decide +kernel
theorem dn_X3_chooseBlock_38 : decode cn_X3_chooseBlock 38 = .ok (.iload 4, 2) := by decide +kernel
theorem dn_X3_chooseBlock_40 : decode cn_X3_chooseBlock 40 = .ok (.isub, 1) := by decide +kernel
theorem dn_X3_chooseBlock_41 : decode cn_X3_chooseBlock 41 = .ok (.if_icmp .lt 48, 3) := by decide +kernel
theorem dn_X3_chooseBlock_44 : decode cn_X3_chooseBlock 44 = .ok (.aload_n 0, 1) := by decide +kernel
theorem dn_X3_chooseBlock_45 : decode cn_X3_chooseBlock 45 = .ok (.getfield 18, 3) := by decide +kernel
theorem dn_X3_chooseBlock_48 : decode cn_X3_chooseBlock 48 = .ok (.iload_n 1, 1) := by decide +kernel
theorem dn_X3_chooseBlock_49 : decode cn_X3_chooseBlock 49 = .ok (.iload 4, 2) := by decide +kernel
theorem dn_X3_chooseBlock_51 : decode cn_X3_chooseBlock 51 = .ok (.invokestatic 51, 3) := by decide +kernel
theorem dn_X3_chooseBlock_54 : decode cn_X3_chooseBlock 54 = .ok (.iaload, 1) := by decide +kernel
theorem dn_X3_chooseBlock_55 : decode cn_X3_chooseBlock 55 = .ok (.aload_n 0, 1) := by decide +kernel
theorem dn_X3_chooseBlock_56 : decode cn_X3_chooseBlock 56 = .ok (.getfield 18, 3) := by decide +kernel
theorem dn_X3_chooseBlock_59 : decode cn_X3_chooseBlock 59 = .ok (.iload_n 3, 1) := by decide +kernel
theorem dn_X3_chooseBlock_60 : decode cn_X3_chooseBlock 60 = .ok (.iaload, 1) := by decide +kernel
theorem dn_X3_chooseBlock_61 : decode cn_X3_chooseBlock 61 = .ok (.if_icmp .ge 28, 3) := by decide +kernel
theorem dn_X3_chooseBlock_64 : decode cn_X3_chooseBlock 64 = .ok (.aload_n 0, 1) := by decide +kernel
theorem dn_X3_chooseBlock_65 : decode cn_X3_chooseBlock 65 = .ok (.getfield 18, 3) := by decide +kernel
theorem dn_X3_chooseBlock_68 : decode cn_X3_chooseBlock 68 = .ok (.iload_n 3, 1) := by decide +kernel
theorem dn_X3_chooseBlock_69 : decode cn_X3_chooseBlock 69 = .ok (.aload_n 0, 1) := by decide +kernel
theorem dn_X3_chooseBlock_70 : decode cn_X3_chooseBlock 70 = .ok (.getfield 18, 3) := by decide +kernel
theorem dn_X3_chooseBlock_73 : decode cn_X3_chooseBlock 73 = .ok (.iload_n 1, 1) := by decide +kernel
theorem dn_X3_chooseBlock_74 : decode cn_X3_chooseBlock 74 = .ok (.iload 4, 2) := by decide +kernel
theorem dn_X3_chooseBlock_76 : decode cn_X3_chooseBlock 76 = .ok (.invokestatic 51, 3) := by decide +kernel
theorem dn_X3_chooseBlock_79 : decode cn_X3_chooseBlock 79 = .ok (.iaload, 1) := by decide +kernel
theorem dn_X3_chooseBlock_80 : decode cn_X3_chooseBlock 80 = .ok (.iastore, 1) := by decide +kernel
theorem dn_X3_chooseBlock_81 : decode cn_X3_chooseBlock 81 = .ok (.aload_n 0, 1) := by decide +kernel
theorem dn_X3_chooseBlock_82 : decode cn_X3_chooseBlock 82 = .ok (.getfield 21, 3) := by decide +kernel
theorem dn_X3_chooseBlock_85 : decode cn_X3_chooseBlock 85 = .ok (.iload_n 3, 1) := by decide +kernel
theorem dn_X3_chooseBlock_86 : decode cn_X3_chooseBlock 86 = .ok (.iload 4, 2) := by decide +kernel
theorem dn_X3_chooseBlock_88 : decode cn_X3_chooseBlock 88 = .ok (.iastore, 1) := by decide +kernel
theorem dn_X3_chooseBlock_89 : decode cn_X3_chooseBlock 89 = .ok (.iinc 4 1, 3) := by decide +kernel
theorem dn_X3_chooseBlock_92 : decode cn_X3_chooseBlock 92 = .ok (.goto (-83), 3) := by decide +kernel
theorem dn_X3_chooseBlock_95 : decode cn_X3_chooseBlock 95 = .ok (.return_, 1) := by decide +kernel
theorem dn_X3_chooseParts_0 : decode cn_X3_chooseParts 0 = .ok (.iload_n 1, 1) := by decide +kernel
theorem dn_X3_chooseParts_1 : decode cn_X3_chooseParts 1 = .ok (.iload_n 2, 1) := by decide +kernel
theorem dn_X3_chooseParts_2 : decode cn_X3_chooseParts 2 = .ok (.invokestatic 51, 3) := by decide +kernel
theorem dn_X3_chooseParts_5 : decode cn_X3_chooseParts 5 = .ok (.istore_n 3, 1) := by decide +kernel
theorem dn_X3_chooseParts_6 : decode cn_X3_chooseParts 6 = .ok (.aload_n 0, 1) := by decide +kernel
theorem dn_X3_chooseParts_7 : decode cn_X3_chooseParts 7 = .ok (.getfield 18, 3) := by decide +kernel
theorem dn_X3_chooseParts_10 : decode cn_X3_chooseParts 10 = .ok (.iload_n 3, 1) := by decide +kernel
theorem dn_X3_chooseParts_11 : decode cn_X3_chooseParts 11 = .ok (.iaload, 1) := by decide +kernel
theorem dn_X3_chooseParts_12 : decode cn_X3_chooseParts 12 = .ok (.istore 4, 2) := by decide +kernel
theorem dn_X3_chooseParts_14 : decode cn_X3_chooseParts 14 = .ok (.iconst 1, 1) := by decide +kernel
theorem dn_X3_chooseParts_15 : decode cn_X3_chooseParts 15 = .ok (.istore 5, 2) := by decide +kernel
theorem dn_X3_chooseParts_17 : decode cn_X3_chooseParts 17 = .ok (.iload 5, 2) := by decide +kernel
theorem dn_X3_chooseParts_19 : decode cn_X3_chooseParts 19 = .ok (.iload_n 2, 1) := by decide +kernel
theorem dn_X3_chooseParts_20 : decode cn_X3_chooseParts 20 = .ok (.if_icmp .ge 65, 3) := by decide +kernel
theorem dn_X3_chooseParts_23 : decode cn_X3_chooseParts 23 = .ok (.iload 4, 2) := by decide +kernel
theorem dn_X3_chooseParts_25 : decode cn_X3_chooseParts 25 = .ok (.iconst 2, 1) := by decide +kernel
theorem dn_X3_chooseParts_26 : decode cn_X3_chooseParts 26 = .ok (.if_icmp .le 59, 3) := by decide +kernel
theorem dn_X3_chooseParts_29 : decode cn_X3_chooseParts 29 = .ok (.aload_n 0, 1) := by decide +kernel
theorem dn_X3_chooseParts_30 : decode cn_X3_chooseParts 30 = .ok (.getfield 18, 3) := by decide +kernel
theorem dn_X3_chooseParts_33 : decode cn_X3_chooseParts 33 = .ok (.iload_n 1, 1) := by decide +kernel
theorem dn_X3_chooseParts_34 : decode cn_X3_chooseParts 34 = .ok (.iload 5, 2) := by decide +kernel
theorem dn_X3_chooseParts_36 : decode cn_X3_chooseParts 36 = .ok (.invokestatic 51, 3) := by decide +kernel
theorem dn_X3_chooseParts_39 : decode cn_X3_chooseParts 39 = .ok (.iaload, 1) := by decide +kernel
theorem dn_X3_chooseParts_40 : decode cn_X3_chooseParts 40 = .ok (.aload_n 0, 1) := by decide +kernel
theorem dn_X3_chooseParts_41 : decode cn_X3_chooseParts 41 = .ok (.getfield 18, 3) := by decide +kernel
theorem dn_X3_chooseParts_44 : decode cn_X3_chooseParts 44 = .ok (.iload_n 1, 1) := by decide +kernel
theorem dn_X3_chooseParts_45 : decode cn_X3_chooseParts 45 = .ok (.iload 5, 2) := by decide +kernel
theorem dn_X3_chooseParts_47 : decode cn_X3_chooseParts 47 = .ok (.iadd, 1) := by decide +kernel
theorem dn_X3_chooseParts_48 : decode cn_X3_chooseParts 48 = .ok (.iload_n 2, 1) := by decide +kernel
theorem dn_X3_chooseParts_49 : decode cn_X3_chooseParts 49 = .ok (.iload 5, 2) := by decide +kernel
theorem dn_X3_chooseParts_51 : decode cn_X3_chooseParts 51 = .ok (.isub, 1) := by decide +kernel
theorem dn_X3_chooseParts_52 : decode cn_X3_chooseParts 52 = .ok (.invokestatic 51, 3) := by decide +kernel
theorem dn_X3_chooseParts_55 : decode cn_X3_chooseParts 55 = .ok (.iaload, 1) := by decide +kernel
theorem dn_X3_chooseParts_56 : decode cn_X3_chooseParts 56 = .ok (.iadd, 1) := by decide +kernel
theorem dn_X3_chooseParts_57 : decode cn_X3_chooseParts 57 = .ok (.istore 6, 2) := by decide +kernel
theorem dn_X3_chooseParts_59 : decode cn_X3_chooseParts 59 = .ok (.iload 6, 2) := by decide +kernel
theorem dn_X3_chooseParts_61 : decode cn_X3_chooseParts 61 = .ok (.iload 4, 2) := by decide +kernel
theorem dn_X3_chooseParts_63 : decode cn_X3_chooseParts 63 = .ok (.if_icmp .ge 16, 3) := by decide +kernel
theorem dn_X3_chooseParts_66 : decode cn_X3_chooseParts 66 = .ok (.iload 6, 2) := by decide +kernel
theorem dn_X3_chooseParts_68 : decode cn_X3_chooseParts 68 = .ok (.istore 4, 2) := by decide +kernel
theorem dn_X3_chooseParts_70 : decode cn_X3_chooseParts 70 = .ok (.aload_n 0, 1) := by decide +kernel
theorem dn_X3_chooseParts_71 : decode cn_X3_chooseParts 71 = .ok (.getfield 21, 3) := by decide +kernel
theorem dn_X3_chooseParts_74 : decode cn_X3_chooseParts 74 = .ok (.iload_n 3, 1) := by decide +kernel
theorem dn_X3_chooseParts_75 : decode cn_X3_chooseParts 75 = .ok (.iload 5, 2) := by decide +kernel
theorem dn_X3_chooseParts_77 : decode cn_X3_chooseParts 77 = .ok (.ineg, 1) := by decide +kernel
theorem dn_X3_chooseParts_78 : decode cn_X3_chooseParts 78 = .ok (.iastore, 1) := by decide +kernel
theorem dn_X3_chooseParts_79 : decode cn_X3_chooseParts 79 = .ok (.iinc 5 1, 3) := by decide +kernel
theorem dn_X3_chooseParts_82 : decode cn_X3_chooseParts 82 = .ok (.goto (-65), 3) := by decide +kernel
theorem dn_X3_chooseParts_85 : decode cn_X3_chooseParts 85 = .ok (.aload_n 0, 1) := by decide +kernel
theorem dn_X3_chooseParts_86 : decode cn_X3_chooseParts 86 = .ok (.getfield 18, 3) := by decide +kernel
theorem dn_X3_chooseParts_89 : decode cn_X3_chooseParts 89 = .ok (.iload_n 3, 1) := by decide +kernel
theorem dn_X3_chooseParts_90 : decode cn_X3_chooseParts 90 = .ok (.iload 4, 2) := by decide +kernel
theorem dn_X3_chooseParts_92 : decode cn_X3_chooseParts 92 = .ok (.iastore, 1) := by decide +kernel
theorem dn_X3_chooseParts_93 : decode cn_X3_chooseParts 93 = .ok (.return_, 1) := by decide +kernel
theorem dn_X3_writeItems_0 : decode cn_X3_writeItems 0 = .ok (.aload_n 0, 1) := by decide +kernel
theorem dn_X3_writeItems_1 : decode cn_X3_writeItems 1 = .ok (.iconst 0, 1) := by decide +kernel
theorem dn_X3_writeItems_2 : decode cn_X3_writeItems 2 = .ok (.putfield 61, 3) := by decide +kernel
theorem dn_X3_writeItems_5 : decode cn_X3_writeItems 5 = .ok (.aload_n 0, 1) := by decide +kernel
theorem dn_X3_writeItems_6 : decode cn_X3_writeItems 6 = .ok (.iconst 0, 1) := by decide +kernel
theorem dn_X3_writeItems_7 : decode cn_X3_writeItems 7 = .ok (.putfield 47, 3) := by decide +kernel
theorem dn_X3_writeItems_10 : decode cn_X3_writeItems 10 = .ok (.aload_n 0, 1) := by decide +kernel
theorem dn_X3_writeItems_11 : decode cn_X3_writeItems 11 = .ok (.iconst 0, 1) := by decide +kernel
theorem dn_X3_writeItems_12 : decode cn_X3_writeItems 12 = .ok (.putfield 64, 3) := by decide +kernel
theorem dn_X3_writeItems_15 : decode cn_X3_writeItems 15 = .ok (.aload_n 0, 1) := by decide +kernel
theorem dn_X3_writeItems_16 : decode cn_X3_writeItems 16 = .ok (.iconst 0, 1) := by decide +kernel
theorem dn_X3_writeItems_17 : decode cn_X3_writeItems 17 = .ok (.iload_n 1, 1) := by decide +kernel
theorem dn_X3_writeItems_18 : decode cn_X3_writeItems 18 = .ok (.invokevirtual 67, 3) := by decide +kernel
theorem dn_X3_writeItems_21 : decode cn_X3_writeItems 21 = .ok (.iconst 0, 1) := by decide +kernel
theorem dn_X3_writeItems_22 : decode cn_X3_writeItems 22 = .ok (.istore_n 2, 1) := by decide +kernel
theorem dn_X3_writeItems_23 : decode cn_X3_writeItems 23 = .ok (.iload_n 2, 1) := by decide +kernel
theorem dn_X3_writeItems_24 : decode cn_X3_writeItems 24 = .ok (.sipush 160, 3) := by decide +kernel
theorem dn_X3_writeItems_27 : decode cn_X3_writeItems 27 = .ok (.if_icmp .ge 48, 3) := by decide +kernel
theorem dn_X3_writeItems_30 : decode cn_X3_writeItems 30 = .ok (.aload_n 0, 1) := by decide +kernel
theorem dn_X3_writeItems_31 : decode cn_X3_writeItems 31 = .ok (.getfield 64, 3) := by decide +kernel
theorem dn_X3_writeItems_34 : decode cn_X3_writeItems 34 = .ok (.ifCond .le 41, 3) := by decide +kernel
theorem dn_X3_writeItems_37 : decode cn_X3_writeItems 37 = .ok (.aload_n 0, 1) := by decide +kernel
theorem dn_X3_writeItems_38 : decode cn_X3_writeItems 38 = .ok (.dup, 1) := by decide +kernel
theorem dn_X3_writeItems_39 : decode cn_X3_writeItems 39 = .ok (.getfield 64, 3) := by decide +kernel
theorem dn_X3_writeItems_42 : decode cn_X3_writeItems 42 = .ok (.iconst 1, 1) := by decide +kernel
theorem dn_X3_writeItems_43 : decode cn_X3_writeItems 43 = .ok (.isub, 1) := by decide +kernel
theorem dn_X3_writeItems_44 : decode cn_X3_writeItems 44 = .ok (.putfield 64, 3) := by decide +kernel
theorem dn_X3_writeItems_47 : decode cn_X3_writeItems 47 = .ok (.aload_n 0, 1) := by decide +kernel
theorem dn_X3_writeItems_48 : decode cn_X3_writeItems 48 = .ok (.aload_n 0, 1) := by decide +kernel
theorem dn_X3_writeItems_49 : decode cn_X3_writeItems 49 = .ok (.getfield 24, 3) := by decide +kernel
theorem dn_X3_writeItems_52 : decode cn_X3_writeItems 52 = .ok (.aload_n 0, 1) := by decide +kernel
theorem dn_X3_writeItems_53 : decode cn_X3_writeItems 53 = .ok (.getfield 64, 3) := by decide +kernel
theorem dn_X3_writeItems_56 : decode cn_X3_writeItems 56 = .ok (.iaload, 1) := by decide +kernel
theorem dn_X3_writeItems_57 : decode cn_X3_writeItems 57 = .ok (.aload_n 0, 1) := by decide +kernel
theorem dn_X3_writeItems_58 : decode cn_X3_writeItems 58 = .ok (.getfield 27, 3) := by decide +kernel
theorem dn_X3_writeItems_61 : decode cn_X3_writeItems 61 = .ok (.aload_n 0, 1) := by decide +kernel
theorem dn_X3_writeItems_62 : decode cn_X3_writeItems 62 = .ok (.getfield 64, 3) := by decide +kernel
theorem dn_X3_writeItems_65 : decode cn_X3_writeItems 65 = .ok (.iaload, 1) := by decide +kernel
theorem dn_X3_writeItems_66 : decode cn_X3_writeItems 66 = .ok (.invokevirtual 70, 3) := by decide +kernel
theorem dn_X3_writeItems_69 : decode cn_X3_writeItems 69 = .ok (.iinc 2 1, 3) := by decide +kernel
theorem dn_X3_writeItems_72 : decode cn_X3_writeItems 72 = .ok (.goto (-49), 3) := by decide +kernel
theorem dn_X3_writeItems_75 : decode cn_X3_writeItems 75 = .ok (.return_, 1) := by decide +kernel
theorem dn_X3_writePart_0 : decode cn_X3_writePart 0 = .ok (.iload_n 2, 1) := by decide +kernel
theorem dn_X3_writePart_1 : decode cn_X3_writePart 1 = .ok (.ifCond .ne 10, 3) := by decide +kernel
theorem dn_X3_writePart_4 : decode cn_X3_writePart 4 = .ok (.aload_n 0, 1) := by decide +kernel
theorem dn_X3_writePart_5 : decode cn_X3_writePart 5 = .ok (.iconst 2, 1) := by decide +kernel
theorem dn_X3_writePart_6 : decode cn_X3_writePart 6 = .ok (.iconst 0, 1) := by decide +kernel
theorem dn_X3_writePart_7 : decode cn_X3_writePart 7 = .ok (.invokevirtual 73, 3) := by decide +kernel
theorem dn_X3_writePart_10 : decode cn_X3_writePart 10 = .ok (.return_, 1) := by decide +kernel
theorem dn_X3_writePart_11 : decode cn_X3_writePart 11 = .ok (.aload_n 0, 1) := by decide +kernel
theorem dn_X3_writePart_12 : decode cn_X3_writePart 12 = .ok (.getfield 21, 3) := by decide +kernel
theorem dn_X3_writePart_15 : decode cn_X3_writePart 15 = .ok (.iload_n 1, 1) := by decide +kernel
theorem dn_X3_writePart_16 : decode cn_X3_writePart 16 = .ok (.iload_n 2, 1) := by decide +kernel
theorem dn_X3_writePart_17 : decode cn_X3_writePart 17 = .ok (.invokestatic 51, 3) := by decide +kernel
theorem dn_X3_writePart_20 : decode cn_X3_writePart 20 = .ok (.iaload, 1) := by decide +kernel
theorem dn_X3_writePart_21 : decode cn_X3_writePart 21 = .ok (.istore_n 3, 1) := by decide +kernel
theorem dn_X3_writePart_22 : decode cn_X3_writePart 22 = .ok (.iload_n 3, 1) := by decide +kernel
theorem dn_X3_writePart_23 : decode cn_X3_writePart 23 = .ok (.ifCond .le 26, 3) := by decide +kernel
theorem dn_X3_writePart_26 : decode cn_X3_writePart 26 = .ok (.aload_n 0, 1) := by decide +kernel
theorem dn_X3_writePart_27 : decode cn_X3_writePart 27 = .ok (.iconst 1, 1) := by decide +kernel
theorem dn_X3_writePart_28 : decode cn_X3_writePart 28 = .ok (.iload_n 2, 1) := by decide +kernel
theorem dn_X3_writePart_29 : decode cn_X3_writePart 29 = .ok (.iload_n 3, 1) := by decide +kernel
theorem dn_X3_writePart_30 : decode cn_X3_writePart 30 = .ok (.idiv, 1) := by decide +kernel
theorem dn_X3_writePart_31 : decode cn_X3_writePart 31 = .ok (.invokevirtual 73, 3) := by decide +kernel
theorem dn_X3_writePart_34 : decode cn_X3_writePart 34 = .ok (.aload_n 0, 1) := by decide +kernel
theorem dn_X3_writePart_35 : decode cn_X3_writePart 35 = .ok (.iload_n 1, 1) := by decide +kernel
theorem dn_X3_writePart_36 : decode cn_X3_writePart 36 = .ok (.iconst 0, 1) := by decide +kernel
theorem dn_X3_writePart_37 : decode cn_X3_writePart 37 = .ok (.invokevirtual 67, 3) := by decide +kernel
theorem dn_X3_writePart_40 : decode cn_X3_writePart 40 = .ok (.aload_n 0, 1) := by decide +kernel
theorem dn_X3_writePart_41 : decode cn_X3_writePart 41 = .ok (.iload_n 1, 1) := by decide +kernel
theorem dn_X3_writePart_42 : decode cn_X3_writePart 42 = .ok (.iload_n 3, 1) := by decide +kernel
theorem dn_X3_writePart_43 : decode cn_X3_writePart 43 = .ok (.invokevirtual 67, 3) := by decide +kernel
theorem dn_X3_writePart_46 : decode cn_X3_writePart 46 = .ok (.goto 48, 3) := by decide +kernel
theorem dn_X3_writePart_49 : decode cn_X3_writePart 49 = .ok (.iload_n 3, 1) := by decide +kernel
theorem dn_X3_writePart_50 : decode cn_X3_writePart 50 = .ok (.ifCond .ge 23, 3) := by decide +kernel
theorem dn_X3_writePart_53 : decode cn_X3_writePart 53 = .ok (.aload_n 0, 1) := by decide +kernel
theorem dn_X3_writePart_54 : decode cn_X3_writePart 54 = .ok (.iload_n 1, 1) := by decide +kernel
theorem dn_X3_writePart_55 : decode cn_X3_writePart 55 = .ok (.iload_n 3, 1) := by decide +kernel
theorem dn_X3_writePart_56 : decode cn_X3_writePart 56 = .ok (.isub, 1) := by decide +kernel
theorem dn_X3_writePart_57 : decode cn_X3_writePart 57 = .ok (.iload_n 2, 1) := by decide +kernel
theorem dn_X3_writePart_58 : decode cn_X3_writePart 58 = .ok (.iload_n 3, 1) := by decide +kernel
theorem dn_X3_writePart_59 : decode cn_X3_writePart 59 = .ok (.iadd, 1) := by decide +kernel
theorem dn_X3_writePart_60 : decode cn_X3_writePart 60 = .ok (.invokevirtual 67, 3) := by decide +kernel
theorem dn_X3_writePart_63 : decode cn_X3_writePart 63 = .ok (.aload_n 0, 1) := by decide +kernel
theorem dn_X3_writePart_64 : decode cn_X3_writePart 64 = .ok (.iload_n 1, 1) := by decide +kernel
theorem dn_X3_writePart_65 : decode cn_X3_writePart 65 = .ok (.iload_n 3, 1) := by decide +kernel
theorem dn_X3_writePart_66 : decode cn_X3_writePart 66 = .ok (.ineg, 1) := by decide +kernel
theorem dn_X3_writePart_67 : decode cn_X3_writePart 67 = .ok (.invokevirtual 67, 3) := by decide +kernel
theorem dn_X3_writePart_70 : decode cn_X3_writePart 70 = .ok (.goto 24, 3) := by decide +kernel
theorem dn_X3_writePart_73 : decode cn_X3_writePart 73 = .ok (.aload_n 0, 1) := by decide +kernel
theorem dn_X3_writePart_74 : decode cn_X3_writePart 74 = .ok (.iconst 0, 1) := by decide +kernel
theorem dn_X3_writePart_75 : decode cn_X3_writePart 75 = .ok (.aload_n 0, 1) := by decide +kernel
theorem dn_X3_writePart_76 : decode cn_X3_writePart 76 = .ok (.getfield 9, 3) := by decide +kernel
theorem dn_X3_writePart_79 : decode cn_X3_writePart 79 = .ok (.iload_n 1, 1) := by decide +kernel
theorem dn_X3_writePart_80 : decode cn_X3_writePart 80 = .ok (.iaload, 1) := by decide +kernel
theorem dn_X3_writePart_81 : decode cn_X3_writePart 81 = .ok (.invokevirtual 73, 3) := by decide +kernel
theorem dn_X3_writePart_84 : decode cn_X3_writePart 84 = .ok (.aload_n 0, 1) := by decide +kernel
theorem dn_X3_writePart_85 : decode cn_X3_writePart 85 = .ok (.dup, 1) := by decide +kernel
theorem dn_X3_writePart_86 : decode cn_X3_writePart 86 = .ok (.getfield 47, 3) := by decide +kernel
theorem dn_X3_writePart_89 : decode cn_X3_writePart 89 = .ok (.iconst 1, 1) := by decide +kernel
theorem dn_X3_writePart_90 : decode cn_X3_writePart 90 = .ok (.iadd, 1) := by decide +kernel
theorem dn_X3_writePart_91 : decode cn_X3_writePart 91 = .ok (.putfield 47, 3) := by decide +kernel
theorem dn_X3_writePart_94 : decode cn_X3_writePart 94 = .ok (.return_, 1) := by decide +kernel
theorem dn_X3_putAside_0 : decode cn_X3_putAside 0 = .ok (.aload_n 0, 1) := by decide +kernel
theorem dn_X3_putAside_1 : decode cn_X3_putAside 1 = .ok (.getfield 64, 3) := by decide +kernel
theorem dn_X3_putAside_4 : decode cn_X3_putAside 4 = .ok (.sipush 160, 3) := by decide +kernel
theorem dn_X3_putAside_7 : decode cn_X3_putAside 7 = .ok (.if_icmp .ge 33, 3) := by decide +kernel
theorem dn_X3_putAside_10 : decode cn_X3_putAside 10 = .ok (.aload_n 0, 1) := by decide +kernel
theorem dn_X3_putAside_11 : decode cn_X3_putAside 11 = .ok (.getfield 24, 3) := by decide +kernel
theorem dn_X3_putAside_14 : decode cn_X3_putAside 14 = .ok (.aload_n 0, 1) := by decide +kernel
theorem dn_X3_putAside_15 : decode cn_X3_putAside 15 = .ok (.getfield 64, 3) := by decide +kernel
theorem dn_X3_putAside_18 : decode cn_X3_putAside 18 = .ok (.iload_n 1, 1) := by decide +kernel
theorem dn_X3_putAside_19 : decode cn_X3_putAside 19 = .ok (.iastore, 1) := by decide +kernel
theorem dn_X3_putAside_20 : decode cn_X3_putAside 20 = .ok (.aload_n 0, 1) := by decide +kernel
theorem dn_X3_putAside_21 : decode cn_X3_putAside 21 = .ok (.getfield 27, 3) := by decide +kernel
theorem dn_X3_putAside_24 : decode cn_X3_putAside 24 = .ok (.aload_n 0, 1) := by decide +kernel
theorem dn_X3_putAside_25 : decode cn_X3_putAside 25 = .ok (.getfield 64, 3) := by decide +kernel
theorem dn_X3_putAside_28 : decode cn_X3_putAside 28 = .ok (.iload_n 2, 1) := by decide +kernel
theorem dn_X3_putAside_29 : decode cn_X3_putAside 29 = .ok (.iastore, 1) := by decide +kernel
theorem dn_X3_putAside_30 : decode cn_X3_putAside 30 = .ok (.aload_n 0, 1) := by decide +kernel
theorem dn_X3_putAside_31 : decode cn_X3_putAside 31 = .ok (.dup, 1) := by decide +kernel
theorem dn_X3_putAside_32 : decode cn_X3_putAside 32 = .ok (.getfield 64, 3) := by decide +kernel
theorem dn_X3_putAside_35 : decode cn_X3_putAside 35 = .ok (.iconst 1, 1) := by decide +kernel
theorem dn_X3_putAside_36 : decode cn_X3_putAside 36 = .ok (.iadd, 1) := by decide +kernel
theorem dn_X3_putAside_37 : decode cn_X3_putAside 37 = .ok (.putfield 64, 3) := by decide +kernel
theorem dn_X3_putAside_40 : decode cn_X3_putAside 40 = .ok (.return_, 1) := by decide +kernel
theorem dn_X3_addItem_0 : decode cn_X3_addItem 0 = .ok (.aload_n 0, 1) := by decide +kernel
theorem dn_X3_addItem_1 : decode cn_X3_addItem 1 = .ok (.getfield 61, 3) := by decide +kernel
theorem dn_X3_addItem_4 : decode cn_X3_addItem 4 = .ok (.bipush 80, 2) := by decide +kernel
theorem dn_X3_addItem_6 : decode cn_X3_addItem 6 = .ok (.if_icmp .ge 33, 3) := by decide +kernel
theorem dn_X3_addItem_9 : decode cn_X3_addItem 9 = .ok (.aload_n 0, 1) := by decide +kernel
theorem dn_X3_addItem_10 : decode cn_X3_addItem 10 = .ok (.getfield 30, 3) := by decide +kernel
theorem dn_X3_addItem_13 : decode cn_X3_addItem 13 = .ok (.aload_n 0, 1) := by decide +kernel
theorem dn_X3_addItem_14 : decode cn_X3_addItem 14 = .ok (.getfield 61, 3) := by decide +kernel
theorem dn_X3_addItem_17 : decode cn_X3_addItem 17 = .ok (.iload_n 1, 1) := by decide +kernel
theorem dn_X3_addItem_18 : decode cn_X3_addItem 18 = .ok (.iastore, 1) := by decide +kernel
theorem dn_X3_addItem_19 : decode cn_X3_addItem 19 = .ok (.aload_n 0, 1) := by decide +kernel
theorem dn_X3_addItem_20 : decode cn_X3_addItem 20 = .ok (.getfield 33, 3) := by decide +kernel
theorem dn_X3_addItem_23 : decode cn_X3_addItem 23 = .ok (.aload_n 0, 1) := by decide +kernel
theorem dn_X3_addItem_24 : decode cn_X3_addItem 24 = .ok (.getfield 61, 3) := by decide +kernel
theorem dn_X3_addItem_27 : decode cn_X3_addItem 27 = .ok (.iload_n 2, 1) := by decide +kernel
theorem dn_X3_addItem_28 : decode cn_X3_addItem 28 = .ok (.iastore, 1) := by decide +kernel
theorem dn_X3_addItem_29 : decode cn_X3_addItem 29 = .ok (.aload_n 0, 1) := by decide +kernel
theorem dn_X3_addItem_30 : decode cn_X3_addItem 30 = .ok (.dup, 1) := by decide +kernel
theorem dn_X3_addItem_31 : decode cn_X3_addItem 31 = .ok (.getfield 61, 3) := by decide +kernel
theorem dn_X3_addItem_34 : decode cn_X3_addItem 34 = .ok (.iconst 1, 1) := by decide +kernel
theorem dn_X3_addItem_35 : decode cn_X3_addItem 35 = .ok (.iadd, 1) := by decide +kernel
theorem dn_X3_addItem_36 : decode cn_X3_addItem 36 = .ok (.putfield 61, 3) := by decide +kernel
theorem dn_X3_addItem_39 : decode cn_X3_addItem 39 = .ok (.return_, 1) := by decide +kernel
