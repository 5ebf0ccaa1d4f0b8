theorem dn_X1_init_0 : decode cn_X1_init 0 = .ok (.aload_n 0, 1) := by decide +kernel
theorem dn_X1_init_1 : decode cn_X1_init 1 = .ok (.invokespecial 3, 3) := by decide +kernel
theorem dn_X1_init_4 : decode cn_X1_init 4 = .ok (.aload_n 0, 1) := by decide +kernel
theorem dn_X1_init_5 : decode cn_X1_init 5 = .ok (.bipush 60, 2) := by decide +kernel
theorem dn_X1_init_7 : decode cn_X1_init 7 = .ok (.newarray .int, 2) := by decide +kernel
theorem dn_X1_init_9 : decode cn_X1_init 9 = .ok (.putfield 9, 3) := by decide +kernel
theorem dn_X1_init_12 : decode cn_X1_init 12 = .ok (.aload_n 0, 1) := by decide +kernel
theorem dn_X1_init_13 : decode cn_X1_init 13 = .ok (.bipush 20, 2) := by decide +kernel
theorem dn_X1_init_15 : decode cn_X1_init 15 = .ok (.newarray .int, 2) := by decide +kernel
theorem dn_X1_init_17 : decode cn_X1_init 17 = .ok (.putfield 15, 3) := by decide +kernel
theorem dn_X1_init_20 : decode cn_X1_init 20 = .ok (.aload_n 0, 1) := by decide +kernel
theorem dn_X1_init_21 : decode cn_X1_init 21 = .ok (.bipush 20, 2) := by decide +kernel
theorem dn_X1_init_23 : decode cn_X1_init 23 = .ok (.newarray .int, 2) := by decide +kernel
theorem dn_X1_init_25 : decode cn_X1_init 25 = .ok (.putfield 18, 3) := by decide +kernel
theorem dn_X1_init_28 : decode cn_X1_init 28 = .ok (.aload_n 0, 1) := by decide +kernel
theorem dn_X1_init_29 : decode cn_X1_init 29 = .ok (.bipush 20, 2) := by decide +kernel
theorem dn_X1_init_31 : decode cn_X1_init 31 = .ok (.newarray .int, 2) := by decide +kernel
theorem dn_X1_init_33 : decode cn_X1_init 33 = .ok (.putfield 21, 3) := by decide +kernel
theorem dn_X1_init_36 : decode cn_X1_init 36 = .ok (.aload_n 0, 1) := by decide +kernel
theorem dn_X1_init_37 : decode cn_X1_init 37 = .ok (.bipush 20, 2) := by decide +kernel
theorem dn_X1_init_39 : decode cn_X1_init 39 = .ok (.newarray .int, 2) := by decide +kernel
theorem dn_X1_init_41 : decode cn_X1_init 41 = .ok (.putfield 24, 3) := by decide +kernel
theorem dn_X1_init_44 : decode cn_X1_init 44 = .ok (.aload_n 0, 1) := by decide +kernel
theorem dn_X1_init_45 : decode cn_X1_init 45 = .ok (.bipush 20, 2) := by decide +kernel
theorem dn_X1_init_47 : decode cn_X1_init 47 = .ok (.newarray .int, 2) := by decide +kernel
theorem dn_X1_init_49 : decode cn_X1_init 49 = .ok (.putfield 27, 3) := by decide +kernel
theorem dn_X1_init_52 : decode cn_X1_init 52 = .ok (.aload_n 0, 1) := by decide +kernel
theorem dn_X1_init_53 : decode cn_X1_init 53 = .ok (.bipush 20, 2) := by decide +kernel
theorem dn_X1_init_55 : decode cn_X1_init 55 = .ok (.newarray .int, 2) := by decide +kernel
theorem dn_X1_init_57 : decode cn_X1_init 57 = .ok (.putfield 30, 3) := by decide +kernel
theorem dn_X1_init_60 : decode cn_X1_init 60 = .ok (.aload_n 0, 1) := by decide +kernel
theorem dn_X1_init_61 : decode cn_X1_init 61 = .ok (.bipush 20, 2) := by decide +kernel
theorem dn_X1_init_63 : decode cn_X1_init 63 = .ok (.newarray .int, 2) := by decide +kernel
theorem dn_X1_init_65 : decode cn_X1_init 65 = .ok (.putfield 33, 3) := by decide +kernel
theorem dn_X1_init_68 : decode cn_X1_init 68 = .ok (.aload_n 0, 1) := by decide +kernel
theorem dn_X1_init_69 : decode cn_X1_init 69 = .ok (.iconst 4, 1) := by decide +kernel
theorem dn_X1_init_70 : decode cn_X1_init 70 = .ok (.newarray .int, 2) := by decide +kernel
theorem dn_X1_init_72 : decode cn_X1_init 72 = .ok (.putfield 36, 3) := by decide +kernel
theorem dn_X1_init_75 : decode cn_X1_init 75 = .ok (.aload_n 0, 1) := by decide +kernel
theorem dn_X1_init_76 : decode cn_X1_init 76 = .ok (.bipush 60, 2) := by decide +kernel
theorem dn_X1_init_78 : decode cn_X1_init 78 = .ok (.newarray .int, 2) := by decide +kernel
theorem dn_X1_init_80 : decode cn_X1_init 80 = .ok (.putfield 39, 3) := by decide +kernel
theorem dn_X1_init_83 : decode cn_X1_init 83 = .ok (.aload_n 0, 1) := by decide +kernel
theorem dn_X1_init_84 : decode cn_X1_init 84 = .ok (.bipush 60, 2) := by decide +kernel
theorem dn_X1_init_86 : decode cn_X1_init 86 = .ok (.newarray .int, 2) := by decide +kernel
theorem dn_X1_init_88 : decode cn_X1_init 88 = .ok (.putfield 42, 3) := by decide +kernel
theorem dn_X1_init_91 : decode cn_X1_init 91 = .ok (.aload_n 0, 1) := by decide +kernel
theorem dn_X1_init_92 : decode cn_X1_init 92 = .ok (.bipush 60, 2) := by decide +kernel
theorem dn_X1_init_94 : decode cn_X1_init 94 = .ok (.newarray .boolean, 2) := by decide +kernel
theorem dn_X1_init_96 : decode cn_X1_init 96 = .ok (.putfield 45, 3) := by decide +kernel
theorem dn_X1_init_99 : decode cn_X1_init 99 = .ok (.aload_n 0, 1) := by decide +kernel
theorem dn_X1_init_100 : decode cn_X1_init 100 = .ok (.sipush 180, 3) := by decide +kernel
theorem dn_X1_init_103 : decode cn_X1_init 103 = .ok (.newarray .int, 2) := by decide +kernel
theorem dn_X1_init_105 : decode cn_X1_init 105 = .ok (.putfield 49, 3) := by decide +kernel
theorem dn_X1_init_108 : decode cn_X1_init 108 = .ok (.aload_n 0, 1) := by decide +kernel
theorem dn_X1_init_109 : decode cn_X1_init 109 = .ok (.bipush 60, 2) := by decide +kernel
theorem dn_X1_init_111 : decode cn_X1_init 111 = .ok (.newarray .int, 2) := by decide +kernel
theorem dn_X1_init_113 : decode cn_X1_init 113 = .ok (.putfield 52, 3) := by decide +kernel
theorem dn_X1_init_116 : decode cn_X1_init 116 = .ok (.aload_n 0, 1) := by decide +kernel
theorem dn_X1_init_117 : decode cn_X1_init 117 = .ok (.bipush 60, 2) := by decide +kernel
theorem dn_X1_init_119 : decode cn_X1_init 119 = .ok (.newarray .int, 2) := by decide +kernel
theorem dn_X1_init_121 : decode cn_X1_init 121 = .ok (.putfield 55, 3) := by decide +kernel
theorem dn_X1_init_124 : decode cn_X1_init 124 = .ok (.aload_n 0, 1) := by decide +kernel
theorem dn_X1_init_125 : decode cn_X1_init 125 = .ok (.getfield 36, 3) := by decide +kernel
theorem dn_X1_init_128 : decode cn_X1_init 128 = .ok (.iconst (-1), 1) := by decide +kernel
theorem dn_X1_init_129 : decode cn_X1_init 129 = .ok (.invokestatic 58, 3) := by decide +kernel
theorem dn_X1_init_132 : decode cn_X1_init 132 = .ok (.aload_n 0, 1) := by decide +kernel
theorem dn_X1_init_133 : decode cn_X1_init 133 = .ok (.getfield 39, 3) := by decide +kernel
theorem dn_X1_init_136 : decode cn_X1_init 136 = .ok (.iconst (-1), 1) := by decide +kernel
theorem dn_X1_init_137 : decode cn_X1_init 137 = .ok (.invokestatic 58, 3) := by decide +kernel
theorem dn_X1_init_140 : decode cn_X1_init 140 = .ok (.aload_n 0, 1) := by decide +kernel
theorem dn_X1_init_141 : decode cn_X1_init 141 = .ok (.getfield 55, 3) := by decide +kernel
theorem dn_X1_init_144 : decode cn_X1_init 144 = .ok (.iconst (-1), 1) := by decide +kernel
theorem dn_X1_init_145 : decode cn_X1_init 145 = .ok (.invokestatic 58, 3) := by decide +kernel
theorem dn_X1_init_148 : decode cn_X1_init 148 = .ok (.return_, 1) := by decide +kernel
theorem dn_X1_hasBar_0 : decode cn_X1_hasBar 0 = .ok (.iload_n 1, 1) := by decide +kernel
theorem dn_X1_hasBar_1 : decode cn_X1_hasBar 1 = .ok (.ifCond .lt 15, 3) := by decide +kernel
theorem dn_X1_hasBar_4 : decode cn_X1_hasBar 4 = .ok (.iload_n 1, 1) := by decide +kernel
theorem dn_X1_hasBar_5 : decode cn_X1_hasBar 5 = .ok (.aload_n 0, 1) := by decide +kernel
theorem dn_X1_hasBar_6 : decode cn_X1_hasBar 6 = .ok (.getfield 64, 3) := by decide +kernel
theorem dn_X1_hasBar_9 : decode cn_X1_hasBar 9 = .ok (.if_icmp .ge 7, 3) := by decide +kernel
theorem dn_X1_hasBar_12 : decode cn_X1_hasBar 12 = .ok (.iconst 1, 1) := by decide +kernel
theorem dn_X1_hasBar_13 : decode cn_X1_hasBar 13 = .ok (.goto 4, 3) := by decide +kernel
theorem dn_X1_hasBar_16 : decode cn_X1_hasBar 16 = .ok (.iconst 0, 1) := by decide +kernel
theorem dn_X1_hasBar_17 : decode cn_X1_hasBar 17 = .ok (.ireturn, 1) := by decide +kernel
theorem dn_X1_hasRepeat_0 : decode cn_X1_hasRepeat 0 = .ok (.iload_n 1, 1) := by decide +kernel
theorem dn_X1_hasRepeat_1 : decode cn_X1_hasRepeat 1 = .ok (.ifCond .lt 15, 3) := by decide +kernel
theorem dn_X1_hasRepeat_4 : decode cn_X1_hasRepeat 4 = .ok (.iload_n 1, 1) := by decide +kernel
theorem dn_X1_hasRepeat_5 : decode cn_X1_hasRepeat 5 = .ok (.aload_n 0, 1) := by decide +kernel
theorem dn_X1_hasRepeat_6 : decode cn_X1_hasRepeat 6 = .ok (.getfield 68, 3) := by decide +kernel
theorem dn_X1_hasRepeat_9 : decode cn_X1_hasRepeat 9 = .ok (.if_icmp .ge 7, 3) := by decide +kernel
theorem dn_X1_hasRepeat_12 : decode cn_X1_hasRepeat 12 = .ok (.iconst 1, 1) := by decide +kernel
theorem dn_X1_hasRepeat_13 : decode cn_X1_hasRepeat 13 = .ok (.goto 4, 3) := by decide +kernel
theorem dn_X1_hasRepeat_16 : decode cn_X1_hasRepeat 16 = .ok (.iconst 0, 1) := by decide +kernel
theorem dn_X1_hasRepeat_17 : decode cn_X1_hasRepeat 17 = .ok (.ireturn, 1) := by decide +kernel
theorem dn_X1_hasJump_0 : decode cn_X1_hasJump 0 = .ok (.aload_n 0, 1) := by decide +kernel
theorem dn_X1_hasJump_1 : decode cn_X1_hasJump 1 = .ok (.getfield 39, 3) := by decide +kernel
theorem dn_X1_hasJump_4 : decode cn_X1_hasJump 4 = .ok (.iload_n 1, 1) := by decide +kernel
theorem dn_X1_hasJump_5 : decode cn_X1_hasJump 5 = .ok (.iaload, 1) := by decide +kernel
theorem dn_X1_hasJump_6 : decode cn_X1_hasJump 6 = .ok (.iconst (-1), 1) := by decide +kernel
theorem dn_X1_hasJump_7 : decode cn_X1_hasJump 7 = .ok (.if_icmp .eq 7, 3) := by decide +kernel
theorem dn_X1_hasJump_10 : decode cn_X1_hasJump 10 = .ok (.iconst 1, 1) := by decide +kernel
theorem dn_X1_hasJump_11 : decode cn_X1_hasJump 11 = .ok (.goto 4, 3) := by decide +kernel
theorem dn_X1_hasJump_14 : decode cn_X1_hasJump 14 = .ok (.iconst 0, 1) := by decide +kernel
theorem dn_X1_hasJump_15 : decode cn_X1_hasJump 15 = .ok (.ireturn, 1) := by decide +kernel
theorem dn_X1_hasPasses_0 : decode cn_X1_hasPasses 0 = .ok (.iconst 1, 1) := by decide +kernel
theorem dn_X1_hasPasses_1 : decode cn_X1_hasPasses 1 = .ok (.aload_n 0, 1) := by decide +kernel
theorem dn_X1_hasPasses_2 : decode cn_X1_hasPasses 2 = .ok (.getfield 21, 3) := by decide +kernel
theorem dn_X1_hasPasses_5 : decode cn_X1_hasPasses 5 = .ok (.iload_n 1, 1) := by decide +kernel
theorem dn_X1_hasPasses_6 : decode cn_X1_hasPasses 6 = .ok (.iaload, 1) := by decide +kernel
theorem dn_X1_hasPasses_7 : decode cn_X1_hasPasses 7 = .ok (.ishl, 1) := by decide +kernel
theorem dn_X1_hasPasses_8 : decode cn_X1_hasPasses 8 = .ok (.iconst 1, 1) := by decide +kernel
theorem dn_X1_hasPasses_9 : decode cn_X1_hasPasses 9 = .ok (.isub, 1) := by decide +kernel
theorem dn_X1_hasPasses_10 : decode cn_X1_hasPasses 10 = .ok (.istore_n 3, 1) := by decide +kernel
theorem dn_X1_hasPasses_11 : decode cn_X1_hasPasses 11 = .ok (.iload_n 2, 1) := by decide +kernel
theorem dn_X1_hasPasses_12 : decode cn_X1_hasPasses 12 = .ok (.ifCond .eq 15, 3) := by decide +kernel
theorem dn_X1_hasPasses_15 : decode cn_X1_hasPasses 15 = .ok (.iload_n 2, 1) := by decide +kernel
theorem dn_X1_hasPasses_16 : decode cn_X1_hasPasses 16 = .ok (.iload_n 3, 1) := by decide +kernel
theorem dn_X1_hasPasses_17 : decode cn_X1_hasPasses 17 = .ok (.iconst (-1), 1) := by decide +kernel
theorem dn_X1_hasPasses_18 : decode cn_X1_hasPasses 18 = .ok (.ixor, 1) := by decide +kernel
theorem dn_X1_hasPasses_19 : decode cn_X1_hasPasses 19 = .ok (.iand, 1) := by decide +kernel
theorem dn_X1_hasPasses_20 : decode cn_X1_hasPasses 20 = .ok (.ifCond .ne 7, 3) := by decide +kernel
theorem dn_X1_hasPasses_23 : decode cn_X1_hasPasses 23 = .ok (.iconst 1, 1) := by decide +kernel
theorem dn_X1_hasPasses_24 : decode cn_X1_hasPasses 24 = .ok (.goto 4, 3) := by decide +kernel
theorem dn_X1_hasPasses_27 : decode cn_X1_hasPasses 27 = .ok (.iconst 0, 1) := by decide +kernel
theorem dn_X1_hasPasses_28 : decode cn_X1_hasPasses 28 = .ok (.ireturn, 1) := by decide +kernel
theorem dn_X1_addBar_0 : decode cn_X1_addBar 0 = .ok (.aload_n 0, 1) := by decide +kernel
theorem dn_X1_addBar_1 : decode cn_X1_addBar 1 = .ok (.getfield 9, 3) := by decide +kernel
theorem dn_X1_addBar_4 : decode cn_X1_addBar 4 = .ok (.aload_n 0, 1) := by decide +kernel
theorem dn_X1_addBar_5 : decode cn_X1_addBar 5 = .ok (.getfield 64, 3) := by decide +kernel
theorem dn_X1_addBar_8 : decode cn_X1_addBar 8 = .ok (.iload_n 1, 1) := by decide +kernel
theorem dn_X1_addBar_9 : decode cn_X1_addBar 9 = .ok (.iastore, 1) := by decide +kernel
theorem dn_X1_addBar_10 : decode cn_X1_addBar 10 = .ok (.aload_n 0, 1) := by decide +kernel
theorem dn_X1_addBar_11 : decode cn_X1_addBar 11 = .ok (.dup, 1) := by decide +kernel
theorem dn_X1_addBar_12 : decode cn_X1_addBar 12 = .ok (.getfield 64, 3) := by decide +kernel
theorem dn_X1_addBar_15 : decode cn_X1_addBar 15 = .ok (.dup_x1, 1) := by decide +kernel
theorem dn_X1_addBar_16 : decode cn_X1_addBar 16 = .ok (.iconst 1, 1) := by decide +kernel
theorem dn_X1_addBar_17 : decode cn_X1_addBar 17 = .ok (.iadd, 1) := by decide +kernel
theorem dn_X1_addBar_18 : decode cn_X1_addBar 18 = .ok (.putfield 64, 3) := by decide +kernel
theorem dn_X1_addBar_21 : decode cn_X1_addBar 21 = .ok (.ireturn, 1) := by decide +kernel
theorem dn_X1_liesWithin_0 : decode cn_X1_liesWithin 0 = .ok (.iload_n 2, 1) := by decide +kernel
theorem dn_X1_liesWithin_1 : decode cn_X1_liesWithin 1 = .ok (.iload_n 0, 1) := by decide +kernel
theorem dn_X1_liesWithin_2 : decode cn_X1_liesWithin 2 = .ok (.if_icmp .gt 12, 3) := by decide +kernel
theorem dn_X1_liesWithin_5 : decode cn_X1_liesWithin 5 = .ok (.iload_n 1, 1) := by decide +kernel
theorem dn_X1_liesWithin_6 : decode cn_X1_liesWithin 6 = .ok (.iload_n 3, 1) := by decide +kernel
theorem dn_X1_liesWithin_7 : decode cn_X1_liesWithin 7 = .ok (.if_icmp .gt 7, 3) := by decide +kernel
theorem dn_X1_liesWithin_10 : decode cn_X1_liesWithin 10 = .ok (.iconst 1, 1) := by decide +kernel
theorem dn_X1_liesWithin_11 : decode cn_X1_liesWithin 11 = .ok (.goto 4, 3) := by decide +kernel
theorem dn_X1_liesWithin_14 : decode cn_X1_liesWithin 14 = .ok (.iconst 0, 1) := by decide +kernel
theorem dn_X1_liesWithin_15 : decode cn_X1_liesWithin 15 = .ok (.ireturn, 1) := by decide +kernel
theorem dn_X1_liesWell_0 : decode cn_X1_liesWell 0 = .ok (.iload_n 1, 1) := by decide +kernel
theorem dn_X1_liesWell_1 : decode cn_X1_liesWell 1 = .ok (.iload_n 2, 1) := by decide +kernel
theorem dn_X1_liesWell_2 : decode cn_X1_liesWell 2 = .ok (.if_icmp .lt 28, 3) := by decide +kernel
theorem dn_X1_liesWell_5 : decode cn_X1_liesWell 5 = .ok (.iload_n 3, 1) := by decide +kernel
theorem dn_X1_liesWell_6 : decode cn_X1_liesWell 6 = .ok (.iload_n 0, 1) := by decide +kernel
theorem dn_X1_liesWell_7 : decode cn_X1_liesWell 7 = .ok (.if_icmp .lt 23, 3) := by decide +kernel
theorem dn_X1_liesWell_10 : decode cn_X1_liesWell 10 = .ok (.iload_n 0, 1) := by decide +kernel
theorem dn_X1_liesWell_11 : decode cn_X1_liesWell 11 = .ok (.iload_n 1, 1) := by decide +kernel
theorem dn_X1_liesWell_12 : decode cn_X1_liesWell 12 = .ok (.iload_n 2, 1) := by decide +kernel
theorem dn_X1_liesWell_13 : decode cn_X1_liesWell 13 = .ok (.iload_n 3, 1) := by decide +kernel
theorem dn_X1_liesWell_14 : decode cn_X1_liesWell 14 = .ok (.invokestatic 71, 3) := by decide +kernel
theorem dn_X1_liesWell_17 : decode cn_X1_liesWell 17 = .ok (.ifCond .ne 13, 3) := by decide +kernel
theorem dn_X1_liesWell_20 : decode cn_X1_liesWell 20 = .ok (.iload_n 2, 1) := by decide +kernel
theorem dn_X1_liesWell_21 : decode cn_X1_liesWell 21 = .ok (.iload_n 3, 1) := by decide +kernel
theorem dn_X1_liesWell_22 : decode cn_X1_liesWell 22 = .ok (.iload_n 0, 1) := by decide +kernel
theorem dn_X1_liesWell_23 : decode cn_X1_liesWell 23 = .ok (.iload_n 1, 1) := by decide +kernel
theorem dn_X1_liesWell_24 : decode cn_X1_liesWell 24 = .ok (.invokestatic 71, 3) := by decide +kernel
theorem dn_X1_liesWell_27 : decode cn_X1_liesWell 27 = .ok (.ifCond .eq 7, 3) := by decide +kernel
theorem dn_X1_liesWell_30 : decode cn_X1_liesWell 30 = .ok (.iconst 1, 1) := by decide +kernel
theorem dn_X1_liesWell_31 : decode cn_X1_liesWell 31 = .ok (.goto 4, 3) := by decide +kernel
theorem dn_X1_liesWell_34 : decode cn_X1_liesWell 34 = .ok (.iconst 0, 1) := by decide +kernel
theorem dn_X1_liesWell_35 : decode cn_X1_liesWell 35 = .ok (.ireturn, 1) := by decide +kernel
theorem dn_X1_takesRepeat_0 : decode cn_X1_takesRepeat 0 = .ok (.aload_n 0, 1) := by decide +kernel
theorem dn_X1_takesRepeat_1 : decode cn_X1_takesRepeat 1 = .ok (.getfield 68, 3) := by decide +kernel
theorem dn_X1_takesRepeat_4 : decode cn_X1_takesRepeat 4 = .ok (.bipush 20, 2) := by decide +kernel
theorem dn_X1_takesRepeat_6 : decode cn_X1_takesRepeat 6 = .ok (.if_icmp .ge 43, 3) := by decide +kernel
theorem dn_X1_takesRepeat_9 : decode cn_X1_takesRepeat 9 = .ok (.aload_n 0, 1) := by decide +kernel
theorem dn_X1_takesRepeat_10 : decode cn_X1_takesRepeat 10 = .ok (.iload_n 1, 1) := by decide +kernel
theorem dn_X1_takesRepeat_11 : decode cn_X1_takesRepeat 11 = .ok (.iload_n 2, 1) := by decide +kernel
theorem dn_X1_takesRepeat_12 : decode cn_X1_takesRepeat 12 = .ok (.invokevirtual 75, 3) := by decide +kernel
theorem dn_X1_takesRepeat_15 : decode cn_X1_takesRepeat 15 = .ok (.ifCond .eq 34, 3) := by decide +kernel
theorem dn_X1_takesRepeat_18 : decode cn_X1_takesRepeat 18 = .ok (.aload_n 0, 1) := by decide +kernel
theorem dn_X1_takesRepeat_19 : decode cn_X1_takesRepeat 19 = .ok (.iload_n 1, 1) := by decide +kernel
theorem dn_X1_takesRepeat_20 : decode cn_X1_takesRepeat 20 = .ok (.iload_n 2, 1) := by decide +kernel
theorem dn_X1_takesRepeat_21 : decode cn_X1_takesRepeat 21 = .ok (.invokevirtual 79, 3) := by decide +kernel
theorem dn_X1_takesRepeat_24 : decode cn_X1_takesRepeat 24 = .ok (.ifCond .ne 25, 3) := by decide +kernel
theorem dn_X1_takesRepeat_27 : decode cn_X1_takesRepeat 27 = .ok (.aload_n 0, 1) := by decide +kernel
theorem dn_X1_takesRepeat_28 : decode cn_X1_takesRepeat 28 = .ok (.iload_n 1, 1) := by decide +kernel
theorem dn_X1_takesRepeat_29 : decode cn_X1_takesRepeat 29 = .ok (.iload_n 2, 1) := by decide +kernel
theorem dn_X1_takesRepeat_30 : decode cn_X1_takesRepeat 30 = .ok (.invokevirtual 82, 3) := by decide +kernel
theorem dn_X1_takesRepeat_33 : decode cn_X1_takesRepeat 33 = .ok (.ifCond .eq 16, 3) := by decide +kernel
theorem dn_X1_takesRepeat_36 : decode cn_X1_takesRepeat 36 = .ok (.aload_n 0, 1) := by decide +kernel
theorem dn_X1_takesRepeat_37 : decode cn_X1_takesRepeat 37 = .ok (.iload_n 1, 1) := by decide +kernel
theorem dn_X1_takesRepeat_38 : decode cn_X1_takesRepeat 38 = .ok (.iload_n 2, 1) := by decide +kernel
theorem dn_X1_takesRepeat_39 : decode cn_X1_takesRepeat 39 = .ok (.invokevirtual 85, 3) := by decide +kernel
theorem dn_X1_takesRepeat_42 : decode cn_X1_takesRepeat 42 = .ok (.ifCond .eq 7, 3) := by decide +kernel
theorem dn_X1_takesRepeat_45 : decode cn_X1_takesRepeat 45 = .ok (.iconst 1, 1) := by decide +kernel
theorem dn_X1_takesRepeat_46 : decode cn_X1_takesRepeat 46 = .ok (.goto 4, 3) := by decide +kernel
theorem dn_X1_takesRepeat_49 : decode cn_X1_takesRepeat 49 = .ok (.iconst 0, 1) := by decide +kernel
theorem dn_X1_takesRepeat_50 : decode cn_X1_takesRepeat 50 = .ok (.ireturn, 1) := by decide +kernel
theorem dn_X1_takesEnding_0 : decode cn_X1_takesEnding 0 = .ok (.aload_n 0, 1) := by decide +kernel
theorem dn_X1_takesEnding_1 : decode cn_X1_takesEnding 1 = .ok (.getfield 88, 3) := by decide +kernel
theorem dn_X1_takesEnding_4 : decode cn_X1_takesEnding 4 = .ok (.bipush 20, 2) := by decide +kernel
theorem dn_X1_takesEnding_6 : decode cn_X1_takesEnding 6 = .ok (.if_icmp .ge 45, 3) := by decide +kernel
theorem dn_X1_takesEnding_9 : decode cn_X1_takesEnding 9 = .ok (.iload_n 2, 1) := by decide +kernel
theorem dn_X1_takesEnding_10 : decode cn_X1_takesEnding 10 = .ok (.iload_n 3, 1) := by decide +kernel
theorem dn_X1_takesEnding_11 : decode cn_X1_takesEnding 11 = .ok (.aload_n 0, 1) := by decide +kernel
theorem dn_X1_takesEnding_12 : decode cn_X1_takesEnding 12 = .ok (.getfield 15, 3) := by decide +kernel
theorem dn_X1_takesEnding_15 : decode cn_X1_takesEnding 15 = .ok (.iload_n 1, 1) := by decide +kernel
theorem dn_X1_takesEnding_16 : decode cn_X1_takesEnding 16 = .ok (.iaload, 1) := by decide +kernel
theorem dn_X1_takesEnding_17 : decode cn_X1_takesEnding 17 = .ok (.aload_n 0, 1) := by decide +kernel
theorem dn_X1_takesEnding_18 : decode cn_X1_takesEnding 18 = .ok (.getfield 18, 3) := by decide +kernel
theorem dn_X1_takesEnding_21 : decode cn_X1_takesEnding 21 = .ok (.iload_n 1, 1) := by decide +kernel
theorem dn_X1_takesEnding_22 : decode cn_X1_takesEnding 22 = .ok (.iaload, 1) := by decide +kernel
theorem dn_X1_takesEnding_23 : decode cn_X1_takesEnding 23 = .ok (.invokestatic 71, 3) := by decide +kernel
theorem dn_X1_takesEnding_26 : decode cn_X1_takesEnding 26 = .ok (.ifCond .eq 25, 3) := by decide +kernel
theorem dn_X1_takesEnding_29 : decode cn_X1_takesEnding 29 = .ok (.aload_n 0, 1) := by decide +kernel
theorem dn_X1_takesEnding_30 : decode cn_X1_takesEnding 30 = .ok (.iload_n 2, 1) := by decide +kernel
theorem dn_X1_takesEnding_31 : decode cn_X1_takesEnding 31 = .ok (.iload_n 3, 1) := by decide +kernel
theorem dn_X1_takesEnding_32 : decode cn_X1_takesEnding 32 = .ok (.invokevirtual 75, 3) := by decide +kernel
theorem dn_X1_takesEnding_35 : decode cn_X1_takesEnding 35 = .ok (.ifCond .eq 16, 3) := by decide +kernel
theorem dn_X1_takesEnding_38 : decode cn_X1_takesEnding 38 = .ok (.aload_n 0, 1) := by decide +kernel
theorem dn_X1_takesEnding_39 : decode cn_X1_takesEnding 39 = .ok (.iload_n 2, 1) := by decide +kernel
theorem dn_X1_takesEnding_40 : decode cn_X1_takesEnding 40 = .ok (.iload_n 3, 1) := by decide +kernel
theorem dn_X1_takesEnding_41 : decode cn_X1_takesEnding 41 = .ok (.invokevirtual 91, 3) := by decide +kernel
theorem dn_X1_takesEnding_44 : decode cn_X1_takesEnding 44 = .ok (.ifCond .eq 7, 3) := by decide +kernel
theorem dn_X1_takesEnding_47 : decode cn_X1_takesEnding 47 = .ok (.iconst 1, 1) := by decide +kernel
theorem dn_X1_takesEnding_48 : decode cn_X1_takesEnding 48 = .ok (.goto 4, 3) := by decide +kernel
theorem dn_X1_takesEnding_51 : decode cn_X1_takesEnding 51 = .ok (.iconst 0, 1) := by decide +kernel
theorem dn_X1_takesEnding_52 : decode cn_X1_takesEnding 52 = .ok (.ireturn, 1) := by decide +kernel
theorem dn_X1_liesWellByRepeats_0 : decode cn_X1_liesWellByRepeats 0 = .ok (.iconst 0, 1) := by decide +kernel
theorem dn_X1_liesWellByRepeats_1 : decode cn_X1_liesWellByRepeats 1 = .ok (.istore_n 3, 1) := by decide +kernel
theorem dn_X1_liesWellByRepeats_2 : decode cn_X1_liesWellByRepeats 2 = .ok (.iload_n 3, 1) := by decide +kernel
theorem dn_X1_liesWellByRepeats_3 : decode cn_X1_liesWellByRepeats 3 = .ok (.aload_n 0, 1) := by decide +kernel
theorem dn_X1_liesWellByRepeats_4 : decode cn_X1_liesWellByRepeats 4 = .ok (.getfield 68, 3) := by decide +kernel
theorem dn_X1_liesWellByRepeats_7 : decode cn_X1_liesWellByRepeats 7 = .ok (.if_icmp .ge 31, 3) := by decide +kernel
theorem dn_X1_liesWellByRepeats_10 : decode cn_X1_liesWellByRepeats 10 = .ok (.iload_n 1, 1) := by decide +kernel
theorem dn_X1_liesWellByRepeats_11 : decode cn_X1_liesWellByRepeats 11 = .ok (.iload_n 2, 1) := by decide +kernel
theorem dn_X1_liesWellByRepeats_12 : decode cn_X1_liesWellByRepeats 12 = .ok (.aload_n 0, 1) := by decide +kernel
theorem dn_X1_liesWellByRepeats_13 : decode cn_X1_liesWellByRepeats 13 = .ok (.getfield 15, 3) := by decide +kernel
theorem dn_X1_liesWellByRepeats_16 : decode cn_X1_liesWellByRepeats 16 = .ok (.iload_n 3, 1) := by decide +kernel
theorem dn_X1_liesWellByRepeats_17 : decode cn_X1_liesWellByRepeats 17 = .ok (.iaload, 1) := by decide +kernel
theorem dn_X1_liesWellByRepeats_18 : decode cn_X1_liesWellByRepeats 18 = .ok (.aload_n 0, 1) := by decide +kernel
theorem dn_X1_liesWellByRepeats_19 : decode cn_X1_liesWellByRepeats 19 = .ok (.getfield 18, 3) := by decide +kernel
theorem dn_X1_liesWellByRepeats_22 : decode cn_X1_liesWellByRepeats 22 = .ok (.iload_n 3, 1) := by decide +kernel
theorem dn_X1_liesWellByRepeats_23 : decode cn_X1_liesWellByRepeats 23 = .ok (.iaload, 1) := by decide +kernel
theorem dn_X1_liesWellByRepeats_24 : decode cn_X1_liesWellByRepeats 24 = .ok (.invokestatic 94, 3) := by decide +kernel
theorem dn_X1_liesWellByRepeats_27 : decode cn_X1_liesWellByRepeats 27 = .ok (.ifCond .ne 5, 3) := by decide +kernel
theorem dn_X1_liesWellByRepeats_30 : decode cn_X1_liesWellByRepeats 30 = .ok (.iconst 0, 1) := by decide +kernel
theorem dn_X1_liesWellByRepeats_31 : decode cn_X1_liesWellByRepeats 31 = .ok (.ireturn, 1) := by decide +kernel
theorem dn_X1_liesWellByRepeats_32 : decode cn_X1_liesWellByRepeats 32 = .ok (.iinc 3 1, 3) := by decide +kernel
theorem dn_X1_liesWellByRepeats_35 : decode cn_X1_liesWellByRepeats 35 = .ok (.goto (-33), 3) := by decide +kernel
theorem dn_X1_liesWellByRepeats_38 : decode cn_X1_liesWellByRepeats 38 = .ok (.iconst 1, 1) := by decide +kernel
theorem dn_X1_liesWellByRepeats_39 : decode cn_X1_liesWellByRepeats 39 = .ok (.ireturn, 1) := by decide +kernel
theorem dn_X1_hasSameRepeat_0 : decode cn_X1_hasSameRepeat 0 = .ok (.iconst 0, 1) := by decide +kernel
theorem dn_X1_hasSameRepeat_1 : decode cn_X1_hasSameRepeat 1 = .ok (.istore_n 3, 1) := by decide +kernel
theorem dn_X1_hasSameRepeat_2 : decode cn_X1_hasSameRepeat 2 = .ok (.iload_n 3, 1) := by decide +kernel
theorem dn_X1_hasSameRepeat_3 : decode cn_X1_hasSameRepeat 3 = .ok (.aload_n 0, 1) := by decide +kernel
theorem dn_X1_hasSameRepeat_4 : decode cn_X1_hasSameRepeat 4 = .ok (.getfield 68, 3) := by decide +kernel
theorem dn_X1_hasSameRepeat_7 : decode cn_X1_hasSameRepeat 7 = .ok (.if_icmp .ge 31, 3) := by decide +kernel
theorem dn_X1_hasSameRepeat_10 : decode cn_X1_hasSameRepeat 10 = .ok (.aload_n 0, 1) := by decide +kernel
theorem dn_X1_hasSameRepeat_11 : decode cn_X1_hasSameRepeat 11 = .ok (.getfield 15, 3) := by decide +kernel
theorem dn_X1_hasSameRepeat_14 : decode cn_X1_hasSameRepeat 14 = .ok (.iload_n 3, 1) := by decide +kernel
theorem dn_X1_hasSameRepeat_15 : decode cn_X1_hasSameRepeat 15 = .ok (.iaload, 1) := by decide +kernel
theorem dn_X1_hasSameRepeat_16 : decode cn_X1_hasSameRepeat 16 = .ok (.iload_n 1, 1) := by decide +kernel
theorem dn_X1_hasSameRepeat_17 : decode cn_X1_hasSameRepeat 17 = .ok (.if_icmp .ne 15, 3) := by decide +kernel
theorem dn_X1_hasSameRepeat_20 : decode cn_X1_hasSameRepeat 20 = .ok (.aload_n 0, 1) := by decide +kernel
theorem dn_X1_hasSameRepeat_21 : decode cn_X1_hasSameRepeat 21 = .ok (.getfield 18, 3) := by decide +kernel
theorem dn_X1_hasSameRepeat_24 : decode cn_X1_hasSameRepeat 24 = .ok (.iload_n 3, 1) := by decide +kernel
theorem dn_X1_hasSameRepeat_25 : decode cn_X1_hasSameRepeat 25 = .ok (.iaload, 1) := by decide +kernel
theorem dn_X1_hasSameRepeat_26 : decode cn_X1_hasSameRepeat 26 = .ok (.iload_n 2, 1) := by decide +kernel
theorem dn_X1_hasSameRepeat_27 : decode cn_X1_hasSameRepeat 27 = .ok (.if_icmp .ne 5, 3) := by decide +kernel
theorem dn_X1_hasSameRepeat_30 : decode cn_X1_hasSameRepeat 30 = .ok (.iconst 1, 1) := by decide +kernel
theorem dn_X1_hasSameRepeat_31 : decode cn_X1_hasSameRepeat 31 = .ok (.ireturn, 1) := by decide +kernel
theorem dn_X1_hasSameRepeat_32 : decode cn_X1_hasSameRepeat 32 = .ok (.iinc 3 1, 3) := by decide +kernel
theorem dn_X1_hasSameRepeat_35 : decode cn_X1_hasSameRepeat 35 = .ok (.goto (-33), 3) := by decide +kernel
theorem dn_X1_hasSameRepeat_38 : decode cn_X1_hasSameRepeat 38 = .ok (.iconst 0, 1) := by decide +kernel
theorem dn_X1_hasSameRepeat_39 : decode cn_X1_hasSameRepeat 39 = .ok (.ireturn, 1) := by decide +kernel
theorem dn_X1_liesWellByEndings_0 : decode cn_X1_liesWellByEndings 0 = .ok (.iconst 0, 1) := by decide +kernel
theorem dn_X1_liesWellByEndings_1 : decode cn_X1_liesWellByEndings 1 = .ok (.istore_n 3, 1) := by decide +kernel
theorem dn_X1_liesWellByEndings_2 : decode cn_X1_liesWellByEndings 2 = .ok (.iload_n 3, 1) := by decide +kernel
theorem dn_X1_liesWellByEndings_3 : decode cn_X1_liesWellByEndings 3 = .ok (.aload_n 0, 1) := by decide +kernel
theorem dn_X1_liesWellByEndings_4 : decode cn_X1_liesWellByEndings 4 = .ok (.getfield 88, 3) := by decide +kernel
theorem dn_X1_liesWellByEndings_7 : decode cn_X1_liesWellByEndings 7 = .ok (.if_icmp .ge 31, 3) := by decide +kernel
theorem dn_X1_liesWellByEndings_10 : decode cn_X1_liesWellByEndings 10 = .ok (.iload_n 1, 1) := by decide +kernel
theorem dn_X1_liesWellByEndings_11 : decode cn_X1_liesWellByEndings 11 = .ok (.iload_n 2, 1) := by decide +kernel
theorem dn_X1_liesWellByEndings_12 : decode cn_X1_liesWellByEndings 12 = .ok (.aload_n 0, 1) := by decide +kernel
theorem dn_X1_liesWellByEndings_13 : decode cn_X1_liesWellByEndings 13 = .ok (.getfield 27, 3) := by decide +kernel
theorem dn_X1_liesWellByEndings_16 : decode cn_X1_liesWellByEndings 16 = .ok (.iload_n 3, 1) := by decide +kernel
theorem dn_X1_liesWellByEndings_17 : decode cn_X1_liesWellByEndings 17 = .ok (.iaload, 1) := by decide +kernel
theorem dn_X1_liesWellByEndings_18 : decode cn_X1_liesWellByEndings 18 = .ok (.aload_n 0, 1) := by decide +kernel
theorem dn_X1_liesWellByEndings_19 : decode cn_X1_liesWellByEndings 19 = .ok (.getfield 30, 3) := by decide +kernel
theorem dn_X1_liesWellByEndings_22 : decode cn_X1_liesWellByEndings 22 = .ok (.iload_n 3, 1) := by decide +kernel
theorem dn_X1_liesWellByEndings_23 : decode cn_X1_liesWellByEndings 23 = .ok (.iaload, 1) := by decide +kernel
theorem dn_X1_liesWellByEndings_24 : decode cn_X1_liesWellByEndings 24 = .ok (.invokestatic 94, 3) := by decide +kernel
theorem dn_X1_liesWellByEndings_27 : decode cn_X1_liesWellByEndings 27 = .ok (.ifCond .ne 5, 3) := by decide +kernel
theorem dn_X1_liesWellByEndings_30 : decode cn_X1_liesWellByEndings 30 = .ok (.iconst 0, 1) := by decide +kernel
theorem dn_X1_liesWellByEndings_31 : decode cn_X1_liesWellByEndings 31 = .ok (.ireturn, 1) := by decide +kernel
theorem dn_X1_liesWellByEndings_32 : decode cn_X1_liesWellByEndings 32 = .ok (.iinc 3 1, 3) := by decide +kernel
theorem dn_X1_liesWellByEndings_35 : decode cn_X1_liesWellByEndings 35 = .ok (.goto (-33), 3) := by decide +kernel
theorem dn_X1_liesWellByEndings_38 : decode cn_X1_liesWellByEndings 38 = .ok (.iconst 1, 1) := by decide +kernel
theorem dn_X1_liesWellByEndings_39 : decode cn_X1_liesWellByEndings 39 = .ok (.ireturn, 1) := by decide +kernel
theorem dn_X1_isApartFromEndings_0 : decode cn_X1_isApartFromEndings 0 = .ok (.iconst 0, 1) := by decide +kernel
theorem dn_X1_isApartFromEndings_1 : decode cn_X1_isApartFromEndings 1 = .ok (.istore_n 3, 1) := by decide +kernel
theorem dn_X1_isApartFromEndings_2 : decode cn_X1_isApartFromEndings 2 = .ok (.iload_n 3, 1) := by decide +kernel
theorem dn_X1_isApartFromEndings_3 : decode cn_X1_isApartFromEndings 3 = .ok (.aload_n 0, 1) := by decide +kernel
theorem dn_X1_isApartFromEndings_4 : decode cn_X1_isApartFromEndings 4 = .ok (.getfield 88, 3) := by decide +kernel
theorem dn_X1_isApartFromEndings_7 : decode cn_X1_isApartFromEndings 7 = .ok (.if_icmp .ge 31, 3) := by decide +kernel
theorem dn_X1_isApartFromEndings_10 : decode cn_X1_isApartFromEndings 10 = .ok (.iload_n 1, 1) := by decide +kernel
theorem dn_X1_isApartFromEndings_11 : decode cn_X1_isApartFromEndings 11 = .ok (.aload_n 0, 1) := by decide +kernel
theorem dn_X1_isApartFromEndings_12 : decode cn_X1_isApartFromEndings 12 = .ok (.getfield 30, 3) := by decide +kernel
theorem dn_X1_isApartFromEndings_15 : decode cn_X1_isApartFromEndings 15 = .ok (.iload_n 3, 1) := by decide +kernel
theorem dn_X1_isApartFromEndings_16 : decode cn_X1_isApartFromEndings 16 = .ok (.iaload, 1) := by decide +kernel
theorem dn_X1_isApartFromEndings_17 : decode cn_X1_isApartFromEndings 17 = .ok (.if_icmp .gt 15, 3) := by decide +kernel
theorem dn_X1_isApartFromEndings_20 : decode cn_X1_isApartFromEndings 20 = .ok (.aload_n 0, 1) := by decide +kernel
theorem dn_X1_isApartFromEndings_21 : decode cn_X1_isApartFromEndings 21 = .ok (.getfield 27, 3) := by decide +kernel
theorem dn_X1_isApartFromEndings_24 : decode cn_X1_isApartFromEndings 24 = .ok (.iload_n 3, 1) := by decide +kernel
theorem dn_X1_isApartFromEndings_25 : decode cn_X1_isApartFromEndings 25 = .ok (.iaload, 1) := by decide +kernel
theorem dn_X1_isApartFromEndings_26 : decode cn_X1_isApartFromEndings 26 = .ok (.iload_n 2, 1) := by decide +kernel
theorem dn_X1_isApartFromEndings_27 : decode cn_X1_isApartFromEndings 27 = .ok (.if_icmp .gt 5, 3) := by decide +kernel
theorem dn_X1_isApartFromEndings_30 : decode cn_X1_isApartFromEndings 30 = .ok (.iconst 0, 1) := by decide +kernel
theorem dn_X1_isApartFromEndings_31 : decode cn_X1_isApartFromEndings 31 = .ok (.ireturn, 1) := by decide +kernel
theorem dn_X1_isApartFromEndings_32 : decode cn_X1_isApartFromEndings 32 = .ok (.iinc 3 1, 3) := by decide +kernel
theorem dn_X1_isApartFromEndings_35 : decode cn_X1_isApartFromEndings 35 = .ok (.goto (-33), 3) := by decide +kernel
theorem dn_X1_isApartFromEndings_38 : decode cn_X1_isApartFromEndings 38 = .ok (.iconst 1, 1) := by decide +kernel
theorem dn_X1_isApartFromEndings_39 : decode cn_X1_isApartFromEndings 39 = .ok (.ireturn, 1) := by decide +kernel
theorem dn_X1_isDepthLeft_0 : decode cn_X1_isDepthLeft 0 = .ok (.iload_n 1, 1) := by decide +kernel
theorem dn_X1_isDepthLeft_1 : decode cn_X1_isDepthLeft 1 = .ok (.istore_n 3, 1) := by decide +kernel
theorem dn_X1_isDepthLeft_2 : decode cn_X1_isDepthLeft 2 = .ok (.iload_n 3, 1) := by decide +kernel
theorem dn_X1_isDepthLeft_3 : decode cn_X1_isDepthLeft 3 = .ok (.iload_n 2, 1) := by decide +kernel
theorem dn_X1_isDepthLeft_4 : decode cn_X1_isDepthLeft 4 = .ok (.if_icmp .gt 21, 3) := by decide +kernel
theorem dn_X1_isDepthLeft_7 : decode cn_X1_isDepthLeft 7 = .ok (.aload_n 0, 1) := by decide +kernel
theorem dn_X1_isDepthLeft_8 : decode cn_X1_isDepthLeft 8 = .ok (.getfield 52, 3) := by decide +kernel
theorem dn_X1_isDepthLeft_11 : decode cn_X1_isDepthLeft 11 = .ok (.iload_n 3, 1) := by decide +kernel
theorem dn_X1_isDepthLeft_12 : decode cn_X1_isDepthLeft 12 = .ok (.iaload, 1) := by decide +kernel
theorem dn_X1_isDepthLeft_13 : decode cn_X1_isDepthLeft 13 = .ok (.iconst 3, 1) := by decide +kernel
theorem dn_X1_isDepthLeft_14 : decode cn_X1_isDepthLeft 14 = .ok (.if_icmp .lt 5, 3) := by decide +kernel
theorem dn_X1_isDepthLeft_17 : decode cn_X1_isDepthLeft 17 = .ok (.iconst 0, 1) := by decide +kernel
theorem dn_X1_isDepthLeft_18 : decode cn_X1_isDepthLeft 18 = .ok (.ireturn, 1) := by decide +kernel
theorem dn_X1_isDepthLeft_19 : decode cn_X1_isDepthLeft 19 = .ok (.iinc 3 1, 3) := by decide +kernel
theorem dn_X1_isDepthLeft_22 : decode cn_X1_isDepthLeft 22 = .ok (.goto (-20), 3) := by decide +kernel
theorem dn_X1_isDepthLeft_25 : decode cn_X1_isDepthLeft 25 = .ok (.iconst 1, 1) := by decide +kernel
theorem dn_X1_isDepthLeft_26 : decode cn_X1_isDepthLeft 26 = .ok (.ireturn, 1) := by decide +kernel
theorem dn_X1_addRepeat_0 : decode cn_X1_addRepeat 0 = .ok (.aload_n 0, 1) := by decide +kernel
theorem dn_X1_addRepeat_1 : decode cn_X1_addRepeat 1 = .ok (.getfield 15, 3) := by decide +kernel
theorem dn_X1_addRepeat_4 : decode cn_X1_addRepeat 4 = .ok (.aload_n 0, 1) := by decide +kernel
theorem dn_X1_addRepeat_5 : decode cn_X1_addRepeat 5 = .ok (.getfield 68, 3) := by decide +kernel
theorem dn_X1_addRepeat_8 : decode cn_X1_addRepeat 8 = .ok (.iload_n 1, 1) := by decide +kernel
theorem dn_X1_addRepeat_9 : decode cn_X1_addRepeat 9 = .ok (.iastore, 1) := by decide +kernel
theorem dn_X1_addRepeat_10 : decode cn_X1_addRepeat 10 = .ok (.aload_n 0, 1) := by decide +kernel
theorem dn_X1_addRepeat_11 : decode cn_X1_addRepeat 11 = .ok (.getfield 18, 3) := by decide +kernel
theorem dn_X1_addRepeat_14 : decode cn_X1_addRepeat 14 = .ok (.aload_n 0, 1) := by decide +kernel
theorem dn_X1_addRepeat_15 : decode cn_X1_addRepeat 15 = .ok (.getfield 68, 3) := by decide +kernel
theorem dn_X1_addRepeat_18 : decode cn_X1_addRepeat 18 = .ok (.iload_n 2, 1) := by decide +kernel
theorem dn_X1_addRepeat_19 : decode cn_X1_addRepeat 19 = .ok (.iastore, 1) := by decide +kernel
theorem dn_X1_addRepeat_20 : decode cn_X1_addRepeat 20 = .ok (.aload_n 0, 1) := by decide +kernel
theorem dn_X1_addRepeat_21 : decode cn_X1_addRepeat 21 = .ok (.getfield 21, 3) := by decide +kernel
theorem dn_X1_addRepeat_24 : decode cn_X1_addRepeat 24 = .ok (.aload_n 0, 1) := by decide +kernel
theorem dn_X1_addRepeat_25 : decode cn_X1_addRepeat 25 = .ok (.getfield 68, 3) := by decide +kernel
theorem dn_X1_addRepeat_28 : decode cn_X1_addRepeat 28 = .ok (.iload_n 3, 1) := by decide +kernel
theorem dn_X1_addRepeat_29 : decode cn_X1_addRepeat 29 = .ok (.iastore, 1) := by decide +kernel
theorem dn_X1_addRepeat_30 : decode cn_X1_addRepeat 30 = .ok (.iload_n 1, 1) := by decide +kernel
theorem dn_X1_addRepeat_31 : decode cn_X1_addRepeat 31 = .ok (.istore 4, 2) := by decide +kernel
theorem dn_X1_addRepeat_33 : decode cn_X1_addRepeat 33 = .ok (.iload 4, 2) := by decide +kernel
theorem dn_X1_addRepeat_35 : decode cn_X1_addRepeat 35 = .ok (.iload_n 2, 1) := by decide +kernel
theorem dn_X1_addRepeat_36 : decode cn_X1_addRepeat 36 = .ok (.if_icmp .gt 19, 3) := by decide +kernel
theorem dn_X1_addRepeat_39 : decode cn_X1_addRepeat 39 = .ok (.aload_n 0, 1) := by decide +kernel
theorem dn_X1_addRepeat_40 : decode cn_X1_addRepeat 40 = .ok (.iload 4, 2) := by decide +kernel
theorem dn_X1_addRepeat_42 : decode cn_X1_addRepeat 42 = .ok (.aload_n 0, 1) := by decide +kernel
theorem dn_X1_addRepeat_43 : decode cn_X1_addRepeat 43 = .ok (.getfield 68, 3) := by decide +kernel
theorem dn_X1_addRepeat_46 : decode cn_X1_addRepeat 46 = .ok (.invokevirtual 97, 3) := by decide +kernel
theorem dn_X1_addRepeat_49 : decode cn_X1_addRepeat 49 = .ok (.iinc 4 1, 3) := by decide +kernel
theorem dn_X1_addRepeat_52 : decode cn_X1_addRepeat 52 = .ok (.goto (-19), 3) := by decide +kernel
theorem dn_X1_addRepeat_55 : decode cn_X1_addRepeat 55 = .ok (.aload_n 0, 1) := by decide +kernel
theorem dn_X1_addRepeat_56 : decode cn_X1_addRepeat 56 = .ok (.dup, 1) := by decide +kernel
theorem dn_X1_addRepeat_57 : decode cn_X1_addRepeat 57 = .ok (.getfield 68, 3) := by decide +kernel
theorem dn_X1_addRepeat_60 : decode cn_X1_addRepeat 60 = .ok (.dup_x1, 1) := by decide +kernel
theorem dn_X1_addRepeat_61 : decode cn_X1_addRepeat 61 = .ok (.iconst 1, 1) := by decide +kernel
theorem dn_X1_addRepeat_62 : decode cn_X1_addRepeat 62 = .ok (.iadd, 1) := by decide +kernel
theorem dn_X1_addRepeat_63 : decode cn_X1_addRepeat 63 = .ok (.putfield 68, 3) := by decide +kernel
theorem dn_X1_addRepeat_66 : decode cn_X1_addRepeat 66 = .ok (.ireturn, 1) := by decide +kernel
theorem dn_X1_putAround_0 : decode cn_X1_putAround 0 = .ok (.iload_n 1, 1) := by decide +kernel
theorem dn_X1_putAround_1 : decode cn_X1_putAround 1 = .ok (.iconst 3, 1) := by decide +kernel
theorem dn_X1_putAround_2 : decode cn_X1_putAround 2 = .ok (.imul, 1) := by decide +kernel
theorem dn_X1_putAround_3 : decode cn_X1_putAround 3 = .ok (.istore_n 3, 1) := by decide +kernel
theorem dn_X1_putAround_4 : decode cn_X1_putAround 4 = .ok (.iload_n 3, 1) := by decide +kernel
theorem dn_X1_putAround_5 : decode cn_X1_putAround 5 = .ok (.aload_n 0, 1) := by decide +kernel
theorem dn_X1_putAround_6 : decode cn_X1_putAround 6 = .ok (.getfield 52, 3) := by decide +kernel
theorem dn_X1_putAround_9 : decode cn_X1_putAround 9 = .ok (.iload_n 1, 1) := by decide +kernel
theorem dn_X1_putAround_10 : decode cn_X1_putAround 10 = .ok (.iaload, 1) := by decide +kernel
theorem dn_X1_putAround_11 : decode cn_X1_putAround 11 = .ok (.iadd, 1) := by decide +kernel
theorem dn_X1_putAround_12 : decode cn_X1_putAround 12 = .ok (.istore 4, 2) := by decide +kernel
theorem dn_X1_putAround_14 : decode cn_X1_putAround 14 = .ok (.iload 4, 2) := by decide +kernel
theorem dn_X1_putAround_16 : decode cn_X1_putAround 16 = .ok (.iload_n 3, 1) := by decide +kernel
theorem dn_X1_putAround_17 : decode cn_X1_putAround 17 = .ok (.if_icmp .le 42, 3) := by decide +kernel
theorem dn_X1_putAround_20 : decode cn_X1_putAround 20 = .ok (.aload_n 0, 1) := by decide +kernel
theorem dn_X1_putAround_21 : decode cn_X1_putAround 21 = .ok (.aload_n 0, 1) := by decide +kernel
theorem dn_X1_putAround_22 : decode cn_X1_putAround 22 = .ok (.getfield 49, 3) := by decide +kernel
theorem dn_X1_putAround_25 : decode cn_X1_putAround 25 = .ok (.iload 4, 2) := by decide +kernel
theorem dn_X1_putAround_27 : decode cn_X1_putAround 27 = .ok (.iconst 1, 1) := by decide +kernel
theorem dn_X1_putAround_28 : decode cn_X1_putAround 28 = .ok (.isub, 1) := by decide +kernel
theorem dn_X1_putAround_29 : decode cn_X1_putAround 29 = .ok (.iaload, 1) := by decide +kernel
theorem dn_X1_putAround_30 : decode cn_X1_putAround 30 = .ok (.iload_n 2, 1) := by decide +kernel
theorem dn_X1_putAround_31 : decode cn_X1_putAround 31 = .ok (.invokevirtual 101, 3) := by decide +kernel
theorem dn_X1_putAround_34 : decode cn_X1_putAround 34 = .ok (.ifCond .eq 25, 3) := by decide +kernel
theorem dn_X1_putAround_37 : decode cn_X1_putAround 37 = .ok (.aload_n 0, 1) := by decide +kernel
theorem dn_X1_putAround_38 : decode cn_X1_putAround 38 = .ok (.getfield 49, 3) := by decide +kernel
theorem dn_X1_putAround_41 : decode cn_X1_putAround 41 = .ok (.iload 4, 2) := by decide +kernel
theorem dn_X1_putAround_43 : decode cn_X1_putAround 43 = .ok (.aload_n 0, 1) := by decide +kernel
theorem dn_X1_putAround_44 : decode cn_X1_putAround 44 = .ok (.getfield 49, 3) := by decide +kernel
theorem dn_X1_putAround_47 : decode cn_X1_putAround 47 = .ok (.iload 4, 2) := by decide +kernel
theorem dn_X1_putAround_49 : decode cn_X1_putAround 49 = .ok (.iconst 1, 1) := by decide +kernel
theorem dn_X1_putAround_50 : decode cn_X1_putAround 50 = .ok (.isub, 1) := by decide +kernel
theorem dn_X1_putAround_51 : decode cn_X1_putAround 51 = .ok (.iaload, 1) := by decide +kernel
theorem dn_X1_putAround_52 : decode cn_X1_putAround 52 = .ok (.iastore, 1) := by decide +kernel
theorem dn_X1_putAround_53 : decode cn_X1_putAround 53 = .ok (.iinc 4 (-1), 3) := by decide +kernel
theorem dn_X1_putAround_56 : decode cn_X1_putAround 56 = .ok (.goto (-42), 3) := by decide +kernel
theorem dn_X1_putAround_59 : decode cn_X1_putAround 59 = .ok (.aload_n 0, 1) := by decide +kernel
theorem dn_X1_putAround_60 : decode cn_X1_putAround 60 = .ok (.getfield 49, 3) := by decide +kernel
theorem dn_X1_putAround_63 : decode cn_X1_putAround 63 = .ok (.iload 4, 2) := by decide +kernel
theorem dn_X1_putAround_65 : decode cn_X1_putAround 65 = .ok (.iload_n 2, 1) := by decide +kernel
theorem dn_X1_putAround_66 : decode cn_X1_putAround 66 = .ok (.iastore, 1) := by decide +kernel
theorem dn_X1_putAround_67 : decode cn_X1_putAround 67 = .ok (.aload_n 0, 1) := by decide +kernel
theorem dn_X1_putAround_68 : decode cn_X1_putAround 68 = .ok (.getfield 52, 3) := by decide +kernel
theorem dn_X1_putAround_71 : decode cn_X1_putAround 71 = .ok (.iload_n 1, 1) := by decide +kernel
theorem dn_X1_putAround_72 : decode cn_X1_putAround 72 = .ok (.dup2, 1) := by decide +kernel
theorem dn_X1_putAround_73 : decode cn_X1_putAround 73 = .ok (.iaload, 1) := by decide +kernel
theorem dn_X1_putAround_74 : decode cn_X1_putAround 74 = .ok (.iconst 1, 1) := by decide +kernel
theorem dn_X1_putAround_75 : decode cn_X1_putAround 75 = .ok (.iadd, 1) := by decide +kernel
theorem dn_X1_putAround_76 : decode cn_X1_putAround 76 = .ok (.iastore, 1) := by decide +kernel
theorem dn_X1_putAround_77 : decode cn_X1_putAround 77 = .ok (.return_, 1) := by decide +kernel
theorem dn_X1_isRepeatWithin_0 : decode cn_X1_isRepeatWithin 0 = .ok (.aload_n 0, 1) := by decide +kernel
theorem dn_X1_isRepeatWithin_1 : decode cn_X1_isRepeatWithin 1 = .ok (.getfield 15, 3) := by decide +kernel
theorem dn_X1_isRepeatWithin_4 : decode cn_X1_isRepeatWithin 4 = .ok (.iload_n 1, 1) := by decide +kernel
theorem dn_X1_isRepeatWithin_5 : decode cn_X1_isRepeatWithin 5 = .ok (.iaload, 1) := by decide +kernel
theorem dn_X1_isRepeatWithin_6 : decode cn_X1_isRepeatWithin 6 = .ok (.aload_n 0, 1) := by decide +kernel
theorem dn_X1_isRepeatWithin_7 : decode cn_X1_isRepeatWithin 7 = .ok (.getfield 18, 3) := by decide +kernel
theorem dn_X1_isRepeatWithin_10 : decode cn_X1_isRepeatWithin 10 = .ok (.iload_n 1, 1) := by decide +kernel
theorem dn_X1_isRepeatWithin_11 : decode cn_X1_isRepeatWithin 11 = .ok (.iaload, 1) := by decide +kernel
theorem dn_X1_isRepeatWithin_12 : decode cn_X1_isRepeatWithin 12 = .ok (.aload_n 0, 1) := by decide +kernel
theorem dn_X1_isRepeatWithin_13 : decode cn_X1_isRepeatWithin 13 = .ok (.getfield 15, 3) := by decide +kernel
theorem dn_X1_isRepeatWithin_16 : decode cn_X1_isRepeatWithin 16 = .ok (.iload_n 2, 1) := by decide +kernel
theorem dn_X1_isRepeatWithin_17 : decode cn_X1_isRepeatWithin 17 = .ok (.iaload, 1) := by decide +kernel
theorem dn_X1_isRepeatWithin_18 : decode cn_X1_isRepeatWithin 18 = .ok (.aload_n 0, 1) := by decide +kernel
theorem dn_X1_isRepeatWithin_19 : decode cn_X1_isRepeatWithin 19 = .ok (.getfield 18, 3) := by decide +kernel
theorem dn_X1_isRepeatWithin_22 : decode cn_X1_isRepeatWithin 22 = .ok (.iload_n 2, 1) := by decide +kernel
theorem dn_X1_isRepeatWithin_23 : decode cn_X1_isRepeatWithin 23 = .ok (.iaload, 1) := by decide +kernel
theorem dn_X1_isRepeatWithin_24 : decode cn_X1_isRepeatWithin 24 = .ok (.invokestatic 71, 3) := by decide +kernel
theorem dn_X1_isRepeatWithin_27 : decode cn_X1_isRepeatWithin 27 = .ok (.ireturn, 1) := by decide +kernel
theorem dn_X1_isRepeatWithinEnding_0 : decode cn_X1_isRepeatWithinEnding 0 = .ok (.aload_n 0, 1) := by decide +kernel
theorem dn_X1_isRepeatWithinEnding_1 : decode cn_X1_isRepeatWithinEnding 1 = .ok (.getfield 15, 3) := by decide +kernel
theorem dn_X1_isRepeatWithinEnding_4 : decode cn_X1_isRepeatWithinEnding 4 = .ok (.iload_n 1, 1) := by decide +kernel
theorem dn_X1_isRepeatWithinEnding_5 : decode cn_X1_isRepeatWithinEnding 5 = .ok (.iaload, 1) := by decide +kernel
theorem dn_X1_isRepeatWithinEnding_6 : decode cn_X1_isRepeatWithinEnding 6 = .ok (.aload_n 0, 1) := by decide +kernel
theorem dn_X1_isRepeatWithinEnding_7 : decode cn_X1_isRepeatWithinEnding 7 = .ok (.getfield 18, 3) := by decide +kernel
theorem dn_X1_isRepeatWithinEnding_10 : decode cn_X1_isRepeatWithinEnding 10 = .ok (.iload_n 1, 1) := by decide +kernel
theorem dn_X1_isRepeatWithinEnding_11 : decode cn_X1_isRepeatWithinEnding 11 = .ok (.iaload, 1) := by decide +kernel
theorem dn_X1_isRepeatWithinEnding_12 : decode cn_X1_isRepeatWithinEnding 12 = .ok (.aload_n 0, 1) := by decide +kernel
theorem dn_X1_isRepeatWithinEnding_13 : decode cn_X1_isRepeatWithinEnding 13 = .ok (.getfield 27, 3) := by decide +kernel
theorem dn_X1_isRepeatWithinEnding_16 : decode cn_X1_isRepeatWithinEnding 16 = .ok (.iload_n 2, 1) := by decide +kernel
theorem dn_X1_isRepeatWithinEnding_17 : decode cn_X1_isRepeatWithinEnding 17 = .ok (.iaload, 1) := by decide +kernel
theorem dn_X1_isRepeatWithinEnding_18 : decode cn_X1_isRepeatWithinEnding 18 = .ok (.aload_n 0, 1) := by decide +kernel
theorem dn_X1_isRepeatWithinEnding_19 : decode cn_X1_isRepeatWithinEnding 19 = .ok (.getfield 30, 3) := by decide +kernel
theorem dn_X1_isRepeatWithinEnding_22 : decode cn_X1_isRepeatWithinEnding 22 = .ok (.iload_n 2, 1) := by decide +kernel
theorem dn_X1_isRepeatWithinEnding_23 : decode cn_X1_isRepeatWithinEnding 23 = .ok (.iaload, 1) := by decide +kernel
theorem dn_X1_isRepeatWithinEnding_24 : decode cn_X1_isRepeatWithinEnding 24 = .ok (.invokestatic 71, 3) := by decide +kernel
theorem dn_X1_isRepeatWithinEnding_27 : decode cn_X1_isRepeatWithinEnding 27 = .ok (.ireturn, 1) := by decide +kernel
theorem dn_X1_repeatAround_0 : decode cn_X1_repeatAround 0 = .ok (.aload_n 0, 1) := by decide +kernel
theorem dn_X1_repeatAround_1 : decode cn_X1_repeatAround 1 = .ok (.getfield 49, 3) := by decide +kernel
theorem dn_X1_repeatAround_4 : decode cn_X1_repeatAround 4 = .ok (.iload_n 1, 1) := by decide +kernel
theorem dn_X1_repeatAround_5 : decode cn_X1_repeatAround 5 = .ok (.iconst 3, 1) := by decide +kernel
theorem dn_X1_repeatAround_6 : decode cn_X1_repeatAround 6 = .ok (.imul, 1) := by decide +kernel
theorem dn_X1_repeatAround_7 : decode cn_X1_repeatAround 7 = .ok (.iload_n 2, 1) := by decide +kernel
theorem dn_X1_repeatAround_8 : decode cn_X1_repeatAround 8 = .ok (.iadd, 1) := by decide +kernel
theorem dn_X1_repeatAround_9 : decode cn_X1_repeatAround 9 = .ok (.iaload, 1) := by decide +kernel
theorem dn_X1_repeatAround_10 : decode cn_X1_repeatAround 10 = .ok (.ireturn, 1) := by decide +kernel
theorem dn_X1_addEnding_0 : decode cn_X1_addEnding 0 = .ok (.aload_n 0, 1) := by decide +kernel
theorem dn_X1_addEnding_1 : decode cn_X1_addEnding 1 = .ok (.getfield 24, 3) := by decide +kernel
theorem dn_X1_addEnding_4 : decode cn_X1_addEnding 4 = .ok (.aload_n 0, 1) := by decide +kernel
theorem dn_X1_addEnding_5 : decode cn_X1_addEnding 5 = .ok (.getfield 88, 3) := by decide +kernel
theorem dn_X1_addEnding_8 : decode cn_X1_addEnding 8 = .ok (.iload_n 1, 1) := by decide +kernel
theorem dn_X1_addEnding_9 : decode cn_X1_addEnding 9 = .ok (.iastore, 1) := by decide +kernel
theorem dn_X1_addEnding_10 : decode cn_X1_addEnding 10 = .ok (.aload_n 0, 1) := by decide +kernel
theorem dn_X1_addEnding_11 : decode cn_X1_addEnding 11 = .ok (.getfield 27, 3) := by decide +kernel
theorem dn_X1_addEnding_14 : decode cn_X1_addEnding 14 = .ok (.aload_n 0, 1) := by decide +kernel
theorem dn_X1_addEnding_15 : decode cn_X1_addEnding 15 = .ok (.getfield 88, 3) := by decide +kernel
theorem dn_X1_addEnding_18 : decode cn_X1_addEnding 18 = .ok (.iload_n 2, 1) := by decide +kernel
theorem dn_X1_addEnding_19 : decode cn_X1_addEnding 19 = .ok (.iastore, 1) := by decide +kernel
theorem dn_X1_addEnding_20 : decode cn_X1_addEnding 20 = .ok (.aload_n 0, 1) := by decide +kernel
theorem dn_X1_addEnding_21 : decode cn_X1_addEnding 21 = .ok (.getfield 30, 3) := by decide +kernel
theorem dn_X1_addEnding_24 : decode cn_X1_addEnding 24 = .ok (.aload_n 0, 1) := by decide +kernel
theorem dn_X1_addEnding_25 : decode cn_X1_addEnding 25 = .ok (.getfield 88, 3) := by decide +kernel
theorem dn_X1_addEnding_28 : decode cn_X1_addEnding 28 = .ok (.iload_n 3, 1) := by decide +kernel
theorem dn_X1_addEnding_29 : decode cn_X1_addEnding 29 = .ok (.iastore, 1) := by decide +kernel
theorem dn_X1_addEnding_30 : decode cn_X1_addEnding 30 = .ok (.aload_n 0, 1) := by decide +kernel
theorem dn_X1_addEnding_31 : decode cn_X1_addEnding 31 = .ok (.getfield 33, 3) := by decide +kernel
theorem dn_X1_addEnding_34 : decode cn_X1_addEnding 34 = .ok (.aload_n 0, 1) := by decide +kernel
theorem dn_X1_addEnding_35 : decode cn_X1_addEnding 35 = .ok (.getfield 88, 3) := by decide +kernel
theorem dn_X1_addEnding_38 : decode cn_X1_addEnding 38 = .ok (.iload 4, 2) := by decide +kernel
theorem dn_X1_addEnding_40 : decode cn_X1_addEnding 40 = .ok (.iastore, 1) := by decide +kernel
theorem dn_X1_addEnding_41 : decode cn_X1_addEnding 41 = .ok (.aload_n 0, 1) := by decide +kernel
theorem dn_X1_addEnding_42 : decode cn_X1_addEnding 42 = .ok (.getfield 55, 3) := by decide +kernel
theorem dn_X1_addEnding_45 : decode cn_X1_addEnding 45 = .ok (.iload_n 2, 1) := by decide +kernel
theorem dn_X1_addEnding_46 : decode cn_X1_addEnding 46 = .ok (.aload_n 0, 1) := by decide +kernel
theorem dn_X1_addEnding_47 : decode cn_X1_addEnding 47 = .ok (.getfield 88, 3) := by decide +kernel
theorem dn_X1_addEnding_50 : decode cn_X1_addEnding 50 = .ok (.iastore, 1) := by decide +kernel
theorem dn_X1_addEnding_51 : decode cn_X1_addEnding 51 = .ok (.aload_n 0, 1) := by decide +kernel
theorem dn_X1_addEnding_52 : decode cn_X1_addEnding 52 = .ok (.dup, 1) := by decide +kernel
theorem dn_X1_addEnding_53 : decode cn_X1_addEnding 53 = .ok (.getfield 88, 3) := by decide +kernel
theorem dn_X1_addEnding_56 : decode cn_X1_addEnding 56 = .ok (.dup_x1, 1) := by decide +kernel
theorem dn_X1_addEnding_57 : decode cn_X1_addEnding 57 = .ok (.iconst 1, 1) := by decide +kernel
theorem dn_X1_addEnding_58 : decode cn_X1_addEnding 58 = .ok (.iadd, 1) := by decide +kernel
theorem dn_X1_addEnding_59 : decode cn_X1_addEnding 59 = .ok (.putfield 88, 3) := by decide +kernel
theorem dn_X1_addEnding_62 : decode cn_X1_addEnding 62 = .ok (.ireturn, 1) := by decide +kernel
theorem dn_X1_moveSign_0 : decode cn_X1_moveSign 0 = .ok (.aload_n 0, 1) := by decide +kernel
theorem dn_X1_moveSign_1 : decode cn_X1_moveSign 1 = .ok (.getfield 36, 3) := by decide +kernel
theorem dn_X1_moveSign_4 : decode cn_X1_moveSign 4 = .ok (.iload_n 1, 1) := by decide +kernel
theorem dn_X1_moveSign_5 : decode cn_X1_moveSign 5 = .ok (.iaload, 1) := by decide +kernel
theorem dn_X1_moveSign_6 : decode cn_X1_moveSign 6 = .ok (.istore_n 3, 1) := by decide +kernel
theorem dn_X1_moveSign_7 : decode cn_X1_moveSign 7 = .ok (.aload_n 0, 1) := by decide +kernel
theorem dn_X1_moveSign_8 : decode cn_X1_moveSign 8 = .ok (.getfield 36, 3) := by decide +kernel
theorem dn_X1_moveSign_11 : decode cn_X1_moveSign 11 = .ok (.iload_n 1, 1) := by decide +kernel
theorem dn_X1_moveSign_12 : decode cn_X1_moveSign 12 = .ok (.iload_n 2, 1) := by decide +kernel
theorem dn_X1_moveSign_13 : decode cn_X1_moveSign 13 = .ok (.iastore, 1) := by decide +kernel
theorem dn_X1_moveSign_14 : decode cn_X1_moveSign 14 = .ok (.iload_n 3, 1) := by decide +kernel
theorem dn_X1_moveSign_15 : decode cn_X1_moveSign 15 = .ok (.ireturn, 1) := by decide +kernel
theorem dn_X1_putJump_0 : decode cn_X1_putJump 0 = .ok (.aload_n 0, 1) := by decide +kernel
theorem dn_X1_putJump_1 : decode cn_X1_putJump 1 = .ok (.iload_n 1, 1) := by decide +kernel
theorem dn_X1_putJump_2 : decode cn_X1_putJump 2 = .ok (.invokevirtual 104, 3) := by decide +kernel
theorem dn_X1_putJump_5 : decode cn_X1_putJump 5 = .ok (.ifCond .ne 13, 3) := by decide +kernel
theorem dn_X1_putJump_8 : decode cn_X1_putJump 8 = .ok (.aload_n 0, 1) := by decide +kernel
theorem dn_X1_putJump_9 : decode cn_X1_putJump 9 = .ok (.dup, 1) := by decide +kernel
theorem dn_X1_putJump_10 : decode cn_X1_putJump 10 = .ok (.getfield 108, 3) := by decide +kernel
theorem dn_X1_putJump_13 : decode cn_X1_putJump 13 = .ok (.iconst 1, 1) := by decide +kernel
theorem dn_X1_putJump_14 : decode cn_X1_putJump 14 = .ok (.iadd, 1) := by decide +kernel
theorem dn_X1_putJump_15 : decode cn_X1_putJump 15 = .ok (.putfield 108, 3) := by decide +kernel
theorem dn_X1_putJump_18 : decode cn_X1_putJump 18 = .ok (.aload_n 0, 1) := by decide +kernel
theorem dn_X1_putJump_19 : decode cn_X1_putJump 19 = .ok (.getfield 39, 3) := by decide +kernel
theorem dn_X1_putJump_22 : decode cn_X1_putJump 22 = .ok (.iload_n 1, 1) := by decide +kernel
theorem dn_X1_putJump_23 : decode cn_X1_putJump 23 = .ok (.iload_n 2, 1) := by decide +kernel
theorem dn_X1_putJump_24 : decode cn_X1_putJump 24 = .ok (.iastore, 1) := by decide +kernel
theorem dn_X1_putJump_25 : decode cn_X1_putJump 25 = .ok (.aload_n 0, 1) := by decide +kernel
theorem dn_X1_putJump_26 : decode cn_X1_putJump 26 = .ok (.getfield 42, 3) := by decide +kernel
theorem dn_X1_putJump_29 : decode cn_X1_putJump 29 = .ok (.iload_n 1, 1) := by decide +kernel
theorem dn_X1_putJump_30 : decode cn_X1_putJump 30 = .ok (.iload_n 3, 1) := by decide +kernel
theorem dn_X1_putJump_31 : decode cn_X1_putJump 31 = .ok (.iastore, 1) := by decide +kernel
theorem dn_X1_putJump_32 : decode cn_X1_putJump 32 = .ok (.aload_n 0, 1) := by decide +kernel
theorem dn_X1_putJump_33 : decode cn_X1_putJump 33 = .ok (.getfield 45, 3) := by decide +kernel
theorem dn_X1_putJump_36 : decode cn_X1_putJump 36 = .ok (.iload_n 1, 1) := by decide +kernel
theorem dn_X1_putJump_37 : decode cn_X1_putJump 37 = .ok (.iload 4, 2) := by decide +kernel
theorem dn_X1_putJump_39 : decode cn_X1_putJump 39 = .ok (.bastore, 1) := by decide +kernel
theorem dn_X1_putJump_40 : decode cn_X1_putJump 40 = .ok (.return_, 1) := by decide +kernel
theorem dn_X1_takeJump_0 : decode cn_X1_takeJump 0 = .ok (.aload_n 0, 1) := by decide +kernel
theorem dn_X1_takeJump_1 : decode cn_X1_takeJump 1 = .ok (.getfield 39, 3) := by decide +kernel
theorem dn_X1_takeJump_4 : decode cn_X1_takeJump 4 = .ok (.iload_n 1, 1) := by decide +kernel
theorem dn_X1_takeJump_5 : decode cn_X1_takeJump 5 = .ok (.iconst (-1), 1) := by decide +kernel
theorem dn_X1_takeJump_6 : decode cn_X1_takeJump 6 = .ok (.iastore, 1) := by decide +kernel
theorem dn_X1_takeJump_7 : decode cn_X1_takeJump 7 = .ok (.aload_n 0, 1) := by decide +kernel
theorem dn_X1_takeJump_8 : decode cn_X1_takeJump 8 = .ok (.dup, 1) := by decide +kernel
theorem dn_X1_takeJump_9 : decode cn_X1_takeJump 9 = .ok (.getfield 108, 3) := by decide +kernel
theorem dn_X1_takeJump_12 : decode cn_X1_takeJump 12 = .ok (.iconst 1, 1) := by decide +kernel
theorem dn_X1_takeJump_13 : decode cn_X1_takeJump 13 = .ok (.isub, 1) := by decide +kernel
theorem dn_X1_takeJump_14 : decode cn_X1_takeJump 14 = .ok (.putfield 108, 3) := by decide +kernel
theorem dn_X1_takeJump_17 : decode cn_X1_takeJump 17 = .ok (.return_, 1) := by decide +kernel
theorem dn_X1_lacksSign_0 : decode cn_X1_lacksSign 0 = .ok (.aload_n 0, 1) := by decide +kernel
theorem dn_X1_lacksSign_1 : decode cn_X1_lacksSign 1 = .ok (.getfield 36, 3) := by decide +kernel
theorem dn_X1_lacksSign_4 : decode cn_X1_lacksSign 4 = .ok (.iload_n 1, 1) := by decide +kernel
theorem dn_X1_lacksSign_5 : decode cn_X1_lacksSign 5 = .ok (.iaload, 1) := by decide +kernel
theorem dn_X1_lacksSign_6 : decode cn_X1_lacksSign 6 = .ok (.iconst (-1), 1) := by decide +kernel
theorem dn_X1_lacksSign_7 : decode cn_X1_lacksSign 7 = .ok (.if_icmp .ne 7, 3) := by decide +kernel
theorem dn_X1_lacksSign_10 : decode cn_X1_lacksSign 10 = .ok (.iconst 1, 1) := by decide +kernel
theorem dn_X1_lacksSign_11 : decode cn_X1_lacksSign 11 = .ok (.goto 4, 3) := by decide +kernel
theorem dn_X1_lacksSign_14 : decode cn_X1_lacksSign 14 = .ok (.iconst 0, 1) := by decide +kernel
theorem dn_X1_lacksSign_15 : decode cn_X1_lacksSign 15 = .ok (.ireturn, 1) := by decide +kernel
theorem dn_X1_faultOfJump_0 : decode cn_X1_faultOfJump 0 = .ok (.aload_n 0, 1) := by decide +kernel
theorem dn_X1_faultOfJump_1 : decode cn_X1_faultOfJump 1 = .ok (.getfield 39, 3) := by decide +kernel
theorem dn_X1_faultOfJump_4 : decode cn_X1_faultOfJump 4 = .ok (.iload_n 1, 1) := by decide +kernel
theorem dn_X1_faultOfJump_5 : decode cn_X1_faultOfJump 5 = .ok (.iaload, 1) := by decide +kernel
theorem dn_X1_faultOfJump_6 : decode cn_X1_faultOfJump 6 = .ok (.iconst 1, 1) := by decide +kernel
theorem dn_X1_faultOfJump_7 : decode cn_X1_faultOfJump 7 = .ok (.if_icmp .ne 13, 3) := by decide +kernel
theorem dn_X1_faultOfJump_10 : decode cn_X1_faultOfJump 10 = .ok (.aload_n 0, 1) := by decide +kernel
theorem dn_X1_faultOfJump_11 : decode cn_X1_faultOfJump 11 = .ok (.iconst 0, 1) := by decide +kernel
theorem dn_X1_faultOfJump_12 : decode cn_X1_faultOfJump 12 = .ok (.invokevirtual 111, 3) := by decide +kernel
theorem dn_X1_faultOfJump_15 : decode cn_X1_faultOfJump 15 = .ok (.ifCond .eq 5, 3) := by decide +kernel
theorem dn_X1_faultOfJump_18 : decode cn_X1_faultOfJump 18 = .ok (.iconst 1, 1) := by decide +kernel
theorem dn_X1_faultOfJump_19 : decode cn_X1_faultOfJump 19 = .ok (.ireturn, 1) := by decide +kernel
theorem dn_X1_faultOfJump_20 : decode cn_X1_faultOfJump 20 = .ok (.aload_n 0, 1) := by decide +kernel
theorem dn_X1_faultOfJump_21 : decode cn_X1_faultOfJump 21 = .ok (.getfield 42, 3) := by decide +kernel
theorem dn_X1_faultOfJump_24 : decode cn_X1_faultOfJump 24 = .ok (.iload_n 1, 1) := by decide +kernel
theorem dn_X1_faultOfJump_25 : decode cn_X1_faultOfJump 25 = .ok (.iaload, 1) := by decide +kernel
theorem dn_X1_faultOfJump_26 : decode cn_X1_faultOfJump 26 = .ok (.iconst 1, 1) := by decide +kernel
theorem dn_X1_faultOfJump_27 : decode cn_X1_faultOfJump 27 = .ok (.if_icmp .ne 13, 3) := by decide +kernel
theorem dn_X1_faultOfJump_30 : decode cn_X1_faultOfJump 30 = .ok (.aload_n 0, 1) := by decide +kernel
theorem dn_X1_faultOfJump_31 : decode cn_X1_faultOfJump 31 = .ok (.iconst 3, 1) := by decide +kernel
theorem dn_X1_faultOfJump_32 : decode cn_X1_faultOfJump 32 = .ok (.invokevirtual 111, 3) := by decide +kernel
theorem dn_X1_faultOfJump_35 : decode cn_X1_faultOfJump 35 = .ok (.ifCond .eq 5, 3) := by decide +kernel
theorem dn_X1_faultOfJump_38 : decode cn_X1_faultOfJump 38 = .ok (.iconst 2, 1) := by decide +kernel
theorem dn_X1_faultOfJump_39 : decode cn_X1_faultOfJump 39 = .ok (.ireturn, 1) := by decide +kernel
theorem dn_X1_faultOfJump_40 : decode cn_X1_faultOfJump 40 = .ok (.aload_n 0, 1) := by decide +kernel
theorem dn_X1_faultOfJump_41 : decode cn_X1_faultOfJump 41 = .ok (.getfield 42, 3) := by decide +kernel
theorem dn_X1_faultOfJump_44 : decode cn_X1_faultOfJump 44 = .ok (.iload_n 1, 1) := by decide +kernel
theorem dn_X1_faultOfJump_45 : decode cn_X1_faultOfJump 45 = .ok (.iaload, 1) := by decide +kernel
theorem dn_X1_faultOfJump_46 : decode cn_X1_faultOfJump 46 = .ok (.iconst 2, 1) := by decide +kernel
theorem dn_X1_faultOfJump_47 : decode cn_X1_faultOfJump 47 = .ok (.if_icmp .ne 21, 3) := by decide +kernel
theorem dn_X1_faultOfJump_50 : decode cn_X1_faultOfJump 50 = .ok (.aload_n 0, 1) := by decide +kernel
theorem dn_X1_faultOfJump_51 : decode cn_X1_faultOfJump 51 = .ok (.iconst 2, 1) := by decide +kernel
theorem dn_X1_faultOfJump_52 : decode cn_X1_faultOfJump 52 = .ok (.invokevirtual 111, 3) := by decide +kernel
theorem dn_X1_faultOfJump_55 : decode cn_X1_faultOfJump 55 = .ok (.ifCond .ne 11, 3) := by decide +kernel
theorem dn_X1_faultOfJump_58 : decode cn_X1_faultOfJump 58 = .ok (.aload_n 0, 1) := by decide +kernel
theorem dn_X1_faultOfJump_59 : decode cn_X1_faultOfJump 59 = .ok (.iconst 1, 1) := by decide +kernel
theorem dn_X1_faultOfJump_60 : decode cn_X1_faultOfJump 60 = .ok (.invokevirtual 111, 3) := by decide +kernel
theorem dn_X1_faultOfJump_63 : decode cn_X1_faultOfJump 63 = .ok (.ifCond .eq 5, 3) := by decide +kernel
theorem dn_X1_faultOfJump_66 : decode cn_X1_faultOfJump 66 = .ok (.iconst 3, 1) := by decide +kernel
theorem dn_X1_faultOfJump_67 : decode cn_X1_faultOfJump 67 = .ok (.ireturn, 1) := by decide +kernel
theorem dn_X1_faultOfJump_68 : decode cn_X1_faultOfJump 68 = .ok (.iconst 0, 1) := by decide +kernel
theorem dn_X1_faultOfJump_69 : decode cn_X1_faultOfJump 69 = .ok (.ireturn, 1) := by decide +kernel
