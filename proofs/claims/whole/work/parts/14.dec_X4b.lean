theorem dn_X4_comeTo_212 : decode cn_X4_comeTo 212 = .ok (.aload_n 0, 1) := by decide +kernel
theorem dn_X4_comeTo_213 : decode cn_X4_comeTo 213 = .ok (.iload_n 1, 1) := by decide +kernel
theorem dn_X4_comeTo_214 : decode cn_X4_comeTo 214 = .ok (.invokevirtual 180, 3) := by decide +kernel
theorem dn_X4_comeTo_217 : decode cn_X4_comeTo 217 = .ok (.return_, 1) := by decide +kernel
theorem dn_X4_leaveWithin_0 : decode cn_X4_leaveWithin 0 = .ok (.iconst 0, 1) := by decide +kernel
theorem dn_X4_leaveWithin_1 : decode cn_X4_leaveWithin 1 = .ok (.istore 4, 2) := by decide +kernel
theorem dn_X4_leaveWithin_3 : decode cn_X4_leaveWithin 3 = .ok (.iload 4, 2) := by decide +kernel
theorem dn_X4_leaveWithin_5 : decode cn_X4_leaveWithin 5 = .ok (.aload_n 0, 1) := by decide +kernel
theorem dn_X4_leaveWithin_6 : decode cn_X4_leaveWithin 6 = .ok (.getfield 116, 3) := by decide +kernel
theorem dn_X4_leaveWithin_9 : decode cn_X4_leaveWithin 9 = .ok (.if_icmp .ge 45, 3) := by decide +kernel
theorem dn_X4_leaveWithin_12 : decode cn_X4_leaveWithin 12 = .ok (.iload 4, 2) := by decide +kernel
theorem dn_X4_leaveWithin_14 : decode cn_X4_leaveWithin 14 = .ok (.iload_n 3, 1) := by decide +kernel
theorem dn_X4_leaveWithin_15 : decode cn_X4_leaveWithin 15 = .ok (.if_icmp .eq 33, 3) := by decide +kernel
theorem dn_X4_leaveWithin_18 : decode cn_X4_leaveWithin 18 = .ok (.aload_n 0, 1) := by decide +kernel
theorem dn_X4_leaveWithin_19 : decode cn_X4_leaveWithin 19 = .ok (.getfield 13, 3) := by decide +kernel
theorem dn_X4_leaveWithin_22 : decode cn_X4_leaveWithin 22 = .ok (.iload 4, 2) := by decide +kernel
theorem dn_X4_leaveWithin_24 : decode cn_X4_leaveWithin 24 = .ok (.iaload, 1) := by decide +kernel
theorem dn_X4_leaveWithin_25 : decode cn_X4_leaveWithin 25 = .ok (.aload_n 0, 1) := by decide +kernel
theorem dn_X4_leaveWithin_26 : decode cn_X4_leaveWithin 26 = .ok (.getfield 16, 3) := by decide +kernel
theorem dn_X4_leaveWithin_29 : decode cn_X4_leaveWithin 29 = .ok (.iload 4, 2) := by decide +kernel
theorem dn_X4_leaveWithin_31 : decode cn_X4_leaveWithin 31 = .ok (.iaload, 1) := by decide +kernel
theorem dn_X4_leaveWithin_32 : decode cn_X4_leaveWithin 32 = .ok (.iload_n 1, 1) := by decide +kernel
theorem dn_X4_leaveWithin_33 : decode cn_X4_leaveWithin 33 = .ok (.iload_n 2, 1) := by decide +kernel
theorem dn_X4_leaveWithin_34 : decode cn_X4_leaveWithin 34 = .ok (.invokestatic 113, 3) := by decide +kernel
theorem dn_X4_leaveWithin_37 : decode cn_X4_leaveWithin 37 = .ok (.ifCond .eq 11, 3) := by decide +kernel
theorem dn_X4_leaveWithin_40 : decode cn_X4_leaveWithin 40 = .ok (.aload_n 0, 1) := by decide +kernel
theorem dn_X4_leaveWithin_41 : decode cn_X4_leaveWithin 41 = .ok (.getfield 69, 3) := by decide +kernel
theorem dn_X4_leaveWithin_44 : decode cn_X4_leaveWithin 44 = .ok (.iload 4, 2) := by decide +kernel
theorem dn_X4_leaveWithin_46 : decode cn_X4_leaveWithin 46 = .ok (.iconst 0, 1) := by decide +kernel
theorem dn_X4_leaveWithin_47 : decode cn_X4_leaveWithin 47 = .ok (.iastore, 1) := by decide +kernel
theorem dn_X4_leaveWithin_48 : decode cn_X4_leaveWithin 48 = .ok (.iinc 4 1, 3) := by decide +kernel
theorem dn_X4_leaveWithin_51 : decode cn_X4_leaveWithin 51 = .ok (.goto (-48), 3) := by decide +kernel
theorem dn_X4_leaveWithin_54 : decode cn_X4_leaveWithin 54 = .ok (.return_, 1) := by decide +kernel
theorem dn_X4_aroundIt_0 : decode cn_X4_aroundIt 0 = .ok (.iconst (-1), 1) := by decide +kernel
theorem dn_X4_aroundIt_1 : decode cn_X4_aroundIt 1 = .ok (.istore_n 3, 1) := by decide +kernel
theorem dn_X4_aroundIt_2 : decode cn_X4_aroundIt 2 = .ok (.iconst 0, 1) := by decide +kernel
theorem dn_X4_aroundIt_3 : decode cn_X4_aroundIt 3 = .ok (.istore 4, 2) := by decide +kernel
theorem dn_X4_aroundIt_5 : decode cn_X4_aroundIt 5 = .ok (.iload 4, 2) := by decide +kernel
theorem dn_X4_aroundIt_7 : decode cn_X4_aroundIt 7 = .ok (.aload_n 0, 1) := by decide +kernel
theorem dn_X4_aroundIt_8 : decode cn_X4_aroundIt 8 = .ok (.getfield 116, 3) := by decide +kernel
theorem dn_X4_aroundIt_11 : decode cn_X4_aroundIt 11 = .ok (.if_icmp .ge 83, 3) := by decide +kernel
theorem dn_X4_aroundIt_14 : decode cn_X4_aroundIt 14 = .ok (.aload_n 0, 1) := by decide +kernel
theorem dn_X4_aroundIt_15 : decode cn_X4_aroundIt 15 = .ok (.iload 4, 2) := by decide +kernel
theorem dn_X4_aroundIt_17 : decode cn_X4_aroundIt 17 = .ok (.iload_n 1, 1) := by decide +kernel
theorem dn_X4_aroundIt_18 : decode cn_X4_aroundIt 18 = .ok (.invokevirtual 125, 3) := by decide +kernel
theorem dn_X4_aroundIt_21 : decode cn_X4_aroundIt 21 = .ok (.ifCond .eq 67, 3) := by decide +kernel
theorem dn_X4_aroundIt_24 : decode cn_X4_aroundIt 24 = .ok (.iload_n 3, 1) := by decide +kernel
theorem dn_X4_aroundIt_25 : decode cn_X4_aroundIt 25 = .ok (.iconst (-1), 1) := by decide +kernel
theorem dn_X4_aroundIt_26 : decode cn_X4_aroundIt 26 = .ok (.if_icmp .eq 43, 3) := by decide +kernel
theorem dn_X4_aroundIt_29 : decode cn_X4_aroundIt 29 = .ok (.iload_n 2, 1) := by decide +kernel
theorem dn_X4_aroundIt_30 : decode cn_X4_aroundIt 30 = .ok (.aload_n 0, 1) := by decide +kernel
theorem dn_X4_aroundIt_31 : decode cn_X4_aroundIt 31 = .ok (.getfield 16, 3) := by decide +kernel
theorem dn_X4_aroundIt_34 : decode cn_X4_aroundIt 34 = .ok (.iload 4, 2) := by decide +kernel
theorem dn_X4_aroundIt_36 : decode cn_X4_aroundIt 36 = .ok (.iaload, 1) := by decide +kernel
theorem dn_X4_aroundIt_37 : decode cn_X4_aroundIt 37 = .ok (.aload_n 0, 1) := by decide +kernel
theorem dn_X4_aroundIt_38 : decode cn_X4_aroundIt 38 = .ok (.getfield 13, 3) := by decide +kernel
theorem dn_X4_aroundIt_41 : decode cn_X4_aroundIt 41 = .ok (.iload 4, 2) := by decide +kernel
theorem dn_X4_aroundIt_43 : decode cn_X4_aroundIt 43 = .ok (.iaload, 1) := by decide +kernel
theorem dn_X4_aroundIt_44 : decode cn_X4_aroundIt 44 = .ok (.isub, 1) := by decide +kernel
theorem dn_X4_aroundIt_45 : decode cn_X4_aroundIt 45 = .ok (.aload_n 0, 1) := by decide +kernel
theorem dn_X4_aroundIt_46 : decode cn_X4_aroundIt 46 = .ok (.getfield 16, 3) := by decide +kernel
theorem dn_X4_aroundIt_49 : decode cn_X4_aroundIt 49 = .ok (.iload_n 3, 1) := by decide +kernel
theorem dn_X4_aroundIt_50 : decode cn_X4_aroundIt 50 = .ok (.iaload, 1) := by decide +kernel
theorem dn_X4_aroundIt_51 : decode cn_X4_aroundIt 51 = .ok (.aload_n 0, 1) := by decide +kernel
theorem dn_X4_aroundIt_52 : decode cn_X4_aroundIt 52 = .ok (.getfield 13, 3) := by decide +kernel
theorem dn_X4_aroundIt_55 : decode cn_X4_aroundIt 55 = .ok (.iload_n 3, 1) := by decide +kernel
theorem dn_X4_aroundIt_56 : decode cn_X4_aroundIt 56 = .ok (.iaload, 1) := by decide +kernel
theorem dn_X4_aroundIt_57 : decode cn_X4_aroundIt 57 = .ok (.isub, 1) := by decide +kernel
theorem dn_X4_aroundIt_58 : decode cn_X4_aroundIt 58 = .ok (.if_icmp .ge 7, 3) := by decide +kernel
theorem dn_X4_aroundIt_61 : decode cn_X4_aroundIt 61 = .ok (.iconst 1, 1) := by decide +kernel
theorem dn_X4_aroundIt_62 : decode cn_X4_aroundIt 62 = .ok (.goto 4, 3) := by decide +kernel
theorem dn_X4_aroundIt_65 : decode cn_X4_aroundIt 65 = .ok (.iconst 0, 1) := by decide +kernel
theorem dn_X4_aroundIt_66 : decode cn_X4_aroundIt 66 = .ok (.if_icmp .ne 7, 3) := by decide +kernel
theorem dn_X4_aroundIt_69 : decode cn_X4_aroundIt 69 = .ok (.iconst 1, 1) := by decide +kernel
theorem dn_X4_aroundIt_70 : decode cn_X4_aroundIt 70 = .ok (.goto 4, 3) := by decide +kernel
theorem dn_X4_aroundIt_73 : decode cn_X4_aroundIt 73 = .ok (.iconst 0, 1) := by decide +kernel
theorem dn_X4_aroundIt_74 : decode cn_X4_aroundIt 74 = .ok (.istore 5, 2) := by decide +kernel
theorem dn_X4_aroundIt_76 : decode cn_X4_aroundIt 76 = .ok (.iload 5, 2) := by decide +kernel
theorem dn_X4_aroundIt_78 : decode cn_X4_aroundIt 78 = .ok (.ifCond .eq 8, 3) := by decide +kernel
theorem dn_X4_aroundIt_81 : decode cn_X4_aroundIt 81 = .ok (.iload 4, 2) := by decide +kernel
theorem dn_X4_aroundIt_83 : decode cn_X4_aroundIt 83 = .ok (.goto 4, 3) := by decide +kernel
theorem dn_X4_aroundIt_86 : decode cn_X4_aroundIt 86 = .ok (.iload_n 3, 1) := by decide +kernel
theorem dn_X4_aroundIt_87 : decode cn_X4_aroundIt 87 = .ok (.istore_n 3, 1) := by decide +kernel
theorem dn_X4_aroundIt_88 : decode cn_X4_aroundIt 88 = .ok (.iinc 4 1, 3) := by decide +kernel
theorem dn_X4_aroundIt_91 : decode cn_X4_aroundIt 91 = .ok (.goto (-86), 3) := by decide +kernel
theorem dn_X4_aroundIt_94 : decode cn_X4_aroundIt 94 = .ok (.iload_n 3, 1) := by decide +kernel
theorem dn_X4_aroundIt_95 : decode cn_X4_aroundIt 95 = .ok (.ireturn, 1) := by decide +kernel
theorem dn_X4_play_0 : decode cn_X4_play 0 = .ok (.aload_n 0, 1) := by decide +kernel
theorem dn_X4_play_1 : decode cn_X4_play 1 = .ok (.iload_n 1, 1) := by decide +kernel
theorem dn_X4_play_2 : decode cn_X4_play 2 = .ok (.iconst 1, 1) := by decide +kernel
theorem dn_X4_play_3 : decode cn_X4_play 3 = .ok (.invokevirtual 183, 3) := by decide +kernel
theorem dn_X4_play_6 : decode cn_X4_play 6 = .ok (.istore_n 2, 1) := by decide +kernel
theorem dn_X4_play_7 : decode cn_X4_play 7 = .ok (.aload_n 0, 1) := by decide +kernel
theorem dn_X4_play_8 : decode cn_X4_play 8 = .ok (.iload_n 1, 1) := by decide +kernel
theorem dn_X4_play_9 : decode cn_X4_play 9 = .ok (.iconst 0, 1) := by decide +kernel
theorem dn_X4_play_10 : decode cn_X4_play 10 = .ok (.invokevirtual 183, 3) := by decide +kernel
theorem dn_X4_play_13 : decode cn_X4_play 13 = .ok (.istore_n 3, 1) := by decide +kernel
theorem dn_X4_play_14 : decode cn_X4_play 14 = .ok (.aload_n 0, 1) := by decide +kernel
theorem dn_X4_play_15 : decode cn_X4_play 15 = .ok (.getfield 54, 3) := by decide +kernel
theorem dn_X4_play_18 : decode cn_X4_play 18 = .ok (.aload_n 0, 1) := by decide +kernel
theorem dn_X4_play_19 : decode cn_X4_play 19 = .ok (.getfield 140, 3) := by decide +kernel
theorem dn_X4_play_22 : decode cn_X4_play 22 = .ok (.iload_n 1, 1) := by decide +kernel
theorem dn_X4_play_23 : decode cn_X4_play 23 = .ok (.iastore, 1) := by decide +kernel
theorem dn_X4_play_24 : decode cn_X4_play 24 = .ok (.aload_n 0, 1) := by decide +kernel
theorem dn_X4_play_25 : decode cn_X4_play 25 = .ok (.getfield 57, 3) := by decide +kernel
theorem dn_X4_play_28 : decode cn_X4_play 28 = .ok (.aload_n 0, 1) := by decide +kernel
theorem dn_X4_play_29 : decode cn_X4_play 29 = .ok (.getfield 140, 3) := by decide +kernel
theorem dn_X4_play_32 : decode cn_X4_play 32 = .ok (.aload_n 0, 1) := by decide +kernel
theorem dn_X4_play_33 : decode cn_X4_play 33 = .ok (.getfield 143, 3) := by decide +kernel
theorem dn_X4_play_36 : decode cn_X4_play 36 = .ok (.iastore, 1) := by decide +kernel
theorem dn_X4_play_37 : decode cn_X4_play 37 = .ok (.aload_n 0, 1) := by decide +kernel
theorem dn_X4_play_38 : decode cn_X4_play 38 = .ok (.getfield 60, 3) := by decide +kernel
theorem dn_X4_play_41 : decode cn_X4_play 41 = .ok (.aload_n 0, 1) := by decide +kernel
theorem dn_X4_play_42 : decode cn_X4_play 42 = .ok (.getfield 140, 3) := by decide +kernel
theorem dn_X4_play_45 : decode cn_X4_play 45 = .ok (.iload_n 2, 1) := by decide +kernel
theorem dn_X4_play_46 : decode cn_X4_play 46 = .ok (.iconst (-1), 1) := by decide +kernel
theorem dn_X4_play_47 : decode cn_X4_play 47 = .ok (.if_icmp .ne 7, 3) := by decide +kernel
theorem dn_X4_play_50 : decode cn_X4_play 50 = .ok (.iconst 0, 1) := by decide +kernel
theorem dn_X4_play_51 : decode cn_X4_play 51 = .ok (.goto 9, 3) := by decide +kernel
theorem dn_X4_play_54 : decode cn_X4_play 54 = .ok (.aload_n 0, 1) := by decide +kernel
theorem dn_X4_play_55 : decode cn_X4_play 55 = .ok (.getfield 69, 3) := by decide +kernel
theorem dn_X4_play_58 : decode cn_X4_play 58 = .ok (.iload_n 2, 1) := by decide +kernel
theorem dn_X4_play_59 : decode cn_X4_play 59 = .ok (.iaload, 1) := by decide +kernel
theorem dn_X4_play_60 : decode cn_X4_play 60 = .ok (.iastore, 1) := by decide +kernel
theorem dn_X4_play_61 : decode cn_X4_play 61 = .ok (.aload_n 0, 1) := by decide +kernel
theorem dn_X4_play_62 : decode cn_X4_play 62 = .ok (.getfield 63, 3) := by decide +kernel
theorem dn_X4_play_65 : decode cn_X4_play 65 = .ok (.aload_n 0, 1) := by decide +kernel
theorem dn_X4_play_66 : decode cn_X4_play 66 = .ok (.getfield 140, 3) := by decide +kernel
theorem dn_X4_play_69 : decode cn_X4_play 69 = .ok (.iload_n 3, 1) := by decide +kernel
theorem dn_X4_play_70 : decode cn_X4_play 70 = .ok (.iconst (-1), 1) := by decide +kernel
theorem dn_X4_play_71 : decode cn_X4_play 71 = .ok (.if_icmp .ne 7, 3) := by decide +kernel
theorem dn_X4_play_74 : decode cn_X4_play 74 = .ok (.iconst 0, 1) := by decide +kernel
theorem dn_X4_play_75 : decode cn_X4_play 75 = .ok (.goto 9, 3) := by decide +kernel
theorem dn_X4_play_78 : decode cn_X4_play 78 = .ok (.aload_n 0, 1) := by decide +kernel
theorem dn_X4_play_79 : decode cn_X4_play 79 = .ok (.getfield 69, 3) := by decide +kernel
theorem dn_X4_play_82 : decode cn_X4_play 82 = .ok (.iload_n 3, 1) := by decide +kernel
theorem dn_X4_play_83 : decode cn_X4_play 83 = .ok (.iaload, 1) := by decide +kernel
theorem dn_X4_play_84 : decode cn_X4_play 84 = .ok (.iastore, 1) := by decide +kernel
theorem dn_X4_play_85 : decode cn_X4_play 85 = .ok (.aload_n 0, 1) := by decide +kernel
theorem dn_X4_play_86 : decode cn_X4_play 86 = .ok (.dup, 1) := by decide +kernel
theorem dn_X4_play_87 : decode cn_X4_play 87 = .ok (.getfield 140, 3) := by decide +kernel
theorem dn_X4_play_90 : decode cn_X4_play 90 = .ok (.iconst 1, 1) := by decide +kernel
theorem dn_X4_play_91 : decode cn_X4_play 91 = .ok (.iadd, 1) := by decide +kernel
theorem dn_X4_play_92 : decode cn_X4_play 92 = .ok (.putfield 140, 3) := by decide +kernel
theorem dn_X4_play_95 : decode cn_X4_play 95 = .ok (.iconst 1, 1) := by decide +kernel
theorem dn_X4_play_96 : decode cn_X4_play 96 = .ok (.istore 4, 2) := by decide +kernel
theorem dn_X4_play_98 : decode cn_X4_play 98 = .ok (.iconst 0, 1) := by decide +kernel
theorem dn_X4_play_99 : decode cn_X4_play 99 = .ok (.istore 5, 2) := by decide +kernel
theorem dn_X4_play_101 : decode cn_X4_play 101 = .ok (.iload 5, 2) := by decide +kernel
theorem dn_X4_play_103 : decode cn_X4_play 103 = .ok (.aload_n 0, 1) := by decide +kernel
theorem dn_X4_play_104 : decode cn_X4_play 104 = .ok (.getfield 116, 3) := by decide +kernel
theorem dn_X4_play_107 : decode cn_X4_play 107 = .ok (.if_icmp .ge 48, 3) := by decide +kernel
theorem dn_X4_play_110 : decode cn_X4_play 110 = .ok (.iload 4, 2) := by decide +kernel
theorem dn_X4_play_112 : decode cn_X4_play 112 = .ok (.ifCond .eq 34, 3) := by decide +kernel
theorem dn_X4_play_115 : decode cn_X4_play 115 = .ok (.aload_n 0, 1) := by decide +kernel
theorem dn_X4_play_116 : decode cn_X4_play 116 = .ok (.iload 5, 2) := by decide +kernel
theorem dn_X4_play_118 : decode cn_X4_play 118 = .ok (.iload_n 1, 1) := by decide +kernel
theorem dn_X4_play_119 : decode cn_X4_play 119 = .ok (.invokevirtual 125, 3) := by decide +kernel
theorem dn_X4_play_122 : decode cn_X4_play 122 = .ok (.ifCond .eq 20, 3) := by decide +kernel
theorem dn_X4_play_125 : decode cn_X4_play 125 = .ok (.aload_n 0, 1) := by decide +kernel
theorem dn_X4_play_126 : decode cn_X4_play 126 = .ok (.getfield 69, 3) := by decide +kernel
theorem dn_X4_play_129 : decode cn_X4_play 129 = .ok (.iload 5, 2) := by decide +kernel
theorem dn_X4_play_131 : decode cn_X4_play 131 = .ok (.iaload, 1) := by decide +kernel
theorem dn_X4_play_132 : decode cn_X4_play 132 = .ok (.aload_n 0, 1) := by decide +kernel
theorem dn_X4_play_133 : decode cn_X4_play 133 = .ok (.getfield 19, 3) := by decide +kernel
theorem dn_X4_play_136 : decode cn_X4_play 136 = .ok (.iload 5, 2) := by decide +kernel
theorem dn_X4_play_138 : decode cn_X4_play 138 = .ok (.iaload, 1) := by decide +kernel
theorem dn_X4_play_139 : decode cn_X4_play 139 = .ok (.if_icmp .ne 7, 3) := by decide +kernel
theorem dn_X4_play_142 : decode cn_X4_play 142 = .ok (.iconst 1, 1) := by decide +kernel
theorem dn_X4_play_143 : decode cn_X4_play 143 = .ok (.goto 4, 3) := by decide +kernel
theorem dn_X4_play_146 : decode cn_X4_play 146 = .ok (.iconst 0, 1) := by decide +kernel
theorem dn_X4_play_147 : decode cn_X4_play 147 = .ok (.istore 4, 2) := by decide +kernel
theorem dn_X4_play_149 : decode cn_X4_play 149 = .ok (.iinc 5 1, 3) := by decide +kernel
theorem dn_X4_play_152 : decode cn_X4_play 152 = .ok (.goto (-51), 3) := by decide +kernel
theorem dn_X4_play_155 : decode cn_X4_play 155 = .ok (.aload_n 0, 1) := by decide +kernel
theorem dn_X4_play_156 : decode cn_X4_play 156 = .ok (.getfield 146, 3) := by decide +kernel
theorem dn_X4_play_159 : decode cn_X4_play 159 = .ok (.iconst (-1), 1) := by decide +kernel
theorem dn_X4_play_160 : decode cn_X4_play 160 = .ok (.if_icmp .ne 7, 3) := by decide +kernel
theorem dn_X4_play_163 : decode cn_X4_play 163 = .ok (.iconst 0, 1) := by decide +kernel
theorem dn_X4_play_164 : decode cn_X4_play 164 = .ok (.goto 12, 3) := by decide +kernel
theorem dn_X4_play_167 : decode cn_X4_play 167 = .ok (.aload_n 0, 1) := by decide +kernel
theorem dn_X4_play_168 : decode cn_X4_play 168 = .ok (.getfield 44, 3) := by decide +kernel
theorem dn_X4_play_171 : decode cn_X4_play 171 = .ok (.aload_n 0, 1) := by decide +kernel
theorem dn_X4_play_172 : decode cn_X4_play 172 = .ok (.getfield 146, 3) := by decide +kernel
theorem dn_X4_play_175 : decode cn_X4_play 175 = .ok (.iaload, 1) := by decide +kernel
theorem dn_X4_play_176 : decode cn_X4_play 176 = .ok (.istore 5, 2) := by decide +kernel
theorem dn_X4_play_178 : decode cn_X4_play 178 = .ok (.iload 4, 2) := by decide +kernel
theorem dn_X4_play_180 : decode cn_X4_play 180 = .ok (.ifCond .eq 27, 3) := by decide +kernel
theorem dn_X4_play_183 : decode cn_X4_play 183 = .ok (.aload_n 0, 1) := by decide +kernel
theorem dn_X4_play_184 : decode cn_X4_play 184 = .ok (.getfield 34, 3) := by decide +kernel
theorem dn_X4_play_187 : decode cn_X4_play 187 = .ok (.iconst 3, 1) := by decide +kernel
theorem dn_X4_play_188 : decode cn_X4_play 188 = .ok (.iaload, 1) := by decide +kernel
theorem dn_X4_play_189 : decode cn_X4_play 189 = .ok (.iload_n 1, 1) := by decide +kernel
theorem dn_X4_play_190 : decode cn_X4_play 190 = .ok (.if_icmp .ne 17, 3) := by decide +kernel
theorem dn_X4_play_193 : decode cn_X4_play 193 = .ok (.iload 5, 2) := by decide +kernel
theorem dn_X4_play_195 : decode cn_X4_play 195 = .ok (.iconst 1, 1) := by decide +kernel
theorem dn_X4_play_196 : decode cn_X4_play 196 = .ok (.if_icmp .ne 11, 3) := by decide +kernel
theorem dn_X4_play_199 : decode cn_X4_play 199 = .ok (.aload_n 0, 1) := by decide +kernel
theorem dn_X4_play_200 : decode cn_X4_play 200 = .ok (.iconst (-1), 1) := by decide +kernel
theorem dn_X4_play_201 : decode cn_X4_play 201 = .ok (.putfield 166, 3) := by decide +kernel
theorem dn_X4_play_204 : decode cn_X4_play 204 = .ok (.goto 139, 3) := by decide +kernel
theorem dn_X4_play_207 : decode cn_X4_play 207 = .ok (.iload 4, 2) := by decide +kernel
theorem dn_X4_play_209 : decode cn_X4_play 209 = .ok (.ifCond .eq 48, 3) := by decide +kernel
theorem dn_X4_play_212 : decode cn_X4_play 212 = .ok (.aload_n 0, 1) := by decide +kernel
theorem dn_X4_play_213 : decode cn_X4_play 213 = .ok (.getfield 34, 3) := by decide +kernel
theorem dn_X4_play_216 : decode cn_X4_play 216 = .ok (.iconst 2, 1) := by decide +kernel
theorem dn_X4_play_217 : decode cn_X4_play 217 = .ok (.iaload, 1) := by decide +kernel
theorem dn_X4_play_218 : decode cn_X4_play 218 = .ok (.iload_n 1, 1) := by decide +kernel
theorem dn_X4_play_219 : decode cn_X4_play 219 = .ok (.if_icmp .ne 38, 3) := by decide +kernel
theorem dn_X4_play_222 : decode cn_X4_play 222 = .ok (.iload 5, 2) := by decide +kernel
theorem dn_X4_play_224 : decode cn_X4_play 224 = .ok (.iconst 2, 1) := by decide +kernel
theorem dn_X4_play_225 : decode cn_X4_play 225 = .ok (.if_icmp .ne 32, 3) := by decide +kernel
theorem dn_X4_play_228 : decode cn_X4_play 228 = .ok (.aload_n 0, 1) := by decide +kernel
theorem dn_X4_play_229 : decode cn_X4_play 229 = .ok (.getfield 149, 3) := by decide +kernel
theorem dn_X4_play_232 : decode cn_X4_play 232 = .ok (.ifCond .ne 25, 3) := by decide +kernel
theorem dn_X4_play_235 : decode cn_X4_play 235 = .ok (.aload_n 0, 1) := by decide +kernel
theorem dn_X4_play_236 : decode cn_X4_play 236 = .ok (.iconst 1, 1) := by decide +kernel
theorem dn_X4_play_237 : decode cn_X4_play 237 = .ok (.putfield 149, 3) := by decide +kernel
theorem dn_X4_play_240 : decode cn_X4_play 240 = .ok (.aload_n 0, 1) := by decide +kernel
theorem dn_X4_play_241 : decode cn_X4_play 241 = .ok (.invokevirtual 156, 3) := by decide +kernel
theorem dn_X4_play_244 : decode cn_X4_play 244 = .ok (.aload_n 0, 1) := by decide +kernel
theorem dn_X4_play_245 : decode cn_X4_play 245 = .ok (.aload_n 0, 1) := by decide +kernel
theorem dn_X4_play_246 : decode cn_X4_play 246 = .ok (.getfield 34, 3) := by decide +kernel
theorem dn_X4_play_249 : decode cn_X4_play 249 = .ok (.iconst 1, 1) := by decide +kernel
theorem dn_X4_play_250 : decode cn_X4_play 250 = .ok (.iaload, 1) := by decide +kernel
theorem dn_X4_play_251 : decode cn_X4_play 251 = .ok (.putfield 166, 3) := by decide +kernel
theorem dn_X4_play_254 : decode cn_X4_play 254 = .ok (.goto 89, 3) := by decide +kernel
theorem dn_X4_play_257 : decode cn_X4_play 257 = .ok (.iload 4, 2) := by decide +kernel
theorem dn_X4_play_259 : decode cn_X4_play 259 = .ok (.ifCond .eq 79, 3) := by decide +kernel
theorem dn_X4_play_262 : decode cn_X4_play 262 = .ok (.aload_n 0, 1) := by decide +kernel
theorem dn_X4_play_263 : decode cn_X4_play 263 = .ok (.getfield 37, 3) := by decide +kernel
theorem dn_X4_play_266 : decode cn_X4_play 266 = .ok (.iload_n 1, 1) := by decide +kernel
theorem dn_X4_play_267 : decode cn_X4_play 267 = .ok (.baload, 1) := by decide +kernel
theorem dn_X4_play_268 : decode cn_X4_play 268 = .ok (.ifCond .eq 70, 3) := by decide +kernel
theorem dn_X4_play_271 : decode cn_X4_play 271 = .ok (.aload_n 0, 1) := by decide +kernel
theorem dn_X4_play_272 : decode cn_X4_play 272 = .ok (.getfield 72, 3) := by decide +kernel
theorem dn_X4_play_275 : decode cn_X4_play 275 = .ok (.iload_n 1, 1) := by decide +kernel
theorem dn_X4_play_276 : decode cn_X4_play 276 = .ok (.baload, 1) := by decide +kernel
theorem dn_X4_play_277 : decode cn_X4_play 277 = .ok (.ifCond .ne 61, 3) := by decide +kernel
theorem dn_X4_play_280 : decode cn_X4_play 280 = .ok (.aload_n 0, 1) := by decide +kernel
theorem dn_X4_play_281 : decode cn_X4_play 281 = .ok (.getfield 72, 3) := by decide +kernel
theorem dn_X4_play_284 : decode cn_X4_play 284 = .ok (.iload_n 1, 1) := by decide +kernel
theorem dn_X4_play_285 : decode cn_X4_play 285 = .ok (.iconst 1, 1) := by decide +kernel
theorem dn_X4_play_286 : decode cn_X4_play 286 = .ok (.bastore, 1) := by decide +kernel
theorem dn_X4_play_287 : decode cn_X4_play 287 = .ok (.aload_n 0, 1) := by decide +kernel
theorem dn_X4_play_288 : decode cn_X4_play 288 = .ok (.dup, 1) := by decide +kernel
theorem dn_X4_play_289 : decode cn_X4_play 289 = .ok (.getfield 143, 3) := by decide +kernel
theorem dn_X4_play_292 : decode cn_X4_play 292 = .ok (.iconst 1, 1) := by decide +kernel
theorem dn_X4_play_293 : decode cn_X4_play 293 = .ok (.iadd, 1) := by decide +kernel
theorem dn_X4_play_294 : decode cn_X4_play 294 = .ok (.putfield 143, 3) := by decide +kernel
theorem dn_X4_play_297 : decode cn_X4_play 297 = .ok (.aload_n 0, 1) := by decide +kernel
theorem dn_X4_play_298 : decode cn_X4_play 298 = .ok (.iload_n 1, 1) := by decide +kernel
theorem dn_X4_play_299 : decode cn_X4_play 299 = .ok (.putfield 146, 3) := by decide +kernel
theorem dn_X4_play_302 : decode cn_X4_play 302 = .ok (.aload_n 0, 1) := by decide +kernel
theorem dn_X4_play_303 : decode cn_X4_play 303 = .ok (.iconst 0, 1) := by decide +kernel
theorem dn_X4_play_304 : decode cn_X4_play 304 = .ok (.putfield 149, 3) := by decide +kernel
theorem dn_X4_play_307 : decode cn_X4_play 307 = .ok (.aload_n 0, 1) := by decide +kernel
theorem dn_X4_play_308 : decode cn_X4_play 308 = .ok (.invokevirtual 156, 3) := by decide +kernel
theorem dn_X4_play_311 : decode cn_X4_play 311 = .ok (.aload_n 0, 1) := by decide +kernel
theorem dn_X4_play_312 : decode cn_X4_play 312 = .ok (.aload_n 0, 1) := by decide +kernel
theorem dn_X4_play_313 : decode cn_X4_play 313 = .ok (.getfield 41, 3) := by decide +kernel
theorem dn_X4_play_316 : decode cn_X4_play 316 = .ok (.iload_n 1, 1) := by decide +kernel
theorem dn_X4_play_317 : decode cn_X4_play 317 = .ok (.iaload, 1) := by decide +kernel
theorem dn_X4_play_318 : decode cn_X4_play 318 = .ok (.iconst 1, 1) := by decide +kernel
theorem dn_X4_play_319 : decode cn_X4_play 319 = .ok (.if_icmp .ne 12, 3) := by decide +kernel
theorem dn_X4_play_322 : decode cn_X4_play 322 = .ok (.aload_n 0, 1) := by decide +kernel
theorem dn_X4_play_323 : decode cn_X4_play 323 = .ok (.getfield 34, 3) := by decide +kernel
theorem dn_X4_play_326 : decode cn_X4_play 326 = .ok (.iconst 0, 1) := by decide +kernel
theorem dn_X4_play_327 : decode cn_X4_play 327 = .ok (.iaload, 1) := by decide +kernel
theorem dn_X4_play_328 : decode cn_X4_play 328 = .ok (.goto 4, 3) := by decide +kernel
theorem dn_X4_play_331 : decode cn_X4_play 331 = .ok (.iconst 0, 1) := by decide +kernel
theorem dn_X4_play_332 : decode cn_X4_play 332 = .ok (.putfield 166, 3) := by decide +kernel
theorem dn_X4_play_335 : decode cn_X4_play 335 = .ok (.goto 8, 3) := by decide +kernel
theorem dn_X4_play_338 : decode cn_X4_play 338 = .ok (.aload_n 0, 1) := by decide +kernel
theorem dn_X4_play_339 : decode cn_X4_play 339 = .ok (.iload_n 1, 1) := by decide +kernel
theorem dn_X4_play_340 : decode cn_X4_play 340 = .ok (.invokevirtual 177, 3) := by decide +kernel
theorem dn_X4_play_343 : decode cn_X4_play 343 = .ok (.return_, 1) := by decide +kernel
theorem dn_X4_theEnd_0 : decode cn_X4_theEnd 0 = .ok (.iconst 0, 1) := by decide +kernel
theorem dn_X4_theEnd_1 : decode cn_X4_theEnd 1 = .ok (.istore_n 2, 1) := by decide +kernel
theorem dn_X4_theEnd_2 : decode cn_X4_theEnd 2 = .ok (.iload_n 2, 1) := by decide +kernel
theorem dn_X4_theEnd_3 : decode cn_X4_theEnd 3 = .ok (.bipush 60, 2) := by decide +kernel
theorem dn_X4_theEnd_5 : decode cn_X4_theEnd 5 = .ok (.if_icmp .ge 121, 3) := by decide +kernel
theorem dn_X4_theEnd_8 : decode cn_X4_theEnd 8 = .ok (.iconst 0, 1) := by decide +kernel
theorem dn_X4_theEnd_9 : decode cn_X4_theEnd 9 = .ok (.istore_n 3, 1) := by decide +kernel
theorem dn_X4_theEnd_10 : decode cn_X4_theEnd 10 = .ok (.iload_n 3, 1) := by decide +kernel
theorem dn_X4_theEnd_11 : decode cn_X4_theEnd 11 = .ok (.aload_n 0, 1) := by decide +kernel
theorem dn_X4_theEnd_12 : decode cn_X4_theEnd 12 = .ok (.getfield 116, 3) := by decide +kernel
theorem dn_X4_theEnd_15 : decode cn_X4_theEnd 15 = .ok (.if_icmp .ge 105, 3) := by decide +kernel
theorem dn_X4_theEnd_18 : decode cn_X4_theEnd 18 = .ok (.aload_n 0, 1) := by decide +kernel
theorem dn_X4_theEnd_19 : decode cn_X4_theEnd 19 = .ok (.getfield 69, 3) := by decide +kernel
theorem dn_X4_theEnd_22 : decode cn_X4_theEnd 22 = .ok (.iload_n 3, 1) := by decide +kernel
theorem dn_X4_theEnd_23 : decode cn_X4_theEnd 23 = .ok (.iaload, 1) := by decide +kernel
theorem dn_X4_theEnd_24 : decode cn_X4_theEnd 24 = .ok (.ifCond .le 90, 3) := by decide +kernel
theorem dn_X4_theEnd_27 : decode cn_X4_theEnd 27 = .ok (.aload_n 0, 1) := by decide +kernel
theorem dn_X4_theEnd_28 : decode cn_X4_theEnd 28 = .ok (.getfield 16, 3) := by decide +kernel
theorem dn_X4_theEnd_31 : decode cn_X4_theEnd 31 = .ok (.iload_n 3, 1) := by decide +kernel
theorem dn_X4_theEnd_32 : decode cn_X4_theEnd 32 = .ok (.iaload, 1) := by decide +kernel
theorem dn_X4_theEnd_33 : decode cn_X4_theEnd 33 = .ok (.iload_n 1, 1) := by decide +kernel
theorem dn_X4_theEnd_34 : decode cn_X4_theEnd 34 = .ok (.if_icmp .ne 80, 3) := by decide +kernel
theorem dn_X4_theEnd_37 : decode cn_X4_theEnd 37 = .ok (.aload_n 0, 1) := by decide +kernel
theorem dn_X4_theEnd_38 : decode cn_X4_theEnd 38 = .ok (.getfield 16, 3) := by decide +kernel
theorem dn_X4_theEnd_41 : decode cn_X4_theEnd 41 = .ok (.iload_n 3, 1) := by decide +kernel
theorem dn_X4_theEnd_42 : decode cn_X4_theEnd 42 = .ok (.iaload, 1) := by decide +kernel
theorem dn_X4_theEnd_43 : decode cn_X4_theEnd 43 = .ok (.aload_n 0, 1) := by decide +kernel
theorem dn_X4_theEnd_44 : decode cn_X4_theEnd 44 = .ok (.getfield 13, 3) := by decide +kernel
theorem dn_X4_theEnd_47 : decode cn_X4_theEnd 47 = .ok (.iload_n 3, 1) := by decide +kernel
theorem dn_X4_theEnd_48 : decode cn_X4_theEnd 48 = .ok (.iaload, 1) := by decide +kernel
theorem dn_X4_theEnd_49 : decode cn_X4_theEnd 49 = .ok (.isub, 1) := by decide +kernel
theorem dn_X4_theEnd_50 : decode cn_X4_theEnd 50 = .ok (.iload_n 2, 1) := by decide +kernel
theorem dn_X4_theEnd_51 : decode cn_X4_theEnd 51 = .ok (.if_icmp .ne 63, 3) := by decide +kernel
theorem dn_X4_theEnd_54 : decode cn_X4_theEnd 54 = .ok (.aload_n 0, 1) := by decide +kernel
theorem dn_X4_theEnd_55 : decode cn_X4_theEnd 55 = .ok (.getfield 69, 3) := by decide +kernel
theorem dn_X4_theEnd_58 : decode cn_X4_theEnd 58 = .ok (.iload_n 3, 1) := by decide +kernel
theorem dn_X4_theEnd_59 : decode cn_X4_theEnd 59 = .ok (.iaload, 1) := by decide +kernel
theorem dn_X4_theEnd_60 : decode cn_X4_theEnd 60 = .ok (.aload_n 0, 1) := by decide +kernel
theorem dn_X4_theEnd_61 : decode cn_X4_theEnd 61 = .ok (.getfield 19, 3) := by decide +kernel
theorem dn_X4_theEnd_64 : decode cn_X4_theEnd 64 = .ok (.iload_n 3, 1) := by decide +kernel
theorem dn_X4_theEnd_65 : decode cn_X4_theEnd 65 = .ok (.iaload, 1) := by decide +kernel
theorem dn_X4_theEnd_66 : decode cn_X4_theEnd 66 = .ok (.if_icmp .ge 41, 3) := by decide +kernel
theorem dn_X4_theEnd_69 : decode cn_X4_theEnd 69 = .ok (.aload_n 0, 1) := by decide +kernel
theorem dn_X4_theEnd_70 : decode cn_X4_theEnd 70 = .ok (.getfield 69, 3) := by decide +kernel
theorem dn_X4_theEnd_73 : decode cn_X4_theEnd 73 = .ok (.iload_n 3, 1) := by decide +kernel
theorem dn_X4_theEnd_74 : decode cn_X4_theEnd 74 = .ok (.dup2, 1) := by decide +kernel
theorem dn_X4_theEnd_75 : decode cn_X4_theEnd 75 = .ok (.iaload, 1) := by decide +kernel
theorem dn_X4_theEnd_76 : decode cn_X4_theEnd 76 = .ok (.iconst 1, 1) := by decide +kernel
theorem dn_X4_theEnd_77 : decode cn_X4_theEnd 77 = .ok (.iadd, 1) := by decide +kernel
theorem dn_X4_theEnd_78 : decode cn_X4_theEnd 78 = .ok (.iastore, 1) := by decide +kernel
theorem dn_X4_theEnd_79 : decode cn_X4_theEnd 79 = .ok (.aload_n 0, 1) := by decide +kernel
theorem dn_X4_theEnd_80 : decode cn_X4_theEnd 80 = .ok (.aload_n 0, 1) := by decide +kernel
theorem dn_X4_theEnd_81 : decode cn_X4_theEnd 81 = .ok (.getfield 13, 3) := by decide +kernel
theorem dn_X4_theEnd_84 : decode cn_X4_theEnd 84 = .ok (.iload_n 3, 1) := by decide +kernel
theorem dn_X4_theEnd_85 : decode cn_X4_theEnd 85 = .ok (.iaload, 1) := by decide +kernel
theorem dn_X4_theEnd_86 : decode cn_X4_theEnd 86 = .ok (.aload_n 0, 1) := by decide +kernel
theorem dn_X4_theEnd_87 : decode cn_X4_theEnd 87 = .ok (.getfield 16, 3) := by decide +kernel
theorem dn_X4_theEnd_90 : decode cn_X4_theEnd 90 = .ok (.iload_n 3, 1) := by decide +kernel
theorem dn_X4_theEnd_91 : decode cn_X4_theEnd 91 = .ok (.iaload, 1) := by decide +kernel
theorem dn_X4_theEnd_92 : decode cn_X4_theEnd 92 = .ok (.iload_n 3, 1) := by decide +kernel
theorem dn_X4_theEnd_93 : decode cn_X4_theEnd 93 = .ok (.invokevirtual 173, 3) := by decide +kernel
theorem dn_X4_theEnd_96 : decode cn_X4_theEnd 96 = .ok (.aload_n 0, 1) := by decide +kernel
theorem dn_X4_theEnd_97 : decode cn_X4_theEnd 97 = .ok (.aload_n 0, 1) := by decide +kernel
theorem dn_X4_theEnd_98 : decode cn_X4_theEnd 98 = .ok (.getfield 13, 3) := by decide +kernel
theorem dn_X4_theEnd_101 : decode cn_X4_theEnd 101 = .ok (.iload_n 3, 1) := by decide +kernel
theorem dn_X4_theEnd_102 : decode cn_X4_theEnd 102 = .ok (.iaload, 1) := by decide +kernel
theorem dn_X4_theEnd_103 : decode cn_X4_theEnd 103 = .ok (.putfield 166, 3) := by decide +kernel
theorem dn_X4_theEnd_106 : decode cn_X4_theEnd 106 = .ok (.return_, 1) := by decide +kernel
theorem dn_X4_theEnd_107 : decode cn_X4_theEnd 107 = .ok (.aload_n 0, 1) := by decide +kernel
theorem dn_X4_theEnd_108 : decode cn_X4_theEnd 108 = .ok (.getfield 69, 3) := by decide +kernel
theorem dn_X4_theEnd_111 : decode cn_X4_theEnd 111 = .ok (.iload_n 3, 1) := by decide +kernel
theorem dn_X4_theEnd_112 : decode cn_X4_theEnd 112 = .ok (.iconst 0, 1) := by decide +kernel
theorem dn_X4_theEnd_113 : decode cn_X4_theEnd 113 = .ok (.iastore, 1) := by decide +kernel
theorem dn_X4_theEnd_114 : decode cn_X4_theEnd 114 = .ok (.iinc 3 1, 3) := by decide +kernel
theorem dn_X4_theEnd_117 : decode cn_X4_theEnd 117 = .ok (.goto (-107), 3) := by decide +kernel
theorem dn_X4_theEnd_120 : decode cn_X4_theEnd 120 = .ok (.iinc 2 1, 3) := by decide +kernel
theorem dn_X4_theEnd_123 : decode cn_X4_theEnd 123 = .ok (.goto (-121), 3) := by decide +kernel
theorem dn_X4_theEnd_126 : decode cn_X4_theEnd 126 = .ok (.aload_n 0, 1) := by decide +kernel
theorem dn_X4_theEnd_127 : decode cn_X4_theEnd 127 = .ok (.iload_n 1, 1) := by decide +kernel
theorem dn_X4_theEnd_128 : decode cn_X4_theEnd 128 = .ok (.iconst 1, 1) := by decide +kernel
theorem dn_X4_theEnd_129 : decode cn_X4_theEnd 129 = .ok (.iadd, 1) := by decide +kernel
theorem dn_X4_theEnd_130 : decode cn_X4_theEnd 130 = .ok (.aload_n 0, 1) := by decide +kernel
theorem dn_X4_theEnd_131 : decode cn_X4_theEnd 131 = .ok (.getfield 102, 3) := by decide +kernel
theorem dn_X4_theEnd_134 : decode cn_X4_theEnd 134 = .ok (.if_icmp .ge 9, 3) := by decide +kernel
theorem dn_X4_theEnd_137 : decode cn_X4_theEnd 137 = .ok (.iload_n 1, 1) := by decide +kernel
theorem dn_X4_theEnd_138 : decode cn_X4_theEnd 138 = .ok (.iconst 1, 1) := by decide +kernel
theorem dn_X4_theEnd_139 : decode cn_X4_theEnd 139 = .ok (.iadd, 1) := by decide +kernel
theorem dn_X4_theEnd_140 : decode cn_X4_theEnd 140 = .ok (.goto 4, 3) := by decide +kernel
theorem dn_X4_theEnd_143 : decode cn_X4_theEnd 143 = .ok (.iconst (-1), 1) := by decide +kernel
theorem dn_X4_theEnd_144 : decode cn_X4_theEnd 144 = .ok (.putfield 166, 3) := by decide +kernel
theorem dn_X4_theEnd_147 : decode cn_X4_theEnd 147 = .ok (.return_, 1) := by decide +kernel
theorem dn_X4_fault_0 : decode cn_X4_fault 0 = .ok (.aload_n 0, 1) := by decide +kernel
theorem dn_X4_fault_1 : decode cn_X4_fault 1 = .ok (.iconst 0, 1) := by decide +kernel
theorem dn_X4_fault_2 : decode cn_X4_fault 2 = .ok (.putfield 99, 3) := by decide +kernel
theorem dn_X4_fault_5 : decode cn_X4_fault 5 = .ok (.aload_n 0, 1) := by decide +kernel
theorem dn_X4_fault_6 : decode cn_X4_fault 6 = .ok (.getfield 50, 3) := by decide +kernel
theorem dn_X4_fault_9 : decode cn_X4_fault 9 = .ok (.ireturn, 1) := by decide +kernel
theorem dn_X4_played_0 : decode cn_X4_played 0 = .ok (.aload_n 0, 1) := by decide +kernel
theorem dn_X4_played_1 : decode cn_X4_played 1 = .ok (.iload_n 1, 1) := by decide +kernel
theorem dn_X4_played_2 : decode cn_X4_played 2 = .ok (.ifCond .lt 11, 3) := by decide +kernel
theorem dn_X4_played_5 : decode cn_X4_played 5 = .ok (.iload_n 1, 1) := by decide +kernel
theorem dn_X4_played_6 : decode cn_X4_played 6 = .ok (.aload_n 0, 1) := by decide +kernel
theorem dn_X4_played_7 : decode cn_X4_played 7 = .ok (.getfield 140, 3) := by decide +kernel
theorem dn_X4_played_10 : decode cn_X4_played 10 = .ok (.if_icmp .lt 7, 3) := by decide +kernel
theorem dn_X4_played_13 : decode cn_X4_played 13 = .ok (.iconst 1, 1) := by decide +kernel
theorem dn_X4_played_14 : decode cn_X4_played 14 = .ok (.goto 4, 3) := by decide +kernel
theorem dn_X4_played_17 : decode cn_X4_played 17 = .ok (.iconst 0, 1) := by decide +kernel
theorem dn_X4_played_18 : decode cn_X4_played 18 = .ok (.iload_n 2, 1) := by decide +kernel
theorem dn_X4_played_19 : decode cn_X4_played 19 = .ok (.ifCond .lt 8, 3) := by decide +kernel
theorem dn_X4_played_22 : decode cn_X4_played 22 = .ok (.iload_n 2, 1) := by decide +kernel
theorem dn_X4_played_23 : decode cn_X4_played 23 = .ok (.iconst 4, 1) := by decide +kernel
theorem dn_X4_played_24 : decode cn_X4_played 24 = .ok (.if_icmp .le 7, 3) := by decide +kernel
theorem dn_X4_played_27 : decode cn_X4_played 27 = .ok (.iconst 1, 1) := by decide +kernel
theorem dn_X4_played_28 : decode cn_X4_played 28 = .ok (.goto 4, 3) := by decide +kernel
theorem dn_X4_played_31 : decode cn_X4_played 31 = .ok (.iconst 0, 1) := by decide +kernel
theorem dn_X4_played_32 : decode cn_X4_played 32 = .ok (.iconst 0, 1) := by decide +kernel
theorem dn_X4_played_33 : decode cn_X4_played 33 = .ok (.invokevirtual 105, 3) := by decide +kernel
theorem dn_X4_played_36 : decode cn_X4_played 36 = .ok (.ifCond .eq 5, 3) := by decide +kernel
theorem dn_X4_played_39 : decode cn_X4_played 39 = .ok (.iconst 0, 1) := by decide +kernel
theorem dn_X4_played_40 : decode cn_X4_played 40 = .ok (.ireturn, 1) := by decide +kernel
theorem dn_X4_played_41 : decode cn_X4_played 41 = .ok (.iload_n 2, 1) := by decide +kernel
theorem dn_X4_played_42 : decode cn_X4_played 42 = .ok (.ifCond .ne 12, 3) := by decide +kernel
theorem dn_X4_played_45 : decode cn_X4_played 45 = .ok (.aload_n 0, 1) := by decide +kernel
theorem dn_X4_played_46 : decode cn_X4_played 46 = .ok (.getfield 54, 3) := by decide +kernel
theorem dn_X4_played_49 : decode cn_X4_played 49 = .ok (.iload_n 1, 1) := by decide +kernel
theorem dn_X4_played_50 : decode cn_X4_played 50 = .ok (.iaload, 1) := by decide +kernel
theorem dn_X4_played_51 : decode cn_X4_played 51 = .ok (.goto 56, 3) := by decide +kernel
theorem dn_X4_played_54 : decode cn_X4_played 54 = .ok (.iload_n 2, 1) := by decide +kernel
theorem dn_X4_played_55 : decode cn_X4_played 55 = .ok (.iconst 1, 1) := by decide +kernel
theorem dn_X4_played_56 : decode cn_X4_played 56 = .ok (.if_icmp .ne 17, 3) := by decide +kernel
theorem dn_X4_played_59 : decode cn_X4_played 59 = .ok (.aload_n 0, 1) := by decide +kernel
theorem dn_X4_played_60 : decode cn_X4_played 60 = .ok (.getfield 7, 3) := by decide +kernel
theorem dn_X4_played_63 : decode cn_X4_played 63 = .ok (.aload_n 0, 1) := by decide +kernel
theorem dn_X4_played_64 : decode cn_X4_played 64 = .ok (.getfield 54, 3) := by decide +kernel
theorem dn_X4_played_67 : decode cn_X4_played 67 = .ok (.iload_n 1, 1) := by decide +kernel
theorem dn_X4_played_68 : decode cn_X4_played 68 = .ok (.iaload, 1) := by decide +kernel
theorem dn_X4_played_69 : decode cn_X4_played 69 = .ok (.iaload, 1) := by decide +kernel
theorem dn_X4_played_70 : decode cn_X4_played 70 = .ok (.goto 37, 3) := by decide +kernel
theorem dn_X4_played_73 : decode cn_X4_played 73 = .ok (.iload_n 2, 1) := by decide +kernel
theorem dn_X4_played_74 : decode cn_X4_played 74 = .ok (.iconst 2, 1) := by decide +kernel
theorem dn_X4_played_75 : decode cn_X4_played 75 = .ok (.if_icmp .ne 12, 3) := by decide +kernel
theorem dn_X4_played_78 : decode cn_X4_played 78 = .ok (.aload_n 0, 1) := by decide +kernel
theorem dn_X4_played_79 : decode cn_X4_played 79 = .ok (.getfield 57, 3) := by decide +kernel
theorem dn_X4_played_82 : decode cn_X4_played 82 = .ok (.iload_n 1, 1) := by decide +kernel
theorem dn_X4_played_83 : decode cn_X4_played 83 = .ok (.iaload, 1) := by decide +kernel
theorem dn_X4_played_84 : decode cn_X4_played 84 = .ok (.goto 23, 3) := by decide +kernel
theorem dn_X4_played_87 : decode cn_X4_played 87 = .ok (.iload_n 2, 1) := by decide +kernel
theorem dn_X4_played_88 : decode cn_X4_played 88 = .ok (.iconst 3, 1) := by decide +kernel
theorem dn_X4_played_89 : decode cn_X4_played 89 = .ok (.if_icmp .ne 12, 3) := by decide +kernel
theorem dn_X4_played_92 : decode cn_X4_played 92 = .ok (.aload_n 0, 1) := by decide +kernel
theorem dn_X4_played_93 : decode cn_X4_played 93 = .ok (.getfield 60, 3) := by decide +kernel
theorem dn_X4_played_96 : decode cn_X4_played 96 = .ok (.iload_n 1, 1) := by decide +kernel
theorem dn_X4_played_97 : decode cn_X4_played 97 = .ok (.iaload, 1) := by decide +kernel
theorem dn_X4_played_98 : decode cn_X4_played 98 = .ok (.goto 9, 3) := by decide +kernel
theorem dn_X4_played_101 : decode cn_X4_played 101 = .ok (.aload_n 0, 1) := by decide +kernel
theorem dn_X4_played_102 : decode cn_X4_played 102 = .ok (.getfield 63, 3) := by decide +kernel
theorem dn_X4_played_105 : decode cn_X4_played 105 = .ok (.iload_n 1, 1) := by decide +kernel
theorem dn_X4_played_106 : decode cn_X4_played 106 = .ok (.iaload, 1) := by decide +kernel
theorem dn_X4_played_107 : decode cn_X4_played 107 = .ok (.ireturn, 1) := by decide +kernel
theorem dn_X4_times_0 : decode cn_X4_times 0 = .ok (.aload_n 0, 1) := by decide +kernel
theorem dn_X4_times_1 : decode cn_X4_times 1 = .ok (.aload_n 0, 1) := by decide +kernel
theorem dn_X4_times_2 : decode cn_X4_times 2 = .ok (.iload_n 1, 1) := by decide +kernel
theorem dn_X4_times_3 : decode cn_X4_times 3 = .ok (.invokevirtual 129, 3) := by decide +kernel
theorem dn_X4_times_6 : decode cn_X4_times 6 = .ok (.ifCond .ne 7, 3) := by decide +kernel
theorem dn_X4_times_9 : decode cn_X4_times 9 = .ok (.iconst 1, 1) := by decide +kernel
theorem dn_X4_times_10 : decode cn_X4_times 10 = .ok (.goto 4, 3) := by decide +kernel
theorem dn_X4_times_13 : decode cn_X4_times 13 = .ok (.iconst 0, 1) := by decide +kernel
theorem dn_X4_times_14 : decode cn_X4_times 14 = .ok (.iconst 0, 1) := by decide +kernel
theorem dn_X4_times_15 : decode cn_X4_times 15 = .ok (.iconst 0, 1) := by decide +kernel
theorem dn_X4_times_16 : decode cn_X4_times 16 = .ok (.invokevirtual 105, 3) := by decide +kernel
theorem dn_X4_times_19 : decode cn_X4_times 19 = .ok (.ifCond .eq 5, 3) := by decide +kernel
theorem dn_X4_times_22 : decode cn_X4_times 22 = .ok (.iconst 0, 1) := by decide +kernel
theorem dn_X4_times_23 : decode cn_X4_times 23 = .ok (.ireturn, 1) := by decide +kernel
theorem dn_X4_times_24 : decode cn_X4_times 24 = .ok (.iconst 0, 1) := by decide +kernel
theorem dn_X4_times_25 : decode cn_X4_times 25 = .ok (.istore_n 2, 1) := by decide +kernel
theorem dn_X4_times_26 : decode cn_X4_times 26 = .ok (.iconst 0, 1) := by decide +kernel
theorem dn_X4_times_27 : decode cn_X4_times 27 = .ok (.istore_n 3, 1) := by decide +kernel
theorem dn_X4_times_28 : decode cn_X4_times 28 = .ok (.iload_n 3, 1) := by decide +kernel
theorem dn_X4_times_29 : decode cn_X4_times 29 = .ok (.aload_n 0, 1) := by decide +kernel
theorem dn_X4_times_30 : decode cn_X4_times 30 = .ok (.getfield 140, 3) := by decide +kernel
theorem dn_X4_times_33 : decode cn_X4_times 33 = .ok (.if_icmp .ge 27, 3) := by decide +kernel
theorem dn_X4_times_36 : decode cn_X4_times 36 = .ok (.iload_n 2, 1) := by decide +kernel
theorem dn_X4_times_37 : decode cn_X4_times 37 = .ok (.aload_n 0, 1) := by decide +kernel
theorem dn_X4_times_38 : decode cn_X4_times 38 = .ok (.getfield 54, 3) := by decide +kernel
theorem dn_X4_times_41 : decode cn_X4_times 41 = .ok (.iload_n 3, 1) := by decide +kernel
theorem dn_X4_times_42 : decode cn_X4_times 42 = .ok (.iaload, 1) := by decide +kernel
theorem dn_X4_times_43 : decode cn_X4_times 43 = .ok (.iload_n 1, 1) := by decide +kernel
theorem dn_X4_times_44 : decode cn_X4_times 44 = .ok (.if_icmp .ne 7, 3) := by decide +kernel
theorem dn_X4_times_47 : decode cn_X4_times 47 = .ok (.iconst 1, 1) := by decide +kernel
theorem dn_X4_times_48 : decode cn_X4_times 48 = .ok (.goto 4, 3) := by decide +kernel
theorem dn_X4_times_51 : decode cn_X4_times 51 = .ok (.iconst 0, 1) := by decide +kernel
theorem dn_X4_times_52 : decode cn_X4_times 52 = .ok (.iadd, 1) := by decide +kernel
theorem dn_X4_times_53 : decode cn_X4_times 53 = .ok (.istore_n 2, 1) := by decide +kernel
theorem dn_X4_times_54 : decode cn_X4_times 54 = .ok (.iinc 3 1, 3) := by decide +kernel
theorem dn_X4_times_57 : decode cn_X4_times 57 = .ok (.goto (-29), 3) := by decide +kernel
theorem dn_X4_times_60 : decode cn_X4_times 60 = .ok (.iload_n 2, 1) := by decide +kernel
theorem dn_X4_times_61 : decode cn_X4_times 61 = .ok (.ireturn, 1) := by decide +kernel
theorem dn_X4_comes_0 : decode cn_X4_comes 0 = .ok (.aload_n 0, 1) := by decide +kernel
theorem dn_X4_comes_1 : decode cn_X4_comes 1 = .ok (.aload_n 0, 1) := by decide +kernel
theorem dn_X4_comes_2 : decode cn_X4_comes 2 = .ok (.iload_n 1, 1) := by decide +kernel
theorem dn_X4_comes_3 : decode cn_X4_comes 3 = .ok (.invokevirtual 129, 3) := by decide +kernel
theorem dn_X4_comes_6 : decode cn_X4_comes 6 = .ok (.ifCond .ne 7, 3) := by decide +kernel
theorem dn_X4_comes_9 : decode cn_X4_comes 9 = .ok (.iconst 1, 1) := by decide +kernel
theorem dn_X4_comes_10 : decode cn_X4_comes 10 = .ok (.goto 4, 3) := by decide +kernel
theorem dn_X4_comes_13 : decode cn_X4_comes 13 = .ok (.iconst 0, 1) := by decide +kernel
theorem dn_X4_comes_14 : decode cn_X4_comes 14 = .ok (.iconst 0, 1) := by decide +kernel
theorem dn_X4_comes_15 : decode cn_X4_comes 15 = .ok (.iconst 0, 1) := by decide +kernel
theorem dn_X4_comes_16 : decode cn_X4_comes 16 = .ok (.invokevirtual 105, 3) := by decide +kernel
theorem dn_X4_comes_19 : decode cn_X4_comes 19 = .ok (.ifCond .eq 5, 3) := by decide +kernel
theorem dn_X4_comes_22 : decode cn_X4_comes 22 = .ok (.iconst 0, 1) := by decide +kernel
theorem dn_X4_comes_23 : decode cn_X4_comes 23 = .ok (.ireturn, 1) := by decide +kernel
theorem dn_X4_comes_24 : decode cn_X4_comes 24 = .ok (.aload_n 0, 1) := by decide +kernel
theorem dn_X4_comes_25 : decode cn_X4_comes 25 = .ok (.getfield 66, 3) := by decide +kernel
theorem dn_X4_comes_28 : decode cn_X4_comes 28 = .ok (.iload_n 1, 1) := by decide +kernel
theorem dn_X4_comes_29 : decode cn_X4_comes 29 = .ok (.iaload, 1) := by decide +kernel
theorem dn_X4_comes_30 : decode cn_X4_comes 30 = .ok (.ireturn, 1) := by decide +kernel
theorem dn_X4_fold_0 : decode cn_X4_fold 0 = .ok (.iload_n 2, 1) := by decide +kernel
theorem dn_X4_fold_1 : decode cn_X4_fold 1 = .ok (.iconst 1, 1) := by decide +kernel
theorem dn_X4_fold_2 : decode cn_X4_fold 2 = .ok (.if_icmp .lt 13, 3) := by decide +kernel
theorem dn_X4_fold_5 : decode cn_X4_fold 5 = .ok (.iload_n 2, 1) := by decide +kernel
theorem dn_X4_fold_6 : decode cn_X4_fold 6 = .ok (.bipush 40, 2) := by decide +kernel
theorem dn_X4_fold_8 : decode cn_X4_fold 8 = .ok (.if_icmp .gt 7, 3) := by decide +kernel
theorem dn_X4_fold_11 : decode cn_X4_fold 11 = .ok (.iconst 1, 1) := by decide +kernel
theorem dn_X4_fold_12 : decode cn_X4_fold 12 = .ok (.goto 4, 3) := by decide +kernel
theorem dn_X4_fold_15 : decode cn_X4_fold 15 = .ok (.iconst 0, 1) := by decide +kernel
theorem dn_X4_fold_16 : decode cn_X4_fold 16 = .ok (.istore_n 3, 1) := by decide +kernel
theorem dn_X4_fold_17 : decode cn_X4_fold 17 = .ok (.aload_n 0, 1) := by decide +kernel
theorem dn_X4_fold_18 : decode cn_X4_fold 18 = .ok (.iload_n 3, 1) := by decide +kernel
theorem dn_X4_fold_19 : decode cn_X4_fold 19 = .ok (.ifCond .ne 7, 3) := by decide +kernel
theorem dn_X4_fold_22 : decode cn_X4_fold 22 = .ok (.iconst 1, 1) := by decide +kernel
theorem dn_X4_fold_23 : decode cn_X4_fold 23 = .ok (.goto 4, 3) := by decide +kernel
theorem dn_X4_fold_26 : decode cn_X4_fold 26 = .ok (.iconst 0, 1) := by decide +kernel
theorem dn_X4_fold_27 : decode cn_X4_fold 27 = .ok (.iload_n 3, 1) := by decide +kernel
theorem dn_X4_fold_28 : decode cn_X4_fold 28 = .ok (.ifCond .eq 21, 3) := by decide +kernel
theorem dn_X4_fold_31 : decode cn_X4_fold 31 = .ok (.iload_n 1, 1) := by decide +kernel
theorem dn_X4_fold_32 : decode cn_X4_fold 32 = .ok (.ifCond .lt 13, 3) := by decide +kernel
theorem dn_X4_fold_35 : decode cn_X4_fold 35 = .ok (.iload_n 1, 1) := by decide +kernel
theorem dn_X4_fold_36 : decode cn_X4_fold 36 = .ok (.aload_n 0, 1) := by decide +kernel
theorem dn_X4_fold_37 : decode cn_X4_fold 37 = .ok (.getfield 140, 3) := by decide +kernel
theorem dn_X4_fold_40 : decode cn_X4_fold 40 = .ok (.iload_n 2, 1) := by decide +kernel
theorem dn_X4_fold_41 : decode cn_X4_fold 41 = .ok (.isub, 1) := by decide +kernel
theorem dn_X4_fold_42 : decode cn_X4_fold 42 = .ok (.if_icmp .le 7, 3) := by decide +kernel
theorem dn_X4_fold_45 : decode cn_X4_fold 45 = .ok (.iconst 1, 1) := by decide +kernel
theorem dn_X4_fold_46 : decode cn_X4_fold 46 = .ok (.goto 4, 3) := by decide +kernel
theorem dn_X4_fold_49 : decode cn_X4_fold 49 = .ok (.iconst 0, 1) := by decide +kernel
theorem dn_X4_fold_50 : decode cn_X4_fold 50 = .ok (.iconst 0, 1) := by decide +kernel
theorem dn_X4_fold_51 : decode cn_X4_fold 51 = .ok (.invokevirtual 105, 3) := by decide +kernel
theorem dn_X4_fold_54 : decode cn_X4_fold 54 = .ok (.ifCond .eq 5, 3) := by decide +kernel
theorem dn_X4_fold_57 : decode cn_X4_fold 57 = .ok (.iconst 0, 1) := by decide +kernel
theorem dn_X4_fold_58 : decode cn_X4_fold 58 = .ok (.ireturn, 1) := by decide +kernel
theorem dn_X4_fold_59 : decode cn_X4_fold 59 = .ok (.iconst 0, 1) := by decide +kernel
theorem dn_X4_fold_60 : decode cn_X4_fold 60 = .ok (.istore 4, 2) := by decide +kernel
theorem dn_X4_fold_62 : decode cn_X4_fold 62 = .ok (.iload 4, 2) := by decide +kernel
theorem dn_X4_fold_64 : decode cn_X4_fold 64 = .ok (.iload_n 2, 1) := by decide +kernel
theorem dn_X4_fold_65 : decode cn_X4_fold 65 = .ok (.if_icmp .ge 30, 3) := by decide +kernel
theorem dn_X4_fold_68 : decode cn_X4_fold 68 = .ok (.aload_n 0, 1) := by decide +kernel
theorem dn_X4_fold_69 : decode cn_X4_fold 69 = .ok (.getfield 75, 3) := by decide +kernel
theorem dn_X4_fold_72 : decode cn_X4_fold 72 = .ok (.iload 4, 2) := by decide +kernel
theorem dn_X4_fold_74 : decode cn_X4_fold 74 = .ok (.aload_n 0, 1) := by decide +kernel
theorem dn_X4_fold_75 : decode cn_X4_fold 75 = .ok (.getfield 7, 3) := by decide +kernel
theorem dn_X4_fold_78 : decode cn_X4_fold 78 = .ok (.aload_n 0, 1) := by decide +kernel
theorem dn_X4_fold_79 : decode cn_X4_fold 79 = .ok (.getfield 54, 3) := by decide +kernel
theorem dn_X4_fold_82 : decode cn_X4_fold 82 = .ok (.iload_n 1, 1) := by decide +kernel
theorem dn_X4_fold_83 : decode cn_X4_fold 83 = .ok (.iload 4, 2) := by decide +kernel
theorem dn_X4_fold_85 : decode cn_X4_fold 85 = .ok (.iadd, 1) := by decide +kernel
theorem dn_X4_fold_86 : decode cn_X4_fold 86 = .ok (.iaload, 1) := by decide +kernel
theorem dn_X4_fold_87 : decode cn_X4_fold 87 = .ok (.iaload, 1) := by decide +kernel
theorem dn_X4_fold_88 : decode cn_X4_fold 88 = .ok (.iastore, 1) := by decide +kernel
theorem dn_X4_fold_89 : decode cn_X4_fold 89 = .ok (.iinc 4 1, 3) := by decide +kernel
theorem dn_X4_fold_92 : decode cn_X4_fold 92 = .ok (.goto (-30), 3) := by decide +kernel
theorem dn_X4_fold_95 : decode cn_X4_fold 95 = .ok (.iconst 1, 1) := by decide +kernel
theorem dn_X4_fold_96 : decode cn_X4_fold 96 = .ok (.istore 4, 2) := by decide +kernel
theorem dn_X4_fold_98 : decode cn_X4_fold 98 = .ok (.iload 4, 2) := by decide +kernel
theorem dn_X4_fold_100 : decode cn_X4_fold 100 = .ok (.iload_n 2, 1) := by decide +kernel
theorem dn_X4_fold_101 : decode cn_X4_fold 101 = .ok (.if_icmp .gt 35, 3) := by decide +kernel
theorem dn_X4_fold_104 : decode cn_X4_fold 104 = .ok (.iconst 0, 1) := by decide +kernel
theorem dn_X4_fold_105 : decode cn_X4_fold 105 = .ok (.istore 5, 2) := by decide +kernel
theorem dn_X4_fold_107 : decode cn_X4_fold 107 = .ok (.iload 5, 2) := by decide +kernel
theorem dn_X4_fold_109 : decode cn_X4_fold 109 = .ok (.iload 4, 2) := by decide +kernel
theorem dn_X4_fold_111 : decode cn_X4_fold 111 = .ok (.iadd, 1) := by decide +kernel
theorem dn_X4_fold_112 : decode cn_X4_fold 112 = .ok (.iload_n 2, 1) := by decide +kernel
theorem dn_X4_fold_113 : decode cn_X4_fold 113 = .ok (.if_icmp .gt 17, 3) := by decide +kernel
theorem dn_X4_fold_116 : decode cn_X4_fold 116 = .ok (.aload_n 0, 1) := by decide +kernel
theorem dn_X4_fold_117 : decode cn_X4_fold 117 = .ok (.iload 5, 2) := by decide +kernel
theorem dn_X4_fold_119 : decode cn_X4_fold 119 = .ok (.iload 4, 2) := by decide +kernel
theorem dn_X4_fold_121 : decode cn_X4_fold 121 = .ok (.invokevirtual 187, 3) := by decide +kernel
theorem dn_X4_fold_124 : decode cn_X4_fold 124 = .ok (.iinc 5 1, 3) := by decide +kernel
theorem dn_X4_fold_127 : decode cn_X4_fold 127 = .ok (.goto (-20), 3) := by decide +kernel
theorem dn_X4_fold_130 : decode cn_X4_fold 130 = .ok (.iinc 4 1, 3) := by decide +kernel
theorem dn_X4_fold_133 : decode cn_X4_fold 133 = .ok (.goto (-35), 3) := by decide +kernel
theorem dn_X4_fold_136 : decode cn_X4_fold 136 = .ok (.aload_n 0, 1) := by decide +kernel
theorem dn_X4_fold_137 : decode cn_X4_fold 137 = .ok (.iconst 0, 1) := by decide +kernel
theorem dn_X4_fold_138 : decode cn_X4_fold 138 = .ok (.putfield 191, 3) := by decide +kernel
theorem dn_X4_fold_141 : decode cn_X4_fold 141 = .ok (.aload_n 0, 1) := by decide +kernel
theorem dn_X4_fold_142 : decode cn_X4_fold 142 = .ok (.iconst 0, 1) := by decide +kernel
theorem dn_X4_fold_143 : decode cn_X4_fold 143 = .ok (.putfield 194, 3) := by decide +kernel
theorem dn_X4_fold_146 : decode cn_X4_fold 146 = .ok (.aload_n 0, 1) := by decide +kernel
theorem dn_X4_fold_147 : decode cn_X4_fold 147 = .ok (.iload_n 2, 1) := by decide +kernel
theorem dn_X4_fold_148 : decode cn_X4_fold 148 = .ok (.invokevirtual 197, 3) := by decide +kernel
theorem dn_X4_fold_151 : decode cn_X4_fold 151 = .ok (.aload_n 0, 1) := by decide +kernel
theorem dn_X4_fold_152 : decode cn_X4_fold 152 = .ok (.getfield 194, 3) := by decide +kernel
theorem dn_X4_fold_155 : decode cn_X4_fold 155 = .ok (.ireturn, 1) := by decide +kernel
theorem dn_X4_isAgain_0 : decode cn_X4_isAgain 0 = .ok (.iload_n 2, 1) := by decide +kernel
theorem dn_X4_isAgain_1 : decode cn_X4_isAgain 1 = .ok (.iload_n 3, 1) := by decide +kernel
theorem dn_X4_isAgain_2 : decode cn_X4_isAgain 2 = .ok (.irem, 1) := by decide +kernel
theorem dn_X4_isAgain_3 : decode cn_X4_isAgain 3 = .ok (.ifCond .ne 7, 3) := by decide +kernel
theorem dn_X4_isAgain_6 : decode cn_X4_isAgain 6 = .ok (.iconst 1, 1) := by decide +kernel
theorem dn_X4_isAgain_7 : decode cn_X4_isAgain 7 = .ok (.goto 4, 3) := by decide +kernel
theorem dn_X4_isAgain_10 : decode cn_X4_isAgain 10 = .ok (.iconst 0, 1) := by decide +kernel
theorem dn_X4_isAgain_11 : decode cn_X4_isAgain 11 = .ok (.istore 4, 2) := by decide +kernel
theorem dn_X4_isAgain_13 : decode cn_X4_isAgain 13 = .ok (.iload_n 3, 1) := by decide +kernel
theorem dn_X4_isAgain_14 : decode cn_X4_isAgain 14 = .ok (.istore 5, 2) := by decide +kernel
theorem dn_X4_isAgain_16 : decode cn_X4_isAgain 16 = .ok (.iload 5, 2) := by decide +kernel
theorem dn_X4_isAgain_18 : decode cn_X4_isAgain 18 = .ok (.iload_n 2, 1) := by decide +kernel
theorem dn_X4_isAgain_19 : decode cn_X4_isAgain 19 = .ok (.if_icmp .ge 44, 3) := by decide +kernel
theorem dn_X4_isAgain_22 : decode cn_X4_isAgain 22 = .ok (.iload 4, 2) := by decide +kernel
theorem dn_X4_isAgain_24 : decode cn_X4_isAgain 24 = .ok (.ifCond .eq 39, 3) := by decide +kernel
theorem dn_X4_isAgain_27 : decode cn_X4_isAgain 27 = .ok (.aload_n 0, 1) := by decide +kernel
theorem dn_X4_isAgain_28 : decode cn_X4_isAgain 28 = .ok (.getfield 75, 3) := by decide +kernel
theorem dn_X4_isAgain_31 : decode cn_X4_isAgain 31 = .ok (.iload_n 1, 1) := by decide +kernel
theorem dn_X4_isAgain_32 : decode cn_X4_isAgain 32 = .ok (.iload 5, 2) := by decide +kernel
theorem dn_X4_isAgain_34 : decode cn_X4_isAgain 34 = .ok (.iadd, 1) := by decide +kernel
theorem dn_X4_isAgain_35 : decode cn_X4_isAgain 35 = .ok (.iaload, 1) := by decide +kernel
theorem dn_X4_isAgain_36 : decode cn_X4_isAgain 36 = .ok (.aload_n 0, 1) := by decide +kernel
theorem dn_X4_isAgain_37 : decode cn_X4_isAgain 37 = .ok (.getfield 75, 3) := by decide +kernel
theorem dn_X4_isAgain_40 : decode cn_X4_isAgain 40 = .ok (.iload_n 1, 1) := by decide +kernel
theorem dn_X4_isAgain_41 : decode cn_X4_isAgain 41 = .ok (.iload 5, 2) := by decide +kernel
theorem dn_X4_isAgain_43 : decode cn_X4_isAgain 43 = .ok (.iadd, 1) := by decide +kernel
theorem dn_X4_isAgain_44 : decode cn_X4_isAgain 44 = .ok (.iload_n 3, 1) := by decide +kernel
theorem dn_X4_isAgain_45 : decode cn_X4_isAgain 45 = .ok (.isub, 1) := by decide +kernel
theorem dn_X4_isAgain_46 : decode cn_X4_isAgain 46 = .ok (.iaload, 1) := by decide +kernel
theorem dn_X4_isAgain_47 : decode cn_X4_isAgain 47 = .ok (.if_icmp .ne 7, 3) := by decide +kernel
theorem dn_X4_isAgain_50 : decode cn_X4_isAgain 50 = .ok (.iconst 1, 1) := by decide +kernel
theorem dn_X4_isAgain_51 : decode cn_X4_isAgain 51 = .ok (.goto 4, 3) := by decide +kernel
theorem dn_X4_isAgain_54 : decode cn_X4_isAgain 54 = .ok (.iconst 0, 1) := by decide +kernel
theorem dn_X4_isAgain_55 : decode cn_X4_isAgain 55 = .ok (.istore 4, 2) := by decide +kernel
theorem dn_X4_isAgain_57 : decode cn_X4_isAgain 57 = .ok (.iinc 5 1, 3) := by decide +kernel
theorem dn_X4_isAgain_60 : decode cn_X4_isAgain 60 = .ok (.goto (-44), 3) := by decide +kernel
theorem dn_X4_isAgain_63 : decode cn_X4_isAgain 63 = .ok (.iload 4, 2) := by decide +kernel
theorem dn_X4_isAgain_65 : decode cn_X4_isAgain 65 = .ok (.ireturn, 1) := by decide +kernel
theorem dn_X4_findWay_0 : decode cn_X4_findWay 0 = .ok (.bipush 41, 2) := by decide +kernel
theorem dn_X4_findWay_2 : decode cn_X4_findWay 2 = .ok (.iload_n 1, 1) := by decide +kernel
theorem dn_X4_findWay_3 : decode cn_X4_findWay 3 = .ok (.imul, 1) := by decide +kernel
theorem dn_X4_findWay_4 : decode cn_X4_findWay 4 = .ok (.iload_n 2, 1) := by decide +kernel
theorem dn_X4_findWay_5 : decode cn_X4_findWay 5 = .ok (.iadd, 1) := by decide +kernel
theorem dn_X4_findWay_6 : decode cn_X4_findWay 6 = .ok (.istore_n 3, 1) := by decide +kernel
theorem dn_X4_findWay_7 : decode cn_X4_findWay 7 = .ok (.aload_n 0, 1) := by decide +kernel
theorem dn_X4_findWay_8 : decode cn_X4_findWay 8 = .ok (.getfield 78, 3) := by decide +kernel
theorem dn_X4_findWay_11 : decode cn_X4_findWay 11 = .ok (.iload_n 3, 1) := by decide +kernel
theorem dn_X4_findWay_12 : decode cn_X4_findWay 12 = .ok (.iload_n 2, 1) := by decide +kernel
theorem dn_X4_findWay_13 : decode cn_X4_findWay 13 = .ok (.iconst 1, 1) := by decide +kernel
theorem dn_X4_findWay_14 : decode cn_X4_findWay 14 = .ok (.if_icmp .ne 7, 3) := by decide +kernel
theorem dn_X4_findWay_17 : decode cn_X4_findWay 17 = .ok (.iconst 1, 1) := by decide +kernel
theorem dn_X4_findWay_18 : decode cn_X4_findWay 18 = .ok (.goto 6, 3) := by decide +kernel
theorem dn_X4_findWay_21 : decode cn_X4_findWay 21 = .ok (.sipush 1000, 3) := by decide +kernel
theorem dn_X4_findWay_24 : decode cn_X4_findWay 24 = .ok (.iastore, 1) := by decide +kernel
theorem dn_X4_findWay_25 : decode cn_X4_findWay 25 = .ok (.aload_n 0, 1) := by decide +kernel
theorem dn_X4_findWay_26 : decode cn_X4_findWay 26 = .ok (.getfield 81, 3) := by decide +kernel
theorem dn_X4_findWay_29 : decode cn_X4_findWay 29 = .ok (.iload_n 3, 1) := by decide +kernel
theorem dn_X4_findWay_30 : decode cn_X4_findWay 30 = .ok (.iconst 0, 1) := by decide +kernel
theorem dn_X4_findWay_31 : decode cn_X4_findWay 31 = .ok (.iastore, 1) := by decide +kernel
theorem dn_X4_findWay_32 : decode cn_X4_findWay 32 = .ok (.aload_n 0, 1) := by decide +kernel
theorem dn_X4_findWay_33 : decode cn_X4_findWay 33 = .ok (.getfield 84, 3) := by decide +kernel
theorem dn_X4_findWay_36 : decode cn_X4_findWay 36 = .ok (.iload_n 3, 1) := by decide +kernel
theorem dn_X4_findWay_37 : decode cn_X4_findWay 37 = .ok (.iconst 0, 1) := by decide +kernel
theorem dn_X4_findWay_38 : decode cn_X4_findWay 38 = .ok (.iastore, 1) := by decide +kernel
theorem dn_X4_findWay_39 : decode cn_X4_findWay 39 = .ok (.iconst 1, 1) := by decide +kernel
theorem dn_X4_findWay_40 : decode cn_X4_findWay 40 = .ok (.istore 4, 2) := by decide +kernel
theorem dn_X4_findWay_42 : decode cn_X4_findWay 42 = .ok (.iconst 2, 1) := by decide +kernel
theorem dn_X4_findWay_43 : decode cn_X4_findWay 43 = .ok (.iload 4, 2) := by decide +kernel
theorem dn_X4_findWay_45 : decode cn_X4_findWay 45 = .ok (.imul, 1) := by decide +kernel
theorem dn_X4_findWay_46 : decode cn_X4_findWay 46 = .ok (.iload_n 2, 1) := by decide +kernel
theorem dn_X4_findWay_47 : decode cn_X4_findWay 47 = .ok (.if_icmp .gt 67, 3) := by decide +kernel
theorem dn_X4_findWay_50 : decode cn_X4_findWay 50 = .ok (.aload_n 0, 1) := by decide +kernel
theorem dn_X4_findWay_51 : decode cn_X4_findWay 51 = .ok (.iload_n 1, 1) := by decide +kernel
theorem dn_X4_findWay_52 : decode cn_X4_findWay 52 = .ok (.iload_n 2, 1) := by decide +kernel
theorem dn_X4_findWay_53 : decode cn_X4_findWay 53 = .ok (.iload 4, 2) := by decide +kernel
theorem dn_X4_findWay_55 : decode cn_X4_findWay 55 = .ok (.invokevirtual 200, 3) := by decide +kernel
theorem dn_X4_findWay_58 : decode cn_X4_findWay 58 = .ok (.ifCond .eq 50, 3) := by decide +kernel
theorem dn_X4_findWay_61 : decode cn_X4_findWay 61 = .ok (.aload_n 0, 1) := by decide +kernel
theorem dn_X4_findWay_62 : decode cn_X4_findWay 62 = .ok (.getfield 78, 3) := by decide +kernel
theorem dn_X4_findWay_65 : decode cn_X4_findWay 65 = .ok (.bipush 41, 2) := by decide +kernel
theorem dn_X4_findWay_67 : decode cn_X4_findWay 67 = .ok (.iload_n 1, 1) := by decide +kernel
theorem dn_X4_findWay_68 : decode cn_X4_findWay 68 = .ok (.imul, 1) := by decide +kernel
theorem dn_X4_findWay_69 : decode cn_X4_findWay 69 = .ok (.iload 4, 2) := by decide +kernel
theorem dn_X4_findWay_71 : decode cn_X4_findWay 71 = .ok (.iadd, 1) := by decide +kernel
theorem dn_X4_findWay_72 : decode cn_X4_findWay 72 = .ok (.iaload, 1) := by decide +kernel
theorem dn_X4_findWay_73 : decode cn_X4_findWay 73 = .ok (.aload_n 0, 1) := by decide +kernel
theorem dn_X4_findWay_74 : decode cn_X4_findWay 74 = .ok (.getfield 78, 3) := by decide +kernel
theorem dn_X4_findWay_77 : decode cn_X4_findWay 77 = .ok (.iload_n 3, 1) := by decide +kernel
theorem dn_X4_findWay_78 : decode cn_X4_findWay 78 = .ok (.iaload, 1) := by decide +kernel
theorem dn_X4_findWay_79 : decode cn_X4_findWay 79 = .ok (.if_icmp .ge 29, 3) := by decide +kernel
theorem dn_X4_findWay_82 : decode cn_X4_findWay 82 = .ok (.aload_n 0, 1) := by decide +kernel
theorem dn_X4_findWay_83 : decode cn_X4_findWay 83 = .ok (.getfield 78, 3) := by decide +kernel
theorem dn_X4_findWay_86 : decode cn_X4_findWay 86 = .ok (.iload_n 3, 1) := by decide +kernel
theorem dn_X4_findWay_87 : decode cn_X4_findWay 87 = .ok (.aload_n 0, 1) := by decide +kernel
theorem dn_X4_findWay_88 : decode cn_X4_findWay 88 = .ok (.getfield 78, 3) := by decide +kernel
theorem dn_X4_findWay_91 : decode cn_X4_findWay 91 = .ok (.bipush 41, 2) := by decide +kernel
theorem dn_X4_findWay_93 : decode cn_X4_findWay 93 = .ok (.iload_n 1, 1) := by decide +kernel
theorem dn_X4_findWay_94 : decode cn_X4_findWay 94 = .ok (.imul, 1) := by decide +kernel
theorem dn_X4_findWay_95 : decode cn_X4_findWay 95 = .ok (.iload 4, 2) := by decide +kernel
theorem dn_X4_findWay_97 : decode cn_X4_findWay 97 = .ok (.iadd, 1) := by decide +kernel
theorem dn_X4_findWay_98 : decode cn_X4_findWay 98 = .ok (.iaload, 1) := by decide +kernel
theorem dn_X4_findWay_99 : decode cn_X4_findWay 99 = .ok (.iastore, 1) := by decide +kernel
theorem dn_X4_findWay_100 : decode cn_X4_findWay 100 = .ok (.aload_n 0, 1) := by decide +kernel
theorem dn_X4_findWay_101 : decode cn_X4_findWay 101 = .ok (.getfield 81, 3) := by decide +kernel
theorem dn_X4_findWay_104 : decode cn_X4_findWay 104 = .ok (.iload_n 3, 1) := by decide +kernel
theorem dn_X4_findWay_105 : decode cn_X4_findWay 105 = .ok (.iload 4, 2) := by decide +kernel
theorem dn_X4_findWay_107 : decode cn_X4_findWay 107 = .ok (.iastore, 1) := by decide +kernel
theorem dn_X4_findWay_108 : decode cn_X4_findWay 108 = .ok (.iinc 4 1, 3) := by decide +kernel
theorem dn_X4_findWay_111 : decode cn_X4_findWay 111 = .ok (.goto (-69), 3) := by decide +kernel
theorem dn_X4_findWay_114 : decode cn_X4_findWay 114 = .ok (.iconst 1, 1) := by decide +kernel
theorem dn_X4_findWay_115 : decode cn_X4_findWay 115 = .ok (.istore 4, 2) := by decide +kernel
theorem dn_X4_findWay_117 : decode cn_X4_findWay 117 = .ok (.iload 4, 2) := by decide +kernel
theorem dn_X4_findWay_119 : decode cn_X4_findWay 119 = .ok (.iload_n 2, 1) := by decide +kernel
theorem dn_X4_findWay_120 : decode cn_X4_findWay 120 = .ok (.if_icmp .ge 75, 3) := by decide +kernel
theorem dn_X4_findWay_123 : decode cn_X4_findWay 123 = .ok (.aload_n 0, 1) := by decide +kernel
theorem dn_X4_findWay_124 : decode cn_X4_findWay 124 = .ok (.getfield 78, 3) := by decide +kernel
theorem dn_X4_findWay_127 : decode cn_X4_findWay 127 = .ok (.bipush 41, 2) := by decide +kernel
theorem dn_X4_findWay_129 : decode cn_X4_findWay 129 = .ok (.iload_n 1, 1) := by decide +kernel
theorem dn_X4_findWay_130 : decode cn_X4_findWay 130 = .ok (.imul, 1) := by decide +kernel
theorem dn_X4_findWay_131 : decode cn_X4_findWay 131 = .ok (.iload 4, 2) := by decide +kernel
theorem dn_X4_findWay_133 : decode cn_X4_findWay 133 = .ok (.iadd, 1) := by decide +kernel
theorem dn_X4_findWay_134 : decode cn_X4_findWay 134 = .ok (.iaload, 1) := by decide +kernel
theorem dn_X4_findWay_135 : decode cn_X4_findWay 135 = .ok (.aload_n 0, 1) := by decide +kernel
theorem dn_X4_findWay_136 : decode cn_X4_findWay 136 = .ok (.getfield 78, 3) := by decide +kernel
theorem dn_X4_findWay_139 : decode cn_X4_findWay 139 = .ok (.bipush 41, 2) := by decide +kernel
theorem dn_X4_findWay_141 : decode cn_X4_findWay 141 = .ok (.iload_n 1, 1) := by decide +kernel
theorem dn_X4_findWay_142 : decode cn_X4_findWay 142 = .ok (.iload 4, 2) := by decide +kernel
theorem dn_X4_findWay_144 : decode cn_X4_findWay 144 = .ok (.iadd, 1) := by decide +kernel
theorem dn_X4_findWay_145 : decode cn_X4_findWay 145 = .ok (.imul, 1) := by decide +kernel
theorem dn_X4_findWay_146 : decode cn_X4_findWay 146 = .ok (.iload_n 2, 1) := by decide +kernel
theorem dn_X4_findWay_147 : decode cn_X4_findWay 147 = .ok (.iadd, 1) := by decide +kernel
theorem dn_X4_findWay_148 : decode cn_X4_findWay 148 = .ok (.iload 4, 2) := by decide +kernel
theorem dn_X4_findWay_150 : decode cn_X4_findWay 150 = .ok (.isub, 1) := by decide +kernel
theorem dn_X4_findWay_151 : decode cn_X4_findWay 151 = .ok (.iaload, 1) := by decide +kernel
theorem dn_X4_findWay_152 : decode cn_X4_findWay 152 = .ok (.iadd, 1) := by decide +kernel
theorem dn_X4_findWay_153 : decode cn_X4_findWay 153 = .ok (.istore 5, 2) := by decide +kernel
theorem dn_X4_findWay_155 : decode cn_X4_findWay 155 = .ok (.iload 5, 2) := by decide +kernel
theorem dn_X4_findWay_157 : decode cn_X4_findWay 157 = .ok (.aload_n 0, 1) := by decide +kernel
theorem dn_X4_findWay_158 : decode cn_X4_findWay 158 = .ok (.getfield 78, 3) := by decide +kernel
theorem dn_X4_findWay_161 : decode cn_X4_findWay 161 = .ok (.iload_n 3, 1) := by decide +kernel
theorem dn_X4_findWay_162 : decode cn_X4_findWay 162 = .ok (.iaload, 1) := by decide +kernel
theorem dn_X4_findWay_163 : decode cn_X4_findWay 163 = .ok (.if_icmp .ge 26, 3) := by decide +kernel
theorem dn_X4_findWay_166 : decode cn_X4_findWay 166 = .ok (.aload_n 0, 1) := by decide +kernel
theorem dn_X4_findWay_167 : decode cn_X4_findWay 167 = .ok (.getfield 78, 3) := by decide +kernel
theorem dn_X4_findWay_170 : decode cn_X4_findWay 170 = .ok (.iload_n 3, 1) := by decide +kernel
theorem dn_X4_findWay_171 : decode cn_X4_findWay 171 = .ok (.iload 5, 2) := by decide +kernel
theorem dn_X4_findWay_173 : decode cn_X4_findWay 173 = .ok (.iastore, 1) := by decide +kernel
theorem dn_X4_findWay_174 : decode cn_X4_findWay 174 = .ok (.aload_n 0, 1) := by decide +kernel
theorem dn_X4_findWay_175 : decode cn_X4_findWay 175 = .ok (.getfield 81, 3) := by decide +kernel
theorem dn_X4_findWay_178 : decode cn_X4_findWay 178 = .ok (.iload_n 3, 1) := by decide +kernel
theorem dn_X4_findWay_179 : decode cn_X4_findWay 179 = .ok (.iconst 0, 1) := by decide +kernel
theorem dn_X4_findWay_180 : decode cn_X4_findWay 180 = .ok (.iastore, 1) := by decide +kernel
theorem dn_X4_findWay_181 : decode cn_X4_findWay 181 = .ok (.aload_n 0, 1) := by decide +kernel
theorem dn_X4_findWay_182 : decode cn_X4_findWay 182 = .ok (.getfield 84, 3) := by decide +kernel
theorem dn_X4_findWay_185 : decode cn_X4_findWay 185 = .ok (.iload_n 3, 1) := by decide +kernel
theorem dn_X4_findWay_186 : decode cn_X4_findWay 186 = .ok (.iload 4, 2) := by decide +kernel
theorem dn_X4_findWay_188 : decode cn_X4_findWay 188 = .ok (.iastore, 1) := by decide +kernel
theorem dn_X4_findWay_189 : decode cn_X4_findWay 189 = .ok (.iinc 4 1, 3) := by decide +kernel
theorem dn_X4_findWay_192 : decode cn_X4_findWay 192 = .ok (.goto (-75), 3) := by decide +kernel
theorem dn_X4_findWay_195 : decode cn_X4_findWay 195 = .ok (.return_, 1) := by decide +kernel
theorem dn_X4_item_0 : decode cn_X4_item 0 = .ok (.aload_n 0, 1) := by decide +kernel
theorem dn_X4_item_1 : decode cn_X4_item 1 = .ok (.getfield 87, 3) := by decide +kernel
theorem dn_X4_item_4 : decode cn_X4_item 4 = .ok (.aload_n 0, 1) := by decide +kernel
theorem dn_X4_item_5 : decode cn_X4_item 5 = .ok (.getfield 191, 3) := by decide +kernel
theorem dn_X4_item_8 : decode cn_X4_item 8 = .ok (.iload_n 1, 1) := by decide +kernel
theorem dn_X4_item_9 : decode cn_X4_item 9 = .ok (.iastore, 1) := by decide +kernel
theorem dn_X4_item_10 : decode cn_X4_item 10 = .ok (.aload_n 0, 1) := by decide +kernel
theorem dn_X4_item_11 : decode cn_X4_item 11 = .ok (.getfield 90, 3) := by decide +kernel
theorem dn_X4_item_14 : decode cn_X4_item 14 = .ok (.aload_n 0, 1) := by decide +kernel
theorem dn_X4_item_15 : decode cn_X4_item 15 = .ok (.getfield 191, 3) := by decide +kernel
theorem dn_X4_item_18 : decode cn_X4_item 18 = .ok (.iload_n 2, 1) := by decide +kernel
theorem dn_X4_item_19 : decode cn_X4_item 19 = .ok (.iastore, 1) := by decide +kernel
theorem dn_X4_item_20 : decode cn_X4_item 20 = .ok (.aload_n 0, 1) := by decide +kernel
theorem dn_X4_item_21 : decode cn_X4_item 21 = .ok (.dup, 1) := by decide +kernel
theorem dn_X4_item_22 : decode cn_X4_item 22 = .ok (.getfield 191, 3) := by decide +kernel
theorem dn_X4_item_25 : decode cn_X4_item 25 = .ok (.iconst 1, 1) := by decide +kernel
theorem dn_X4_item_26 : decode cn_X4_item 26 = .ok (.iadd, 1) := by decide +kernel
theorem dn_X4_item_27 : decode cn_X4_item 27 = .ok (.putfield 191, 3) := by decide +kernel
theorem dn_X4_item_30 : decode cn_X4_item 30 = .ok (.return_, 1) := by decide +kernel
theorem dn_X4_write_0 : decode cn_X4_write 0 = .ok (.iconst 1, 1) := by decide +kernel
theorem dn_X4_write_1 : decode cn_X4_write 1 = .ok (.istore_n 2, 1) := by decide +kernel
theorem dn_X4_write_2 : decode cn_X4_write 2 = .ok (.aload_n 0, 1) := by decide +kernel
theorem dn_X4_write_3 : decode cn_X4_write 3 = .ok (.getfield 93, 3) := by decide +kernel
theorem dn_X4_write_6 : decode cn_X4_write 6 = .ok (.iconst 0, 1) := by decide +kernel
theorem dn_X4_write_7 : decode cn_X4_write 7 = .ok (.iconst 0, 1) := by decide +kernel
theorem dn_X4_write_8 : decode cn_X4_write 8 = .ok (.iastore, 1) := by decide +kernel
theorem dn_X4_write_9 : decode cn_X4_write 9 = .ok (.aload_n 0, 1) := by decide +kernel
theorem dn_X4_write_10 : decode cn_X4_write 10 = .ok (.getfield 96, 3) := by decide +kernel
theorem dn_X4_write_13 : decode cn_X4_write 13 = .ok (.iconst 0, 1) := by decide +kernel
theorem dn_X4_write_14 : decode cn_X4_write 14 = .ok (.iload_n 1, 1) := by decide +kernel
theorem dn_X4_write_15 : decode cn_X4_write 15 = .ok (.iastore, 1) := by decide +kernel
theorem dn_X4_write_16 : decode cn_X4_write 16 = .ok (.iload_n 2, 1) := by decide +kernel
theorem dn_X4_write_17 : decode cn_X4_write 17 = .ok (.ifCond .le 204, 3) := by decide +kernel
theorem dn_X4_write_20 : decode cn_X4_write 20 = .ok (.iinc 2 (-1), 3) := by decide +kernel
theorem dn_X4_write_23 : decode cn_X4_write 23 = .ok (.aload_n 0, 1) := by decide +kernel
theorem dn_X4_write_24 : decode cn_X4_write 24 = .ok (.getfield 93, 3) := by decide +kernel
theorem dn_X4_write_27 : decode cn_X4_write 27 = .ok (.iload_n 2, 1) := by decide +kernel
theorem dn_X4_write_28 : decode cn_X4_write 28 = .ok (.iaload, 1) := by decide +kernel
theorem dn_X4_write_29 : decode cn_X4_write 29 = .ok (.istore_n 3, 1) := by decide +kernel
theorem dn_X4_write_30 : decode cn_X4_write 30 = .ok (.aload_n 0, 1) := by decide +kernel
theorem dn_X4_write_31 : decode cn_X4_write 31 = .ok (.getfield 96, 3) := by decide +kernel
theorem dn_X4_write_34 : decode cn_X4_write 34 = .ok (.iload_n 2, 1) := by decide +kernel
theorem dn_X4_write_35 : decode cn_X4_write 35 = .ok (.iaload, 1) := by decide +kernel
theorem dn_X4_write_36 : decode cn_X4_write 36 = .ok (.istore 4, 2) := by decide +kernel
theorem dn_X4_write_38 : decode cn_X4_write 38 = .ok (.bipush 41, 2) := by decide +kernel
theorem dn_X4_write_40 : decode cn_X4_write 40 = .ok (.iload_n 3, 1) := by decide +kernel
theorem dn_X4_write_41 : decode cn_X4_write 41 = .ok (.imul, 1) := by decide +kernel
theorem dn_X4_write_42 : decode cn_X4_write 42 = .ok (.iload 4, 2) := by decide +kernel
theorem dn_X4_write_44 : decode cn_X4_write 44 = .ok (.iadd, 1) := by decide +kernel
theorem dn_X4_write_45 : decode cn_X4_write 45 = .ok (.istore 5, 2) := by decide +kernel
theorem dn_X4_write_47 : decode cn_X4_write 47 = .ok (.iload 4, 2) := by decide +kernel
theorem dn_X4_write_49 : decode cn_X4_write 49 = .ok (.ifCond .ne 12, 3) := by decide +kernel
theorem dn_X4_write_52 : decode cn_X4_write 52 = .ok (.aload_n 0, 1) := by decide +kernel
theorem dn_X4_write_53 : decode cn_X4_write 53 = .ok (.iconst 2, 1) := by decide +kernel
theorem dn_X4_write_54 : decode cn_X4_write 54 = .ok (.iconst 0, 1) := by decide +kernel
theorem dn_X4_write_55 : decode cn_X4_write 55 = .ok (.invokevirtual 203, 3) := by decide +kernel
theorem dn_X4_write_58 : decode cn_X4_write 58 = .ok (.goto 160, 3) := by decide +kernel
theorem dn_X4_write_61 : decode cn_X4_write 61 = .ok (.iload 4, 2) := by decide +kernel
theorem dn_X4_write_63 : decode cn_X4_write 63 = .ok (.iconst 1, 1) := by decide +kernel
theorem dn_X4_write_64 : decode cn_X4_write 64 = .ok (.if_icmp .ne 27, 3) := by decide +kernel
theorem dn_X4_write_67 : decode cn_X4_write 67 = .ok (.aload_n 0, 1) := by decide +kernel
theorem dn_X4_write_68 : decode cn_X4_write 68 = .ok (.iconst 0, 1) := by decide +kernel
theorem dn_X4_write_69 : decode cn_X4_write 69 = .ok (.aload_n 0, 1) := by decide +kernel
theorem dn_X4_write_70 : decode cn_X4_write 70 = .ok (.getfield 75, 3) := by decide +kernel
theorem dn_X4_write_73 : decode cn_X4_write 73 = .ok (.iload_n 3, 1) := by decide +kernel
theorem dn_X4_write_74 : decode cn_X4_write 74 = .ok (.iaload, 1) := by decide +kernel
theorem dn_X4_write_75 : decode cn_X4_write 75 = .ok (.invokevirtual 203, 3) := by decide +kernel
theorem dn_X4_write_78 : decode cn_X4_write 78 = .ok (.aload_n 0, 1) := by decide +kernel
theorem dn_X4_write_79 : decode cn_X4_write 79 = .ok (.dup, 1) := by decide +kernel
theorem dn_X4_write_80 : decode cn_X4_write 80 = .ok (.getfield 194, 3) := by decide +kernel
theorem dn_X4_write_83 : decode cn_X4_write 83 = .ok (.iconst 1, 1) := by decide +kernel
theorem dn_X4_write_84 : decode cn_X4_write 84 = .ok (.iadd, 1) := by decide +kernel
theorem dn_X4_write_85 : decode cn_X4_write 85 = .ok (.putfield 194, 3) := by decide +kernel
theorem dn_X4_write_88 : decode cn_X4_write 88 = .ok (.goto 130, 3) := by decide +kernel
theorem dn_X4_write_91 : decode cn_X4_write 91 = .ok (.aload_n 0, 1) := by decide +kernel
theorem dn_X4_write_92 : decode cn_X4_write 92 = .ok (.getfield 81, 3) := by decide +kernel
theorem dn_X4_write_95 : decode cn_X4_write 95 = .ok (.iload 5, 2) := by decide +kernel
theorem dn_X4_write_97 : decode cn_X4_write 97 = .ok (.iaload, 1) := by decide +kernel
theorem dn_X4_write_98 : decode cn_X4_write 98 = .ok (.ifCond .le 62, 3) := by decide +kernel
theorem dn_X4_write_101 : decode cn_X4_write 101 = .ok (.aload_n 0, 1) := by decide +kernel
theorem dn_X4_write_102 : decode cn_X4_write 102 = .ok (.iconst 1, 1) := by decide +kernel
theorem dn_X4_write_103 : decode cn_X4_write 103 = .ok (.iload 4, 2) := by decide +kernel
theorem dn_X4_write_105 : decode cn_X4_write 105 = .ok (.aload_n 0, 1) := by decide +kernel
theorem dn_X4_write_106 : decode cn_X4_write 106 = .ok (.getfield 81, 3) := by decide +kernel
theorem dn_X4_write_109 : decode cn_X4_write 109 = .ok (.iload 5, 2) := by decide +kernel
theorem dn_X4_write_111 : decode cn_X4_write 111 = .ok (.iaload, 1) := by decide +kernel
theorem dn_X4_write_112 : decode cn_X4_write 112 = .ok (.idiv, 1) := by decide +kernel
theorem dn_X4_write_113 : decode cn_X4_write 113 = .ok (.invokevirtual 203, 3) := by decide +kernel
theorem dn_X4_write_116 : decode cn_X4_write 116 = .ok (.aload_n 0, 1) := by decide +kernel
theorem dn_X4_write_117 : decode cn_X4_write 117 = .ok (.getfield 93, 3) := by decide +kernel
theorem dn_X4_write_120 : decode cn_X4_write 120 = .ok (.iload_n 2, 1) := by decide +kernel
theorem dn_X4_write_121 : decode cn_X4_write 121 = .ok (.iload_n 3, 1) := by decide +kernel
theorem dn_X4_write_122 : decode cn_X4_write 122 = .ok (.iastore, 1) := by decide +kernel
theorem dn_X4_write_123 : decode cn_X4_write 123 = .ok (.aload_n 0, 1) := by decide +kernel
theorem dn_X4_write_124 : decode cn_X4_write 124 = .ok (.getfield 96, 3) := by decide +kernel
theorem dn_X4_write_127 : decode cn_X4_write 127 = .ok (.iload_n 2, 1) := by decide +kernel
theorem dn_X4_write_128 : decode cn_X4_write 128 = .ok (.iconst 0, 1) := by decide +kernel
theorem dn_X4_write_129 : decode cn_X4_write 129 = .ok (.iastore, 1) := by decide +kernel
theorem dn_X4_write_130 : decode cn_X4_write 130 = .ok (.aload_n 0, 1) := by decide +kernel
theorem dn_X4_write_131 : decode cn_X4_write 131 = .ok (.getfield 93, 3) := by decide +kernel
theorem dn_X4_write_134 : decode cn_X4_write 134 = .ok (.iload_n 2, 1) := by decide +kernel
theorem dn_X4_write_135 : decode cn_X4_write 135 = .ok (.iconst 1, 1) := by decide +kernel
theorem dn_X4_write_136 : decode cn_X4_write 136 = .ok (.iadd, 1) := by decide +kernel
theorem dn_X4_write_137 : decode cn_X4_write 137 = .ok (.iload_n 3, 1) := by decide +kernel
theorem dn_X4_write_138 : decode cn_X4_write 138 = .ok (.iastore, 1) := by decide +kernel
theorem dn_X4_write_139 : decode cn_X4_write 139 = .ok (.aload_n 0, 1) := by decide +kernel
theorem dn_X4_write_140 : decode cn_X4_write 140 = .ok (.getfield 96, 3) := by decide +kernel
theorem dn_X4_write_143 : decode cn_X4_write 143 = .ok (.iload_n 2, 1) := by decide +kernel
theorem dn_X4_write_144 : decode cn_X4_write 144 = .ok (.iconst 1, 1) := by decide +kernel
theorem dn_X4_write_145 : decode cn_X4_write 145 = .ok (.iadd, 1) := by decide +kernel
theorem dn_X4_write_146 : decode cn_X4_write 146 = .ok (.aload_n 0, 1) := by decide +kernel
theorem dn_X4_write_147 : decode cn_X4_write 147 = .ok (.getfield 81, 3) := by decide +kernel
theorem dn_X4_write_150 : decode cn_X4_write 150 = .ok (.iload 5, 2) := by decide +kernel
theorem dn_X4_write_152 : decode cn_X4_write 152 = .ok (.iaload, 1) := by decide +kernel
theorem dn_X4_write_153 : decode cn_X4_write 153 = .ok (.iastore, 1) := by decide +kernel
theorem dn_X4_write_154 : decode cn_X4_write 154 = .ok (.iinc 2 2, 3) := by decide +kernel
theorem dn_X4_write_157 : decode cn_X4_write 157 = .ok (.goto 61, 3) := by decide +kernel
theorem dn_X4_write_160 : decode cn_X4_write 160 = .ok (.aload_n 0, 1) := by decide +kernel
theorem dn_X4_write_161 : decode cn_X4_write 161 = .ok (.getfield 93, 3) := by decide +kernel
theorem dn_X4_write_164 : decode cn_X4_write 164 = .ok (.iload_n 2, 1) := by decide +kernel
theorem dn_X4_write_165 : decode cn_X4_write 165 = .ok (.iload_n 3, 1) := by decide +kernel
theorem dn_X4_write_166 : decode cn_X4_write 166 = .ok (.aload_n 0, 1) := by decide +kernel
theorem dn_X4_write_167 : decode cn_X4_write 167 = .ok (.getfield 84, 3) := by decide +kernel
theorem dn_X4_write_170 : decode cn_X4_write 170 = .ok (.iload 5, 2) := by decide +kernel
theorem dn_X4_write_172 : decode cn_X4_write 172 = .ok (.iaload, 1) := by decide +kernel
theorem dn_X4_write_173 : decode cn_X4_write 173 = .ok (.iadd, 1) := by decide +kernel
theorem dn_X4_write_174 : decode cn_X4_write 174 = .ok (.iastore, 1) := by decide +kernel
theorem dn_X4_write_175 : decode cn_X4_write 175 = .ok (.aload_n 0, 1) := by decide +kernel
theorem dn_X4_write_176 : decode cn_X4_write 176 = .ok (.getfield 96, 3) := by decide +kernel
theorem dn_X4_write_179 : decode cn_X4_write 179 = .ok (.iload_n 2, 1) := by decide +kernel
theorem dn_X4_write_180 : decode cn_X4_write 180 = .ok (.iload 4, 2) := by decide +kernel
theorem dn_X4_write_182 : decode cn_X4_write 182 = .ok (.aload_n 0, 1) := by decide +kernel
theorem dn_X4_write_183 : decode cn_X4_write 183 = .ok (.getfield 84, 3) := by decide +kernel
theorem dn_X4_write_186 : decode cn_X4_write 186 = .ok (.iload 5, 2) := by decide +kernel
theorem dn_X4_write_188 : decode cn_X4_write 188 = .ok (.iaload, 1) := by decide +kernel
theorem dn_X4_write_189 : decode cn_X4_write 189 = .ok (.isub, 1) := by decide +kernel
theorem dn_X4_write_190 : decode cn_X4_write 190 = .ok (.iastore, 1) := by decide +kernel
theorem dn_X4_write_191 : decode cn_X4_write 191 = .ok (.aload_n 0, 1) := by decide +kernel
theorem dn_X4_write_192 : decode cn_X4_write 192 = .ok (.getfield 93, 3) := by decide +kernel
theorem dn_X4_write_195 : decode cn_X4_write 195 = .ok (.iload_n 2, 1) := by decide +kernel
theorem dn_X4_write_196 : decode cn_X4_write 196 = .ok (.iconst 1, 1) := by decide +kernel
theorem dn_X4_write_197 : decode cn_X4_write 197 = .ok (.iadd, 1) := by decide +kernel
theorem dn_X4_write_198 : decode cn_X4_write 198 = .ok (.iload_n 3, 1) := by decide +kernel
theorem dn_X4_write_199 : decode cn_X4_write 199 = .ok (.iastore, 1) := by decide +kernel
theorem dn_X4_write_200 : decode cn_X4_write 200 = .ok (.aload_n 0, 1) := by decide +kernel
theorem dn_X4_write_201 : decode cn_X4_write 201 = .ok (.getfield 96, 3) := by decide +kernel
theorem dn_X4_write_204 : decode cn_X4_write 204 = .ok (.iload_n 2, 1) := by decide +kernel
theorem dn_X4_write_205 : decode cn_X4_write 205 = .ok (.iconst 1, 1) := by decide +kernel
theorem dn_X4_write_206 : decode cn_X4_write 206 = .ok (.iadd, 1) := by decide +kernel
theorem dn_X4_write_207 : decode cn_X4_write 207 = .ok (.aload_n 0, 1) := by decide +kernel
theorem dn_X4_write_208 : decode cn_X4_write 208 = .ok (.getfield 84, 3) := by decide +kernel
theorem dn_X4_write_211 : decode cn_X4_write 211 = .ok (.iload 5, 2) := by decide +kernel
theorem dn_X4_write_213 : decode cn_X4_write 213 = .ok (.iaload, 1) := by decide +kernel
theorem dn_X4_write_214 : decode cn_X4_write 214 = .ok (.iastore, 1) := by decide +kernel
theorem dn_X4_write_215 : decode cn_X4_write 215 = .ok (.iinc 2 2, 3) := by decide +kernel
theorem dn_X4_write_218 : decode cn_X4_write 218 = .ok (.goto (-202), 3) := by decide +kernel
theorem dn_X4_write_221 : decode cn_X4_write 221 = .ok (.return_, 1) := by decide +kernel
theorem dn_X4_folded_0 : decode cn_X4_folded 0 = .ok (.aload_n 0, 1) := by decide +kernel
theorem dn_X4_folded_1 : decode cn_X4_folded 1 = .ok (.iload_n 1, 1) := by decide +kernel
theorem dn_X4_folded_2 : decode cn_X4_folded 2 = .ok (.ifCond .lt 11, 3) := by decide +kernel
theorem dn_X4_folded_5 : decode cn_X4_folded 5 = .ok (.iload_n 1, 1) := by decide +kernel
theorem dn_X4_folded_6 : decode cn_X4_folded 6 = .ok (.aload_n 0, 1) := by decide +kernel
theorem dn_X4_folded_7 : decode cn_X4_folded 7 = .ok (.getfield 191, 3) := by decide +kernel
theorem dn_X4_folded_10 : decode cn_X4_folded 10 = .ok (.if_icmp .lt 7, 3) := by decide +kernel
theorem dn_X4_folded_13 : decode cn_X4_folded 13 = .ok (.iconst 1, 1) := by decide +kernel
theorem dn_X4_folded_14 : decode cn_X4_folded 14 = .ok (.goto 4, 3) := by decide +kernel
theorem dn_X4_folded_17 : decode cn_X4_folded 17 = .ok (.iconst 0, 1) := by decide +kernel
theorem dn_X4_folded_18 : decode cn_X4_folded 18 = .ok (.iload_n 2, 1) := by decide +kernel
theorem dn_X4_folded_19 : decode cn_X4_folded 19 = .ok (.ifCond .lt 8, 3) := by decide +kernel
theorem dn_X4_folded_22 : decode cn_X4_folded 22 = .ok (.iload_n 2, 1) := by decide +kernel
theorem dn_X4_folded_23 : decode cn_X4_folded 23 = .ok (.iconst 1, 1) := by decide +kernel
theorem dn_X4_folded_24 : decode cn_X4_folded 24 = .ok (.if_icmp .le 7, 3) := by decide +kernel
theorem dn_X4_folded_27 : decode cn_X4_folded 27 = .ok (.iconst 1, 1) := by decide +kernel
theorem dn_X4_folded_28 : decode cn_X4_folded 28 = .ok (.goto 4, 3) := by decide +kernel
theorem dn_X4_folded_31 : decode cn_X4_folded 31 = .ok (.iconst 0, 1) := by decide +kernel
theorem dn_X4_folded_32 : decode cn_X4_folded 32 = .ok (.iconst 0, 1) := by decide +kernel
theorem dn_X4_folded_33 : decode cn_X4_folded 33 = .ok (.invokevirtual 105, 3) := by decide +kernel
theorem dn_X4_folded_36 : decode cn_X4_folded 36 = .ok (.ifCond .eq 5, 3) := by decide +kernel
theorem dn_X4_folded_39 : decode cn_X4_folded 39 = .ok (.iconst 0, 1) := by decide +kernel
theorem dn_X4_folded_40 : decode cn_X4_folded 40 = .ok (.ireturn, 1) := by decide +kernel
theorem dn_X4_folded_41 : decode cn_X4_folded 41 = .ok (.iload_n 2, 1) := by decide +kernel
theorem dn_X4_folded_42 : decode cn_X4_folded 42 = .ok (.ifCond .ne 12, 3) := by decide +kernel
theorem dn_X4_folded_45 : decode cn_X4_folded 45 = .ok (.aload_n 0, 1) := by decide +kernel
theorem dn_X4_folded_46 : decode cn_X4_folded 46 = .ok (.getfield 87, 3) := by decide +kernel
theorem dn_X4_folded_49 : decode cn_X4_folded 49 = .ok (.iload_n 1, 1) := by decide +kernel
theorem dn_X4_folded_50 : decode cn_X4_folded 50 = .ok (.iaload, 1) := by decide +kernel
theorem dn_X4_folded_51 : decode cn_X4_folded 51 = .ok (.goto 9, 3) := by decide +kernel
theorem dn_X4_folded_54 : decode cn_X4_folded 54 = .ok (.aload_n 0, 1) := by decide +kernel
theorem dn_X4_folded_55 : decode cn_X4_folded 55 = .ok (.getfield 90, 3) := by decide +kernel
theorem dn_X4_folded_58 : decode cn_X4_folded 58 = .ok (.iload_n 1, 1) := by decide +kernel
theorem dn_X4_folded_59 : decode cn_X4_folded 59 = .ok (.iaload, 1) := by decide +kernel
theorem dn_X4_folded_60 : decode cn_X4_folded 60 = .ok (.ireturn, 1) := by decide +kernel
theorem dn_X4_told_0 : decode cn_X4_told 0 = .ok (.aload_n 0, 1) := by decide +kernel
theorem dn_X4_told_1 : decode cn_X4_told 1 = .ok (.iload_n 1, 1) := by decide +kernel
theorem dn_X4_told_2 : decode cn_X4_told 2 = .ok (.ifCond .lt 9, 3) := by decide +kernel
theorem dn_X4_told_5 : decode cn_X4_told 5 = .ok (.iload_n 1, 1) := by decide +kernel
theorem dn_X4_told_6 : decode cn_X4_told 6 = .ok (.bipush 7, 2) := by decide +kernel
theorem dn_X4_told_8 : decode cn_X4_told 8 = .ok (.if_icmp .le 7, 3) := by decide +kernel
theorem dn_X4_told_11 : decode cn_X4_told 11 = .ok (.iconst 1, 1) := by decide +kernel
theorem dn_X4_told_12 : decode cn_X4_told 12 = .ok (.goto 4, 3) := by decide +kernel
theorem dn_X4_told_15 : decode cn_X4_told 15 = .ok (.iconst 0, 1) := by decide +kernel
theorem dn_X4_told_16 : decode cn_X4_told 16 = .ok (.iconst 0, 1) := by decide +kernel
theorem dn_X4_told_17 : decode cn_X4_told 17 = .ok (.iconst 0, 1) := by decide +kernel
theorem dn_X4_told_18 : decode cn_X4_told 18 = .ok (.invokevirtual 105, 3) := by decide +kernel
theorem dn_X4_told_21 : decode cn_X4_told 21 = .ok (.ifCond .eq 5, 3) := by decide +kernel
theorem dn_X4_told_24 : decode cn_X4_told 24 = .ok (.iconst 0, 1) := by decide +kernel
theorem dn_X4_told_25 : decode cn_X4_told 25 = .ok (.ireturn, 1) := by decide +kernel
theorem dn_X4_told_26 : decode cn_X4_told 26 = .ok (.iconst 0, 1) := by decide +kernel
theorem dn_X4_told_27 : decode cn_X4_told 27 = .ok (.istore_n 2, 1) := by decide +kernel
theorem dn_X4_told_28 : decode cn_X4_told 28 = .ok (.iconst 0, 1) := by decide +kernel
theorem dn_X4_told_29 : decode cn_X4_told 29 = .ok (.istore_n 3, 1) := by decide +kernel
theorem dn_X4_told_30 : decode cn_X4_told 30 = .ok (.iload_n 3, 1) := by decide +kernel
theorem dn_X4_told_31 : decode cn_X4_told 31 = .ok (.aload_n 0, 1) := by decide +kernel
theorem dn_X4_told_32 : decode cn_X4_told 32 = .ok (.getfield 102, 3) := by decide +kernel
theorem dn_X4_told_35 : decode cn_X4_told 35 = .ok (.if_icmp .ge 26, 3) := by decide +kernel
theorem dn_X4_told_38 : decode cn_X4_told 38 = .ok (.iload_n 2, 1) := by decide +kernel
theorem dn_X4_told_39 : decode cn_X4_told 39 = .ok (.aload_n 0, 1) := by decide +kernel
theorem dn_X4_told_40 : decode cn_X4_told 40 = .ok (.getfield 37, 3) := by decide +kernel
theorem dn_X4_told_43 : decode cn_X4_told 43 = .ok (.iload_n 3, 1) := by decide +kernel
theorem dn_X4_told_44 : decode cn_X4_told 44 = .ok (.baload, 1) := by decide +kernel
theorem dn_X4_told_45 : decode cn_X4_told 45 = .ok (.ifCond .eq 7, 3) := by decide +kernel
theorem dn_X4_told_48 : decode cn_X4_told 48 = .ok (.iconst 1, 1) := by decide +kernel
theorem dn_X4_told_49 : decode cn_X4_told 49 = .ok (.goto 4, 3) := by decide +kernel
theorem dn_X4_told_52 : decode cn_X4_told 52 = .ok (.iconst 0, 1) := by decide +kernel
theorem dn_X4_told_53 : decode cn_X4_told 53 = .ok (.iadd, 1) := by decide +kernel
theorem dn_X4_told_54 : decode cn_X4_told 54 = .ok (.istore_n 2, 1) := by decide +kernel
theorem dn_X4_told_55 : decode cn_X4_told 55 = .ok (.iinc 3 1, 3) := by decide +kernel
theorem dn_X4_told_58 : decode cn_X4_told 58 = .ok (.goto (-28), 3) := by decide +kernel
theorem dn_X4_told_61 : decode cn_X4_told 61 = .ok (.iload_n 1, 1) := by decide +kernel
theorem dn_X4_told_62 : decode cn_X4_told 62 = .ok (.ifCond .ne 10, 3) := by decide +kernel
theorem dn_X4_told_65 : decode cn_X4_told 65 = .ok (.aload_n 0, 1) := by decide +kernel
theorem dn_X4_told_66 : decode cn_X4_told 66 = .ok (.getfield 102, 3) := by decide +kernel
theorem dn_X4_told_69 : decode cn_X4_told 69 = .ok (.goto 77, 3) := by decide +kernel
theorem dn_X4_told_72 : decode cn_X4_told 72 = .ok (.iload_n 1, 1) := by decide +kernel
theorem dn_X4_told_73 : decode cn_X4_told 73 = .ok (.iconst 1, 1) := by decide +kernel
theorem dn_X4_told_74 : decode cn_X4_told 74 = .ok (.if_icmp .ne 10, 3) := by decide +kernel
theorem dn_X4_told_77 : decode cn_X4_told 77 = .ok (.aload_n 0, 1) := by decide +kernel
theorem dn_X4_told_78 : decode cn_X4_told 78 = .ok (.getfield 116, 3) := by decide +kernel
theorem dn_X4_told_81 : decode cn_X4_told 81 = .ok (.goto 65, 3) := by decide +kernel
theorem dn_X4_told_84 : decode cn_X4_told 84 = .ok (.iload_n 1, 1) := by decide +kernel
theorem dn_X4_told_85 : decode cn_X4_told 85 = .ok (.iconst 2, 1) := by decide +kernel
theorem dn_X4_told_86 : decode cn_X4_told 86 = .ok (.if_icmp .ne 10, 3) := by decide +kernel
theorem dn_X4_told_89 : decode cn_X4_told 89 = .ok (.aload_n 0, 1) := by decide +kernel
theorem dn_X4_told_90 : decode cn_X4_told 90 = .ok (.getfield 122, 3) := by decide +kernel
theorem dn_X4_told_93 : decode cn_X4_told 93 = .ok (.goto 53, 3) := by decide +kernel
theorem dn_X4_told_96 : decode cn_X4_told 96 = .ok (.iload_n 1, 1) := by decide +kernel
theorem dn_X4_told_97 : decode cn_X4_told 97 = .ok (.iconst 3, 1) := by decide +kernel
theorem dn_X4_told_98 : decode cn_X4_told 98 = .ok (.if_icmp .ne 7, 3) := by decide +kernel
theorem dn_X4_told_101 : decode cn_X4_told 101 = .ok (.iload_n 2, 1) := by decide +kernel
theorem dn_X4_told_102 : decode cn_X4_told 102 = .ok (.goto 44, 3) := by decide +kernel
theorem dn_X4_told_105 : decode cn_X4_told 105 = .ok (.iload_n 1, 1) := by decide +kernel
theorem dn_X4_told_106 : decode cn_X4_told 106 = .ok (.iconst 4, 1) := by decide +kernel
theorem dn_X4_told_107 : decode cn_X4_told 107 = .ok (.if_icmp .ne 10, 3) := by decide +kernel
theorem dn_X4_told_110 : decode cn_X4_told 110 = .ok (.aload_n 0, 1) := by decide +kernel
theorem dn_X4_told_111 : decode cn_X4_told 111 = .ok (.getfield 140, 3) := by decide +kernel
theorem dn_X4_told_114 : decode cn_X4_told 114 = .ok (.goto 32, 3) := by decide +kernel
theorem dn_X4_told_117 : decode cn_X4_told 117 = .ok (.iload_n 1, 1) := by decide +kernel
theorem dn_X4_told_118 : decode cn_X4_told 118 = .ok (.iconst 5, 1) := by decide +kernel
theorem dn_X4_told_119 : decode cn_X4_told 119 = .ok (.if_icmp .ne 10, 3) := by decide +kernel
theorem dn_X4_told_122 : decode cn_X4_told 122 = .ok (.aload_n 0, 1) := by decide +kernel
theorem dn_X4_told_123 : decode cn_X4_told 123 = .ok (.getfield 143, 3) := by decide +kernel
theorem dn_X4_told_126 : decode cn_X4_told 126 = .ok (.goto 20, 3) := by decide +kernel
theorem dn_X4_told_129 : decode cn_X4_told 129 = .ok (.iload_n 1, 1) := by decide +kernel
theorem dn_X4_told_130 : decode cn_X4_told 130 = .ok (.bipush 6, 2) := by decide +kernel
theorem dn_X4_told_132 : decode cn_X4_told 132 = .ok (.if_icmp .ne 10, 3) := by decide +kernel
theorem dn_X4_told_135 : decode cn_X4_told 135 = .ok (.aload_n 0, 1) := by decide +kernel
theorem dn_X4_told_136 : decode cn_X4_told 136 = .ok (.getfield 191, 3) := by decide +kernel
theorem dn_X4_told_139 : decode cn_X4_told 139 = .ok (.goto 7, 3) := by decide +kernel
theorem dn_X4_told_142 : decode cn_X4_told 142 = .ok (.aload_n 0, 1) := by decide +kernel
theorem dn_X4_told_143 : decode cn_X4_told 143 = .ok (.getfield 194, 3) := by decide +kernel
theorem dn_X4_told_146 : decode cn_X4_told 146 = .ok (.ireturn, 1) := by decide +kernel
