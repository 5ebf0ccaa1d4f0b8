theorem dn_X4_init_0 : decode cn_X4_init 0 = .ok (.aload_n 0, 1) := by decide +kernel
theorem dn_X4_init_1 : decode cn_X4_init 1 = .ok (.invokespecial 1, 3) := by decide +kernel
theorem dn_X4_init_4 : decode cn_X4_init 4 = .ok (.aload_n 0, 1) := by decide +kernel
theorem dn_X4_init_5 : decode cn_X4_init 5 = .ok (.bipush 60, 2) := by decide +kernel
theorem dn_X4_init_7 : decode cn_X4_init 7 = .ok (.newarray .int, 2) := by decide +kernel
theorem dn_X4_init_9 : decode cn_X4_init 9 = .ok (.putfield 7, 3) := by decide +kernel
theorem dn_X4_init_12 : decode cn_X4_init 12 = .ok (.aload_n 0, 1) := by decide +kernel
theorem dn_X4_init_13 : decode cn_X4_init 13 = .ok (.bipush 20, 2) := by decide +kernel
theorem dn_X4_init_15 : decode cn_X4_init 15 = .ok (.newarray .int, 2) := by decide +kernel
theorem dn_X4_init_17 : decode cn_X4_init 17 = .ok (.putfield 13, 3) := by decide +kernel
theorem dn_X4_init_20 : decode cn_X4_init 20 = .ok (.aload_n 0, 1) := by decide +kernel
theorem dn_X4_init_21 : decode cn_X4_init 21 = .ok (.bipush 20, 2) := by decide +kernel
theorem dn_X4_init_23 : decode cn_X4_init 23 = .ok (.newarray .int, 2) := by decide +kernel
theorem dn_X4_init_25 : decode cn_X4_init 25 = .ok (.putfield 16, 3) := by decide +kernel
theorem dn_X4_init_28 : decode cn_X4_init 28 = .ok (.aload_n 0, 1) := by decide +kernel
theorem dn_X4_init_29 : decode cn_X4_init 29 = .ok (.bipush 20, 2) := by decide +kernel
theorem dn_X4_init_31 : decode cn_X4_init 31 = .ok (.newarray .int, 2) := by decide +kernel
theorem dn_X4_init_33 : decode cn_X4_init 33 = .ok (.putfield 19, 3) := by decide +kernel
theorem dn_X4_init_36 : decode cn_X4_init 36 = .ok (.aload_n 0, 1) := by decide +kernel
theorem dn_X4_init_37 : decode cn_X4_init 37 = .ok (.bipush 20, 2) := by decide +kernel
theorem dn_X4_init_39 : decode cn_X4_init 39 = .ok (.newarray .int, 2) := by decide +kernel
theorem dn_X4_init_41 : decode cn_X4_init 41 = .ok (.putfield 22, 3) := by decide +kernel
theorem dn_X4_init_44 : decode cn_X4_init 44 = .ok (.aload_n 0, 1) := by decide +kernel
theorem dn_X4_init_45 : decode cn_X4_init 45 = .ok (.bipush 20, 2) := by decide +kernel
theorem dn_X4_init_47 : decode cn_X4_init 47 = .ok (.newarray .int, 2) := by decide +kernel
theorem dn_X4_init_49 : decode cn_X4_init 49 = .ok (.putfield 25, 3) := by decide +kernel
theorem dn_X4_init_52 : decode cn_X4_init 52 = .ok (.aload_n 0, 1) := by decide +kernel
theorem dn_X4_init_53 : decode cn_X4_init 53 = .ok (.bipush 20, 2) := by decide +kernel
theorem dn_X4_init_55 : decode cn_X4_init 55 = .ok (.newarray .int, 2) := by decide +kernel
theorem dn_X4_init_57 : decode cn_X4_init 57 = .ok (.putfield 28, 3) := by decide +kernel
theorem dn_X4_init_60 : decode cn_X4_init 60 = .ok (.aload_n 0, 1) := by decide +kernel
theorem dn_X4_init_61 : decode cn_X4_init 61 = .ok (.bipush 20, 2) := by decide +kernel
theorem dn_X4_init_63 : decode cn_X4_init 63 = .ok (.newarray .int, 2) := by decide +kernel
theorem dn_X4_init_65 : decode cn_X4_init 65 = .ok (.putfield 31, 3) := by decide +kernel
theorem dn_X4_init_68 : decode cn_X4_init 68 = .ok (.aload_n 0, 1) := by decide +kernel
theorem dn_X4_init_69 : decode cn_X4_init 69 = .ok (.iconst 4, 1) := by decide +kernel
theorem dn_X4_init_70 : decode cn_X4_init 70 = .ok (.newarray .int, 2) := by decide +kernel
theorem dn_X4_init_72 : decode cn_X4_init 72 = .ok (.putfield 34, 3) := by decide +kernel
theorem dn_X4_init_75 : decode cn_X4_init 75 = .ok (.aload_n 0, 1) := by decide +kernel
theorem dn_X4_init_76 : decode cn_X4_init 76 = .ok (.bipush 60, 2) := by decide +kernel
theorem dn_X4_init_78 : decode cn_X4_init 78 = .ok (.newarray .boolean, 2) := by decide +kernel
theorem dn_X4_init_80 : decode cn_X4_init 80 = .ok (.putfield 37, 3) := by decide +kernel
theorem dn_X4_init_83 : decode cn_X4_init 83 = .ok (.aload_n 0, 1) := by decide +kernel
theorem dn_X4_init_84 : decode cn_X4_init 84 = .ok (.bipush 60, 2) := by decide +kernel
theorem dn_X4_init_86 : decode cn_X4_init 86 = .ok (.newarray .int, 2) := by decide +kernel
theorem dn_X4_init_88 : decode cn_X4_init 88 = .ok (.putfield 41, 3) := by decide +kernel
theorem dn_X4_init_91 : decode cn_X4_init 91 = .ok (.aload_n 0, 1) := by decide +kernel
theorem dn_X4_init_92 : decode cn_X4_init 92 = .ok (.bipush 60, 2) := by decide +kernel
theorem dn_X4_init_94 : decode cn_X4_init 94 = .ok (.newarray .int, 2) := by decide +kernel
theorem dn_X4_init_96 : decode cn_X4_init 96 = .ok (.putfield 44, 3) := by decide +kernel
theorem dn_X4_init_99 : decode cn_X4_init 99 = .ok (.aload_n 0, 1) := by decide +kernel
theorem dn_X4_init_100 : decode cn_X4_init 100 = .ok (.bipush 60, 2) := by decide +kernel
theorem dn_X4_init_102 : decode cn_X4_init 102 = .ok (.newarray .boolean, 2) := by decide +kernel
theorem dn_X4_init_104 : decode cn_X4_init 104 = .ok (.putfield 47, 3) := by decide +kernel
theorem dn_X4_init_107 : decode cn_X4_init 107 = .ok (.aload_n 0, 1) := by decide +kernel
theorem dn_X4_init_108 : decode cn_X4_init 108 = .ok (.iconst (-1), 1) := by decide +kernel
theorem dn_X4_init_109 : decode cn_X4_init 109 = .ok (.putfield 50, 3) := by decide +kernel
theorem dn_X4_init_112 : decode cn_X4_init 112 = .ok (.aload_n 0, 1) := by decide +kernel
theorem dn_X4_init_113 : decode cn_X4_init 113 = .ok (.sipush 1000, 3) := by decide +kernel
theorem dn_X4_init_116 : decode cn_X4_init 116 = .ok (.newarray .int, 2) := by decide +kernel
theorem dn_X4_init_118 : decode cn_X4_init 118 = .ok (.putfield 54, 3) := by decide +kernel
theorem dn_X4_init_121 : decode cn_X4_init 121 = .ok (.aload_n 0, 1) := by decide +kernel
theorem dn_X4_init_122 : decode cn_X4_init 122 = .ok (.sipush 1000, 3) := by decide +kernel
theorem dn_X4_init_125 : decode cn_X4_init 125 = .ok (.newarray .int, 2) := by decide +kernel
theorem dn_X4_init_127 : decode cn_X4_init 127 = .ok (.putfield 57, 3) := by decide +kernel
theorem dn_X4_init_130 : decode cn_X4_init 130 = .ok (.aload_n 0, 1) := by decide +kernel
theorem dn_X4_init_131 : decode cn_X4_init 131 = .ok (.sipush 1000, 3) := by decide +kernel
theorem dn_X4_init_134 : decode cn_X4_init 134 = .ok (.newarray .int, 2) := by decide +kernel
theorem dn_X4_init_136 : decode cn_X4_init 136 = .ok (.putfield 60, 3) := by decide +kernel
theorem dn_X4_init_139 : decode cn_X4_init 139 = .ok (.aload_n 0, 1) := by decide +kernel
theorem dn_X4_init_140 : decode cn_X4_init 140 = .ok (.sipush 1000, 3) := by decide +kernel
theorem dn_X4_init_143 : decode cn_X4_init 143 = .ok (.newarray .int, 2) := by decide +kernel
theorem dn_X4_init_145 : decode cn_X4_init 145 = .ok (.putfield 63, 3) := by decide +kernel
theorem dn_X4_init_148 : decode cn_X4_init 148 = .ok (.aload_n 0, 1) := by decide +kernel
theorem dn_X4_init_149 : decode cn_X4_init 149 = .ok (.bipush 60, 2) := by decide +kernel
theorem dn_X4_init_151 : decode cn_X4_init 151 = .ok (.newarray .int, 2) := by decide +kernel
theorem dn_X4_init_153 : decode cn_X4_init 153 = .ok (.putfield 66, 3) := by decide +kernel
theorem dn_X4_init_156 : decode cn_X4_init 156 = .ok (.aload_n 0, 1) := by decide +kernel
theorem dn_X4_init_157 : decode cn_X4_init 157 = .ok (.bipush 20, 2) := by decide +kernel
theorem dn_X4_init_159 : decode cn_X4_init 159 = .ok (.newarray .int, 2) := by decide +kernel
theorem dn_X4_init_161 : decode cn_X4_init 161 = .ok (.putfield 69, 3) := by decide +kernel
theorem dn_X4_init_164 : decode cn_X4_init 164 = .ok (.aload_n 0, 1) := by decide +kernel
theorem dn_X4_init_165 : decode cn_X4_init 165 = .ok (.bipush 60, 2) := by decide +kernel
theorem dn_X4_init_167 : decode cn_X4_init 167 = .ok (.newarray .boolean, 2) := by decide +kernel
theorem dn_X4_init_169 : decode cn_X4_init 169 = .ok (.putfield 72, 3) := by decide +kernel
theorem dn_X4_init_172 : decode cn_X4_init 172 = .ok (.aload_n 0, 1) := by decide +kernel
theorem dn_X4_init_173 : decode cn_X4_init 173 = .ok (.bipush 40, 2) := by decide +kernel
theorem dn_X4_init_175 : decode cn_X4_init 175 = .ok (.newarray .int, 2) := by decide +kernel
theorem dn_X4_init_177 : decode cn_X4_init 177 = .ok (.putfield 75, 3) := by decide +kernel
theorem dn_X4_init_180 : decode cn_X4_init 180 = .ok (.aload_n 0, 1) := by decide +kernel
theorem dn_X4_init_181 : decode cn_X4_init 181 = .ok (.sipush 1640, 3) := by decide +kernel
theorem dn_X4_init_184 : decode cn_X4_init 184 = .ok (.newarray .int, 2) := by decide +kernel
theorem dn_X4_init_186 : decode cn_X4_init 186 = .ok (.putfield 78, 3) := by decide +kernel
theorem dn_X4_init_189 : decode cn_X4_init 189 = .ok (.aload_n 0, 1) := by decide +kernel
theorem dn_X4_init_190 : decode cn_X4_init 190 = .ok (.sipush 1640, 3) := by decide +kernel
theorem dn_X4_init_193 : decode cn_X4_init 193 = .ok (.newarray .int, 2) := by decide +kernel
theorem dn_X4_init_195 : decode cn_X4_init 195 = .ok (.putfield 81, 3) := by decide +kernel
theorem dn_X4_init_198 : decode cn_X4_init 198 = .ok (.aload_n 0, 1) := by decide +kernel
theorem dn_X4_init_199 : decode cn_X4_init 199 = .ok (.sipush 1640, 3) := by decide +kernel
theorem dn_X4_init_202 : decode cn_X4_init 202 = .ok (.newarray .int, 2) := by decide +kernel
theorem dn_X4_init_204 : decode cn_X4_init 204 = .ok (.putfield 84, 3) := by decide +kernel
theorem dn_X4_init_207 : decode cn_X4_init 207 = .ok (.aload_n 0, 1) := by decide +kernel
theorem dn_X4_init_208 : decode cn_X4_init 208 = .ok (.sipush 200, 3) := by decide +kernel
theorem dn_X4_init_211 : decode cn_X4_init 211 = .ok (.newarray .int, 2) := by decide +kernel
theorem dn_X4_init_213 : decode cn_X4_init 213 = .ok (.putfield 87, 3) := by decide +kernel
theorem dn_X4_init_216 : decode cn_X4_init 216 = .ok (.aload_n 0, 1) := by decide +kernel
theorem dn_X4_init_217 : decode cn_X4_init 217 = .ok (.sipush 200, 3) := by decide +kernel
theorem dn_X4_init_220 : decode cn_X4_init 220 = .ok (.newarray .int, 2) := by decide +kernel
theorem dn_X4_init_222 : decode cn_X4_init 222 = .ok (.putfield 90, 3) := by decide +kernel
theorem dn_X4_init_225 : decode cn_X4_init 225 = .ok (.aload_n 0, 1) := by decide +kernel
theorem dn_X4_init_226 : decode cn_X4_init 226 = .ok (.sipush 200, 3) := by decide +kernel
theorem dn_X4_init_229 : decode cn_X4_init 229 = .ok (.newarray .int, 2) := by decide +kernel
theorem dn_X4_init_231 : decode cn_X4_init 231 = .ok (.putfield 93, 3) := by decide +kernel
theorem dn_X4_init_234 : decode cn_X4_init 234 = .ok (.aload_n 0, 1) := by decide +kernel
theorem dn_X4_init_235 : decode cn_X4_init 235 = .ok (.sipush 200, 3) := by decide +kernel
theorem dn_X4_init_238 : decode cn_X4_init 238 = .ok (.newarray .int, 2) := by decide +kernel
theorem dn_X4_init_240 : decode cn_X4_init 240 = .ok (.putfield 96, 3) := by decide +kernel
theorem dn_X4_init_243 : decode cn_X4_init 243 = .ok (.iconst 0, 1) := by decide +kernel
theorem dn_X4_init_244 : decode cn_X4_init 244 = .ok (.istore_n 1, 1) := by decide +kernel
theorem dn_X4_init_245 : decode cn_X4_init 245 = .ok (.iload_n 1, 1) := by decide +kernel
theorem dn_X4_init_246 : decode cn_X4_init 246 = .ok (.iconst 4, 1) := by decide +kernel
theorem dn_X4_init_247 : decode cn_X4_init 247 = .ok (.if_icmp .ge 16, 3) := by decide +kernel
theorem dn_X4_init_250 : decode cn_X4_init 250 = .ok (.aload_n 0, 1) := by decide +kernel
theorem dn_X4_init_251 : decode cn_X4_init 251 = .ok (.getfield 34, 3) := by decide +kernel
theorem dn_X4_init_254 : decode cn_X4_init 254 = .ok (.iload_n 1, 1) := by decide +kernel
theorem dn_X4_init_255 : decode cn_X4_init 255 = .ok (.iconst (-1), 1) := by decide +kernel
theorem dn_X4_init_256 : decode cn_X4_init 256 = .ok (.iastore, 1) := by decide +kernel
theorem dn_X4_init_257 : decode cn_X4_init 257 = .ok (.iinc 1 1, 3) := by decide +kernel
theorem dn_X4_init_260 : decode cn_X4_init 260 = .ok (.goto (-15), 3) := by decide +kernel
theorem dn_X4_init_263 : decode cn_X4_init 263 = .ok (.return_, 1) := by decide +kernel
theorem dn_X4_thrown_0 : decode cn_X4_thrown 0 = .ok (.aload_n 0, 1) := by decide +kernel
theorem dn_X4_thrown_1 : decode cn_X4_thrown 1 = .ok (.getfield 99, 3) := by decide +kernel
theorem dn_X4_thrown_4 : decode cn_X4_thrown 4 = .ok (.ireturn, 1) := by decide +kernel
theorem dn_X4_refuses_0 : decode cn_X4_refuses 0 = .ok (.aload_n 0, 1) := by decide +kernel
theorem dn_X4_refuses_1 : decode cn_X4_refuses 1 = .ok (.iload_n 1, 1) := by decide +kernel
theorem dn_X4_refuses_2 : decode cn_X4_refuses 2 = .ok (.ifCond .eq 7, 3) := by decide +kernel
theorem dn_X4_refuses_5 : decode cn_X4_refuses 5 = .ok (.iconst 1, 1) := by decide +kernel
theorem dn_X4_refuses_6 : decode cn_X4_refuses 6 = .ok (.goto 20, 3) := by decide +kernel
theorem dn_X4_refuses_9 : decode cn_X4_refuses 9 = .ok (.iload_n 2, 1) := by decide +kernel
theorem dn_X4_refuses_10 : decode cn_X4_refuses 10 = .ok (.ifCond .eq 7, 3) := by decide +kernel
theorem dn_X4_refuses_13 : decode cn_X4_refuses 13 = .ok (.iconst 2, 1) := by decide +kernel
theorem dn_X4_refuses_14 : decode cn_X4_refuses 14 = .ok (.goto 12, 3) := by decide +kernel
theorem dn_X4_refuses_17 : decode cn_X4_refuses 17 = .ok (.iload_n 3, 1) := by decide +kernel
theorem dn_X4_refuses_18 : decode cn_X4_refuses 18 = .ok (.ifCond .eq 7, 3) := by decide +kernel
theorem dn_X4_refuses_21 : decode cn_X4_refuses 21 = .ok (.iconst 3, 1) := by decide +kernel
theorem dn_X4_refuses_22 : decode cn_X4_refuses 22 = .ok (.goto 4, 3) := by decide +kernel
theorem dn_X4_refuses_25 : decode cn_X4_refuses 25 = .ok (.iconst 0, 1) := by decide +kernel
theorem dn_X4_refuses_26 : decode cn_X4_refuses 26 = .ok (.putfield 99, 3) := by decide +kernel
theorem dn_X4_refuses_29 : decode cn_X4_refuses 29 = .ok (.aload_n 0, 1) := by decide +kernel
theorem dn_X4_refuses_30 : decode cn_X4_refuses 30 = .ok (.getfield 99, 3) := by decide +kernel
theorem dn_X4_refuses_33 : decode cn_X4_refuses 33 = .ok (.ifCond .le 7, 3) := by decide +kernel
theorem dn_X4_refuses_36 : decode cn_X4_refuses 36 = .ok (.iconst 1, 1) := by decide +kernel
theorem dn_X4_refuses_37 : decode cn_X4_refuses 37 = .ok (.goto 4, 3) := by decide +kernel
theorem dn_X4_refuses_40 : decode cn_X4_refuses 40 = .ok (.iconst 0, 1) := by decide +kernel
theorem dn_X4_refuses_41 : decode cn_X4_refuses 41 = .ok (.ireturn, 1) := by decide +kernel
theorem dn_X4_isBar_0 : decode cn_X4_isBar 0 = .ok (.iload_n 1, 1) := by decide +kernel
theorem dn_X4_isBar_1 : decode cn_X4_isBar 1 = .ok (.ifCond .lt 15, 3) := by decide +kernel
theorem dn_X4_isBar_4 : decode cn_X4_isBar 4 = .ok (.iload_n 1, 1) := by decide +kernel
theorem dn_X4_isBar_5 : decode cn_X4_isBar 5 = .ok (.aload_n 0, 1) := by decide +kernel
theorem dn_X4_isBar_6 : decode cn_X4_isBar 6 = .ok (.getfield 102, 3) := by decide +kernel
theorem dn_X4_isBar_9 : decode cn_X4_isBar 9 = .ok (.if_icmp .ge 7, 3) := by decide +kernel
theorem dn_X4_isBar_12 : decode cn_X4_isBar 12 = .ok (.iconst 1, 1) := by decide +kernel
theorem dn_X4_isBar_13 : decode cn_X4_isBar 13 = .ok (.goto 4, 3) := by decide +kernel
theorem dn_X4_isBar_16 : decode cn_X4_isBar 16 = .ok (.iconst 0, 1) := by decide +kernel
theorem dn_X4_isBar_17 : decode cn_X4_isBar 17 = .ok (.ireturn, 1) := by decide +kernel
theorem dn_X4_bar_0 : decode cn_X4_bar 0 = .ok (.aload_n 0, 1) := by decide +kernel
theorem dn_X4_bar_1 : decode cn_X4_bar 1 = .ok (.aload_n 0, 1) := by decide +kernel
theorem dn_X4_bar_2 : decode cn_X4_bar 2 = .ok (.getfield 102, 3) := by decide +kernel
theorem dn_X4_bar_5 : decode cn_X4_bar 5 = .ok (.bipush 60, 2) := by decide +kernel
theorem dn_X4_bar_7 : decode cn_X4_bar 7 = .ok (.if_icmp .ne 7, 3) := by decide +kernel
theorem dn_X4_bar_10 : decode cn_X4_bar 10 = .ok (.iconst 1, 1) := by decide +kernel
theorem dn_X4_bar_11 : decode cn_X4_bar 11 = .ok (.goto 4, 3) := by decide +kernel
theorem dn_X4_bar_14 : decode cn_X4_bar 14 = .ok (.iconst 0, 1) := by decide +kernel
theorem dn_X4_bar_15 : decode cn_X4_bar 15 = .ok (.iconst 0, 1) := by decide +kernel
theorem dn_X4_bar_16 : decode cn_X4_bar 16 = .ok (.iconst 0, 1) := by decide +kernel
theorem dn_X4_bar_17 : decode cn_X4_bar 17 = .ok (.invokevirtual 105, 3) := by decide +kernel
theorem dn_X4_bar_20 : decode cn_X4_bar 20 = .ok (.ifCond .eq 5, 3) := by decide +kernel
theorem dn_X4_bar_23 : decode cn_X4_bar 23 = .ok (.iconst 0, 1) := by decide +kernel
theorem dn_X4_bar_24 : decode cn_X4_bar 24 = .ok (.ireturn, 1) := by decide +kernel
theorem dn_X4_bar_25 : decode cn_X4_bar 25 = .ok (.aload_n 0, 1) := by decide +kernel
theorem dn_X4_bar_26 : decode cn_X4_bar 26 = .ok (.getfield 7, 3) := by decide +kernel
theorem dn_X4_bar_29 : decode cn_X4_bar 29 = .ok (.aload_n 0, 1) := by decide +kernel
theorem dn_X4_bar_30 : decode cn_X4_bar 30 = .ok (.getfield 102, 3) := by decide +kernel
theorem dn_X4_bar_33 : decode cn_X4_bar 33 = .ok (.iload_n 1, 1) := by decide +kernel
theorem dn_X4_bar_34 : decode cn_X4_bar 34 = .ok (.iastore, 1) := by decide +kernel
theorem dn_X4_bar_35 : decode cn_X4_bar 35 = .ok (.aload_n 0, 1) := by decide +kernel
theorem dn_X4_bar_36 : decode cn_X4_bar 36 = .ok (.dup, 1) := by decide +kernel
theorem dn_X4_bar_37 : decode cn_X4_bar 37 = .ok (.getfield 102, 3) := by decide +kernel
theorem dn_X4_bar_40 : decode cn_X4_bar 40 = .ok (.iconst 1, 1) := by decide +kernel
theorem dn_X4_bar_41 : decode cn_X4_bar 41 = .ok (.iadd, 1) := by decide +kernel
theorem dn_X4_bar_42 : decode cn_X4_bar 42 = .ok (.putfield 102, 3) := by decide +kernel
theorem dn_X4_bar_45 : decode cn_X4_bar 45 = .ok (.aload_n 0, 1) := by decide +kernel
theorem dn_X4_bar_46 : decode cn_X4_bar 46 = .ok (.getfield 102, 3) := by decide +kernel
theorem dn_X4_bar_49 : decode cn_X4_bar 49 = .ok (.iconst 1, 1) := by decide +kernel
theorem dn_X4_bar_50 : decode cn_X4_bar 50 = .ok (.isub, 1) := by decide +kernel
theorem dn_X4_bar_51 : decode cn_X4_bar 51 = .ok (.ireturn, 1) := by decide +kernel
theorem dn_X4_isApart_0 : decode cn_X4_isApart 0 = .ok (.iload_n 1, 1) := by decide +kernel
theorem dn_X4_isApart_1 : decode cn_X4_isApart 1 = .ok (.iload_n 2, 1) := by decide +kernel
theorem dn_X4_isApart_2 : decode cn_X4_isApart 2 = .ok (.if_icmp .lt 8, 3) := by decide +kernel
theorem dn_X4_isApart_5 : decode cn_X4_isApart 5 = .ok (.iload_n 3, 1) := by decide +kernel
theorem dn_X4_isApart_6 : decode cn_X4_isApart 6 = .ok (.iload_n 0, 1) := by decide +kernel
theorem dn_X4_isApart_7 : decode cn_X4_isApart 7 = .ok (.if_icmp .ge 7, 3) := by decide +kernel
theorem dn_X4_isApart_10 : decode cn_X4_isApart 10 = .ok (.iconst 1, 1) := by decide +kernel
theorem dn_X4_isApart_11 : decode cn_X4_isApart 11 = .ok (.goto 4, 3) := by decide +kernel
theorem dn_X4_isApart_14 : decode cn_X4_isApart 14 = .ok (.iconst 0, 1) := by decide +kernel
theorem dn_X4_isApart_15 : decode cn_X4_isApart 15 = .ok (.ireturn, 1) := by decide +kernel
theorem dn_X4_isWithin_0 : decode cn_X4_isWithin 0 = .ok (.iload_n 0, 1) := by decide +kernel
theorem dn_X4_isWithin_1 : decode cn_X4_isWithin 1 = .ok (.iload_n 2, 1) := by decide +kernel
theorem dn_X4_isWithin_2 : decode cn_X4_isWithin 2 = .ok (.if_icmp .lt 12, 3) := by decide +kernel
theorem dn_X4_isWithin_5 : decode cn_X4_isWithin 5 = .ok (.iload_n 1, 1) := by decide +kernel
theorem dn_X4_isWithin_6 : decode cn_X4_isWithin 6 = .ok (.iload_n 3, 1) := by decide +kernel
theorem dn_X4_isWithin_7 : decode cn_X4_isWithin 7 = .ok (.if_icmp .gt 7, 3) := by decide +kernel
theorem dn_X4_isWithin_10 : decode cn_X4_isWithin 10 = .ok (.iconst 1, 1) := by decide +kernel
theorem dn_X4_isWithin_11 : decode cn_X4_isWithin 11 = .ok (.goto 4, 3) := by decide +kernel
theorem dn_X4_isWithin_14 : decode cn_X4_isWithin 14 = .ok (.iconst 0, 1) := by decide +kernel
theorem dn_X4_isWithin_15 : decode cn_X4_isWithin 15 = .ok (.ireturn, 1) := by decide +kernel
theorem dn_X4_liesWell_0 : decode cn_X4_liesWell 0 = .ok (.iload_n 0, 1) := by decide +kernel
theorem dn_X4_liesWell_1 : decode cn_X4_liesWell 1 = .ok (.iload_n 1, 1) := by decide +kernel
theorem dn_X4_liesWell_2 : decode cn_X4_liesWell 2 = .ok (.iload_n 2, 1) := by decide +kernel
theorem dn_X4_liesWell_3 : decode cn_X4_liesWell 3 = .ok (.iload_n 3, 1) := by decide +kernel
theorem dn_X4_liesWell_4 : decode cn_X4_liesWell 4 = .ok (.invokestatic 109, 3) := by decide +kernel
theorem dn_X4_liesWell_7 : decode cn_X4_liesWell 7 = .ok (.ifCond .ne 23, 3) := by decide +kernel
theorem dn_X4_liesWell_10 : decode cn_X4_liesWell 10 = .ok (.iload_n 0, 1) := by decide +kernel
theorem dn_X4_liesWell_11 : decode cn_X4_liesWell 11 = .ok (.iload_n 1, 1) := by decide +kernel
theorem dn_X4_liesWell_12 : decode cn_X4_liesWell 12 = .ok (.iload_n 2, 1) := by decide +kernel
theorem dn_X4_liesWell_13 : decode cn_X4_liesWell 13 = .ok (.iload_n 3, 1) := by decide +kernel
theorem dn_X4_liesWell_14 : decode cn_X4_liesWell 14 = .ok (.invokestatic 113, 3) := by decide +kernel
theorem dn_X4_liesWell_17 : decode cn_X4_liesWell 17 = .ok (.ifCond .ne 13, 3) := by decide +kernel
theorem dn_X4_liesWell_20 : decode cn_X4_liesWell 20 = .ok (.iload_n 2, 1) := by decide +kernel
theorem dn_X4_liesWell_21 : decode cn_X4_liesWell 21 = .ok (.iload_n 3, 1) := by decide +kernel
theorem dn_X4_liesWell_22 : decode cn_X4_liesWell 22 = .ok (.iload_n 0, 1) := by decide +kernel
theorem dn_X4_liesWell_23 : decode cn_X4_liesWell 23 = .ok (.iload_n 1, 1) := by decide +kernel
theorem dn_X4_liesWell_24 : decode cn_X4_liesWell 24 = .ok (.invokestatic 113, 3) := by decide +kernel
theorem dn_X4_liesWell_27 : decode cn_X4_liesWell 27 = .ok (.ifCond .eq 7, 3) := by decide +kernel
theorem dn_X4_liesWell_30 : decode cn_X4_liesWell 30 = .ok (.iconst 1, 1) := by decide +kernel
theorem dn_X4_liesWell_31 : decode cn_X4_liesWell 31 = .ok (.goto 4, 3) := by decide +kernel
theorem dn_X4_liesWell_34 : decode cn_X4_liesWell 34 = .ok (.iconst 0, 1) := by decide +kernel
theorem dn_X4_liesWell_35 : decode cn_X4_liesWell 35 = .ok (.ireturn, 1) := by decide +kernel
theorem dn_X4_isAround_0 : decode cn_X4_isAround 0 = .ok (.aload_n 0, 1) := by decide +kernel
theorem dn_X4_isAround_1 : decode cn_X4_isAround 1 = .ok (.getfield 13, 3) := by decide +kernel
theorem dn_X4_isAround_4 : decode cn_X4_isAround 4 = .ok (.iload_n 1, 1) := by decide +kernel
theorem dn_X4_isAround_5 : decode cn_X4_isAround 5 = .ok (.iaload, 1) := by decide +kernel
theorem dn_X4_isAround_6 : decode cn_X4_isAround 6 = .ok (.iload_n 2, 1) := by decide +kernel
theorem dn_X4_isAround_7 : decode cn_X4_isAround 7 = .ok (.if_icmp .gt 17, 3) := by decide +kernel
theorem dn_X4_isAround_10 : decode cn_X4_isAround 10 = .ok (.iload_n 2, 1) := by decide +kernel
theorem dn_X4_isAround_11 : decode cn_X4_isAround 11 = .ok (.aload_n 0, 1) := by decide +kernel
theorem dn_X4_isAround_12 : decode cn_X4_isAround 12 = .ok (.getfield 16, 3) := by decide +kernel
theorem dn_X4_isAround_15 : decode cn_X4_isAround 15 = .ok (.iload_n 1, 1) := by decide +kernel
theorem dn_X4_isAround_16 : decode cn_X4_isAround 16 = .ok (.iaload, 1) := by decide +kernel
theorem dn_X4_isAround_17 : decode cn_X4_isAround 17 = .ok (.if_icmp .gt 7, 3) := by decide +kernel
theorem dn_X4_isAround_20 : decode cn_X4_isAround 20 = .ok (.iconst 1, 1) := by decide +kernel
theorem dn_X4_isAround_21 : decode cn_X4_isAround 21 = .ok (.goto 4, 3) := by decide +kernel
theorem dn_X4_isAround_24 : decode cn_X4_isAround 24 = .ok (.iconst 0, 1) := by decide +kernel
theorem dn_X4_isAround_25 : decode cn_X4_isAround 25 = .ok (.ireturn, 1) := by decide +kernel
theorem dn_X4_mayRepeat_0 : decode cn_X4_mayRepeat 0 = .ok (.iconst 0, 1) := by decide +kernel
theorem dn_X4_mayRepeat_1 : decode cn_X4_mayRepeat 1 = .ok (.istore_n 3, 1) := by decide +kernel
theorem dn_X4_mayRepeat_2 : decode cn_X4_mayRepeat 2 = .ok (.iload_n 3, 1) := by decide +kernel
theorem dn_X4_mayRepeat_3 : decode cn_X4_mayRepeat 3 = .ok (.aload_n 0, 1) := by decide +kernel
theorem dn_X4_mayRepeat_4 : decode cn_X4_mayRepeat 4 = .ok (.getfield 116, 3) := by decide +kernel
theorem dn_X4_mayRepeat_7 : decode cn_X4_mayRepeat 7 = .ok (.if_icmp .ge 63, 3) := by decide +kernel
theorem dn_X4_mayRepeat_10 : decode cn_X4_mayRepeat 10 = .ok (.aload_n 0, 1) := by decide +kernel
theorem dn_X4_mayRepeat_11 : decode cn_X4_mayRepeat 11 = .ok (.getfield 13, 3) := by decide +kernel
theorem dn_X4_mayRepeat_14 : decode cn_X4_mayRepeat 14 = .ok (.iload_n 3, 1) := by decide +kernel
theorem dn_X4_mayRepeat_15 : decode cn_X4_mayRepeat 15 = .ok (.iaload, 1) := by decide +kernel
theorem dn_X4_mayRepeat_16 : decode cn_X4_mayRepeat 16 = .ok (.iload_n 1, 1) := by decide +kernel
theorem dn_X4_mayRepeat_17 : decode cn_X4_mayRepeat 17 = .ok (.if_icmp .ne 17, 3) := by decide +kernel
theorem dn_X4_mayRepeat_20 : decode cn_X4_mayRepeat 20 = .ok (.aload_n 0, 1) := by decide +kernel
theorem dn_X4_mayRepeat_21 : decode cn_X4_mayRepeat 21 = .ok (.getfield 16, 3) := by decide +kernel
theorem dn_X4_mayRepeat_24 : decode cn_X4_mayRepeat 24 = .ok (.iload_n 3, 1) := by decide +kernel
theorem dn_X4_mayRepeat_25 : decode cn_X4_mayRepeat 25 = .ok (.iaload, 1) := by decide +kernel
theorem dn_X4_mayRepeat_26 : decode cn_X4_mayRepeat 26 = .ok (.iload_n 2, 1) := by decide +kernel
theorem dn_X4_mayRepeat_27 : decode cn_X4_mayRepeat 27 = .ok (.if_icmp .ne 7, 3) := by decide +kernel
theorem dn_X4_mayRepeat_30 : decode cn_X4_mayRepeat 30 = .ok (.iconst 1, 1) := by decide +kernel
theorem dn_X4_mayRepeat_31 : decode cn_X4_mayRepeat 31 = .ok (.goto 4, 3) := by decide +kernel
theorem dn_X4_mayRepeat_34 : decode cn_X4_mayRepeat 34 = .ok (.iconst 0, 1) := by decide +kernel
theorem dn_X4_mayRepeat_35 : decode cn_X4_mayRepeat 35 = .ok (.istore 4, 2) := by decide +kernel
theorem dn_X4_mayRepeat_37 : decode cn_X4_mayRepeat 37 = .ok (.iload 4, 2) := by decide +kernel
theorem dn_X4_mayRepeat_39 : decode cn_X4_mayRepeat 39 = .ok (.ifCond .ne 23, 3) := by decide +kernel
theorem dn_X4_mayRepeat_42 : decode cn_X4_mayRepeat 42 = .ok (.iload_n 1, 1) := by decide +kernel
theorem dn_X4_mayRepeat_43 : decode cn_X4_mayRepeat 43 = .ok (.iload_n 2, 1) := by decide +kernel
theorem dn_X4_mayRepeat_44 : decode cn_X4_mayRepeat 44 = .ok (.aload_n 0, 1) := by decide +kernel
theorem dn_X4_mayRepeat_45 : decode cn_X4_mayRepeat 45 = .ok (.getfield 13, 3) := by decide +kernel
theorem dn_X4_mayRepeat_48 : decode cn_X4_mayRepeat 48 = .ok (.iload_n 3, 1) := by decide +kernel
theorem dn_X4_mayRepeat_49 : decode cn_X4_mayRepeat 49 = .ok (.iaload, 1) := by decide +kernel
theorem dn_X4_mayRepeat_50 : decode cn_X4_mayRepeat 50 = .ok (.aload_n 0, 1) := by decide +kernel
theorem dn_X4_mayRepeat_51 : decode cn_X4_mayRepeat 51 = .ok (.getfield 16, 3) := by decide +kernel
theorem dn_X4_mayRepeat_54 : decode cn_X4_mayRepeat 54 = .ok (.iload_n 3, 1) := by decide +kernel
theorem dn_X4_mayRepeat_55 : decode cn_X4_mayRepeat 55 = .ok (.iaload, 1) := by decide +kernel
theorem dn_X4_mayRepeat_56 : decode cn_X4_mayRepeat 56 = .ok (.invokestatic 119, 3) := by decide +kernel
theorem dn_X4_mayRepeat_59 : decode cn_X4_mayRepeat 59 = .ok (.ifCond .ne 5, 3) := by decide +kernel
theorem dn_X4_mayRepeat_62 : decode cn_X4_mayRepeat 62 = .ok (.iconst 0, 1) := by decide +kernel
theorem dn_X4_mayRepeat_63 : decode cn_X4_mayRepeat 63 = .ok (.ireturn, 1) := by decide +kernel
theorem dn_X4_mayRepeat_64 : decode cn_X4_mayRepeat 64 = .ok (.iinc 3 1, 3) := by decide +kernel
theorem dn_X4_mayRepeat_67 : decode cn_X4_mayRepeat 67 = .ok (.goto (-65), 3) := by decide +kernel
theorem dn_X4_mayRepeat_70 : decode cn_X4_mayRepeat 70 = .ok (.iconst 0, 1) := by decide +kernel
theorem dn_X4_mayRepeat_71 : decode cn_X4_mayRepeat 71 = .ok (.istore_n 3, 1) := by decide +kernel
theorem dn_X4_mayRepeat_72 : decode cn_X4_mayRepeat 72 = .ok (.iload_n 3, 1) := by decide +kernel
theorem dn_X4_mayRepeat_73 : decode cn_X4_mayRepeat 73 = .ok (.aload_n 0, 1) := by decide +kernel
theorem dn_X4_mayRepeat_74 : decode cn_X4_mayRepeat 74 = .ok (.getfield 122, 3) := by decide +kernel
theorem dn_X4_mayRepeat_77 : decode cn_X4_mayRepeat 77 = .ok (.if_icmp .ge 31, 3) := by decide +kernel
theorem dn_X4_mayRepeat_80 : decode cn_X4_mayRepeat 80 = .ok (.iload_n 1, 1) := by decide +kernel
theorem dn_X4_mayRepeat_81 : decode cn_X4_mayRepeat 81 = .ok (.iload_n 2, 1) := by decide +kernel
theorem dn_X4_mayRepeat_82 : decode cn_X4_mayRepeat 82 = .ok (.aload_n 0, 1) := by decide +kernel
theorem dn_X4_mayRepeat_83 : decode cn_X4_mayRepeat 83 = .ok (.getfield 25, 3) := by decide +kernel
theorem dn_X4_mayRepeat_86 : decode cn_X4_mayRepeat 86 = .ok (.iload_n 3, 1) := by decide +kernel
theorem dn_X4_mayRepeat_87 : decode cn_X4_mayRepeat 87 = .ok (.iaload, 1) := by decide +kernel
theorem dn_X4_mayRepeat_88 : decode cn_X4_mayRepeat 88 = .ok (.aload_n 0, 1) := by decide +kernel
theorem dn_X4_mayRepeat_89 : decode cn_X4_mayRepeat 89 = .ok (.getfield 28, 3) := by decide +kernel
theorem dn_X4_mayRepeat_92 : decode cn_X4_mayRepeat 92 = .ok (.iload_n 3, 1) := by decide +kernel
theorem dn_X4_mayRepeat_93 : decode cn_X4_mayRepeat 93 = .ok (.iaload, 1) := by decide +kernel
theorem dn_X4_mayRepeat_94 : decode cn_X4_mayRepeat 94 = .ok (.invokestatic 119, 3) := by decide +kernel
theorem dn_X4_mayRepeat_97 : decode cn_X4_mayRepeat 97 = .ok (.ifCond .ne 5, 3) := by decide +kernel
theorem dn_X4_mayRepeat_100 : decode cn_X4_mayRepeat 100 = .ok (.iconst 0, 1) := by decide +kernel
theorem dn_X4_mayRepeat_101 : decode cn_X4_mayRepeat 101 = .ok (.ireturn, 1) := by decide +kernel
theorem dn_X4_mayRepeat_102 : decode cn_X4_mayRepeat 102 = .ok (.iinc 3 1, 3) := by decide +kernel
theorem dn_X4_mayRepeat_105 : decode cn_X4_mayRepeat 105 = .ok (.goto (-33), 3) := by decide +kernel
theorem dn_X4_mayRepeat_108 : decode cn_X4_mayRepeat 108 = .ok (.iload_n 1, 1) := by decide +kernel
theorem dn_X4_mayRepeat_109 : decode cn_X4_mayRepeat 109 = .ok (.istore_n 3, 1) := by decide +kernel
theorem dn_X4_mayRepeat_110 : decode cn_X4_mayRepeat 110 = .ok (.iload_n 3, 1) := by decide +kernel
theorem dn_X4_mayRepeat_111 : decode cn_X4_mayRepeat 111 = .ok (.iload_n 2, 1) := by decide +kernel
theorem dn_X4_mayRepeat_112 : decode cn_X4_mayRepeat 112 = .ok (.if_icmp .gt 58, 3) := by decide +kernel
theorem dn_X4_mayRepeat_115 : decode cn_X4_mayRepeat 115 = .ok (.iconst 1, 1) := by decide +kernel
theorem dn_X4_mayRepeat_116 : decode cn_X4_mayRepeat 116 = .ok (.istore 4, 2) := by decide +kernel
theorem dn_X4_mayRepeat_118 : decode cn_X4_mayRepeat 118 = .ok (.iconst 0, 1) := by decide +kernel
theorem dn_X4_mayRepeat_119 : decode cn_X4_mayRepeat 119 = .ok (.istore 5, 2) := by decide +kernel
theorem dn_X4_mayRepeat_121 : decode cn_X4_mayRepeat 121 = .ok (.iload 5, 2) := by decide +kernel
theorem dn_X4_mayRepeat_123 : decode cn_X4_mayRepeat 123 = .ok (.aload_n 0, 1) := by decide +kernel
theorem dn_X4_mayRepeat_124 : decode cn_X4_mayRepeat 124 = .ok (.getfield 116, 3) := by decide +kernel
theorem dn_X4_mayRepeat_127 : decode cn_X4_mayRepeat 127 = .ok (.if_icmp .ge 29, 3) := by decide +kernel
theorem dn_X4_mayRepeat_130 : decode cn_X4_mayRepeat 130 = .ok (.iload 4, 2) := by decide +kernel
theorem dn_X4_mayRepeat_132 : decode cn_X4_mayRepeat 132 = .ok (.aload_n 0, 1) := by decide +kernel
theorem dn_X4_mayRepeat_133 : decode cn_X4_mayRepeat 133 = .ok (.iload 5, 2) := by decide +kernel
theorem dn_X4_mayRepeat_135 : decode cn_X4_mayRepeat 135 = .ok (.iload_n 3, 1) := by decide +kernel
theorem dn_X4_mayRepeat_136 : decode cn_X4_mayRepeat 136 = .ok (.invokevirtual 125, 3) := by decide +kernel
theorem dn_X4_mayRepeat_139 : decode cn_X4_mayRepeat 139 = .ok (.ifCond .eq 7, 3) := by decide +kernel
theorem dn_X4_mayRepeat_142 : decode cn_X4_mayRepeat 142 = .ok (.iconst 1, 1) := by decide +kernel
theorem dn_X4_mayRepeat_143 : decode cn_X4_mayRepeat 143 = .ok (.goto 4, 3) := by decide +kernel
theorem dn_X4_mayRepeat_146 : decode cn_X4_mayRepeat 146 = .ok (.iconst 0, 1) := by decide +kernel
theorem dn_X4_mayRepeat_147 : decode cn_X4_mayRepeat 147 = .ok (.iadd, 1) := by decide +kernel
theorem dn_X4_mayRepeat_148 : decode cn_X4_mayRepeat 148 = .ok (.istore 4, 2) := by decide +kernel
theorem dn_X4_mayRepeat_150 : decode cn_X4_mayRepeat 150 = .ok (.iinc 5 1, 3) := by decide +kernel
theorem dn_X4_mayRepeat_153 : decode cn_X4_mayRepeat 153 = .ok (.goto (-32), 3) := by decide +kernel
theorem dn_X4_mayRepeat_156 : decode cn_X4_mayRepeat 156 = .ok (.iload 4, 2) := by decide +kernel
theorem dn_X4_mayRepeat_158 : decode cn_X4_mayRepeat 158 = .ok (.iconst 3, 1) := by decide +kernel
theorem dn_X4_mayRepeat_159 : decode cn_X4_mayRepeat 159 = .ok (.if_icmp .le 5, 3) := by decide +kernel
theorem dn_X4_mayRepeat_162 : decode cn_X4_mayRepeat 162 = .ok (.iconst 0, 1) := by decide +kernel
theorem dn_X4_mayRepeat_163 : decode cn_X4_mayRepeat 163 = .ok (.ireturn, 1) := by decide +kernel
theorem dn_X4_mayRepeat_164 : decode cn_X4_mayRepeat 164 = .ok (.iinc 3 1, 3) := by decide +kernel
theorem dn_X4_mayRepeat_167 : decode cn_X4_mayRepeat 167 = .ok (.goto (-57), 3) := by decide +kernel
theorem dn_X4_mayRepeat_170 : decode cn_X4_mayRepeat 170 = .ok (.aload_n 0, 1) := by decide +kernel
theorem dn_X4_mayRepeat_171 : decode cn_X4_mayRepeat 171 = .ok (.getfield 116, 3) := by decide +kernel
theorem dn_X4_mayRepeat_174 : decode cn_X4_mayRepeat 174 = .ok (.bipush 20, 2) := by decide +kernel
theorem dn_X4_mayRepeat_176 : decode cn_X4_mayRepeat 176 = .ok (.if_icmp .ge 7, 3) := by decide +kernel
theorem dn_X4_mayRepeat_179 : decode cn_X4_mayRepeat 179 = .ok (.iconst 1, 1) := by decide +kernel
theorem dn_X4_mayRepeat_180 : decode cn_X4_mayRepeat 180 = .ok (.goto 4, 3) := by decide +kernel
theorem dn_X4_mayRepeat_183 : decode cn_X4_mayRepeat 183 = .ok (.iconst 0, 1) := by decide +kernel
theorem dn_X4_mayRepeat_184 : decode cn_X4_mayRepeat 184 = .ok (.ireturn, 1) := by decide +kernel
theorem dn_X4_repeat_0 : decode cn_X4_repeat 0 = .ok (.aload_n 0, 1) := by decide +kernel
theorem dn_X4_repeat_1 : decode cn_X4_repeat 1 = .ok (.iload_n 1, 1) := by decide +kernel
theorem dn_X4_repeat_2 : decode cn_X4_repeat 2 = .ok (.invokevirtual 129, 3) := by decide +kernel
theorem dn_X4_repeat_5 : decode cn_X4_repeat 5 = .ok (.ifCond .eq 15, 3) := by decide +kernel
theorem dn_X4_repeat_8 : decode cn_X4_repeat 8 = .ok (.aload_n 0, 1) := by decide +kernel
theorem dn_X4_repeat_9 : decode cn_X4_repeat 9 = .ok (.iload_n 2, 1) := by decide +kernel
theorem dn_X4_repeat_10 : decode cn_X4_repeat 10 = .ok (.invokevirtual 129, 3) := by decide +kernel
theorem dn_X4_repeat_13 : decode cn_X4_repeat 13 = .ok (.ifCond .eq 7, 3) := by decide +kernel
theorem dn_X4_repeat_16 : decode cn_X4_repeat 16 = .ok (.iconst 1, 1) := by decide +kernel
theorem dn_X4_repeat_17 : decode cn_X4_repeat 17 = .ok (.goto 4, 3) := by decide +kernel
theorem dn_X4_repeat_20 : decode cn_X4_repeat 20 = .ok (.iconst 0, 1) := by decide +kernel
theorem dn_X4_repeat_21 : decode cn_X4_repeat 21 = .ok (.istore 4, 2) := by decide +kernel
theorem dn_X4_repeat_23 : decode cn_X4_repeat 23 = .ok (.iload_n 3, 1) := by decide +kernel
theorem dn_X4_repeat_24 : decode cn_X4_repeat 24 = .ok (.iconst 2, 1) := by decide +kernel
theorem dn_X4_repeat_25 : decode cn_X4_repeat 25 = .ok (.if_icmp .lt 17, 3) := by decide +kernel
theorem dn_X4_repeat_28 : decode cn_X4_repeat 28 = .ok (.iload_n 3, 1) := by decide +kernel
theorem dn_X4_repeat_29 : decode cn_X4_repeat 29 = .ok (.iconst 4, 1) := by decide +kernel
theorem dn_X4_repeat_30 : decode cn_X4_repeat 30 = .ok (.if_icmp .gt 12, 3) := by decide +kernel
theorem dn_X4_repeat_33 : decode cn_X4_repeat 33 = .ok (.iload_n 2, 1) := by decide +kernel
theorem dn_X4_repeat_34 : decode cn_X4_repeat 34 = .ok (.iload_n 1, 1) := by decide +kernel
theorem dn_X4_repeat_35 : decode cn_X4_repeat 35 = .ok (.if_icmp .lt 7, 3) := by decide +kernel
theorem dn_X4_repeat_38 : decode cn_X4_repeat 38 = .ok (.iconst 1, 1) := by decide +kernel
theorem dn_X4_repeat_39 : decode cn_X4_repeat 39 = .ok (.goto 4, 3) := by decide +kernel
theorem dn_X4_repeat_42 : decode cn_X4_repeat 42 = .ok (.iconst 0, 1) := by decide +kernel
theorem dn_X4_repeat_43 : decode cn_X4_repeat 43 = .ok (.istore 5, 2) := by decide +kernel
theorem dn_X4_repeat_45 : decode cn_X4_repeat 45 = .ok (.aload_n 0, 1) := by decide +kernel
theorem dn_X4_repeat_46 : decode cn_X4_repeat 46 = .ok (.iload 4, 2) := by decide +kernel
theorem dn_X4_repeat_48 : decode cn_X4_repeat 48 = .ok (.ifCond .ne 7, 3) := by decide +kernel
theorem dn_X4_repeat_51 : decode cn_X4_repeat 51 = .ok (.iconst 1, 1) := by decide +kernel
theorem dn_X4_repeat_52 : decode cn_X4_repeat 52 = .ok (.goto 4, 3) := by decide +kernel
theorem dn_X4_repeat_55 : decode cn_X4_repeat 55 = .ok (.iconst 0, 1) := by decide +kernel
theorem dn_X4_repeat_56 : decode cn_X4_repeat 56 = .ok (.iload 5, 2) := by decide +kernel
theorem dn_X4_repeat_58 : decode cn_X4_repeat 58 = .ok (.ifCond .ne 7, 3) := by decide +kernel
theorem dn_X4_repeat_61 : decode cn_X4_repeat 61 = .ok (.iconst 1, 1) := by decide +kernel
theorem dn_X4_repeat_62 : decode cn_X4_repeat 62 = .ok (.goto 4, 3) := by decide +kernel
theorem dn_X4_repeat_65 : decode cn_X4_repeat 65 = .ok (.iconst 0, 1) := by decide +kernel
theorem dn_X4_repeat_66 : decode cn_X4_repeat 66 = .ok (.iload 4, 2) := by decide +kernel
theorem dn_X4_repeat_68 : decode cn_X4_repeat 68 = .ok (.ifCond .eq 21, 3) := by decide +kernel
theorem dn_X4_repeat_71 : decode cn_X4_repeat 71 = .ok (.iload 5, 2) := by decide +kernel
theorem dn_X4_repeat_73 : decode cn_X4_repeat 73 = .ok (.ifCond .eq 16, 3) := by decide +kernel
theorem dn_X4_repeat_76 : decode cn_X4_repeat 76 = .ok (.aload_n 0, 1) := by decide +kernel
theorem dn_X4_repeat_77 : decode cn_X4_repeat 77 = .ok (.iload_n 1, 1) := by decide +kernel
theorem dn_X4_repeat_78 : decode cn_X4_repeat 78 = .ok (.iload_n 2, 1) := by decide +kernel
theorem dn_X4_repeat_79 : decode cn_X4_repeat 79 = .ok (.invokevirtual 133, 3) := by decide +kernel
theorem dn_X4_repeat_82 : decode cn_X4_repeat 82 = .ok (.ifCond .ne 7, 3) := by decide +kernel
theorem dn_X4_repeat_85 : decode cn_X4_repeat 85 = .ok (.iconst 1, 1) := by decide +kernel
theorem dn_X4_repeat_86 : decode cn_X4_repeat 86 = .ok (.goto 4, 3) := by decide +kernel
theorem dn_X4_repeat_89 : decode cn_X4_repeat 89 = .ok (.iconst 0, 1) := by decide +kernel
theorem dn_X4_repeat_90 : decode cn_X4_repeat 90 = .ok (.invokevirtual 105, 3) := by decide +kernel
theorem dn_X4_repeat_93 : decode cn_X4_repeat 93 = .ok (.ifCond .eq 5, 3) := by decide +kernel
theorem dn_X4_repeat_96 : decode cn_X4_repeat 96 = .ok (.iconst 0, 1) := by decide +kernel
theorem dn_X4_repeat_97 : decode cn_X4_repeat 97 = .ok (.ireturn, 1) := by decide +kernel
theorem dn_X4_repeat_98 : decode cn_X4_repeat 98 = .ok (.aload_n 0, 1) := by decide +kernel
theorem dn_X4_repeat_99 : decode cn_X4_repeat 99 = .ok (.getfield 13, 3) := by decide +kernel
theorem dn_X4_repeat_102 : decode cn_X4_repeat 102 = .ok (.aload_n 0, 1) := by decide +kernel
theorem dn_X4_repeat_103 : decode cn_X4_repeat 103 = .ok (.getfield 116, 3) := by decide +kernel
theorem dn_X4_repeat_106 : decode cn_X4_repeat 106 = .ok (.iload_n 1, 1) := by decide +kernel
theorem dn_X4_repeat_107 : decode cn_X4_repeat 107 = .ok (.iastore, 1) := by decide +kernel
theorem dn_X4_repeat_108 : decode cn_X4_repeat 108 = .ok (.aload_n 0, 1) := by decide +kernel
theorem dn_X4_repeat_109 : decode cn_X4_repeat 109 = .ok (.getfield 16, 3) := by decide +kernel
theorem dn_X4_repeat_112 : decode cn_X4_repeat 112 = .ok (.aload_n 0, 1) := by decide +kernel
theorem dn_X4_repeat_113 : decode cn_X4_repeat 113 = .ok (.getfield 116, 3) := by decide +kernel
theorem dn_X4_repeat_116 : decode cn_X4_repeat 116 = .ok (.iload_n 2, 1) := by decide +kernel
theorem dn_X4_repeat_117 : decode cn_X4_repeat 117 = .ok (.iastore, 1) := by decide +kernel
theorem dn_X4_repeat_118 : decode cn_X4_repeat 118 = .ok (.aload_n 0, 1) := by decide +kernel
theorem dn_X4_repeat_119 : decode cn_X4_repeat 119 = .ok (.getfield 19, 3) := by decide +kernel
theorem dn_X4_repeat_122 : decode cn_X4_repeat 122 = .ok (.aload_n 0, 1) := by decide +kernel
theorem dn_X4_repeat_123 : decode cn_X4_repeat 123 = .ok (.getfield 116, 3) := by decide +kernel
theorem dn_X4_repeat_126 : decode cn_X4_repeat 126 = .ok (.iload_n 3, 1) := by decide +kernel
theorem dn_X4_repeat_127 : decode cn_X4_repeat 127 = .ok (.iastore, 1) := by decide +kernel
theorem dn_X4_repeat_128 : decode cn_X4_repeat 128 = .ok (.aload_n 0, 1) := by decide +kernel
theorem dn_X4_repeat_129 : decode cn_X4_repeat 129 = .ok (.dup, 1) := by decide +kernel
theorem dn_X4_repeat_130 : decode cn_X4_repeat 130 = .ok (.getfield 116, 3) := by decide +kernel
theorem dn_X4_repeat_133 : decode cn_X4_repeat 133 = .ok (.iconst 1, 1) := by decide +kernel
theorem dn_X4_repeat_134 : decode cn_X4_repeat 134 = .ok (.iadd, 1) := by decide +kernel
theorem dn_X4_repeat_135 : decode cn_X4_repeat 135 = .ok (.putfield 116, 3) := by decide +kernel
theorem dn_X4_repeat_138 : decode cn_X4_repeat 138 = .ok (.aload_n 0, 1) := by decide +kernel
theorem dn_X4_repeat_139 : decode cn_X4_repeat 139 = .ok (.getfield 116, 3) := by decide +kernel
theorem dn_X4_repeat_142 : decode cn_X4_repeat 142 = .ok (.iconst 1, 1) := by decide +kernel
theorem dn_X4_repeat_143 : decode cn_X4_repeat 143 = .ok (.isub, 1) := by decide +kernel
theorem dn_X4_repeat_144 : decode cn_X4_repeat 144 = .ok (.ireturn, 1) := by decide +kernel
theorem dn_X4_mayEnd_0 : decode cn_X4_mayEnd 0 = .ok (.iload_n 2, 1) := by decide +kernel
theorem dn_X4_mayEnd_1 : decode cn_X4_mayEnd 1 = .ok (.iload_n 3, 1) := by decide +kernel
theorem dn_X4_mayEnd_2 : decode cn_X4_mayEnd 2 = .ok (.aload_n 0, 1) := by decide +kernel
theorem dn_X4_mayEnd_3 : decode cn_X4_mayEnd 3 = .ok (.getfield 13, 3) := by decide +kernel
theorem dn_X4_mayEnd_6 : decode cn_X4_mayEnd 6 = .ok (.iload_n 1, 1) := by decide +kernel
theorem dn_X4_mayEnd_7 : decode cn_X4_mayEnd 7 = .ok (.iaload, 1) := by decide +kernel
theorem dn_X4_mayEnd_8 : decode cn_X4_mayEnd 8 = .ok (.aload_n 0, 1) := by decide +kernel
theorem dn_X4_mayEnd_9 : decode cn_X4_mayEnd 9 = .ok (.getfield 16, 3) := by decide +kernel
theorem dn_X4_mayEnd_12 : decode cn_X4_mayEnd 12 = .ok (.iload_n 1, 1) := by decide +kernel
theorem dn_X4_mayEnd_13 : decode cn_X4_mayEnd 13 = .ok (.iaload, 1) := by decide +kernel
theorem dn_X4_mayEnd_14 : decode cn_X4_mayEnd 14 = .ok (.invokestatic 113, 3) := by decide +kernel
theorem dn_X4_mayEnd_17 : decode cn_X4_mayEnd 17 = .ok (.ifCond .ne 5, 3) := by decide +kernel
theorem dn_X4_mayEnd_20 : decode cn_X4_mayEnd 20 = .ok (.iconst 0, 1) := by decide +kernel
theorem dn_X4_mayEnd_21 : decode cn_X4_mayEnd 21 = .ok (.ireturn, 1) := by decide +kernel
theorem dn_X4_mayEnd_22 : decode cn_X4_mayEnd 22 = .ok (.iconst 0, 1) := by decide +kernel
theorem dn_X4_mayEnd_23 : decode cn_X4_mayEnd 23 = .ok (.istore 4, 2) := by decide +kernel
theorem dn_X4_mayEnd_25 : decode cn_X4_mayEnd 25 = .ok (.iload 4, 2) := by decide +kernel
theorem dn_X4_mayEnd_27 : decode cn_X4_mayEnd 27 = .ok (.aload_n 0, 1) := by decide +kernel
theorem dn_X4_mayEnd_28 : decode cn_X4_mayEnd 28 = .ok (.getfield 122, 3) := by decide +kernel
theorem dn_X4_mayEnd_31 : decode cn_X4_mayEnd 31 = .ok (.if_icmp .ge 33, 3) := by decide +kernel
theorem dn_X4_mayEnd_34 : decode cn_X4_mayEnd 34 = .ok (.iload_n 2, 1) := by decide +kernel
theorem dn_X4_mayEnd_35 : decode cn_X4_mayEnd 35 = .ok (.iload_n 3, 1) := by decide +kernel
theorem dn_X4_mayEnd_36 : decode cn_X4_mayEnd 36 = .ok (.aload_n 0, 1) := by decide +kernel
theorem dn_X4_mayEnd_37 : decode cn_X4_mayEnd 37 = .ok (.getfield 25, 3) := by decide +kernel
theorem dn_X4_mayEnd_40 : decode cn_X4_mayEnd 40 = .ok (.iload 4, 2) := by decide +kernel
theorem dn_X4_mayEnd_42 : decode cn_X4_mayEnd 42 = .ok (.iaload, 1) := by decide +kernel
theorem dn_X4_mayEnd_43 : decode cn_X4_mayEnd 43 = .ok (.aload_n 0, 1) := by decide +kernel
theorem dn_X4_mayEnd_44 : decode cn_X4_mayEnd 44 = .ok (.getfield 28, 3) := by decide +kernel
theorem dn_X4_mayEnd_47 : decode cn_X4_mayEnd 47 = .ok (.iload 4, 2) := by decide +kernel
theorem dn_X4_mayEnd_49 : decode cn_X4_mayEnd 49 = .ok (.iaload, 1) := by decide +kernel
theorem dn_X4_mayEnd_50 : decode cn_X4_mayEnd 50 = .ok (.invokestatic 109, 3) := by decide +kernel
theorem dn_X4_mayEnd_53 : decode cn_X4_mayEnd 53 = .ok (.ifCond .ne 5, 3) := by decide +kernel
theorem dn_X4_mayEnd_56 : decode cn_X4_mayEnd 56 = .ok (.iconst 0, 1) := by decide +kernel
theorem dn_X4_mayEnd_57 : decode cn_X4_mayEnd 57 = .ok (.ireturn, 1) := by decide +kernel
theorem dn_X4_mayEnd_58 : decode cn_X4_mayEnd 58 = .ok (.iinc 4 1, 3) := by decide +kernel
theorem dn_X4_mayEnd_61 : decode cn_X4_mayEnd 61 = .ok (.goto (-36), 3) := by decide +kernel
theorem dn_X4_mayEnd_64 : decode cn_X4_mayEnd 64 = .ok (.iconst 0, 1) := by decide +kernel
theorem dn_X4_mayEnd_65 : decode cn_X4_mayEnd 65 = .ok (.istore 4, 2) := by decide +kernel
theorem dn_X4_mayEnd_67 : decode cn_X4_mayEnd 67 = .ok (.iload 4, 2) := by decide +kernel
theorem dn_X4_mayEnd_69 : decode cn_X4_mayEnd 69 = .ok (.aload_n 0, 1) := by decide +kernel
theorem dn_X4_mayEnd_70 : decode cn_X4_mayEnd 70 = .ok (.getfield 116, 3) := by decide +kernel
theorem dn_X4_mayEnd_73 : decode cn_X4_mayEnd 73 = .ok (.if_icmp .ge 33, 3) := by decide +kernel
theorem dn_X4_mayEnd_76 : decode cn_X4_mayEnd 76 = .ok (.iload_n 2, 1) := by decide +kernel
theorem dn_X4_mayEnd_77 : decode cn_X4_mayEnd 77 = .ok (.iload_n 3, 1) := by decide +kernel
theorem dn_X4_mayEnd_78 : decode cn_X4_mayEnd 78 = .ok (.aload_n 0, 1) := by decide +kernel
theorem dn_X4_mayEnd_79 : decode cn_X4_mayEnd 79 = .ok (.getfield 13, 3) := by decide +kernel
theorem dn_X4_mayEnd_82 : decode cn_X4_mayEnd 82 = .ok (.iload 4, 2) := by decide +kernel
theorem dn_X4_mayEnd_84 : decode cn_X4_mayEnd 84 = .ok (.iaload, 1) := by decide +kernel
theorem dn_X4_mayEnd_85 : decode cn_X4_mayEnd 85 = .ok (.aload_n 0, 1) := by decide +kernel
theorem dn_X4_mayEnd_86 : decode cn_X4_mayEnd 86 = .ok (.getfield 16, 3) := by decide +kernel
theorem dn_X4_mayEnd_89 : decode cn_X4_mayEnd 89 = .ok (.iload 4, 2) := by decide +kernel
theorem dn_X4_mayEnd_91 : decode cn_X4_mayEnd 91 = .ok (.iaload, 1) := by decide +kernel
theorem dn_X4_mayEnd_92 : decode cn_X4_mayEnd 92 = .ok (.invokestatic 119, 3) := by decide +kernel
theorem dn_X4_mayEnd_95 : decode cn_X4_mayEnd 95 = .ok (.ifCond .ne 5, 3) := by decide +kernel
theorem dn_X4_mayEnd_98 : decode cn_X4_mayEnd 98 = .ok (.iconst 0, 1) := by decide +kernel
theorem dn_X4_mayEnd_99 : decode cn_X4_mayEnd 99 = .ok (.ireturn, 1) := by decide +kernel
theorem dn_X4_mayEnd_100 : decode cn_X4_mayEnd 100 = .ok (.iinc 4 1, 3) := by decide +kernel
theorem dn_X4_mayEnd_103 : decode cn_X4_mayEnd 103 = .ok (.goto (-36), 3) := by decide +kernel
theorem dn_X4_mayEnd_106 : decode cn_X4_mayEnd 106 = .ok (.aload_n 0, 1) := by decide +kernel
theorem dn_X4_mayEnd_107 : decode cn_X4_mayEnd 107 = .ok (.getfield 122, 3) := by decide +kernel
theorem dn_X4_mayEnd_110 : decode cn_X4_mayEnd 110 = .ok (.bipush 20, 2) := by decide +kernel
theorem dn_X4_mayEnd_112 : decode cn_X4_mayEnd 112 = .ok (.if_icmp .ge 7, 3) := by decide +kernel
theorem dn_X4_mayEnd_115 : decode cn_X4_mayEnd 115 = .ok (.iconst 1, 1) := by decide +kernel
theorem dn_X4_mayEnd_116 : decode cn_X4_mayEnd 116 = .ok (.goto 4, 3) := by decide +kernel
theorem dn_X4_mayEnd_119 : decode cn_X4_mayEnd 119 = .ok (.iconst 0, 1) := by decide +kernel
theorem dn_X4_mayEnd_120 : decode cn_X4_mayEnd 120 = .ok (.ireturn, 1) := by decide +kernel
theorem dn_X4_ending_0 : decode cn_X4_ending 0 = .ok (.iload_n 1, 1) := by decide +kernel
theorem dn_X4_ending_1 : decode cn_X4_ending 1 = .ok (.ifCond .lt 31, 3) := by decide +kernel
theorem dn_X4_ending_4 : decode cn_X4_ending 4 = .ok (.iload_n 1, 1) := by decide +kernel
theorem dn_X4_ending_5 : decode cn_X4_ending 5 = .ok (.aload_n 0, 1) := by decide +kernel
theorem dn_X4_ending_6 : decode cn_X4_ending 6 = .ok (.getfield 116, 3) := by decide +kernel
theorem dn_X4_ending_9 : decode cn_X4_ending 9 = .ok (.if_icmp .ge 23, 3) := by decide +kernel
theorem dn_X4_ending_12 : decode cn_X4_ending 12 = .ok (.aload_n 0, 1) := by decide +kernel
theorem dn_X4_ending_13 : decode cn_X4_ending 13 = .ok (.iload_n 2, 1) := by decide +kernel
theorem dn_X4_ending_14 : decode cn_X4_ending 14 = .ok (.invokevirtual 129, 3) := by decide +kernel
theorem dn_X4_ending_17 : decode cn_X4_ending 17 = .ok (.ifCond .eq 15, 3) := by decide +kernel
theorem dn_X4_ending_20 : decode cn_X4_ending 20 = .ok (.aload_n 0, 1) := by decide +kernel
theorem dn_X4_ending_21 : decode cn_X4_ending 21 = .ok (.iload_n 3, 1) := by decide +kernel
theorem dn_X4_ending_22 : decode cn_X4_ending 22 = .ok (.invokevirtual 129, 3) := by decide +kernel
theorem dn_X4_ending_25 : decode cn_X4_ending 25 = .ok (.ifCond .eq 7, 3) := by decide +kernel
theorem dn_X4_ending_28 : decode cn_X4_ending 28 = .ok (.iconst 1, 1) := by decide +kernel
theorem dn_X4_ending_29 : decode cn_X4_ending 29 = .ok (.goto 4, 3) := by decide +kernel
theorem dn_X4_ending_32 : decode cn_X4_ending 32 = .ok (.iconst 0, 1) := by decide +kernel
theorem dn_X4_ending_33 : decode cn_X4_ending 33 = .ok (.istore 5, 2) := by decide +kernel
theorem dn_X4_ending_35 : decode cn_X4_ending 35 = .ok (.iload 5, 2) := by decide +kernel
theorem dn_X4_ending_37 : decode cn_X4_ending 37 = .ok (.ifCond .eq 30, 3) := by decide +kernel
theorem dn_X4_ending_40 : decode cn_X4_ending 40 = .ok (.iload_n 3, 1) := by decide +kernel
theorem dn_X4_ending_41 : decode cn_X4_ending 41 = .ok (.iload_n 2, 1) := by decide +kernel
theorem dn_X4_ending_42 : decode cn_X4_ending 42 = .ok (.if_icmp .lt 25, 3) := by decide +kernel
theorem dn_X4_ending_45 : decode cn_X4_ending 45 = .ok (.iload 4, 2) := by decide +kernel
theorem dn_X4_ending_47 : decode cn_X4_ending 47 = .ok (.ifCond .le 20, 3) := by decide +kernel
theorem dn_X4_ending_50 : decode cn_X4_ending 50 = .ok (.iload 4, 2) := by decide +kernel
theorem dn_X4_ending_52 : decode cn_X4_ending 52 = .ok (.iconst 1, 1) := by decide +kernel
theorem dn_X4_ending_53 : decode cn_X4_ending 53 = .ok (.aload_n 0, 1) := by decide +kernel
theorem dn_X4_ending_54 : decode cn_X4_ending 54 = .ok (.getfield 19, 3) := by decide +kernel
theorem dn_X4_ending_57 : decode cn_X4_ending 57 = .ok (.iload_n 1, 1) := by decide +kernel
theorem dn_X4_ending_58 : decode cn_X4_ending 58 = .ok (.iaload, 1) := by decide +kernel
theorem dn_X4_ending_59 : decode cn_X4_ending 59 = .ok (.ishl, 1) := by decide +kernel
theorem dn_X4_ending_60 : decode cn_X4_ending 60 = .ok (.if_icmp .ge 7, 3) := by decide +kernel
theorem dn_X4_ending_63 : decode cn_X4_ending 63 = .ok (.iconst 1, 1) := by decide +kernel
theorem dn_X4_ending_64 : decode cn_X4_ending 64 = .ok (.goto 4, 3) := by decide +kernel
theorem dn_X4_ending_67 : decode cn_X4_ending 67 = .ok (.iconst 0, 1) := by decide +kernel
theorem dn_X4_ending_68 : decode cn_X4_ending 68 = .ok (.istore 6, 2) := by decide +kernel
theorem dn_X4_ending_70 : decode cn_X4_ending 70 = .ok (.aload_n 0, 1) := by decide +kernel
theorem dn_X4_ending_71 : decode cn_X4_ending 71 = .ok (.iload 5, 2) := by decide +kernel
theorem dn_X4_ending_73 : decode cn_X4_ending 73 = .ok (.ifCond .ne 7, 3) := by decide +kernel
theorem dn_X4_ending_76 : decode cn_X4_ending 76 = .ok (.iconst 1, 1) := by decide +kernel
theorem dn_X4_ending_77 : decode cn_X4_ending 77 = .ok (.goto 4, 3) := by decide +kernel
theorem dn_X4_ending_80 : decode cn_X4_ending 80 = .ok (.iconst 0, 1) := by decide +kernel
theorem dn_X4_ending_81 : decode cn_X4_ending 81 = .ok (.iload 6, 2) := by decide +kernel
theorem dn_X4_ending_83 : decode cn_X4_ending 83 = .ok (.ifCond .ne 7, 3) := by decide +kernel
theorem dn_X4_ending_86 : decode cn_X4_ending 86 = .ok (.iconst 1, 1) := by decide +kernel
theorem dn_X4_ending_87 : decode cn_X4_ending 87 = .ok (.goto 4, 3) := by decide +kernel
theorem dn_X4_ending_90 : decode cn_X4_ending 90 = .ok (.iconst 0, 1) := by decide +kernel
theorem dn_X4_ending_91 : decode cn_X4_ending 91 = .ok (.iload 6, 2) := by decide +kernel
theorem dn_X4_ending_93 : decode cn_X4_ending 93 = .ok (.ifCond .eq 17, 3) := by decide +kernel
theorem dn_X4_ending_96 : decode cn_X4_ending 96 = .ok (.aload_n 0, 1) := by decide +kernel
theorem dn_X4_ending_97 : decode cn_X4_ending 97 = .ok (.iload_n 1, 1) := by decide +kernel
theorem dn_X4_ending_98 : decode cn_X4_ending 98 = .ok (.iload_n 2, 1) := by decide +kernel
theorem dn_X4_ending_99 : decode cn_X4_ending 99 = .ok (.iload_n 3, 1) := by decide +kernel
theorem dn_X4_ending_100 : decode cn_X4_ending 100 = .ok (.invokevirtual 136, 3) := by decide +kernel
theorem dn_X4_ending_103 : decode cn_X4_ending 103 = .ok (.ifCond .ne 7, 3) := by decide +kernel
theorem dn_X4_ending_106 : decode cn_X4_ending 106 = .ok (.iconst 1, 1) := by decide +kernel
theorem dn_X4_ending_107 : decode cn_X4_ending 107 = .ok (.goto 4, 3) := by decide +kernel
theorem dn_X4_ending_110 : decode cn_X4_ending 110 = .ok (.iconst 0, 1) := by decide +kernel
theorem dn_X4_ending_111 : decode cn_X4_ending 111 = .ok (.invokevirtual 105, 3) := by decide +kernel
theorem dn_X4_ending_114 : decode cn_X4_ending 114 = .ok (.ifCond .eq 5, 3) := by decide +kernel
theorem dn_X4_ending_117 : decode cn_X4_ending 117 = .ok (.iconst 0, 1) := by decide +kernel
theorem dn_X4_ending_118 : decode cn_X4_ending 118 = .ok (.ireturn, 1) := by decide +kernel
theorem dn_X4_ending_119 : decode cn_X4_ending 119 = .ok (.aload_n 0, 1) := by decide +kernel
theorem dn_X4_ending_120 : decode cn_X4_ending 120 = .ok (.getfield 22, 3) := by decide +kernel
theorem dn_X4_ending_123 : decode cn_X4_ending 123 = .ok (.aload_n 0, 1) := by decide +kernel
theorem dn_X4_ending_124 : decode cn_X4_ending 124 = .ok (.getfield 122, 3) := by decide +kernel
theorem dn_X4_ending_127 : decode cn_X4_ending 127 = .ok (.iload_n 1, 1) := by decide +kernel
theorem dn_X4_ending_128 : decode cn_X4_ending 128 = .ok (.iastore, 1) := by decide +kernel
theorem dn_X4_ending_129 : decode cn_X4_ending 129 = .ok (.aload_n 0, 1) := by decide +kernel
theorem dn_X4_ending_130 : decode cn_X4_ending 130 = .ok (.getfield 25, 3) := by decide +kernel
theorem dn_X4_ending_133 : decode cn_X4_ending 133 = .ok (.aload_n 0, 1) := by decide +kernel
theorem dn_X4_ending_134 : decode cn_X4_ending 134 = .ok (.getfield 122, 3) := by decide +kernel
theorem dn_X4_ending_137 : decode cn_X4_ending 137 = .ok (.iload_n 2, 1) := by decide +kernel
theorem dn_X4_ending_138 : decode cn_X4_ending 138 = .ok (.iastore, 1) := by decide +kernel
theorem dn_X4_ending_139 : decode cn_X4_ending 139 = .ok (.aload_n 0, 1) := by decide +kernel
theorem dn_X4_ending_140 : decode cn_X4_ending 140 = .ok (.getfield 28, 3) := by decide +kernel
theorem dn_X4_ending_143 : decode cn_X4_ending 143 = .ok (.aload_n 0, 1) := by decide +kernel
theorem dn_X4_ending_144 : decode cn_X4_ending 144 = .ok (.getfield 122, 3) := by decide +kernel
theorem dn_X4_ending_147 : decode cn_X4_ending 147 = .ok (.iload_n 3, 1) := by decide +kernel
theorem dn_X4_ending_148 : decode cn_X4_ending 148 = .ok (.iastore, 1) := by decide +kernel
theorem dn_X4_ending_149 : decode cn_X4_ending 149 = .ok (.aload_n 0, 1) := by decide +kernel
theorem dn_X4_ending_150 : decode cn_X4_ending 150 = .ok (.getfield 31, 3) := by decide +kernel
theorem dn_X4_ending_153 : decode cn_X4_ending 153 = .ok (.aload_n 0, 1) := by decide +kernel
theorem dn_X4_ending_154 : decode cn_X4_ending 154 = .ok (.getfield 122, 3) := by decide +kernel
theorem dn_X4_ending_157 : decode cn_X4_ending 157 = .ok (.iload 4, 2) := by decide +kernel
theorem dn_X4_ending_159 : decode cn_X4_ending 159 = .ok (.iastore, 1) := by decide +kernel
theorem dn_X4_ending_160 : decode cn_X4_ending 160 = .ok (.aload_n 0, 1) := by decide +kernel
theorem dn_X4_ending_161 : decode cn_X4_ending 161 = .ok (.dup, 1) := by decide +kernel
theorem dn_X4_ending_162 : decode cn_X4_ending 162 = .ok (.getfield 122, 3) := by decide +kernel
theorem dn_X4_ending_165 : decode cn_X4_ending 165 = .ok (.iconst 1, 1) := by decide +kernel
theorem dn_X4_ending_166 : decode cn_X4_ending 166 = .ok (.iadd, 1) := by decide +kernel
theorem dn_X4_ending_167 : decode cn_X4_ending 167 = .ok (.putfield 122, 3) := by decide +kernel
theorem dn_X4_ending_170 : decode cn_X4_ending 170 = .ok (.aload_n 0, 1) := by decide +kernel
theorem dn_X4_ending_171 : decode cn_X4_ending 171 = .ok (.getfield 122, 3) := by decide +kernel
theorem dn_X4_ending_174 : decode cn_X4_ending 174 = .ok (.iconst 1, 1) := by decide +kernel
theorem dn_X4_ending_175 : decode cn_X4_ending 175 = .ok (.isub, 1) := by decide +kernel
theorem dn_X4_ending_176 : decode cn_X4_ending 176 = .ok (.ireturn, 1) := by decide +kernel
theorem dn_X4_sign_0 : decode cn_X4_sign 0 = .ok (.aload_n 0, 1) := by decide +kernel
theorem dn_X4_sign_1 : decode cn_X4_sign 1 = .ok (.iload_n 1, 1) := by decide +kernel
theorem dn_X4_sign_2 : decode cn_X4_sign 2 = .ok (.ifCond .lt 8, 3) := by decide +kernel
theorem dn_X4_sign_5 : decode cn_X4_sign 5 = .ok (.iload_n 1, 1) := by decide +kernel
theorem dn_X4_sign_6 : decode cn_X4_sign 6 = .ok (.iconst 3, 1) := by decide +kernel
theorem dn_X4_sign_7 : decode cn_X4_sign 7 = .ok (.if_icmp .le 7, 3) := by decide +kernel
theorem dn_X4_sign_10 : decode cn_X4_sign 10 = .ok (.iconst 1, 1) := by decide +kernel
theorem dn_X4_sign_11 : decode cn_X4_sign 11 = .ok (.goto 4, 3) := by decide +kernel
theorem dn_X4_sign_14 : decode cn_X4_sign 14 = .ok (.iconst 0, 1) := by decide +kernel
theorem dn_X4_sign_15 : decode cn_X4_sign 15 = .ok (.iload_n 2, 1) := by decide +kernel
theorem dn_X4_sign_16 : decode cn_X4_sign 16 = .ok (.iconst (-1), 1) := by decide +kernel
theorem dn_X4_sign_17 : decode cn_X4_sign 17 = .ok (.if_icmp .eq 15, 3) := by decide +kernel
theorem dn_X4_sign_20 : decode cn_X4_sign 20 = .ok (.aload_n 0, 1) := by decide +kernel
theorem dn_X4_sign_21 : decode cn_X4_sign 21 = .ok (.iload_n 2, 1) := by decide +kernel
theorem dn_X4_sign_22 : decode cn_X4_sign 22 = .ok (.invokevirtual 129, 3) := by decide +kernel
theorem dn_X4_sign_25 : decode cn_X4_sign 25 = .ok (.ifCond .ne 7, 3) := by decide +kernel
theorem dn_X4_sign_28 : decode cn_X4_sign 28 = .ok (.iconst 1, 1) := by decide +kernel
theorem dn_X4_sign_29 : decode cn_X4_sign 29 = .ok (.goto 4, 3) := by decide +kernel
theorem dn_X4_sign_32 : decode cn_X4_sign 32 = .ok (.iconst 0, 1) := by decide +kernel
theorem dn_X4_sign_33 : decode cn_X4_sign 33 = .ok (.iconst 0, 1) := by decide +kernel
theorem dn_X4_sign_34 : decode cn_X4_sign 34 = .ok (.invokevirtual 105, 3) := by decide +kernel
theorem dn_X4_sign_37 : decode cn_X4_sign 37 = .ok (.ifCond .eq 5, 3) := by decide +kernel
theorem dn_X4_sign_40 : decode cn_X4_sign 40 = .ok (.iconst 0, 1) := by decide +kernel
theorem dn_X4_sign_41 : decode cn_X4_sign 41 = .ok (.ireturn, 1) := by decide +kernel
theorem dn_X4_sign_42 : decode cn_X4_sign 42 = .ok (.aload_n 0, 1) := by decide +kernel
theorem dn_X4_sign_43 : decode cn_X4_sign 43 = .ok (.getfield 34, 3) := by decide +kernel
theorem dn_X4_sign_46 : decode cn_X4_sign 46 = .ok (.iload_n 1, 1) := by decide +kernel
theorem dn_X4_sign_47 : decode cn_X4_sign 47 = .ok (.iaload, 1) := by decide +kernel
theorem dn_X4_sign_48 : decode cn_X4_sign 48 = .ok (.istore_n 3, 1) := by decide +kernel
theorem dn_X4_sign_49 : decode cn_X4_sign 49 = .ok (.aload_n 0, 1) := by decide +kernel
theorem dn_X4_sign_50 : decode cn_X4_sign 50 = .ok (.getfield 34, 3) := by decide +kernel
theorem dn_X4_sign_53 : decode cn_X4_sign 53 = .ok (.iload_n 1, 1) := by decide +kernel
theorem dn_X4_sign_54 : decode cn_X4_sign 54 = .ok (.iload_n 2, 1) := by decide +kernel
theorem dn_X4_sign_55 : decode cn_X4_sign 55 = .ok (.iastore, 1) := by decide +kernel
theorem dn_X4_sign_56 : decode cn_X4_sign 56 = .ok (.iload_n 3, 1) := by decide +kernel
theorem dn_X4_sign_57 : decode cn_X4_sign 57 = .ok (.ireturn, 1) := by decide +kernel
theorem dn_X4_jump_0 : decode cn_X4_jump 0 = .ok (.aload_n 0, 1) := by decide +kernel
theorem dn_X4_jump_1 : decode cn_X4_jump 1 = .ok (.aload_n 0, 1) := by decide +kernel
theorem dn_X4_jump_2 : decode cn_X4_jump 2 = .ok (.iload_n 1, 1) := by decide +kernel
theorem dn_X4_jump_3 : decode cn_X4_jump 3 = .ok (.invokevirtual 129, 3) := by decide +kernel
theorem dn_X4_jump_6 : decode cn_X4_jump 6 = .ok (.ifCond .ne 7, 3) := by decide +kernel
theorem dn_X4_jump_9 : decode cn_X4_jump 9 = .ok (.iconst 1, 1) := by decide +kernel
theorem dn_X4_jump_10 : decode cn_X4_jump 10 = .ok (.goto 4, 3) := by decide +kernel
theorem dn_X4_jump_13 : decode cn_X4_jump 13 = .ok (.iconst 0, 1) := by decide +kernel
theorem dn_X4_jump_14 : decode cn_X4_jump 14 = .ok (.iload_n 2, 1) := by decide +kernel
theorem dn_X4_jump_15 : decode cn_X4_jump 15 = .ok (.ifCond .lt 17, 3) := by decide +kernel
theorem dn_X4_jump_18 : decode cn_X4_jump 18 = .ok (.iload_n 2, 1) := by decide +kernel
theorem dn_X4_jump_19 : decode cn_X4_jump 19 = .ok (.iconst 1, 1) := by decide +kernel
theorem dn_X4_jump_20 : decode cn_X4_jump 20 = .ok (.if_icmp .gt 12, 3) := by decide +kernel
theorem dn_X4_jump_23 : decode cn_X4_jump 23 = .ok (.iload_n 3, 1) := by decide +kernel
theorem dn_X4_jump_24 : decode cn_X4_jump 24 = .ok (.ifCond .lt 8, 3) := by decide +kernel
theorem dn_X4_jump_27 : decode cn_X4_jump 27 = .ok (.iload_n 3, 1) := by decide +kernel
theorem dn_X4_jump_28 : decode cn_X4_jump 28 = .ok (.iconst 2, 1) := by decide +kernel
theorem dn_X4_jump_29 : decode cn_X4_jump 29 = .ok (.if_icmp .le 7, 3) := by decide +kernel
theorem dn_X4_jump_32 : decode cn_X4_jump 32 = .ok (.iconst 1, 1) := by decide +kernel
theorem dn_X4_jump_33 : decode cn_X4_jump 33 = .ok (.goto 4, 3) := by decide +kernel
theorem dn_X4_jump_36 : decode cn_X4_jump 36 = .ok (.iconst 0, 1) := by decide +kernel
theorem dn_X4_jump_37 : decode cn_X4_jump 37 = .ok (.iconst 0, 1) := by decide +kernel
theorem dn_X4_jump_38 : decode cn_X4_jump 38 = .ok (.invokevirtual 105, 3) := by decide +kernel
theorem dn_X4_jump_41 : decode cn_X4_jump 41 = .ok (.ifCond .eq 4, 3) := by decide +kernel
theorem dn_X4_jump_44 : decode cn_X4_jump 44 = .ok (.return_, 1) := by decide +kernel
theorem dn_X4_jump_45 : decode cn_X4_jump 45 = .ok (.aload_n 0, 1) := by decide +kernel
theorem dn_X4_jump_46 : decode cn_X4_jump 46 = .ok (.getfield 37, 3) := by decide +kernel
theorem dn_X4_jump_49 : decode cn_X4_jump 49 = .ok (.iload_n 1, 1) := by decide +kernel
theorem dn_X4_jump_50 : decode cn_X4_jump 50 = .ok (.iconst 1, 1) := by decide +kernel
theorem dn_X4_jump_51 : decode cn_X4_jump 51 = .ok (.bastore, 1) := by decide +kernel
theorem dn_X4_jump_52 : decode cn_X4_jump 52 = .ok (.aload_n 0, 1) := by decide +kernel
theorem dn_X4_jump_53 : decode cn_X4_jump 53 = .ok (.getfield 41, 3) := by decide +kernel
theorem dn_X4_jump_56 : decode cn_X4_jump 56 = .ok (.iload_n 1, 1) := by decide +kernel
theorem dn_X4_jump_57 : decode cn_X4_jump 57 = .ok (.iload_n 2, 1) := by decide +kernel
theorem dn_X4_jump_58 : decode cn_X4_jump 58 = .ok (.iastore, 1) := by decide +kernel
theorem dn_X4_jump_59 : decode cn_X4_jump 59 = .ok (.aload_n 0, 1) := by decide +kernel
theorem dn_X4_jump_60 : decode cn_X4_jump 60 = .ok (.getfield 44, 3) := by decide +kernel
theorem dn_X4_jump_63 : decode cn_X4_jump 63 = .ok (.iload_n 1, 1) := by decide +kernel
theorem dn_X4_jump_64 : decode cn_X4_jump 64 = .ok (.iload_n 3, 1) := by decide +kernel
theorem dn_X4_jump_65 : decode cn_X4_jump 65 = .ok (.iastore, 1) := by decide +kernel
theorem dn_X4_jump_66 : decode cn_X4_jump 66 = .ok (.aload_n 0, 1) := by decide +kernel
theorem dn_X4_jump_67 : decode cn_X4_jump 67 = .ok (.getfield 47, 3) := by decide +kernel
theorem dn_X4_jump_70 : decode cn_X4_jump 70 = .ok (.iload_n 1, 1) := by decide +kernel
theorem dn_X4_jump_71 : decode cn_X4_jump 71 = .ok (.iload 4, 2) := by decide +kernel
theorem dn_X4_jump_73 : decode cn_X4_jump 73 = .ok (.bastore, 1) := by decide +kernel
theorem dn_X4_jump_74 : decode cn_X4_jump 74 = .ok (.return_, 1) := by decide +kernel
theorem dn_X4_plain_0 : decode cn_X4_plain 0 = .ok (.aload_n 0, 1) := by decide +kernel
theorem dn_X4_plain_1 : decode cn_X4_plain 1 = .ok (.aload_n 0, 1) := by decide +kernel
theorem dn_X4_plain_2 : decode cn_X4_plain 2 = .ok (.iload_n 1, 1) := by decide +kernel
theorem dn_X4_plain_3 : decode cn_X4_plain 3 = .ok (.invokevirtual 129, 3) := by decide +kernel
theorem dn_X4_plain_6 : decode cn_X4_plain 6 = .ok (.ifCond .ne 7, 3) := by decide +kernel
theorem dn_X4_plain_9 : decode cn_X4_plain 9 = .ok (.iconst 1, 1) := by decide +kernel
theorem dn_X4_plain_10 : decode cn_X4_plain 10 = .ok (.goto 4, 3) := by decide +kernel
theorem dn_X4_plain_13 : decode cn_X4_plain 13 = .ok (.iconst 0, 1) := by decide +kernel
theorem dn_X4_plain_14 : decode cn_X4_plain 14 = .ok (.aload_n 0, 1) := by decide +kernel
theorem dn_X4_plain_15 : decode cn_X4_plain 15 = .ok (.iload_n 1, 1) := by decide +kernel
theorem dn_X4_plain_16 : decode cn_X4_plain 16 = .ok (.invokevirtual 129, 3) := by decide +kernel
theorem dn_X4_plain_19 : decode cn_X4_plain 19 = .ok (.ifCond .eq 16, 3) := by decide +kernel
theorem dn_X4_plain_22 : decode cn_X4_plain 22 = .ok (.aload_n 0, 1) := by decide +kernel
theorem dn_X4_plain_23 : decode cn_X4_plain 23 = .ok (.getfield 37, 3) := by decide +kernel
theorem dn_X4_plain_26 : decode cn_X4_plain 26 = .ok (.iload_n 1, 1) := by decide +kernel
theorem dn_X4_plain_27 : decode cn_X4_plain 27 = .ok (.baload, 1) := by decide +kernel
theorem dn_X4_plain_28 : decode cn_X4_plain 28 = .ok (.ifCond .ne 7, 3) := by decide +kernel
theorem dn_X4_plain_31 : decode cn_X4_plain 31 = .ok (.iconst 1, 1) := by decide +kernel
theorem dn_X4_plain_32 : decode cn_X4_plain 32 = .ok (.goto 4, 3) := by decide +kernel
theorem dn_X4_plain_35 : decode cn_X4_plain 35 = .ok (.iconst 0, 1) := by decide +kernel
theorem dn_X4_plain_36 : decode cn_X4_plain 36 = .ok (.iconst 0, 1) := by decide +kernel
theorem dn_X4_plain_37 : decode cn_X4_plain 37 = .ok (.invokevirtual 105, 3) := by decide +kernel
theorem dn_X4_plain_40 : decode cn_X4_plain 40 = .ok (.ifCond .ne 10, 3) := by decide +kernel
theorem dn_X4_plain_43 : decode cn_X4_plain 43 = .ok (.aload_n 0, 1) := by decide +kernel
theorem dn_X4_plain_44 : decode cn_X4_plain 44 = .ok (.getfield 37, 3) := by decide +kernel
theorem dn_X4_plain_47 : decode cn_X4_plain 47 = .ok (.iload_n 1, 1) := by decide +kernel
theorem dn_X4_plain_48 : decode cn_X4_plain 48 = .ok (.iconst 0, 1) := by decide +kernel
theorem dn_X4_plain_49 : decode cn_X4_plain 49 = .ok (.bastore, 1) := by decide +kernel
theorem dn_X4_plain_50 : decode cn_X4_plain 50 = .ok (.return_, 1) := by decide +kernel
theorem dn_X4_missing_0 : decode cn_X4_missing 0 = .ok (.aload_n 0, 1) := by decide +kernel
theorem dn_X4_missing_1 : decode cn_X4_missing 1 = .ok (.getfield 41, 3) := by decide +kernel
theorem dn_X4_missing_4 : decode cn_X4_missing 4 = .ok (.iload_n 1, 1) := by decide +kernel
theorem dn_X4_missing_5 : decode cn_X4_missing 5 = .ok (.iaload, 1) := by decide +kernel
theorem dn_X4_missing_6 : decode cn_X4_missing 6 = .ok (.iconst 1, 1) := by decide +kernel
theorem dn_X4_missing_7 : decode cn_X4_missing 7 = .ok (.if_icmp .ne 15, 3) := by decide +kernel
theorem dn_X4_missing_10 : decode cn_X4_missing 10 = .ok (.aload_n 0, 1) := by decide +kernel
theorem dn_X4_missing_11 : decode cn_X4_missing 11 = .ok (.getfield 34, 3) := by decide +kernel
theorem dn_X4_missing_14 : decode cn_X4_missing 14 = .ok (.iconst 0, 1) := by decide +kernel
theorem dn_X4_missing_15 : decode cn_X4_missing 15 = .ok (.iaload, 1) := by decide +kernel
theorem dn_X4_missing_16 : decode cn_X4_missing 16 = .ok (.iconst (-1), 1) := by decide +kernel
theorem dn_X4_missing_17 : decode cn_X4_missing 17 = .ok (.if_icmp .ne 5, 3) := by decide +kernel
theorem dn_X4_missing_20 : decode cn_X4_missing 20 = .ok (.iconst 1, 1) := by decide +kernel
theorem dn_X4_missing_21 : decode cn_X4_missing 21 = .ok (.ireturn, 1) := by decide +kernel
theorem dn_X4_missing_22 : decode cn_X4_missing 22 = .ok (.aload_n 0, 1) := by decide +kernel
theorem dn_X4_missing_23 : decode cn_X4_missing 23 = .ok (.getfield 44, 3) := by decide +kernel
theorem dn_X4_missing_26 : decode cn_X4_missing 26 = .ok (.iload_n 1, 1) := by decide +kernel
theorem dn_X4_missing_27 : decode cn_X4_missing 27 = .ok (.iaload, 1) := by decide +kernel
theorem dn_X4_missing_28 : decode cn_X4_missing 28 = .ok (.iconst 1, 1) := by decide +kernel
theorem dn_X4_missing_29 : decode cn_X4_missing 29 = .ok (.if_icmp .ne 15, 3) := by decide +kernel
theorem dn_X4_missing_32 : decode cn_X4_missing 32 = .ok (.aload_n 0, 1) := by decide +kernel
theorem dn_X4_missing_33 : decode cn_X4_missing 33 = .ok (.getfield 34, 3) := by decide +kernel
theorem dn_X4_missing_36 : decode cn_X4_missing 36 = .ok (.iconst 3, 1) := by decide +kernel
theorem dn_X4_missing_37 : decode cn_X4_missing 37 = .ok (.iaload, 1) := by decide +kernel
theorem dn_X4_missing_38 : decode cn_X4_missing 38 = .ok (.iconst (-1), 1) := by decide +kernel
theorem dn_X4_missing_39 : decode cn_X4_missing 39 = .ok (.if_icmp .ne 5, 3) := by decide +kernel
theorem dn_X4_missing_42 : decode cn_X4_missing 42 = .ok (.iconst 2, 1) := by decide +kernel
theorem dn_X4_missing_43 : decode cn_X4_missing 43 = .ok (.ireturn, 1) := by decide +kernel
theorem dn_X4_missing_44 : decode cn_X4_missing 44 = .ok (.aload_n 0, 1) := by decide +kernel
theorem dn_X4_missing_45 : decode cn_X4_missing 45 = .ok (.getfield 44, 3) := by decide +kernel
theorem dn_X4_missing_48 : decode cn_X4_missing 48 = .ok (.iload_n 1, 1) := by decide +kernel
theorem dn_X4_missing_49 : decode cn_X4_missing 49 = .ok (.iaload, 1) := by decide +kernel
theorem dn_X4_missing_50 : decode cn_X4_missing 50 = .ok (.iconst 2, 1) := by decide +kernel
theorem dn_X4_missing_51 : decode cn_X4_missing 51 = .ok (.if_icmp .ne 27, 3) := by decide +kernel
theorem dn_X4_missing_54 : decode cn_X4_missing 54 = .ok (.aload_n 0, 1) := by decide +kernel
theorem dn_X4_missing_55 : decode cn_X4_missing 55 = .ok (.getfield 34, 3) := by decide +kernel
theorem dn_X4_missing_58 : decode cn_X4_missing 58 = .ok (.iconst 2, 1) := by decide +kernel
theorem dn_X4_missing_59 : decode cn_X4_missing 59 = .ok (.iaload, 1) := by decide +kernel
theorem dn_X4_missing_60 : decode cn_X4_missing 60 = .ok (.iconst (-1), 1) := by decide +kernel
theorem dn_X4_missing_61 : decode cn_X4_missing 61 = .ok (.if_icmp .eq 13, 3) := by decide +kernel
theorem dn_X4_missing_64 : decode cn_X4_missing 64 = .ok (.aload_n 0, 1) := by decide +kernel
theorem dn_X4_missing_65 : decode cn_X4_missing 65 = .ok (.getfield 34, 3) := by decide +kernel
theorem dn_X4_missing_68 : decode cn_X4_missing 68 = .ok (.iconst 1, 1) := by decide +kernel
theorem dn_X4_missing_69 : decode cn_X4_missing 69 = .ok (.iaload, 1) := by decide +kernel
theorem dn_X4_missing_70 : decode cn_X4_missing 70 = .ok (.iconst (-1), 1) := by decide +kernel
theorem dn_X4_missing_71 : decode cn_X4_missing 71 = .ok (.if_icmp .ne 7, 3) := by decide +kernel
theorem dn_X4_missing_74 : decode cn_X4_missing 74 = .ok (.iconst 3, 1) := by decide +kernel
theorem dn_X4_missing_75 : decode cn_X4_missing 75 = .ok (.goto 4, 3) := by decide +kernel
theorem dn_X4_missing_78 : decode cn_X4_missing 78 = .ok (.iconst 0, 1) := by decide +kernel
theorem dn_X4_missing_79 : decode cn_X4_missing 79 = .ok (.ireturn, 1) := by decide +kernel
theorem dn_X4_forget_0 : decode cn_X4_forget 0 = .ok (.aload_n 0, 1) := by decide +kernel
theorem dn_X4_forget_1 : decode cn_X4_forget 1 = .ok (.iconst (-1), 1) := by decide +kernel
theorem dn_X4_forget_2 : decode cn_X4_forget 2 = .ok (.putfield 50, 3) := by decide +kernel
theorem dn_X4_forget_5 : decode cn_X4_forget 5 = .ok (.aload_n 0, 1) := by decide +kernel
theorem dn_X4_forget_6 : decode cn_X4_forget 6 = .ok (.iconst 0, 1) := by decide +kernel
theorem dn_X4_forget_7 : decode cn_X4_forget 7 = .ok (.putfield 140, 3) := by decide +kernel
theorem dn_X4_forget_10 : decode cn_X4_forget 10 = .ok (.aload_n 0, 1) := by decide +kernel
theorem dn_X4_forget_11 : decode cn_X4_forget 11 = .ok (.iconst 0, 1) := by decide +kernel
theorem dn_X4_forget_12 : decode cn_X4_forget 12 = .ok (.putfield 143, 3) := by decide +kernel
theorem dn_X4_forget_15 : decode cn_X4_forget 15 = .ok (.aload_n 0, 1) := by decide +kernel
theorem dn_X4_forget_16 : decode cn_X4_forget 16 = .ok (.iconst (-1), 1) := by decide +kernel
theorem dn_X4_forget_17 : decode cn_X4_forget 17 = .ok (.putfield 146, 3) := by decide +kernel
theorem dn_X4_forget_20 : decode cn_X4_forget 20 = .ok (.aload_n 0, 1) := by decide +kernel
theorem dn_X4_forget_21 : decode cn_X4_forget 21 = .ok (.iconst 0, 1) := by decide +kernel
theorem dn_X4_forget_22 : decode cn_X4_forget 22 = .ok (.putfield 149, 3) := by decide +kernel
theorem dn_X4_forget_25 : decode cn_X4_forget 25 = .ok (.aload_n 0, 1) := by decide +kernel
theorem dn_X4_forget_26 : decode cn_X4_forget 26 = .ok (.iconst 0, 1) := by decide +kernel
theorem dn_X4_forget_27 : decode cn_X4_forget 27 = .ok (.putfield 153, 3) := by decide +kernel
theorem dn_X4_forget_30 : decode cn_X4_forget 30 = .ok (.iconst 0, 1) := by decide +kernel
theorem dn_X4_forget_31 : decode cn_X4_forget 31 = .ok (.istore_n 1, 1) := by decide +kernel
theorem dn_X4_forget_32 : decode cn_X4_forget 32 = .ok (.iload_n 1, 1) := by decide +kernel
theorem dn_X4_forget_33 : decode cn_X4_forget 33 = .ok (.bipush 60, 2) := by decide +kernel
theorem dn_X4_forget_35 : decode cn_X4_forget 35 = .ok (.if_icmp .ge 23, 3) := by decide +kernel
theorem dn_X4_forget_38 : decode cn_X4_forget 38 = .ok (.aload_n 0, 1) := by decide +kernel
theorem dn_X4_forget_39 : decode cn_X4_forget 39 = .ok (.getfield 66, 3) := by decide +kernel
theorem dn_X4_forget_42 : decode cn_X4_forget 42 = .ok (.iload_n 1, 1) := by decide +kernel
theorem dn_X4_forget_43 : decode cn_X4_forget 43 = .ok (.iconst 0, 1) := by decide +kernel
theorem dn_X4_forget_44 : decode cn_X4_forget 44 = .ok (.iastore, 1) := by decide +kernel
theorem dn_X4_forget_45 : decode cn_X4_forget 45 = .ok (.aload_n 0, 1) := by decide +kernel
theorem dn_X4_forget_46 : decode cn_X4_forget 46 = .ok (.getfield 72, 3) := by decide +kernel
theorem dn_X4_forget_49 : decode cn_X4_forget 49 = .ok (.iload_n 1, 1) := by decide +kernel
theorem dn_X4_forget_50 : decode cn_X4_forget 50 = .ok (.iconst 0, 1) := by decide +kernel
theorem dn_X4_forget_51 : decode cn_X4_forget 51 = .ok (.bastore, 1) := by decide +kernel
theorem dn_X4_forget_52 : decode cn_X4_forget 52 = .ok (.iinc 1 1, 3) := by decide +kernel
theorem dn_X4_forget_55 : decode cn_X4_forget 55 = .ok (.goto (-23), 3) := by decide +kernel
theorem dn_X4_forget_58 : decode cn_X4_forget 58 = .ok (.aload_n 0, 1) := by decide +kernel
theorem dn_X4_forget_59 : decode cn_X4_forget 59 = .ok (.invokevirtual 156, 3) := by decide +kernel
theorem dn_X4_forget_62 : decode cn_X4_forget 62 = .ok (.return_, 1) := by decide +kernel
theorem dn_X4_leaveAll_0 : decode cn_X4_leaveAll 0 = .ok (.iconst 0, 1) := by decide +kernel
theorem dn_X4_leaveAll_1 : decode cn_X4_leaveAll 1 = .ok (.istore_n 1, 1) := by decide +kernel
theorem dn_X4_leaveAll_2 : decode cn_X4_leaveAll 2 = .ok (.iload_n 1, 1) := by decide +kernel
theorem dn_X4_leaveAll_3 : decode cn_X4_leaveAll 3 = .ok (.bipush 20, 2) := by decide +kernel
theorem dn_X4_leaveAll_5 : decode cn_X4_leaveAll 5 = .ok (.if_icmp .ge 16, 3) := by decide +kernel
theorem dn_X4_leaveAll_8 : decode cn_X4_leaveAll 8 = .ok (.aload_n 0, 1) := by decide +kernel
theorem dn_X4_leaveAll_9 : decode cn_X4_leaveAll 9 = .ok (.getfield 69, 3) := by decide +kernel
theorem dn_X4_leaveAll_12 : decode cn_X4_leaveAll 12 = .ok (.iload_n 1, 1) := by decide +kernel
theorem dn_X4_leaveAll_13 : decode cn_X4_leaveAll 13 = .ok (.iconst 0, 1) := by decide +kernel
theorem dn_X4_leaveAll_14 : decode cn_X4_leaveAll 14 = .ok (.iastore, 1) := by decide +kernel
theorem dn_X4_leaveAll_15 : decode cn_X4_leaveAll 15 = .ok (.iinc 1 1, 3) := by decide +kernel
theorem dn_X4_leaveAll_18 : decode cn_X4_leaveAll 18 = .ok (.goto (-16), 3) := by decide +kernel
theorem dn_X4_leaveAll_21 : decode cn_X4_leaveAll 21 = .ok (.return_, 1) := by decide +kernel
theorem dn_X4_unfold_0 : decode cn_X4_unfold 0 = .ok (.aload_n 0, 1) := by decide +kernel
theorem dn_X4_unfold_1 : decode cn_X4_unfold 1 = .ok (.iconst 0, 1) := by decide +kernel
theorem dn_X4_unfold_2 : decode cn_X4_unfold 2 = .ok (.putfield 99, 3) := by decide +kernel
theorem dn_X4_unfold_5 : decode cn_X4_unfold 5 = .ok (.aload_n 0, 1) := by decide +kernel
theorem dn_X4_unfold_6 : decode cn_X4_unfold 6 = .ok (.invokevirtual 159, 3) := by decide +kernel
theorem dn_X4_unfold_9 : decode cn_X4_unfold 9 = .ok (.iconst 0, 1) := by decide +kernel
theorem dn_X4_unfold_10 : decode cn_X4_unfold 10 = .ok (.istore_n 1, 1) := by decide +kernel
theorem dn_X4_unfold_11 : decode cn_X4_unfold 11 = .ok (.iload_n 1, 1) := by decide +kernel
theorem dn_X4_unfold_12 : decode cn_X4_unfold 12 = .ok (.aload_n 0, 1) := by decide +kernel
theorem dn_X4_unfold_13 : decode cn_X4_unfold 13 = .ok (.getfield 102, 3) := by decide +kernel
theorem dn_X4_unfold_16 : decode cn_X4_unfold 16 = .ok (.if_icmp .ge 39, 3) := by decide +kernel
theorem dn_X4_unfold_19 : decode cn_X4_unfold 19 = .ok (.aload_n 0, 1) := by decide +kernel
theorem dn_X4_unfold_20 : decode cn_X4_unfold 20 = .ok (.getfield 37, 3) := by decide +kernel
theorem dn_X4_unfold_23 : decode cn_X4_unfold 23 = .ok (.iload_n 1, 1) := by decide +kernel
theorem dn_X4_unfold_24 : decode cn_X4_unfold 24 = .ok (.baload, 1) := by decide +kernel
theorem dn_X4_unfold_25 : decode cn_X4_unfold 25 = .ok (.ifCond .eq 24, 3) := by decide +kernel
theorem dn_X4_unfold_28 : decode cn_X4_unfold 28 = .ok (.aload_n 0, 1) := by decide +kernel
theorem dn_X4_unfold_29 : decode cn_X4_unfold 29 = .ok (.iload_n 1, 1) := by decide +kernel
theorem dn_X4_unfold_30 : decode cn_X4_unfold 30 = .ok (.invokevirtual 162, 3) := by decide +kernel
theorem dn_X4_unfold_33 : decode cn_X4_unfold 33 = .ok (.ifCond .le 16, 3) := by decide +kernel
theorem dn_X4_unfold_36 : decode cn_X4_unfold 36 = .ok (.aload_n 0, 1) := by decide +kernel
theorem dn_X4_unfold_37 : decode cn_X4_unfold 37 = .ok (.iload_n 1, 1) := by decide +kernel
theorem dn_X4_unfold_38 : decode cn_X4_unfold 38 = .ok (.putfield 50, 3) := by decide +kernel
theorem dn_X4_unfold_41 : decode cn_X4_unfold 41 = .ok (.iconst (-1), 1) := by decide +kernel
theorem dn_X4_unfold_42 : decode cn_X4_unfold 42 = .ok (.aload_n 0, 1) := by decide +kernel
theorem dn_X4_unfold_43 : decode cn_X4_unfold 43 = .ok (.iload_n 1, 1) := by decide +kernel
theorem dn_X4_unfold_44 : decode cn_X4_unfold 44 = .ok (.invokevirtual 162, 3) := by decide +kernel
theorem dn_X4_unfold_47 : decode cn_X4_unfold 47 = .ok (.isub, 1) := by decide +kernel
theorem dn_X4_unfold_48 : decode cn_X4_unfold 48 = .ok (.ireturn, 1) := by decide +kernel
theorem dn_X4_unfold_49 : decode cn_X4_unfold 49 = .ok (.iinc 1 1, 3) := by decide +kernel
theorem dn_X4_unfold_52 : decode cn_X4_unfold 52 = .ok (.goto (-41), 3) := by decide +kernel
theorem dn_X4_unfold_55 : decode cn_X4_unfold 55 = .ok (.aload_n 0, 1) := by decide +kernel
theorem dn_X4_unfold_56 : decode cn_X4_unfold 56 = .ok (.aload_n 0, 1) := by decide +kernel
theorem dn_X4_unfold_57 : decode cn_X4_unfold 57 = .ok (.getfield 102, 3) := by decide +kernel
theorem dn_X4_unfold_60 : decode cn_X4_unfold 60 = .ok (.ifCond .le 7, 3) := by decide +kernel
theorem dn_X4_unfold_63 : decode cn_X4_unfold 63 = .ok (.iconst 0, 1) := by decide +kernel
theorem dn_X4_unfold_64 : decode cn_X4_unfold 64 = .ok (.goto 4, 3) := by decide +kernel
theorem dn_X4_unfold_67 : decode cn_X4_unfold 67 = .ok (.iconst (-1), 1) := by decide +kernel
theorem dn_X4_unfold_68 : decode cn_X4_unfold 68 = .ok (.putfield 166, 3) := by decide +kernel
theorem dn_X4_unfold_71 : decode cn_X4_unfold 71 = .ok (.aload_n 0, 1) := by decide +kernel
theorem dn_X4_unfold_72 : decode cn_X4_unfold 72 = .ok (.getfield 166, 3) := by decide +kernel
theorem dn_X4_unfold_75 : decode cn_X4_unfold 75 = .ok (.iconst (-1), 1) := by decide +kernel
theorem dn_X4_unfold_76 : decode cn_X4_unfold 76 = .ok (.if_icmp .eq 14, 3) := by decide +kernel
theorem dn_X4_unfold_79 : decode cn_X4_unfold 79 = .ok (.aload_n 0, 1) := by decide +kernel
theorem dn_X4_unfold_80 : decode cn_X4_unfold 80 = .ok (.aload_n 0, 1) := by decide +kernel
theorem dn_X4_unfold_81 : decode cn_X4_unfold 81 = .ok (.getfield 166, 3) := by decide +kernel
theorem dn_X4_unfold_84 : decode cn_X4_unfold 84 = .ok (.invokevirtual 169, 3) := by decide +kernel
theorem dn_X4_unfold_87 : decode cn_X4_unfold 87 = .ok (.goto (-16), 3) := by decide +kernel
theorem dn_X4_unfold_90 : decode cn_X4_unfold 90 = .ok (.aload_n 0, 1) := by decide +kernel
theorem dn_X4_unfold_91 : decode cn_X4_unfold 91 = .ok (.getfield 153, 3) := by decide +kernel
theorem dn_X4_unfold_94 : decode cn_X4_unfold 94 = .ok (.ifCond .eq 20, 3) := by decide +kernel
theorem dn_X4_unfold_97 : decode cn_X4_unfold 97 = .ok (.aload_n 0, 1) := by decide +kernel
theorem dn_X4_unfold_98 : decode cn_X4_unfold 98 = .ok (.getfield 50, 3) := by decide +kernel
theorem dn_X4_unfold_101 : decode cn_X4_unfold 101 = .ok (.istore_n 1, 1) := by decide +kernel
theorem dn_X4_unfold_102 : decode cn_X4_unfold 102 = .ok (.aload_n 0, 1) := by decide +kernel
theorem dn_X4_unfold_103 : decode cn_X4_unfold 103 = .ok (.invokevirtual 159, 3) := by decide +kernel
theorem dn_X4_unfold_106 : decode cn_X4_unfold 106 = .ok (.aload_n 0, 1) := by decide +kernel
theorem dn_X4_unfold_107 : decode cn_X4_unfold 107 = .ok (.iload_n 1, 1) := by decide +kernel
theorem dn_X4_unfold_108 : decode cn_X4_unfold 108 = .ok (.putfield 50, 3) := by decide +kernel
theorem dn_X4_unfold_111 : decode cn_X4_unfold 111 = .ok (.bipush (-5), 2) := by decide +kernel
theorem dn_X4_unfold_113 : decode cn_X4_unfold 113 = .ok (.ireturn, 1) := by decide +kernel
theorem dn_X4_unfold_114 : decode cn_X4_unfold 114 = .ok (.aload_n 0, 1) := by decide +kernel
theorem dn_X4_unfold_115 : decode cn_X4_unfold 115 = .ok (.getfield 140, 3) := by decide +kernel
theorem dn_X4_unfold_118 : decode cn_X4_unfold 118 = .ok (.ireturn, 1) := by decide +kernel
theorem dn_X4_comeTo_0 : decode cn_X4_comeTo 0 = .ok (.aload_n 0, 1) := by decide +kernel
theorem dn_X4_comeTo_1 : decode cn_X4_comeTo 1 = .ok (.getfield 66, 3) := by decide +kernel
theorem dn_X4_comeTo_4 : decode cn_X4_comeTo 4 = .ok (.iload_n 1, 1) := by decide +kernel
theorem dn_X4_comeTo_5 : decode cn_X4_comeTo 5 = .ok (.dup2, 1) := by decide +kernel
theorem dn_X4_comeTo_6 : decode cn_X4_comeTo 6 = .ok (.iaload, 1) := by decide +kernel
theorem dn_X4_comeTo_7 : decode cn_X4_comeTo 7 = .ok (.iconst 1, 1) := by decide +kernel
theorem dn_X4_comeTo_8 : decode cn_X4_comeTo 8 = .ok (.iadd, 1) := by decide +kernel
theorem dn_X4_comeTo_9 : decode cn_X4_comeTo 9 = .ok (.iastore, 1) := by decide +kernel
theorem dn_X4_comeTo_10 : decode cn_X4_comeTo 10 = .ok (.aload_n 0, 1) := by decide +kernel
theorem dn_X4_comeTo_11 : decode cn_X4_comeTo 11 = .ok (.getfield 146, 3) := by decide +kernel
theorem dn_X4_comeTo_14 : decode cn_X4_comeTo 14 = .ok (.iconst (-1), 1) := by decide +kernel
theorem dn_X4_comeTo_15 : decode cn_X4_comeTo 15 = .ok (.if_icmp .eq 19, 3) := by decide +kernel
theorem dn_X4_comeTo_18 : decode cn_X4_comeTo 18 = .ok (.aload_n 0, 1) := by decide +kernel
theorem dn_X4_comeTo_19 : decode cn_X4_comeTo 19 = .ok (.getfield 47, 3) := by decide +kernel
theorem dn_X4_comeTo_22 : decode cn_X4_comeTo 22 = .ok (.aload_n 0, 1) := by decide +kernel
theorem dn_X4_comeTo_23 : decode cn_X4_comeTo 23 = .ok (.getfield 146, 3) := by decide +kernel
theorem dn_X4_comeTo_26 : decode cn_X4_comeTo 26 = .ok (.baload, 1) := by decide +kernel
theorem dn_X4_comeTo_27 : decode cn_X4_comeTo 27 = .ok (.ifCond .ne 7, 3) := by decide +kernel
theorem dn_X4_comeTo_30 : decode cn_X4_comeTo 30 = .ok (.iconst 1, 1) := by decide +kernel
theorem dn_X4_comeTo_31 : decode cn_X4_comeTo 31 = .ok (.goto 4, 3) := by decide +kernel
theorem dn_X4_comeTo_34 : decode cn_X4_comeTo 34 = .ok (.iconst 0, 1) := by decide +kernel
theorem dn_X4_comeTo_35 : decode cn_X4_comeTo 35 = .ok (.istore_n 2, 1) := by decide +kernel
theorem dn_X4_comeTo_36 : decode cn_X4_comeTo 36 = .ok (.iconst 0, 1) := by decide +kernel
theorem dn_X4_comeTo_37 : decode cn_X4_comeTo 37 = .ok (.istore_n 3, 1) := by decide +kernel
theorem dn_X4_comeTo_38 : decode cn_X4_comeTo 38 = .ok (.iload_n 3, 1) := by decide +kernel
theorem dn_X4_comeTo_39 : decode cn_X4_comeTo 39 = .ok (.aload_n 0, 1) := by decide +kernel
theorem dn_X4_comeTo_40 : decode cn_X4_comeTo 40 = .ok (.getfield 116, 3) := by decide +kernel
theorem dn_X4_comeTo_43 : decode cn_X4_comeTo 43 = .ok (.if_icmp .ge 47, 3) := by decide +kernel
theorem dn_X4_comeTo_46 : decode cn_X4_comeTo 46 = .ok (.aload_n 0, 1) := by decide +kernel
theorem dn_X4_comeTo_47 : decode cn_X4_comeTo 47 = .ok (.iload_n 3, 1) := by decide +kernel
theorem dn_X4_comeTo_48 : decode cn_X4_comeTo 48 = .ok (.iload_n 1, 1) := by decide +kernel
theorem dn_X4_comeTo_49 : decode cn_X4_comeTo 49 = .ok (.invokevirtual 125, 3) := by decide +kernel
theorem dn_X4_comeTo_52 : decode cn_X4_comeTo 52 = .ok (.ifCond .eq 32, 3) := by decide +kernel
theorem dn_X4_comeTo_55 : decode cn_X4_comeTo 55 = .ok (.aload_n 0, 1) := by decide +kernel
theorem dn_X4_comeTo_56 : decode cn_X4_comeTo 56 = .ok (.getfield 69, 3) := by decide +kernel
theorem dn_X4_comeTo_59 : decode cn_X4_comeTo 59 = .ok (.iload_n 3, 1) := by decide +kernel
theorem dn_X4_comeTo_60 : decode cn_X4_comeTo 60 = .ok (.iaload, 1) := by decide +kernel
theorem dn_X4_comeTo_61 : decode cn_X4_comeTo 61 = .ok (.ifCond .ne 23, 3) := by decide +kernel
theorem dn_X4_comeTo_64 : decode cn_X4_comeTo 64 = .ok (.aload_n 0, 1) := by decide +kernel
theorem dn_X4_comeTo_65 : decode cn_X4_comeTo 65 = .ok (.getfield 69, 3) := by decide +kernel
theorem dn_X4_comeTo_68 : decode cn_X4_comeTo 68 = .ok (.iload_n 3, 1) := by decide +kernel
theorem dn_X4_comeTo_69 : decode cn_X4_comeTo 69 = .ok (.iload_n 2, 1) := by decide +kernel
theorem dn_X4_comeTo_70 : decode cn_X4_comeTo 70 = .ok (.ifCond .eq 12, 3) := by decide +kernel
theorem dn_X4_comeTo_73 : decode cn_X4_comeTo 73 = .ok (.aload_n 0, 1) := by decide +kernel
theorem dn_X4_comeTo_74 : decode cn_X4_comeTo 74 = .ok (.getfield 19, 3) := by decide +kernel
theorem dn_X4_comeTo_77 : decode cn_X4_comeTo 77 = .ok (.iload_n 3, 1) := by decide +kernel
theorem dn_X4_comeTo_78 : decode cn_X4_comeTo 78 = .ok (.iaload, 1) := by decide +kernel
theorem dn_X4_comeTo_79 : decode cn_X4_comeTo 79 = .ok (.goto 4, 3) := by decide +kernel
theorem dn_X4_comeTo_82 : decode cn_X4_comeTo 82 = .ok (.iconst 1, 1) := by decide +kernel
theorem dn_X4_comeTo_83 : decode cn_X4_comeTo 83 = .ok (.iastore, 1) := by decide +kernel
theorem dn_X4_comeTo_84 : decode cn_X4_comeTo 84 = .ok (.iinc 3 1, 3) := by decide +kernel
theorem dn_X4_comeTo_87 : decode cn_X4_comeTo 87 = .ok (.goto (-49), 3) := by decide +kernel
theorem dn_X4_comeTo_90 : decode cn_X4_comeTo 90 = .ok (.iconst 0, 1) := by decide +kernel
theorem dn_X4_comeTo_91 : decode cn_X4_comeTo 91 = .ok (.istore_n 3, 1) := by decide +kernel
theorem dn_X4_comeTo_92 : decode cn_X4_comeTo 92 = .ok (.iload_n 3, 1) := by decide +kernel
theorem dn_X4_comeTo_93 : decode cn_X4_comeTo 93 = .ok (.aload_n 0, 1) := by decide +kernel
theorem dn_X4_comeTo_94 : decode cn_X4_comeTo 94 = .ok (.getfield 122, 3) := by decide +kernel
theorem dn_X4_comeTo_97 : decode cn_X4_comeTo 97 = .ok (.if_icmp .ge 19, 3) := by decide +kernel
theorem dn_X4_comeTo_100 : decode cn_X4_comeTo 100 = .ok (.aload_n 0, 1) := by decide +kernel
theorem dn_X4_comeTo_101 : decode cn_X4_comeTo 101 = .ok (.getfield 25, 3) := by decide +kernel
theorem dn_X4_comeTo_104 : decode cn_X4_comeTo 104 = .ok (.iload_n 3, 1) := by decide +kernel
theorem dn_X4_comeTo_105 : decode cn_X4_comeTo 105 = .ok (.iaload, 1) := by decide +kernel
theorem dn_X4_comeTo_106 : decode cn_X4_comeTo 106 = .ok (.iload_n 1, 1) := by decide +kernel
theorem dn_X4_comeTo_107 : decode cn_X4_comeTo 107 = .ok (.if_icmp .eq 9, 3) := by decide +kernel
theorem dn_X4_comeTo_110 : decode cn_X4_comeTo 110 = .ok (.iinc 3 1, 3) := by decide +kernel
theorem dn_X4_comeTo_113 : decode cn_X4_comeTo 113 = .ok (.goto (-21), 3) := by decide +kernel
theorem dn_X4_comeTo_116 : decode cn_X4_comeTo 116 = .ok (.iload_n 3, 1) := by decide +kernel
theorem dn_X4_comeTo_117 : decode cn_X4_comeTo 117 = .ok (.aload_n 0, 1) := by decide +kernel
theorem dn_X4_comeTo_118 : decode cn_X4_comeTo 118 = .ok (.getfield 122, 3) := by decide +kernel
theorem dn_X4_comeTo_121 : decode cn_X4_comeTo 121 = .ok (.if_icmp .ge 63, 3) := by decide +kernel
theorem dn_X4_comeTo_124 : decode cn_X4_comeTo 124 = .ok (.aload_n 0, 1) := by decide +kernel
theorem dn_X4_comeTo_125 : decode cn_X4_comeTo 125 = .ok (.getfield 31, 3) := by decide +kernel
theorem dn_X4_comeTo_128 : decode cn_X4_comeTo 128 = .ok (.iload_n 3, 1) := by decide +kernel
theorem dn_X4_comeTo_129 : decode cn_X4_comeTo 129 = .ok (.iaload, 1) := by decide +kernel
theorem dn_X4_comeTo_130 : decode cn_X4_comeTo 130 = .ok (.aload_n 0, 1) := by decide +kernel
theorem dn_X4_comeTo_131 : decode cn_X4_comeTo 131 = .ok (.getfield 69, 3) := by decide +kernel
theorem dn_X4_comeTo_134 : decode cn_X4_comeTo 134 = .ok (.aload_n 0, 1) := by decide +kernel
theorem dn_X4_comeTo_135 : decode cn_X4_comeTo 135 = .ok (.getfield 22, 3) := by decide +kernel
theorem dn_X4_comeTo_138 : decode cn_X4_comeTo 138 = .ok (.iload_n 3, 1) := by decide +kernel
theorem dn_X4_comeTo_139 : decode cn_X4_comeTo 139 = .ok (.iaload, 1) := by decide +kernel
theorem dn_X4_comeTo_140 : decode cn_X4_comeTo 140 = .ok (.iaload, 1) := by decide +kernel
theorem dn_X4_comeTo_141 : decode cn_X4_comeTo 141 = .ok (.iconst 1, 1) := by decide +kernel
theorem dn_X4_comeTo_142 : decode cn_X4_comeTo 142 = .ok (.isub, 1) := by decide +kernel
theorem dn_X4_comeTo_143 : decode cn_X4_comeTo 143 = .ok (.ishr, 1) := by decide +kernel
theorem dn_X4_comeTo_144 : decode cn_X4_comeTo 144 = .ok (.iconst 1, 1) := by decide +kernel
theorem dn_X4_comeTo_145 : decode cn_X4_comeTo 145 = .ok (.iand, 1) := by decide +kernel
theorem dn_X4_comeTo_146 : decode cn_X4_comeTo 146 = .ok (.ifCond .ne 38, 3) := by decide +kernel
theorem dn_X4_comeTo_149 : decode cn_X4_comeTo 149 = .ok (.aload_n 0, 1) := by decide +kernel
theorem dn_X4_comeTo_150 : decode cn_X4_comeTo 150 = .ok (.aload_n 0, 1) := by decide +kernel
theorem dn_X4_comeTo_151 : decode cn_X4_comeTo 151 = .ok (.getfield 25, 3) := by decide +kernel
theorem dn_X4_comeTo_154 : decode cn_X4_comeTo 154 = .ok (.iload_n 3, 1) := by decide +kernel
theorem dn_X4_comeTo_155 : decode cn_X4_comeTo 155 = .ok (.iaload, 1) := by decide +kernel
theorem dn_X4_comeTo_156 : decode cn_X4_comeTo 156 = .ok (.aload_n 0, 1) := by decide +kernel
theorem dn_X4_comeTo_157 : decode cn_X4_comeTo 157 = .ok (.getfield 28, 3) := by decide +kernel
theorem dn_X4_comeTo_160 : decode cn_X4_comeTo 160 = .ok (.iload_n 3, 1) := by decide +kernel
theorem dn_X4_comeTo_161 : decode cn_X4_comeTo 161 = .ok (.iaload, 1) := by decide +kernel
theorem dn_X4_comeTo_162 : decode cn_X4_comeTo 162 = .ok (.aload_n 0, 1) := by decide +kernel
theorem dn_X4_comeTo_163 : decode cn_X4_comeTo 163 = .ok (.getfield 22, 3) := by decide +kernel
theorem dn_X4_comeTo_166 : decode cn_X4_comeTo 166 = .ok (.iload_n 3, 1) := by decide +kernel
theorem dn_X4_comeTo_167 : decode cn_X4_comeTo 167 = .ok (.iaload, 1) := by decide +kernel
theorem dn_X4_comeTo_168 : decode cn_X4_comeTo 168 = .ok (.invokevirtual 173, 3) := by decide +kernel
theorem dn_X4_comeTo_171 : decode cn_X4_comeTo 171 = .ok (.aload_n 0, 1) := by decide +kernel
theorem dn_X4_comeTo_172 : decode cn_X4_comeTo 172 = .ok (.aload_n 0, 1) := by decide +kernel
theorem dn_X4_comeTo_173 : decode cn_X4_comeTo 173 = .ok (.getfield 28, 3) := by decide +kernel
theorem dn_X4_comeTo_176 : decode cn_X4_comeTo 176 = .ok (.iload_n 3, 1) := by decide +kernel
theorem dn_X4_comeTo_177 : decode cn_X4_comeTo 177 = .ok (.iaload, 1) := by decide +kernel
theorem dn_X4_comeTo_178 : decode cn_X4_comeTo 178 = .ok (.invokevirtual 177, 3) := by decide +kernel
theorem dn_X4_comeTo_181 : decode cn_X4_comeTo 181 = .ok (.goto 36, 3) := by decide +kernel
theorem dn_X4_comeTo_184 : decode cn_X4_comeTo 184 = .ok (.aload_n 0, 1) := by decide +kernel
theorem dn_X4_comeTo_185 : decode cn_X4_comeTo 185 = .ok (.getfield 140, 3) := by decide +kernel
theorem dn_X4_comeTo_188 : decode cn_X4_comeTo 188 = .ok (.sipush 1000, 3) := by decide +kernel
theorem dn_X4_comeTo_191 : decode cn_X4_comeTo 191 = .ok (.if_icmp .ne 21, 3) := by decide +kernel
theorem dn_X4_comeTo_194 : decode cn_X4_comeTo 194 = .ok (.aload_n 0, 1) := by decide +kernel
theorem dn_X4_comeTo_195 : decode cn_X4_comeTo 195 = .ok (.iconst 1, 1) := by decide +kernel
theorem dn_X4_comeTo_196 : decode cn_X4_comeTo 196 = .ok (.putfield 153, 3) := by decide +kernel
theorem dn_X4_comeTo_199 : decode cn_X4_comeTo 199 = .ok (.aload_n 0, 1) := by decide +kernel
theorem dn_X4_comeTo_200 : decode cn_X4_comeTo 200 = .ok (.iload_n 1, 1) := by decide +kernel
theorem dn_X4_comeTo_201 : decode cn_X4_comeTo 201 = .ok (.putfield 50, 3) := by decide +kernel
theorem dn_X4_comeTo_204 : decode cn_X4_comeTo 204 = .ok (.aload_n 0, 1) := by decide +kernel
theorem dn_X4_comeTo_205 : decode cn_X4_comeTo 205 = .ok (.iconst (-1), 1) := by decide +kernel
theorem dn_X4_comeTo_206 : decode cn_X4_comeTo 206 = .ok (.putfield 166, 3) := by decide +kernel
theorem dn_X4_comeTo_209 : decode cn_X4_comeTo 209 = .ok (.goto 8, 3) := by decide +kernel
