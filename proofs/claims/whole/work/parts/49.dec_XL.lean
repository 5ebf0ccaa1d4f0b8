theorem dn_XL_bar_0 : decode cn_XL_bar 0 = .ok (.aload_n 2, 1) := by decide +kernel
theorem dn_XL_bar_1 : decode cn_XL_bar 1 = .ok (.iconst 0, 1) := by decide +kernel
theorem dn_XL_bar_2 : decode cn_XL_bar 2 = .ok (.aload_n 0, 1) := by decide +kernel
theorem dn_XL_bar_3 : decode cn_XL_bar 3 = .ok (.iload_n 1, 1) := by decide +kernel
theorem dn_XL_bar_4 : decode cn_XL_bar 4 = .ok (.invokevirtual 7, 3) := by decide +kernel
theorem dn_XL_bar_7 : decode cn_XL_bar 7 = .ok (.i2l, 1) := by decide +kernel
theorem dn_XL_bar_8 : decode cn_XL_bar 8 = .ok (.lastore, 1) := by decide +kernel
theorem dn_XL_bar_9 : decode cn_XL_bar 9 = .ok (.goto 6, 3) := by decide +kernel
theorem dn_XL_bar_12 : decode cn_XL_bar 12 = .ok (.astore_n 3, 1) := by decide +kernel
theorem dn_XL_bar_13 : decode cn_XL_bar 13 = .ok (.iconst 1, 1) := by decide +kernel
theorem dn_XL_bar_14 : decode cn_XL_bar 14 = .ok (.ireturn, 1) := by decide +kernel
theorem dn_XL_bar_15 : decode cn_XL_bar 15 = .ok (.iconst 0, 1) := by decide +kernel
theorem dn_XL_bar_16 : decode cn_XL_bar 16 = .ok (.ireturn, 1) := by decide +kernel
theorem dn_XL_repeat_0 : decode cn_XL_repeat 0 = .ok (.aload 4, 2) := by decide +kernel
theorem dn_XL_repeat_2 : decode cn_XL_repeat 2 = .ok (.iconst 0, 1) := by decide +kernel
theorem dn_XL_repeat_3 : decode cn_XL_repeat 3 = .ok (.aload_n 0, 1) := by decide +kernel
theorem dn_XL_repeat_4 : decode cn_XL_repeat 4 = .ok (.iload_n 1, 1) := by decide +kernel
theorem dn_XL_repeat_5 : decode cn_XL_repeat 5 = .ok (.iload_n 2, 1) := by decide +kernel
theorem dn_XL_repeat_6 : decode cn_XL_repeat 6 = .ok (.iload_n 3, 1) := by decide +kernel
theorem dn_XL_repeat_7 : decode cn_XL_repeat 7 = .ok (.invokevirtual 15, 3) := by decide +kernel
theorem dn_XL_repeat_10 : decode cn_XL_repeat 10 = .ok (.i2l, 1) := by decide +kernel
theorem dn_XL_repeat_11 : decode cn_XL_repeat 11 = .ok (.lastore, 1) := by decide +kernel
theorem dn_XL_repeat_12 : decode cn_XL_repeat 12 = .ok (.goto 15, 3) := by decide +kernel
theorem dn_XL_repeat_15 : decode cn_XL_repeat 15 = .ok (.astore 5, 2) := by decide +kernel
theorem dn_XL_repeat_17 : decode cn_XL_repeat 17 = .ok (.iconst 1, 1) := by decide +kernel
theorem dn_XL_repeat_18 : decode cn_XL_repeat 18 = .ok (.ireturn, 1) := by decide +kernel
theorem dn_XL_repeat_19 : decode cn_XL_repeat 19 = .ok (.astore 5, 2) := by decide +kernel
theorem dn_XL_repeat_21 : decode cn_XL_repeat 21 = .ok (.iconst 2, 1) := by decide +kernel
theorem dn_XL_repeat_22 : decode cn_XL_repeat 22 = .ok (.ireturn, 1) := by decide +kernel
theorem dn_XL_repeat_23 : decode cn_XL_repeat 23 = .ok (.astore 5, 2) := by decide +kernel
theorem dn_XL_repeat_25 : decode cn_XL_repeat 25 = .ok (.iconst 3, 1) := by decide +kernel
theorem dn_XL_repeat_26 : decode cn_XL_repeat 26 = .ok (.ireturn, 1) := by decide +kernel
theorem dn_XL_repeat_27 : decode cn_XL_repeat 27 = .ok (.iconst 0, 1) := by decide +kernel
theorem dn_XL_repeat_28 : decode cn_XL_repeat 28 = .ok (.ireturn, 1) := by decide +kernel
theorem dn_XL_ending_0 : decode cn_XL_ending 0 = .ok (.aload 5, 2) := by decide +kernel
theorem dn_XL_ending_2 : decode cn_XL_ending 2 = .ok (.iconst 0, 1) := by decide +kernel
theorem dn_XL_ending_3 : decode cn_XL_ending 3 = .ok (.aload_n 0, 1) := by decide +kernel
theorem dn_XL_ending_4 : decode cn_XL_ending 4 = .ok (.iload_n 1, 1) := by decide +kernel
theorem dn_XL_ending_5 : decode cn_XL_ending 5 = .ok (.iload_n 2, 1) := by decide +kernel
theorem dn_XL_ending_6 : decode cn_XL_ending 6 = .ok (.iload_n 3, 1) := by decide +kernel
theorem dn_XL_ending_7 : decode cn_XL_ending 7 = .ok (.iload 4, 2) := by decide +kernel
theorem dn_XL_ending_9 : decode cn_XL_ending 9 = .ok (.invokevirtual 23, 3) := by decide +kernel
theorem dn_XL_ending_12 : decode cn_XL_ending 12 = .ok (.i2l, 1) := by decide +kernel
theorem dn_XL_ending_13 : decode cn_XL_ending 13 = .ok (.lastore, 1) := by decide +kernel
theorem dn_XL_ending_14 : decode cn_XL_ending 14 = .ok (.goto 15, 3) := by decide +kernel
theorem dn_XL_ending_17 : decode cn_XL_ending 17 = .ok (.astore 6, 2) := by decide +kernel
theorem dn_XL_ending_19 : decode cn_XL_ending 19 = .ok (.iconst 1, 1) := by decide +kernel
theorem dn_XL_ending_20 : decode cn_XL_ending 20 = .ok (.ireturn, 1) := by decide +kernel
theorem dn_XL_ending_21 : decode cn_XL_ending 21 = .ok (.astore 6, 2) := by decide +kernel
theorem dn_XL_ending_23 : decode cn_XL_ending 23 = .ok (.iconst 2, 1) := by decide +kernel
theorem dn_XL_ending_24 : decode cn_XL_ending 24 = .ok (.ireturn, 1) := by decide +kernel
theorem dn_XL_ending_25 : decode cn_XL_ending 25 = .ok (.astore 6, 2) := by decide +kernel
theorem dn_XL_ending_27 : decode cn_XL_ending 27 = .ok (.iconst 3, 1) := by decide +kernel
theorem dn_XL_ending_28 : decode cn_XL_ending 28 = .ok (.ireturn, 1) := by decide +kernel
theorem dn_XL_ending_29 : decode cn_XL_ending 29 = .ok (.iconst 0, 1) := by decide +kernel
theorem dn_XL_ending_30 : decode cn_XL_ending 30 = .ok (.ireturn, 1) := by decide +kernel
theorem dn_XL_sign_0 : decode cn_XL_sign 0 = .ok (.aload_n 3, 1) := by decide +kernel
theorem dn_XL_sign_1 : decode cn_XL_sign 1 = .ok (.iconst 0, 1) := by decide +kernel
theorem dn_XL_sign_2 : decode cn_XL_sign 2 = .ok (.aload_n 0, 1) := by decide +kernel
theorem dn_XL_sign_3 : decode cn_XL_sign 3 = .ok (.iload_n 1, 1) := by decide +kernel
theorem dn_XL_sign_4 : decode cn_XL_sign 4 = .ok (.iload_n 2, 1) := by decide +kernel
theorem dn_XL_sign_5 : decode cn_XL_sign 5 = .ok (.invokevirtual 27, 3) := by decide +kernel
theorem dn_XL_sign_8 : decode cn_XL_sign 8 = .ok (.i2l, 1) := by decide +kernel
theorem dn_XL_sign_9 : decode cn_XL_sign 9 = .ok (.lastore, 1) := by decide +kernel
theorem dn_XL_sign_10 : decode cn_XL_sign 10 = .ok (.goto 11, 3) := by decide +kernel
theorem dn_XL_sign_13 : decode cn_XL_sign 13 = .ok (.astore 4, 2) := by decide +kernel
theorem dn_XL_sign_15 : decode cn_XL_sign 15 = .ok (.iconst 1, 1) := by decide +kernel
theorem dn_XL_sign_16 : decode cn_XL_sign 16 = .ok (.ireturn, 1) := by decide +kernel
theorem dn_XL_sign_17 : decode cn_XL_sign 17 = .ok (.astore 4, 2) := by decide +kernel
theorem dn_XL_sign_19 : decode cn_XL_sign 19 = .ok (.iconst 2, 1) := by decide +kernel
theorem dn_XL_sign_20 : decode cn_XL_sign 20 = .ok (.ireturn, 1) := by decide +kernel
theorem dn_XL_sign_21 : decode cn_XL_sign 21 = .ok (.iconst 0, 1) := by decide +kernel
theorem dn_XL_sign_22 : decode cn_XL_sign 22 = .ok (.ireturn, 1) := by decide +kernel
theorem dn_XL_jump_0 : decode cn_XL_jump 0 = .ok (.aload_n 0, 1) := by decide +kernel
theorem dn_XL_jump_1 : decode cn_XL_jump 1 = .ok (.iload_n 1, 1) := by decide +kernel
theorem dn_XL_jump_2 : decode cn_XL_jump 2 = .ok (.iload_n 2, 1) := by decide +kernel
theorem dn_XL_jump_3 : decode cn_XL_jump 3 = .ok (.iload_n 3, 1) := by decide +kernel
theorem dn_XL_jump_4 : decode cn_XL_jump 4 = .ok (.iload 4, 2) := by decide +kernel
theorem dn_XL_jump_6 : decode cn_XL_jump 6 = .ok (.invokevirtual 31, 3) := by decide +kernel
theorem dn_XL_jump_9 : decode cn_XL_jump 9 = .ok (.goto 11, 3) := by decide +kernel
theorem dn_XL_jump_12 : decode cn_XL_jump 12 = .ok (.astore 5, 2) := by decide +kernel
theorem dn_XL_jump_14 : decode cn_XL_jump 14 = .ok (.iconst 1, 1) := by decide +kernel
theorem dn_XL_jump_15 : decode cn_XL_jump 15 = .ok (.ireturn, 1) := by decide +kernel
theorem dn_XL_jump_16 : decode cn_XL_jump 16 = .ok (.astore 5, 2) := by decide +kernel
theorem dn_XL_jump_18 : decode cn_XL_jump 18 = .ok (.iconst 2, 1) := by decide +kernel
theorem dn_XL_jump_19 : decode cn_XL_jump 19 = .ok (.ireturn, 1) := by decide +kernel
theorem dn_XL_jump_20 : decode cn_XL_jump 20 = .ok (.iconst 0, 1) := by decide +kernel
theorem dn_XL_jump_21 : decode cn_XL_jump 21 = .ok (.ireturn, 1) := by decide +kernel
theorem dn_XL_plain_0 : decode cn_XL_plain 0 = .ok (.aload_n 0, 1) := by decide +kernel
theorem dn_XL_plain_1 : decode cn_XL_plain 1 = .ok (.iload_n 1, 1) := by decide +kernel
theorem dn_XL_plain_2 : decode cn_XL_plain 2 = .ok (.invokevirtual 35, 3) := by decide +kernel
theorem dn_XL_plain_5 : decode cn_XL_plain 5 = .ok (.goto 9, 3) := by decide +kernel
theorem dn_XL_plain_8 : decode cn_XL_plain 8 = .ok (.astore_n 2, 1) := by decide +kernel
theorem dn_XL_plain_9 : decode cn_XL_plain 9 = .ok (.iconst 1, 1) := by decide +kernel
theorem dn_XL_plain_10 : decode cn_XL_plain 10 = .ok (.ireturn, 1) := by decide +kernel
theorem dn_XL_plain_11 : decode cn_XL_plain 11 = .ok (.astore_n 2, 1) := by decide +kernel
theorem dn_XL_plain_12 : decode cn_XL_plain 12 = .ok (.iconst 2, 1) := by decide +kernel
theorem dn_XL_plain_13 : decode cn_XL_plain 13 = .ok (.ireturn, 1) := by decide +kernel
theorem dn_XL_plain_14 : decode cn_XL_plain 14 = .ok (.iconst 0, 1) := by decide +kernel
theorem dn_XL_plain_15 : decode cn_XL_plain 15 = .ok (.ireturn, 1) := by decide +kernel
theorem dn_XL_played_0 : decode cn_XL_played 0 = .ok (.aload_n 3, 1) := by decide +kernel
theorem dn_XL_played_1 : decode cn_XL_played 1 = .ok (.iconst 0, 1) := by decide +kernel
theorem dn_XL_played_2 : decode cn_XL_played 2 = .ok (.aload_n 0, 1) := by decide +kernel
theorem dn_XL_played_3 : decode cn_XL_played 3 = .ok (.iload_n 1, 1) := by decide +kernel
theorem dn_XL_played_4 : decode cn_XL_played 4 = .ok (.iload_n 2, 1) := by decide +kernel
theorem dn_XL_played_5 : decode cn_XL_played 5 = .ok (.invokevirtual 39, 3) := by decide +kernel
theorem dn_XL_played_8 : decode cn_XL_played 8 = .ok (.i2l, 1) := by decide +kernel
theorem dn_XL_played_9 : decode cn_XL_played 9 = .ok (.lastore, 1) := by decide +kernel
theorem dn_XL_played_10 : decode cn_XL_played 10 = .ok (.goto 11, 3) := by decide +kernel
theorem dn_XL_played_13 : decode cn_XL_played 13 = .ok (.astore 4, 2) := by decide +kernel
theorem dn_XL_played_15 : decode cn_XL_played 15 = .ok (.iconst 1, 1) := by decide +kernel
theorem dn_XL_played_16 : decode cn_XL_played 16 = .ok (.ireturn, 1) := by decide +kernel
theorem dn_XL_played_17 : decode cn_XL_played 17 = .ok (.astore 4, 2) := by decide +kernel
theorem dn_XL_played_19 : decode cn_XL_played 19 = .ok (.iconst 2, 1) := by decide +kernel
theorem dn_XL_played_20 : decode cn_XL_played 20 = .ok (.ireturn, 1) := by decide +kernel
theorem dn_XL_played_21 : decode cn_XL_played 21 = .ok (.iconst 0, 1) := by decide +kernel
theorem dn_XL_played_22 : decode cn_XL_played 22 = .ok (.ireturn, 1) := by decide +kernel
theorem dn_XL_times_0 : decode cn_XL_times 0 = .ok (.aload_n 2, 1) := by decide +kernel
theorem dn_XL_times_1 : decode cn_XL_times 1 = .ok (.iconst 0, 1) := by decide +kernel
theorem dn_XL_times_2 : decode cn_XL_times 2 = .ok (.aload_n 0, 1) := by decide +kernel
theorem dn_XL_times_3 : decode cn_XL_times 3 = .ok (.iload_n 1, 1) := by decide +kernel
theorem dn_XL_times_4 : decode cn_XL_times 4 = .ok (.invokevirtual 42, 3) := by decide +kernel
theorem dn_XL_times_7 : decode cn_XL_times 7 = .ok (.i2l, 1) := by decide +kernel
theorem dn_XL_times_8 : decode cn_XL_times 8 = .ok (.lastore, 1) := by decide +kernel
theorem dn_XL_times_9 : decode cn_XL_times 9 = .ok (.goto 6, 3) := by decide +kernel
theorem dn_XL_times_12 : decode cn_XL_times 12 = .ok (.astore_n 3, 1) := by decide +kernel
theorem dn_XL_times_13 : decode cn_XL_times 13 = .ok (.iconst 1, 1) := by decide +kernel
theorem dn_XL_times_14 : decode cn_XL_times 14 = .ok (.ireturn, 1) := by decide +kernel
theorem dn_XL_times_15 : decode cn_XL_times 15 = .ok (.iconst 0, 1) := by decide +kernel
theorem dn_XL_times_16 : decode cn_XL_times 16 = .ok (.ireturn, 1) := by decide +kernel
theorem dn_XL_comes_0 : decode cn_XL_comes 0 = .ok (.aload_n 2, 1) := by decide +kernel
theorem dn_XL_comes_1 : decode cn_XL_comes 1 = .ok (.iconst 0, 1) := by decide +kernel
theorem dn_XL_comes_2 : decode cn_XL_comes 2 = .ok (.aload_n 0, 1) := by decide +kernel
theorem dn_XL_comes_3 : decode cn_XL_comes 3 = .ok (.iload_n 1, 1) := by decide +kernel
theorem dn_XL_comes_4 : decode cn_XL_comes 4 = .ok (.invokevirtual 45, 3) := by decide +kernel
theorem dn_XL_comes_7 : decode cn_XL_comes 7 = .ok (.i2l, 1) := by decide +kernel
theorem dn_XL_comes_8 : decode cn_XL_comes 8 = .ok (.lastore, 1) := by decide +kernel
theorem dn_XL_comes_9 : decode cn_XL_comes 9 = .ok (.goto 6, 3) := by decide +kernel
theorem dn_XL_comes_12 : decode cn_XL_comes 12 = .ok (.astore_n 3, 1) := by decide +kernel
theorem dn_XL_comes_13 : decode cn_XL_comes 13 = .ok (.iconst 1, 1) := by decide +kernel
theorem dn_XL_comes_14 : decode cn_XL_comes 14 = .ok (.ireturn, 1) := by decide +kernel
theorem dn_XL_comes_15 : decode cn_XL_comes 15 = .ok (.iconst 0, 1) := by decide +kernel
theorem dn_XL_comes_16 : decode cn_XL_comes 16 = .ok (.ireturn, 1) := by decide +kernel
theorem dn_XL_fold_0 : decode cn_XL_fold 0 = .ok (.aload_n 3, 1) := by decide +kernel
theorem dn_XL_fold_1 : decode cn_XL_fold 1 = .ok (.iconst 0, 1) := by decide +kernel
theorem dn_XL_fold_2 : decode cn_XL_fold 2 = .ok (.aload_n 0, 1) := by decide +kernel
theorem dn_XL_fold_3 : decode cn_XL_fold 3 = .ok (.iload_n 1, 1) := by decide +kernel
theorem dn_XL_fold_4 : decode cn_XL_fold 4 = .ok (.iload_n 2, 1) := by decide +kernel
theorem dn_XL_fold_5 : decode cn_XL_fold 5 = .ok (.invokevirtual 48, 3) := by decide +kernel
theorem dn_XL_fold_8 : decode cn_XL_fold 8 = .ok (.i2l, 1) := by decide +kernel
theorem dn_XL_fold_9 : decode cn_XL_fold 9 = .ok (.lastore, 1) := by decide +kernel
theorem dn_XL_fold_10 : decode cn_XL_fold 10 = .ok (.goto 11, 3) := by decide +kernel
theorem dn_XL_fold_13 : decode cn_XL_fold 13 = .ok (.astore 4, 2) := by decide +kernel
theorem dn_XL_fold_15 : decode cn_XL_fold 15 = .ok (.iconst 1, 1) := by decide +kernel
theorem dn_XL_fold_16 : decode cn_XL_fold 16 = .ok (.ireturn, 1) := by decide +kernel
theorem dn_XL_fold_17 : decode cn_XL_fold 17 = .ok (.astore 4, 2) := by decide +kernel
theorem dn_XL_fold_19 : decode cn_XL_fold 19 = .ok (.iconst 2, 1) := by decide +kernel
theorem dn_XL_fold_20 : decode cn_XL_fold 20 = .ok (.ireturn, 1) := by decide +kernel
theorem dn_XL_fold_21 : decode cn_XL_fold 21 = .ok (.iconst 0, 1) := by decide +kernel
theorem dn_XL_fold_22 : decode cn_XL_fold 22 = .ok (.ireturn, 1) := by decide +kernel
theorem dn_XL_folded_0 : decode cn_XL_folded 0 = .ok (.aload_n 3, 1) := by decide +kernel
theorem dn_XL_folded_1 : decode cn_XL_folded 1 = .ok (.iconst 0, 1) := by decide +kernel
theorem dn_XL_folded_2 : decode cn_XL_folded 2 = .ok (.aload_n 0, 1) := by decide +kernel
theorem dn_XL_folded_3 : decode cn_XL_folded 3 = .ok (.iload_n 1, 1) := by decide +kernel
theorem dn_XL_folded_4 : decode cn_XL_folded 4 = .ok (.iload_n 2, 1) := by decide +kernel
theorem dn_XL_folded_5 : decode cn_XL_folded 5 = .ok (.invokevirtual 51, 3) := by decide +kernel
theorem dn_XL_folded_8 : decode cn_XL_folded 8 = .ok (.i2l, 1) := by decide +kernel
theorem dn_XL_folded_9 : decode cn_XL_folded 9 = .ok (.lastore, 1) := by decide +kernel
theorem dn_XL_folded_10 : decode cn_XL_folded 10 = .ok (.goto 11, 3) := by decide +kernel
theorem dn_XL_folded_13 : decode cn_XL_folded 13 = .ok (.astore 4, 2) := by decide +kernel
theorem dn_XL_folded_15 : decode cn_XL_folded 15 = .ok (.iconst 1, 1) := by decide +kernel
theorem dn_XL_folded_16 : decode cn_XL_folded 16 = .ok (.ireturn, 1) := by decide +kernel
theorem dn_XL_folded_17 : decode cn_XL_folded 17 = .ok (.astore 4, 2) := by decide +kernel
theorem dn_XL_folded_19 : decode cn_XL_folded 19 = .ok (.iconst 2, 1) := by decide +kernel
theorem dn_XL_folded_20 : decode cn_XL_folded 20 = .ok (.ireturn, 1) := by decide +kernel
theorem dn_XL_folded_21 : decode cn_XL_folded 21 = .ok (.iconst 0, 1) := by decide +kernel
theorem dn_XL_folded_22 : decode cn_XL_folded 22 = .ok (.ireturn, 1) := by decide +kernel
theorem dn_XL_told_0 : decode cn_XL_told 0 = .ok (.aload_n 2, 1) := by decide +kernel
theorem dn_XL_told_1 : decode cn_XL_told 1 = .ok (.iconst 0, 1) := by decide +kernel
theorem dn_XL_told_2 : decode cn_XL_told 2 = .ok (.aload_n 0, 1) := by decide +kernel
theorem dn_XL_told_3 : decode cn_XL_told 3 = .ok (.iload_n 1, 1) := by decide +kernel
theorem dn_XL_told_4 : decode cn_XL_told 4 = .ok (.invokevirtual 54, 3) := by decide +kernel
theorem dn_XL_told_7 : decode cn_XL_told 7 = .ok (.i2l, 1) := by decide +kernel
theorem dn_XL_told_8 : decode cn_XL_told 8 = .ok (.lastore, 1) := by decide +kernel
theorem dn_XL_told_9 : decode cn_XL_told 9 = .ok (.goto 6, 3) := by decide +kernel
theorem dn_XL_told_12 : decode cn_XL_told 12 = .ok (.astore_n 3, 1) := by decide +kernel
theorem dn_XL_told_13 : decode cn_XL_told 13 = .ok (.iconst 1, 1) := by decide +kernel
theorem dn_XL_told_14 : decode cn_XL_told 14 = .ok (.ireturn, 1) := by decide +kernel
theorem dn_XL_told_15 : decode cn_XL_told 15 = .ok (.iconst 0, 1) := by decide +kernel
theorem dn_XL_told_16 : decode cn_XL_told 16 = .ok (.ireturn, 1) := by decide +kernel
theorem dn_XL_law_0 : decode code 0 = .ok (.new 8, 3) := by decide +kernel
theorem dn_XL_law_3 : decode code 3 = .ok (.dup, 1) := by decide +kernel
theorem dn_XL_law_4 : decode code 4 = .ok (.invokespecial 57, 3) := by decide +kernel
theorem dn_XL_law_7 : decode code 7 = .ok (.astore_n 1, 1) := by decide +kernel
theorem dn_XL_law_8 : decode code 8 = .ok (.new 58, 3) := by decide +kernel
theorem dn_XL_law_11 : decode code 11 = .ok (.dup, 1) := by decide +kernel
theorem dn_XL_law_12 : decode code 12 = .ok (.invokespecial 60, 3) := by decide +kernel
theorem dn_XL_law_15 : decode code 15 = .ok (.astore_n 2, 1) := by decide +kernel
theorem dn_XL_law_16 : decode code 16 = .ok (.iconst 1, 1) := by decide +kernel
theorem dn_XL_law_17 : decode code 17 = .ok (.newarray .long, 2) := by decide +kernel
theorem dn_XL_law_19 : decode code 19 = .ok (.astore_n 3, 1) := by decide +kernel
theorem dn_XL_law_20 : decode code 20 = .ok (.iconst 0, 1) := by decide +kernel
theorem dn_XL_law_21 : decode code 21 = .ok (.istore 4, 2) := by decide +kernel
theorem dn_XL_law_23 : decode code 23 = .ok (.iload 4, 2) := by decide +kernel
theorem dn_XL_law_25 : decode code 25 = .ok (.aload_n 0, 1) := by decide +kernel
theorem dn_XL_law_26 : decode code 26 = .ok (.arraylength, 1) := by decide +kernel
theorem dn_XL_law_27 : decode code 27 = .ok (.iconst 5, 1) := by decide +kernel
theorem dn_XL_law_28 : decode code 28 = .ok (.isub, 1) := by decide +kernel
theorem dn_XL_law_29 : decode code 29 = .ok (.if_icmp .gt 903, 3) := by decide +kernel
theorem dn_XL_law_32 : decode code 32 = .ok (.aload_n 0, 1) := by decide +kernel
theorem dn_XL_law_33 : decode code 33 = .ok (.iload 4, 2) := by decide +kernel
theorem dn_XL_law_35 : decode code 35 = .ok (.iaload, 1) := by decide +kernel
theorem dn_XL_law_36 : decode code 36 = .ok (.bipush 15, 2) := by decide +kernel
theorem dn_XL_law_38 : decode code 38 = .ok (.iand, 1) := by decide +kernel
theorem dn_XL_law_39 : decode code 39 = .ok (.tableswitch 887 0 13 #[69, 125, 205, 297, 365, 453, 489, 502, 515, 583, 639, 695, 763, 831], 69) := by decide +kernel
theorem dn_XL_law_108 : decode code 108 = .ok (.aload_n 1, 1) := by decide +kernel
theorem dn_XL_law_109 : decode code 109 = .ok (.aload_n 0, 1) := by decide +kernel
theorem dn_XL_law_110 : decode code 110 = .ok (.iload 4, 2) := by decide +kernel
theorem dn_XL_law_112 : decode code 112 = .ok (.iconst 1, 1) := by decide +kernel
theorem dn_XL_law_113 : decode code 113 = .ok (.iadd, 1) := by decide +kernel
theorem dn_XL_law_114 : decode code 114 = .ok (.iaload, 1) := by decide +kernel
theorem dn_XL_law_115 : decode code 115 = .ok (.aload_n 3, 1) := by decide +kernel
theorem dn_XL_law_116 : decode code 116 = .ok (.invokestatic 61, 3) := by decide +kernel
theorem dn_XL_law_119 : decode code 119 = .ok (.istore 5, 2) := by decide +kernel
theorem dn_XL_law_121 : decode code 121 = .ok (.aload_n 2, 1) := by decide +kernel
theorem dn_XL_law_122 : decode code 122 = .ok (.aload_n 0, 1) := by decide +kernel
theorem dn_XL_law_123 : decode code 123 = .ok (.iload 4, 2) := by decide +kernel
theorem dn_XL_law_125 : decode code 125 = .ok (.iconst 1, 1) := by decide +kernel
theorem dn_XL_law_126 : decode code 126 = .ok (.iadd, 1) := by decide +kernel
theorem dn_XL_law_127 : decode code 127 = .ok (.iaload, 1) := by decide +kernel
theorem dn_XL_law_128 : decode code 128 = .ok (.invokevirtual 66, 3) := by decide +kernel
theorem dn_XL_law_131 : decode code 131 = .ok (.istore 6, 2) := by decide +kernel
theorem dn_XL_law_133 : decode code 133 = .ok (.aload_n 2, 1) := by decide +kernel
theorem dn_XL_law_134 : decode code 134 = .ok (.invokevirtual 67, 3) := by decide +kernel
theorem dn_XL_law_137 : decode code 137 = .ok (.iload 5, 2) := by decide +kernel
theorem dn_XL_law_139 : decode code 139 = .ok (.if_icmp .eq 5, 3) := by decide +kernel
theorem dn_XL_law_142 : decode code 142 = .ok (.iconst 0, 1) := by decide +kernel
theorem dn_XL_law_143 : decode code 143 = .ok (.ireturn, 1) := by decide +kernel
theorem dn_XL_law_144 : decode code 144 = .ok (.iload 5, 2) := by decide +kernel
theorem dn_XL_law_146 : decode code 146 = .ok (.ifCond .ne 15, 3) := by decide +kernel
theorem dn_XL_law_149 : decode code 149 = .ok (.aload_n 3, 1) := by decide +kernel
theorem dn_XL_law_150 : decode code 150 = .ok (.iconst 0, 1) := by decide +kernel
theorem dn_XL_law_151 : decode code 151 = .ok (.laload, 1) := by decide +kernel
theorem dn_XL_law_152 : decode code 152 = .ok (.iload 6, 2) := by decide +kernel
theorem dn_XL_law_154 : decode code 154 = .ok (.i2l, 1) := by decide +kernel
theorem dn_XL_law_155 : decode code 155 = .ok (.lcmp, 1) := by decide +kernel
theorem dn_XL_law_156 : decode code 156 = .ok (.ifCond .eq 5, 3) := by decide +kernel
theorem dn_XL_law_159 : decode code 159 = .ok (.iconst 0, 1) := by decide +kernel
theorem dn_XL_law_160 : decode code 160 = .ok (.ireturn, 1) := by decide +kernel
theorem dn_XL_law_161 : decode code 161 = .ok (.goto 765, 3) := by decide +kernel
theorem dn_XL_law_164 : decode code 164 = .ok (.aload_n 1, 1) := by decide +kernel
theorem dn_XL_law_165 : decode code 165 = .ok (.aload_n 0, 1) := by decide +kernel
theorem dn_XL_law_166 : decode code 166 = .ok (.iload 4, 2) := by decide +kernel
theorem dn_XL_law_168 : decode code 168 = .ok (.iconst 1, 1) := by decide +kernel
theorem dn_XL_law_169 : decode code 169 = .ok (.iadd, 1) := by decide +kernel
theorem dn_XL_law_170 : decode code 170 = .ok (.iaload, 1) := by decide +kernel
theorem dn_XL_law_171 : decode code 171 = .ok (.aload_n 0, 1) := by decide +kernel
theorem dn_XL_law_172 : decode code 172 = .ok (.iload 4, 2) := by decide +kernel
theorem dn_XL_law_174 : decode code 174 = .ok (.iconst 2, 1) := by decide +kernel
theorem dn_XL_law_175 : decode code 175 = .ok (.iadd, 1) := by decide +kernel
theorem dn_XL_law_176 : decode code 176 = .ok (.iaload, 1) := by decide +kernel
theorem dn_XL_law_177 : decode code 177 = .ok (.aload_n 0, 1) := by decide +kernel
theorem dn_XL_law_178 : decode code 178 = .ok (.iload 4, 2) := by decide +kernel
theorem dn_XL_law_180 : decode code 180 = .ok (.iconst 3, 1) := by decide +kernel
theorem dn_XL_law_181 : decode code 181 = .ok (.iadd, 1) := by decide +kernel
theorem dn_XL_law_182 : decode code 182 = .ok (.iaload, 1) := by decide +kernel
theorem dn_XL_law_183 : decode code 183 = .ok (.aload_n 3, 1) := by decide +kernel
theorem dn_XL_law_184 : decode code 184 = .ok (.invokestatic 71, 3) := by decide +kernel
theorem dn_XL_law_187 : decode code 187 = .ok (.istore 5, 2) := by decide +kernel
theorem dn_XL_law_189 : decode code 189 = .ok (.aload_n 2, 1) := by decide +kernel
theorem dn_XL_law_190 : decode code 190 = .ok (.aload_n 0, 1) := by decide +kernel
theorem dn_XL_law_191 : decode code 191 = .ok (.iload 4, 2) := by decide +kernel
theorem dn_XL_law_193 : decode code 193 = .ok (.iconst 1, 1) := by decide +kernel
theorem dn_XL_law_194 : decode code 194 = .ok (.iadd, 1) := by decide +kernel
theorem dn_XL_law_195 : decode code 195 = .ok (.iaload, 1) := by decide +kernel
theorem dn_XL_law_196 : decode code 196 = .ok (.aload_n 0, 1) := by decide +kernel
theorem dn_XL_law_197 : decode code 197 = .ok (.iload 4, 2) := by decide +kernel
theorem dn_XL_law_199 : decode code 199 = .ok (.iconst 2, 1) := by decide +kernel
theorem dn_XL_law_200 : decode code 200 = .ok (.iadd, 1) := by decide +kernel
theorem dn_XL_law_201 : decode code 201 = .ok (.iaload, 1) := by decide +kernel
theorem dn_XL_law_202 : decode code 202 = .ok (.aload_n 0, 1) := by decide +kernel
theorem dn_XL_law_203 : decode code 203 = .ok (.iload 4, 2) := by decide +kernel
theorem dn_XL_law_205 : decode code 205 = .ok (.iconst 3, 1) := by decide +kernel
theorem dn_XL_law_206 : decode code 206 = .ok (.iadd, 1) := by decide +kernel
theorem dn_XL_law_207 : decode code 207 = .ok (.iaload, 1) := by decide +kernel
theorem dn_XL_law_208 : decode code 208 = .ok (.invokevirtual 74, 3) := by decide +kernel
theorem dn_XL_law_211 : decode code 211 = .ok (.istore 6, 2) := by decide +kernel
theorem dn_XL_law_213 : decode code 213 = .ok (.aload_n 2, 1) := by decide +kernel
theorem dn_XL_law_214 : decode code 214 = .ok (.invokevirtual 67, 3) := by decide +kernel
theorem dn_XL_law_217 : decode code 217 = .ok (.iload 5, 2) := by decide +kernel
theorem dn_XL_law_219 : decode code 219 = .ok (.if_icmp .eq 5, 3) := by decide +kernel
theorem dn_XL_law_222 : decode code 222 = .ok (.iconst 0, 1) := by decide +kernel
theorem dn_XL_law_223 : decode code 223 = .ok (.ireturn, 1) := by decide +kernel
theorem dn_XL_law_224 : decode code 224 = .ok (.iload 5, 2) := by decide +kernel
theorem dn_XL_law_226 : decode code 226 = .ok (.ifCond .ne 15, 3) := by decide +kernel
theorem dn_XL_law_229 : decode code 229 = .ok (.aload_n 3, 1) := by decide +kernel
theorem dn_XL_law_230 : decode code 230 = .ok (.iconst 0, 1) := by decide +kernel
theorem dn_XL_law_231 : decode code 231 = .ok (.laload, 1) := by decide +kernel
theorem dn_XL_law_232 : decode code 232 = .ok (.iload 6, 2) := by decide +kernel
theorem dn_XL_law_234 : decode code 234 = .ok (.i2l, 1) := by decide +kernel
theorem dn_XL_law_235 : decode code 235 = .ok (.lcmp, 1) := by decide +kernel
theorem dn_XL_law_236 : decode code 236 = .ok (.ifCond .eq 5, 3) := by decide +kernel
theorem dn_XL_law_239 : decode code 239 = .ok (.iconst 0, 1) := by decide +kernel
theorem dn_XL_law_240 : decode code 240 = .ok (.ireturn, 1) := by decide +kernel
theorem dn_XL_law_241 : decode code 241 = .ok (.goto 685, 3) := by decide +kernel
theorem dn_XL_law_244 : decode code 244 = .ok (.aload_n 1, 1) := by decide +kernel
theorem dn_XL_law_245 : decode code 245 = .ok (.aload_n 0, 1) := by decide +kernel
theorem dn_XL_law_246 : decode code 246 = .ok (.iload 4, 2) := by decide +kernel
theorem dn_XL_law_248 : decode code 248 = .ok (.iconst 1, 1) := by decide +kernel
theorem dn_XL_law_249 : decode code 249 = .ok (.iadd, 1) := by decide +kernel
theorem dn_XL_law_250 : decode code 250 = .ok (.iaload, 1) := by decide +kernel
theorem dn_XL_law_251 : decode code 251 = .ok (.aload_n 0, 1) := by decide +kernel
theorem dn_XL_law_252 : decode code 252 = .ok (.iload 4, 2) := by decide +kernel
theorem dn_XL_law_254 : decode code 254 = .ok (.iconst 2, 1) := by decide +kernel
theorem dn_XL_law_255 : decode code 255 = .ok (.iadd, 1) := by decide +kernel
theorem dn_XL_law_256 : decode code 256 = .ok (.iaload, 1) := by decide +kernel
theorem dn_XL_law_257 : decode code 257 = .ok (.aload_n 0, 1) := by decide +kernel
theorem dn_XL_law_258 : decode code 258 = .ok (.iload 4, 2) := by decide +kernel
theorem dn_XL_law_260 : decode code 260 = .ok (.iconst 3, 1) := by decide +kernel
theorem dn_XL_law_261 : decode code 261 = .ok (.iadd, 1) := by decide +kernel
theorem dn_XL_law_262 : decode code 262 = .ok (.iaload, 1) := by decide +kernel
theorem dn_XL_law_263 : decode code 263 = .ok (.aload_n 0, 1) := by decide +kernel
theorem dn_XL_law_264 : decode code 264 = .ok (.iload 4, 2) := by decide +kernel
theorem dn_XL_law_266 : decode code 266 = .ok (.iconst 4, 1) := by decide +kernel
theorem dn_XL_law_267 : decode code 267 = .ok (.iadd, 1) := by decide +kernel
theorem dn_XL_law_268 : decode code 268 = .ok (.iaload, 1) := by decide +kernel
theorem dn_XL_law_269 : decode code 269 = .ok (.aload_n 3, 1) := by decide +kernel
theorem dn_XL_law_270 : decode code 270 = .ok (.invokestatic 75, 3) := by decide +kernel
theorem dn_XL_law_273 : decode code 273 = .ok (.istore 5, 2) := by decide +kernel
theorem dn_XL_law_275 : decode code 275 = .ok (.aload_n 2, 1) := by decide +kernel
theorem dn_XL_law_276 : decode code 276 = .ok (.aload_n 0, 1) := by decide +kernel
theorem dn_XL_law_277 : decode code 277 = .ok (.iload 4, 2) := by decide +kernel
theorem dn_XL_law_279 : decode code 279 = .ok (.iconst 1, 1) := by decide +kernel
theorem dn_XL_law_280 : decode code 280 = .ok (.iadd, 1) := by decide +kernel
theorem dn_XL_law_281 : decode code 281 = .ok (.iaload, 1) := by decide +kernel
theorem dn_XL_law_282 : decode code 282 = .ok (.aload_n 0, 1) := by decide +kernel
theorem dn_XL_law_283 : decode code 283 = .ok (.iload 4, 2) := by decide +kernel
theorem dn_XL_law_285 : decode code 285 = .ok (.iconst 2, 1) := by decide +kernel
theorem dn_XL_law_286 : decode code 286 = .ok (.iadd, 1) := by decide +kernel
theorem dn_XL_law_287 : decode code 287 = .ok (.iaload, 1) := by decide +kernel
theorem dn_XL_law_288 : decode code 288 = .ok (.aload_n 0, 1) := by decide +kernel
theorem dn_XL_law_289 : decode code 289 = .ok (.iload 4, 2) := by decide +kernel
theorem dn_XL_law_291 : decode code 291 = .ok (.iconst 3, 1) := by decide +kernel
theorem dn_XL_law_292 : decode code 292 = .ok (.iadd, 1) := by decide +kernel
theorem dn_XL_law_293 : decode code 293 = .ok (.iaload, 1) := by decide +kernel
theorem dn_XL_law_294 : decode code 294 = .ok (.aload_n 0, 1) := by decide +kernel
theorem dn_XL_law_295 : decode code 295 = .ok (.iload 4, 2) := by decide +kernel
theorem dn_XL_law_297 : decode code 297 = .ok (.iconst 4, 1) := by decide +kernel
theorem dn_XL_law_298 : decode code 298 = .ok (.iadd, 1) := by decide +kernel
theorem dn_XL_law_299 : decode code 299 = .ok (.iaload, 1) := by decide +kernel
theorem dn_XL_law_300 : decode code 300 = .ok (.invokevirtual 78, 3) := by decide +kernel
theorem dn_XL_law_303 : decode code 303 = .ok (.istore 6, 2) := by decide +kernel
theorem dn_XL_law_305 : decode code 305 = .ok (.aload_n 2, 1) := by decide +kernel
theorem dn_XL_law_306 : decode code 306 = .ok (.invokevirtual 67, 3) := by decide +kernel
theorem dn_XL_law_309 : decode code 309 = .ok (.iload 5, 2) := by decide +kernel
theorem dn_XL_law_311 : decode code 311 = .ok (.if_icmp .eq 5, 3) := by decide +kernel
theorem dn_XL_law_314 : decode code 314 = .ok (.iconst 0, 1) := by decide +kernel
theorem dn_XL_law_315 : decode code 315 = .ok (.ireturn, 1) := by decide +kernel
theorem dn_XL_law_316 : decode code 316 = .ok (.iload 5, 2) := by decide +kernel
theorem dn_XL_law_318 : decode code 318 = .ok (.ifCond .ne 15, 3) := by decide +kernel
theorem dn_XL_law_321 : decode code 321 = .ok (.aload_n 3, 1) := by decide +kernel
theorem dn_XL_law_322 : decode code 322 = .ok (.iconst 0, 1) := by decide +kernel
theorem dn_XL_law_323 : decode code 323 = .ok (.laload, 1) := by decide +kernel
theorem dn_XL_law_324 : decode code 324 = .ok (.iload 6, 2) := by decide +kernel
theorem dn_XL_law_326 : decode code 326 = .ok (.i2l, 1) := by decide +kernel
theorem dn_XL_law_327 : decode code 327 = .ok (.lcmp, 1) := by decide +kernel
theorem dn_XL_law_328 : decode code 328 = .ok (.ifCond .eq 5, 3) := by decide +kernel
theorem dn_XL_law_331 : decode code 331 = .ok (.iconst 0, 1) := by decide +kernel
theorem dn_XL_law_332 : decode code 332 = .ok (.ireturn, 1) := by decide +kernel
theorem dn_XL_law_333 : decode code 333 = .ok (.goto 593, 3) := by decide +kernel
theorem dn_XL_law_336 : decode code 336 = .ok (.aload_n 1, 1) := by decide +kernel
theorem dn_XL_law_337 : decode code 337 = .ok (.aload_n 0, 1) := by decide +kernel
theorem dn_XL_law_338 : decode code 338 = .ok (.iload 4, 2) := by decide +kernel
theorem dn_XL_law_340 : decode code 340 = .ok (.iconst 1, 1) := by decide +kernel
theorem dn_XL_law_341 : decode code 341 = .ok (.iadd, 1) := by decide +kernel
theorem dn_XL_law_342 : decode code 342 = .ok (.iaload, 1) := by decide +kernel
theorem dn_XL_law_343 : decode code 343 = .ok (.aload_n 0, 1) := by decide +kernel
theorem dn_XL_law_344 : decode code 344 = .ok (.iload 4, 2) := by decide +kernel
theorem dn_XL_law_346 : decode code 346 = .ok (.iconst 2, 1) := by decide +kernel
theorem dn_XL_law_347 : decode code 347 = .ok (.iadd, 1) := by decide +kernel
theorem dn_XL_law_348 : decode code 348 = .ok (.iaload, 1) := by decide +kernel
theorem dn_XL_law_349 : decode code 349 = .ok (.aload_n 3, 1) := by decide +kernel
theorem dn_XL_law_350 : decode code 350 = .ok (.invokestatic 79, 3) := by decide +kernel
theorem dn_XL_law_353 : decode code 353 = .ok (.istore 5, 2) := by decide +kernel
theorem dn_XL_law_355 : decode code 355 = .ok (.aload_n 2, 1) := by decide +kernel
theorem dn_XL_law_356 : decode code 356 = .ok (.aload_n 0, 1) := by decide +kernel
theorem dn_XL_law_357 : decode code 357 = .ok (.iload 4, 2) := by decide +kernel
theorem dn_XL_law_359 : decode code 359 = .ok (.iconst 1, 1) := by decide +kernel
theorem dn_XL_law_360 : decode code 360 = .ok (.iadd, 1) := by decide +kernel
theorem dn_XL_law_361 : decode code 361 = .ok (.iaload, 1) := by decide +kernel
theorem dn_XL_law_362 : decode code 362 = .ok (.aload_n 0, 1) := by decide +kernel
theorem dn_XL_law_363 : decode code 363 = .ok (.iload 4, 2) := by decide +kernel
theorem dn_XL_law_365 : decode code 365 = .ok (.iconst 2, 1) := by decide +kernel
theorem dn_XL_law_366 : decode code 366 = .ok (.iadd, 1) := by decide +kernel
theorem dn_XL_law_367 : decode code 367 = .ok (.iaload, 1) := by decide +kernel
theorem dn_XL_law_368 : decode code 368 = .ok (.invokevirtual 82, 3) := by decide +kernel
theorem dn_XL_law_371 : decode code 371 = .ok (.istore 6, 2) := by decide +kernel
theorem dn_XL_law_373 : decode code 373 = .ok (.aload_n 2, 1) := by decide +kernel
theorem dn_XL_law_374 : decode code 374 = .ok (.invokevirtual 67, 3) := by decide +kernel
theorem dn_XL_law_377 : decode code 377 = .ok (.iload 5, 2) := by decide +kernel
theorem dn_XL_law_379 : decode code 379 = .ok (.if_icmp .eq 5, 3) := by decide +kernel
theorem dn_XL_law_382 : decode code 382 = .ok (.iconst 0, 1) := by decide +kernel
theorem dn_XL_law_383 : decode code 383 = .ok (.ireturn, 1) := by decide +kernel
theorem dn_XL_law_384 : decode code 384 = .ok (.iload 5, 2) := by decide +kernel
theorem dn_XL_law_386 : decode code 386 = .ok (.ifCond .ne 15, 3) := by decide +kernel
theorem dn_XL_law_389 : decode code 389 = .ok (.aload_n 3, 1) := by decide +kernel
theorem dn_XL_law_390 : decode code 390 = .ok (.iconst 0, 1) := by decide +kernel
theorem dn_XL_law_391 : decode code 391 = .ok (.laload, 1) := by decide +kernel
theorem dn_XL_law_392 : decode code 392 = .ok (.iload 6, 2) := by decide +kernel
theorem dn_XL_law_394 : decode code 394 = .ok (.i2l, 1) := by decide +kernel
theorem dn_XL_law_395 : decode code 395 = .ok (.lcmp, 1) := by decide +kernel
theorem dn_XL_law_396 : decode code 396 = .ok (.ifCond .eq 5, 3) := by decide +kernel
theorem dn_XL_law_399 : decode code 399 = .ok (.iconst 0, 1) := by decide +kernel
theorem dn_XL_law_400 : decode code 400 = .ok (.ireturn, 1) := by decide +kernel
theorem dn_XL_law_401 : decode code 401 = .ok (.goto 525, 3) := by decide +kernel
theorem dn_XL_law_404 : decode code 404 = .ok (.aload_n 1, 1) := by decide +kernel
theorem dn_XL_law_405 : decode code 405 = .ok (.aload_n 0, 1) := by decide +kernel
theorem dn_XL_law_406 : decode code 406 = .ok (.iload 4, 2) := by decide +kernel
theorem dn_XL_law_408 : decode code 408 = .ok (.iconst 1, 1) := by decide +kernel
theorem dn_XL_law_409 : decode code 409 = .ok (.iadd, 1) := by decide +kernel
theorem dn_XL_law_410 : decode code 410 = .ok (.iaload, 1) := by decide +kernel
theorem dn_XL_law_411 : decode code 411 = .ok (.aload_n 0, 1) := by decide +kernel
theorem dn_XL_law_412 : decode code 412 = .ok (.iload 4, 2) := by decide +kernel
theorem dn_XL_law_414 : decode code 414 = .ok (.iconst 2, 1) := by decide +kernel
theorem dn_XL_law_415 : decode code 415 = .ok (.iadd, 1) := by decide +kernel
theorem dn_XL_law_416 : decode code 416 = .ok (.iaload, 1) := by decide +kernel
theorem dn_XL_law_417 : decode code 417 = .ok (.aload_n 0, 1) := by decide +kernel
theorem dn_XL_law_418 : decode code 418 = .ok (.iload 4, 2) := by decide +kernel
theorem dn_XL_law_420 : decode code 420 = .ok (.iconst 3, 1) := by decide +kernel
theorem dn_XL_law_421 : decode code 421 = .ok (.iadd, 1) := by decide +kernel
theorem dn_XL_law_422 : decode code 422 = .ok (.iaload, 1) := by decide +kernel
theorem dn_XL_law_423 : decode code 423 = .ok (.aload_n 0, 1) := by decide +kernel
theorem dn_XL_law_424 : decode code 424 = .ok (.iload 4, 2) := by decide +kernel
theorem dn_XL_law_426 : decode code 426 = .ok (.iconst 4, 1) := by decide +kernel
theorem dn_XL_law_427 : decode code 427 = .ok (.iadd, 1) := by decide +kernel
theorem dn_XL_law_428 : decode code 428 = .ok (.iaload, 1) := by decide +kernel
theorem dn_XL_law_429 : decode code 429 = .ok (.ifCond .eq 7, 3) := by decide +kernel
theorem dn_XL_law_432 : decode code 432 = .ok (.iconst 1, 1) := by decide +kernel
theorem dn_XL_law_433 : decode code 433 = .ok (.goto 4, 3) := by decide +kernel
theorem dn_XL_law_436 : decode code 436 = .ok (.iconst 0, 1) := by decide +kernel
theorem dn_XL_law_437 : decode code 437 = .ok (.invokestatic 83, 3) := by decide +kernel
theorem dn_XL_law_440 : decode code 440 = .ok (.istore 5, 2) := by decide +kernel
theorem dn_XL_law_442 : decode code 442 = .ok (.aload_n 2, 1) := by decide +kernel
theorem dn_XL_law_443 : decode code 443 = .ok (.aload_n 0, 1) := by decide +kernel
theorem dn_XL_law_444 : decode code 444 = .ok (.iload 4, 2) := by decide +kernel
theorem dn_XL_law_446 : decode code 446 = .ok (.iconst 1, 1) := by decide +kernel
theorem dn_XL_law_447 : decode code 447 = .ok (.iadd, 1) := by decide +kernel
theorem dn_XL_law_448 : decode code 448 = .ok (.iaload, 1) := by decide +kernel
theorem dn_XL_law_449 : decode code 449 = .ok (.aload_n 0, 1) := by decide +kernel
theorem dn_XL_law_450 : decode code 450 = .ok (.iload 4, 2) := by decide +kernel
theorem dn_XL_law_452 : decode code 452 = .ok (.iconst 2, 1) := by decide +kernel
theorem dn_XL_law_453 : decode code 453 = .ok (.iadd, 1) := by decide +kernel
theorem dn_XL_law_454 : decode code 454 = .ok (.iaload, 1) := by decide +kernel
theorem dn_XL_law_455 : decode code 455 = .ok (.aload_n 0, 1) := by decide +kernel
theorem dn_XL_law_456 : decode code 456 = .ok (.iload 4, 2) := by decide +kernel
theorem dn_XL_law_458 : decode code 458 = .ok (.iconst 3, 1) := by decide +kernel
theorem dn_XL_law_459 : decode code 459 = .ok (.iadd, 1) := by decide +kernel
theorem dn_XL_law_460 : decode code 460 = .ok (.iaload, 1) := by decide +kernel
theorem dn_XL_law_461 : decode code 461 = .ok (.aload_n 0, 1) := by decide +kernel
theorem dn_XL_law_462 : decode code 462 = .ok (.iload 4, 2) := by decide +kernel
theorem dn_XL_law_464 : decode code 464 = .ok (.iconst 4, 1) := by decide +kernel
theorem dn_XL_law_465 : decode code 465 = .ok (.iadd, 1) := by decide +kernel
theorem dn_XL_law_466 : decode code 466 = .ok (.iaload, 1) := by decide +kernel
theorem dn_XL_law_467 : decode code 467 = .ok (.ifCond .eq 7, 3) := by decide +kernel
theorem dn_XL_law_470 : decode code 470 = .ok (.iconst 1, 1) := by decide +kernel
theorem dn_XL_law_471 : decode code 471 = .ok (.goto 4, 3) := by decide +kernel
theorem dn_XL_law_474 : decode code 474 = .ok (.iconst 0, 1) := by decide +kernel
theorem dn_XL_law_475 : decode code 475 = .ok (.invokevirtual 86, 3) := by decide +kernel
theorem dn_XL_law_478 : decode code 478 = .ok (.aload_n 2, 1) := by decide +kernel
theorem dn_XL_law_479 : decode code 479 = .ok (.invokevirtual 67, 3) := by decide +kernel
theorem dn_XL_law_482 : decode code 482 = .ok (.iload 5, 2) := by decide +kernel
theorem dn_XL_law_484 : decode code 484 = .ok (.if_icmp .eq 5, 3) := by decide +kernel
theorem dn_XL_law_487 : decode code 487 = .ok (.iconst 0, 1) := by decide +kernel
theorem dn_XL_law_488 : decode code 488 = .ok (.ireturn, 1) := by decide +kernel
theorem dn_XL_law_489 : decode code 489 = .ok (.goto 437, 3) := by decide +kernel
theorem dn_XL_law_492 : decode code 492 = .ok (.aload_n 1, 1) := by decide +kernel
theorem dn_XL_law_493 : decode code 493 = .ok (.aload_n 0, 1) := by decide +kernel
theorem dn_XL_law_494 : decode code 494 = .ok (.iload 4, 2) := by decide +kernel
theorem dn_XL_law_496 : decode code 496 = .ok (.iconst 1, 1) := by decide +kernel
theorem dn_XL_law_497 : decode code 497 = .ok (.iadd, 1) := by decide +kernel
theorem dn_XL_law_498 : decode code 498 = .ok (.iaload, 1) := by decide +kernel
theorem dn_XL_law_499 : decode code 499 = .ok (.invokestatic 87, 3) := by decide +kernel
theorem dn_XL_law_502 : decode code 502 = .ok (.istore 5, 2) := by decide +kernel
theorem dn_XL_law_504 : decode code 504 = .ok (.aload_n 2, 1) := by decide +kernel
theorem dn_XL_law_505 : decode code 505 = .ok (.aload_n 0, 1) := by decide +kernel
theorem dn_XL_law_506 : decode code 506 = .ok (.iload 4, 2) := by decide +kernel
theorem dn_XL_law_508 : decode code 508 = .ok (.iconst 1, 1) := by decide +kernel
theorem dn_XL_law_509 : decode code 509 = .ok (.iadd, 1) := by decide +kernel
theorem dn_XL_law_510 : decode code 510 = .ok (.iaload, 1) := by decide +kernel
theorem dn_XL_law_511 : decode code 511 = .ok (.invokevirtual 90, 3) := by decide +kernel
theorem dn_XL_law_514 : decode code 514 = .ok (.aload_n 2, 1) := by decide +kernel
theorem dn_XL_law_515 : decode code 515 = .ok (.invokevirtual 67, 3) := by decide +kernel
theorem dn_XL_law_518 : decode code 518 = .ok (.iload 5, 2) := by decide +kernel
theorem dn_XL_law_520 : decode code 520 = .ok (.if_icmp .eq 5, 3) := by decide +kernel
theorem dn_XL_law_523 : decode code 523 = .ok (.iconst 0, 1) := by decide +kernel
theorem dn_XL_law_524 : decode code 524 = .ok (.ireturn, 1) := by decide +kernel
theorem dn_XL_law_525 : decode code 525 = .ok (.goto 401, 3) := by decide +kernel
theorem dn_XL_law_528 : decode code 528 = .ok (.aload_n 1, 1) := by decide +kernel
theorem dn_XL_law_529 : decode code 529 = .ok (.invokevirtual 91, 3) := by decide +kernel
theorem dn_XL_law_532 : decode code 532 = .ok (.aload_n 2, 1) := by decide +kernel
theorem dn_XL_law_533 : decode code 533 = .ok (.invokevirtual 94, 3) := by decide +kernel
theorem dn_XL_law_536 : decode code 536 = .ok (.if_icmp .eq 390, 3) := by decide +kernel
theorem dn_XL_law_539 : decode code 539 = .ok (.iconst 0, 1) := by decide +kernel
theorem dn_XL_law_540 : decode code 540 = .ok (.ireturn, 1) := by decide +kernel
theorem dn_XL_law_541 : decode code 541 = .ok (.aload_n 1, 1) := by decide +kernel
theorem dn_XL_law_542 : decode code 542 = .ok (.invokevirtual 95, 3) := by decide +kernel
theorem dn_XL_law_545 : decode code 545 = .ok (.aload_n 2, 1) := by decide +kernel
theorem dn_XL_law_546 : decode code 546 = .ok (.invokevirtual 98, 3) := by decide +kernel
theorem dn_XL_law_549 : decode code 549 = .ok (.if_icmp .eq 377, 3) := by decide +kernel
theorem dn_XL_law_552 : decode code 552 = .ok (.iconst 0, 1) := by decide +kernel
theorem dn_XL_law_553 : decode code 553 = .ok (.ireturn, 1) := by decide +kernel
theorem dn_XL_law_554 : decode code 554 = .ok (.aload_n 1, 1) := by decide +kernel
theorem dn_XL_law_555 : decode code 555 = .ok (.aload_n 0, 1) := by decide +kernel
theorem dn_XL_law_556 : decode code 556 = .ok (.iload 4, 2) := by decide +kernel
theorem dn_XL_law_558 : decode code 558 = .ok (.iconst 1, 1) := by decide +kernel
theorem dn_XL_law_559 : decode code 559 = .ok (.iadd, 1) := by decide +kernel
theorem dn_XL_law_560 : decode code 560 = .ok (.iaload, 1) := by decide +kernel
theorem dn_XL_law_561 : decode code 561 = .ok (.aload_n 0, 1) := by decide +kernel
theorem dn_XL_law_562 : decode code 562 = .ok (.iload 4, 2) := by decide +kernel
theorem dn_XL_law_564 : decode code 564 = .ok (.iconst 2, 1) := by decide +kernel
theorem dn_XL_law_565 : decode code 565 = .ok (.iadd, 1) := by decide +kernel
theorem dn_XL_law_566 : decode code 566 = .ok (.iaload, 1) := by decide +kernel
theorem dn_XL_law_567 : decode code 567 = .ok (.aload_n 3, 1) := by decide +kernel
theorem dn_XL_law_568 : decode code 568 = .ok (.invokestatic 99, 3) := by decide +kernel
theorem dn_XL_law_571 : decode code 571 = .ok (.istore 5, 2) := by decide +kernel
theorem dn_XL_law_573 : decode code 573 = .ok (.aload_n 2, 1) := by decide +kernel
theorem dn_XL_law_574 : decode code 574 = .ok (.aload_n 0, 1) := by decide +kernel
theorem dn_XL_law_575 : decode code 575 = .ok (.iload 4, 2) := by decide +kernel
theorem dn_XL_law_577 : decode code 577 = .ok (.iconst 1, 1) := by decide +kernel
theorem dn_XL_law_578 : decode code 578 = .ok (.iadd, 1) := by decide +kernel
theorem dn_XL_law_579 : decode code 579 = .ok (.iaload, 1) := by decide +kernel
theorem dn_XL_law_580 : decode code 580 = .ok (.aload_n 0, 1) := by decide +kernel
theorem dn_XL_law_581 : decode code 581 = .ok (.iload 4, 2) := by decide +kernel
theorem dn_XL_law_583 : decode code 583 = .ok (.iconst 2, 1) := by decide +kernel
theorem dn_XL_law_584 : decode code 584 = .ok (.iadd, 1) := by decide +kernel
theorem dn_XL_law_585 : decode code 585 = .ok (.iaload, 1) := by decide +kernel
theorem dn_XL_law_586 : decode code 586 = .ok (.invokevirtual 101, 3) := by decide +kernel
theorem dn_XL_law_589 : decode code 589 = .ok (.istore 6, 2) := by decide +kernel
theorem dn_XL_law_591 : decode code 591 = .ok (.aload_n 2, 1) := by decide +kernel
theorem dn_XL_law_592 : decode code 592 = .ok (.invokevirtual 67, 3) := by decide +kernel
theorem dn_XL_law_595 : decode code 595 = .ok (.iload 5, 2) := by decide +kernel
theorem dn_XL_law_597 : decode code 597 = .ok (.if_icmp .eq 5, 3) := by decide +kernel
theorem dn_XL_law_600 : decode code 600 = .ok (.iconst 0, 1) := by decide +kernel
theorem dn_XL_law_601 : decode code 601 = .ok (.ireturn, 1) := by decide +kernel
theorem dn_XL_law_602 : decode code 602 = .ok (.iload 5, 2) := by decide +kernel
theorem dn_XL_law_604 : decode code 604 = .ok (.ifCond .ne 15, 3) := by decide +kernel
theorem dn_XL_law_607 : decode code 607 = .ok (.aload_n 3, 1) := by decide +kernel
theorem dn_XL_law_608 : decode code 608 = .ok (.iconst 0, 1) := by decide +kernel
theorem dn_XL_law_609 : decode code 609 = .ok (.laload, 1) := by decide +kernel
theorem dn_XL_law_610 : decode code 610 = .ok (.iload 6, 2) := by decide +kernel
theorem dn_XL_law_612 : decode code 612 = .ok (.i2l, 1) := by decide +kernel
theorem dn_XL_law_613 : decode code 613 = .ok (.lcmp, 1) := by decide +kernel
theorem dn_XL_law_614 : decode code 614 = .ok (.ifCond .eq 5, 3) := by decide +kernel
theorem dn_XL_law_617 : decode code 617 = .ok (.iconst 0, 1) := by decide +kernel
theorem dn_XL_law_618 : decode code 618 = .ok (.ireturn, 1) := by decide +kernel
theorem dn_XL_law_619 : decode code 619 = .ok (.goto 307, 3) := by decide +kernel
theorem dn_XL_law_622 : decode code 622 = .ok (.aload_n 1, 1) := by decide +kernel
theorem dn_XL_law_623 : decode code 623 = .ok (.aload_n 0, 1) := by decide +kernel
theorem dn_XL_law_624 : decode code 624 = .ok (.iload 4, 2) := by decide +kernel
theorem dn_XL_law_626 : decode code 626 = .ok (.iconst 1, 1) := by decide +kernel
theorem dn_XL_law_627 : decode code 627 = .ok (.iadd, 1) := by decide +kernel
theorem dn_XL_law_628 : decode code 628 = .ok (.iaload, 1) := by decide +kernel
theorem dn_XL_law_629 : decode code 629 = .ok (.aload_n 3, 1) := by decide +kernel
theorem dn_XL_law_630 : decode code 630 = .ok (.invokestatic 102, 3) := by decide +kernel
theorem dn_XL_law_633 : decode code 633 = .ok (.istore 5, 2) := by decide +kernel
theorem dn_XL_law_635 : decode code 635 = .ok (.aload_n 2, 1) := by decide +kernel
theorem dn_XL_law_636 : decode code 636 = .ok (.aload_n 0, 1) := by decide +kernel
theorem dn_XL_law_637 : decode code 637 = .ok (.iload 4, 2) := by decide +kernel
theorem dn_XL_law_639 : decode code 639 = .ok (.iconst 1, 1) := by decide +kernel
theorem dn_XL_law_640 : decode code 640 = .ok (.iadd, 1) := by decide +kernel
theorem dn_XL_law_641 : decode code 641 = .ok (.iaload, 1) := by decide +kernel
theorem dn_XL_law_642 : decode code 642 = .ok (.invokevirtual 104, 3) := by decide +kernel
theorem dn_XL_law_645 : decode code 645 = .ok (.istore 6, 2) := by decide +kernel
theorem dn_XL_law_647 : decode code 647 = .ok (.aload_n 2, 1) := by decide +kernel
theorem dn_XL_law_648 : decode code 648 = .ok (.invokevirtual 67, 3) := by decide +kernel
theorem dn_XL_law_651 : decode code 651 = .ok (.iload 5, 2) := by decide +kernel
theorem dn_XL_law_653 : decode code 653 = .ok (.if_icmp .eq 5, 3) := by decide +kernel
theorem dn_XL_law_656 : decode code 656 = .ok (.iconst 0, 1) := by decide +kernel
theorem dn_XL_law_657 : decode code 657 = .ok (.ireturn, 1) := by decide +kernel
theorem dn_XL_law_658 : decode code 658 = .ok (.iload 5, 2) := by decide +kernel
theorem dn_XL_law_660 : decode code 660 = .ok (.ifCond .ne 15, 3) := by decide +kernel
theorem dn_XL_law_663 : decode code 663 = .ok (.aload_n 3, 1) := by decide +kernel
theorem dn_XL_law_664 : decode code 664 = .ok (.iconst 0, 1) := by decide +kernel
theorem dn_XL_law_665 : decode code 665 = .ok (.laload, 1) := by decide +kernel
theorem dn_XL_law_666 : decode code 666 = .ok (.iload 6, 2) := by decide +kernel
theorem dn_XL_law_668 : decode code 668 = .ok (.i2l, 1) := by decide +kernel
theorem dn_XL_law_669 : decode code 669 = .ok (.lcmp, 1) := by decide +kernel
theorem dn_XL_law_670 : decode code 670 = .ok (.ifCond .eq 5, 3) := by decide +kernel
theorem dn_XL_law_673 : decode code 673 = .ok (.iconst 0, 1) := by decide +kernel
theorem dn_XL_law_674 : decode code 674 = .ok (.ireturn, 1) := by decide +kernel
theorem dn_XL_law_675 : decode code 675 = .ok (.goto 251, 3) := by decide +kernel
theorem dn_XL_law_678 : decode code 678 = .ok (.aload_n 1, 1) := by decide +kernel
theorem dn_XL_law_679 : decode code 679 = .ok (.aload_n 0, 1) := by decide +kernel
theorem dn_XL_law_680 : decode code 680 = .ok (.iload 4, 2) := by decide +kernel
theorem dn_XL_law_682 : decode code 682 = .ok (.iconst 1, 1) := by decide +kernel
theorem dn_XL_law_683 : decode code 683 = .ok (.iadd, 1) := by decide +kernel
theorem dn_XL_law_684 : decode code 684 = .ok (.iaload, 1) := by decide +kernel
theorem dn_XL_law_685 : decode code 685 = .ok (.aload_n 3, 1) := by decide +kernel
theorem dn_XL_law_686 : decode code 686 = .ok (.invokestatic 105, 3) := by decide +kernel
theorem dn_XL_law_689 : decode code 689 = .ok (.istore 5, 2) := by decide +kernel
theorem dn_XL_law_691 : decode code 691 = .ok (.aload_n 2, 1) := by decide +kernel
theorem dn_XL_law_692 : decode code 692 = .ok (.aload_n 0, 1) := by decide +kernel
theorem dn_XL_law_693 : decode code 693 = .ok (.iload 4, 2) := by decide +kernel
theorem dn_XL_law_695 : decode code 695 = .ok (.iconst 1, 1) := by decide +kernel
theorem dn_XL_law_696 : decode code 696 = .ok (.iadd, 1) := by decide +kernel
theorem dn_XL_law_697 : decode code 697 = .ok (.iaload, 1) := by decide +kernel
theorem dn_XL_law_698 : decode code 698 = .ok (.invokevirtual 107, 3) := by decide +kernel
theorem dn_XL_law_701 : decode code 701 = .ok (.istore 6, 2) := by decide +kernel
theorem dn_XL_law_703 : decode code 703 = .ok (.aload_n 2, 1) := by decide +kernel
theorem dn_XL_law_704 : decode code 704 = .ok (.invokevirtual 67, 3) := by decide +kernel
theorem dn_XL_law_707 : decode code 707 = .ok (.iload 5, 2) := by decide +kernel
theorem dn_XL_law_709 : decode code 709 = .ok (.if_icmp .eq 5, 3) := by decide +kernel
theorem dn_XL_law_712 : decode code 712 = .ok (.iconst 0, 1) := by decide +kernel
theorem dn_XL_law_713 : decode code 713 = .ok (.ireturn, 1) := by decide +kernel
theorem dn_XL_law_714 : decode code 714 = .ok (.iload 5, 2) := by decide +kernel
theorem dn_XL_law_716 : decode code 716 = .ok (.ifCond .ne 15, 3) := by decide +kernel
theorem dn_XL_law_719 : decode code 719 = .ok (.aload_n 3, 1) := by decide +kernel
theorem dn_XL_law_720 : decode code 720 = .ok (.iconst 0, 1) := by decide +kernel
theorem dn_XL_law_721 : decode code 721 = .ok (.laload, 1) := by decide +kernel
theorem dn_XL_law_722 : decode code 722 = .ok (.iload 6, 2) := by decide +kernel
theorem dn_XL_law_724 : decode code 724 = .ok (.i2l, 1) := by decide +kernel
theorem dn_XL_law_725 : decode code 725 = .ok (.lcmp, 1) := by decide +kernel
theorem dn_XL_law_726 : decode code 726 = .ok (.ifCond .eq 5, 3) := by decide +kernel
theorem dn_XL_law_729 : decode code 729 = .ok (.iconst 0, 1) := by decide +kernel
theorem dn_XL_law_730 : decode code 730 = .ok (.ireturn, 1) := by decide +kernel
theorem dn_XL_law_731 : decode code 731 = .ok (.goto 195, 3) := by decide +kernel
theorem dn_XL_law_734 : decode code 734 = .ok (.aload_n 1, 1) := by decide +kernel
theorem dn_XL_law_735 : decode code 735 = .ok (.aload_n 0, 1) := by decide +kernel
theorem dn_XL_law_736 : decode code 736 = .ok (.iload 4, 2) := by decide +kernel
theorem dn_XL_law_738 : decode code 738 = .ok (.iconst 1, 1) := by decide +kernel
theorem dn_XL_law_739 : decode code 739 = .ok (.iadd, 1) := by decide +kernel
theorem dn_XL_law_740 : decode code 740 = .ok (.iaload, 1) := by decide +kernel
theorem dn_XL_law_741 : decode code 741 = .ok (.aload_n 0, 1) := by decide +kernel
theorem dn_XL_law_742 : decode code 742 = .ok (.iload 4, 2) := by decide +kernel
theorem dn_XL_law_744 : decode code 744 = .ok (.iconst 2, 1) := by decide +kernel
theorem dn_XL_law_745 : decode code 745 = .ok (.iadd, 1) := by decide +kernel
theorem dn_XL_law_746 : decode code 746 = .ok (.iaload, 1) := by decide +kernel
theorem dn_XL_law_747 : decode code 747 = .ok (.aload_n 3, 1) := by decide +kernel
theorem dn_XL_law_748 : decode code 748 = .ok (.invokestatic 108, 3) := by decide +kernel
theorem dn_XL_law_751 : decode code 751 = .ok (.istore 5, 2) := by decide +kernel
theorem dn_XL_law_753 : decode code 753 = .ok (.aload_n 2, 1) := by decide +kernel
theorem dn_XL_law_754 : decode code 754 = .ok (.aload_n 0, 1) := by decide +kernel
theorem dn_XL_law_755 : decode code 755 = .ok (.iload 4, 2) := by decide +kernel
theorem dn_XL_law_757 : decode code 757 = .ok (.iconst 1, 1) := by decide +kernel
theorem dn_XL_law_758 : decode code 758 = .ok (.iadd, 1) := by decide +kernel
theorem dn_XL_law_759 : decode code 759 = .ok (.iaload, 1) := by decide +kernel
theorem dn_XL_law_760 : decode code 760 = .ok (.aload_n 0, 1) := by decide +kernel
theorem dn_XL_law_761 : decode code 761 = .ok (.iload 4, 2) := by decide +kernel
theorem dn_XL_law_763 : decode code 763 = .ok (.iconst 2, 1) := by decide +kernel
theorem dn_XL_law_764 : decode code 764 = .ok (.iadd, 1) := by decide +kernel
theorem dn_XL_law_765 : decode code 765 = .ok (.iaload, 1) := by decide +kernel
theorem dn_XL_law_766 : decode code 766 = .ok (.invokevirtual 110, 3) := by decide +kernel
theorem dn_XL_law_769 : decode code 769 = .ok (.istore 6, 2) := by decide +kernel
theorem dn_XL_law_771 : decode code 771 = .ok (.aload_n 2, 1) := by decide +kernel
theorem dn_XL_law_772 : decode code 772 = .ok (.invokevirtual 67, 3) := by decide +kernel
theorem dn_XL_law_775 : decode code 775 = .ok (.iload 5, 2) := by decide +kernel
theorem dn_XL_law_777 : decode code 777 = .ok (.if_icmp .eq 5, 3) := by decide +kernel
theorem dn_XL_law_780 : decode code 780 = .ok (.iconst 0, 1) := by decide +kernel
theorem dn_XL_law_781 : decode code 781 = .ok (.ireturn, 1) := by decide +kernel
theorem dn_XL_law_782 : decode code 782 = .ok (.iload 5, 2) := by decide +kernel
theorem dn_XL_law_784 : decode code 784 = .ok (.ifCond .ne 15, 3) := by decide +kernel
theorem dn_XL_law_787 : decode code 787 = .ok (.aload_n 3, 1) := by decide +kernel
theorem dn_XL_law_788 : decode code 788 = .ok (.iconst 0, 1) := by decide +kernel
theorem dn_XL_law_789 : decode code 789 = .ok (.laload, 1) := by decide +kernel
theorem dn_XL_law_790 : decode code 790 = .ok (.iload 6, 2) := by decide +kernel
theorem dn_XL_law_792 : decode code 792 = .ok (.i2l, 1) := by decide +kernel
theorem dn_XL_law_793 : decode code 793 = .ok (.lcmp, 1) := by decide +kernel
theorem dn_XL_law_794 : decode code 794 = .ok (.ifCond .eq 5, 3) := by decide +kernel
theorem dn_XL_law_797 : decode code 797 = .ok (.iconst 0, 1) := by decide +kernel
theorem dn_XL_law_798 : decode code 798 = .ok (.ireturn, 1) := by decide +kernel
theorem dn_XL_law_799 : decode code 799 = .ok (.goto 127, 3) := by decide +kernel
theorem dn_XL_law_802 : decode code 802 = .ok (.aload_n 1, 1) := by decide +kernel
theorem dn_XL_law_803 : decode code 803 = .ok (.aload_n 0, 1) := by decide +kernel
theorem dn_XL_law_804 : decode code 804 = .ok (.iload 4, 2) := by decide +kernel
theorem dn_XL_law_806 : decode code 806 = .ok (.iconst 1, 1) := by decide +kernel
theorem dn_XL_law_807 : decode code 807 = .ok (.iadd, 1) := by decide +kernel
theorem dn_XL_law_808 : decode code 808 = .ok (.iaload, 1) := by decide +kernel
theorem dn_XL_law_809 : decode code 809 = .ok (.aload_n 0, 1) := by decide +kernel
theorem dn_XL_law_810 : decode code 810 = .ok (.iload 4, 2) := by decide +kernel
theorem dn_XL_law_812 : decode code 812 = .ok (.iconst 2, 1) := by decide +kernel
theorem dn_XL_law_813 : decode code 813 = .ok (.iadd, 1) := by decide +kernel
theorem dn_XL_law_814 : decode code 814 = .ok (.iaload, 1) := by decide +kernel
theorem dn_XL_law_815 : decode code 815 = .ok (.aload_n 3, 1) := by decide +kernel
theorem dn_XL_law_816 : decode code 816 = .ok (.invokestatic 111, 3) := by decide +kernel
theorem dn_XL_law_819 : decode code 819 = .ok (.istore 5, 2) := by decide +kernel
theorem dn_XL_law_821 : decode code 821 = .ok (.aload_n 2, 1) := by decide +kernel
theorem dn_XL_law_822 : decode code 822 = .ok (.aload_n 0, 1) := by decide +kernel
theorem dn_XL_law_823 : decode code 823 = .ok (.iload 4, 2) := by decide +kernel
theorem dn_XL_law_825 : decode code 825 = .ok (.iconst 1, 1) := by decide +kernel
theorem dn_XL_law_826 : decode code 826 = .ok (.iadd, 1) := by decide +kernel
theorem dn_XL_law_827 : decode code 827 = .ok (.iaload, 1) := by decide +kernel
theorem dn_XL_law_828 : decode code 828 = .ok (.aload_n 0, 1) := by decide +kernel
theorem dn_XL_law_829 : decode code 829 = .ok (.iload 4, 2) := by decide +kernel
theorem dn_XL_law_831 : decode code 831 = .ok (.iconst 2, 1) := by decide +kernel
theorem dn_XL_law_832 : decode code 832 = .ok (.iadd, 1) := by decide +kernel
theorem dn_XL_law_833 : decode code 833 = .ok (.iaload, 1) := by decide +kernel
theorem dn_XL_law_834 : decode code 834 = .ok (.invokevirtual 113, 3) := by decide +kernel
theorem dn_XL_law_837 : decode code 837 = .ok (.istore 6, 2) := by decide +kernel
theorem dn_XL_law_839 : decode code 839 = .ok (.aload_n 2, 1) := by decide +kernel
theorem dn_XL_law_840 : decode code 840 = .ok (.invokevirtual 67, 3) := by decide +kernel
theorem dn_XL_law_843 : decode code 843 = .ok (.iload 5, 2) := by decide +kernel
theorem dn_XL_law_845 : decode code 845 = .ok (.if_icmp .eq 5, 3) := by decide +kernel
theorem dn_XL_law_848 : decode code 848 = .ok (.iconst 0, 1) := by decide +kernel
theorem dn_XL_law_849 : decode code 849 = .ok (.ireturn, 1) := by decide +kernel
theorem dn_XL_law_850 : decode code 850 = .ok (.iload 5, 2) := by decide +kernel
theorem dn_XL_law_852 : decode code 852 = .ok (.ifCond .ne 15, 3) := by decide +kernel
theorem dn_XL_law_855 : decode code 855 = .ok (.aload_n 3, 1) := by decide +kernel
theorem dn_XL_law_856 : decode code 856 = .ok (.iconst 0, 1) := by decide +kernel
theorem dn_XL_law_857 : decode code 857 = .ok (.laload, 1) := by decide +kernel
theorem dn_XL_law_858 : decode code 858 = .ok (.iload 6, 2) := by decide +kernel
theorem dn_XL_law_860 : decode code 860 = .ok (.i2l, 1) := by decide +kernel
theorem dn_XL_law_861 : decode code 861 = .ok (.lcmp, 1) := by decide +kernel
theorem dn_XL_law_862 : decode code 862 = .ok (.ifCond .eq 5, 3) := by decide +kernel
theorem dn_XL_law_865 : decode code 865 = .ok (.iconst 0, 1) := by decide +kernel
theorem dn_XL_law_866 : decode code 866 = .ok (.ireturn, 1) := by decide +kernel
theorem dn_XL_law_867 : decode code 867 = .ok (.goto 59, 3) := by decide +kernel
theorem dn_XL_law_870 : decode code 870 = .ok (.aload_n 1, 1) := by decide +kernel
theorem dn_XL_law_871 : decode code 871 = .ok (.aload_n 0, 1) := by decide +kernel
theorem dn_XL_law_872 : decode code 872 = .ok (.iload 4, 2) := by decide +kernel
theorem dn_XL_law_874 : decode code 874 = .ok (.iconst 1, 1) := by decide +kernel
theorem dn_XL_law_875 : decode code 875 = .ok (.iadd, 1) := by decide +kernel
theorem dn_XL_law_876 : decode code 876 = .ok (.iaload, 1) := by decide +kernel
theorem dn_XL_law_877 : decode code 877 = .ok (.aload_n 3, 1) := by decide +kernel
theorem dn_XL_law_878 : decode code 878 = .ok (.invokestatic 114, 3) := by decide +kernel
theorem dn_XL_law_881 : decode code 881 = .ok (.istore 5, 2) := by decide +kernel
theorem dn_XL_law_883 : decode code 883 = .ok (.aload_n 2, 1) := by decide +kernel
theorem dn_XL_law_884 : decode code 884 = .ok (.aload_n 0, 1) := by decide +kernel
theorem dn_XL_law_885 : decode code 885 = .ok (.iload 4, 2) := by decide +kernel
theorem dn_XL_law_887 : decode code 887 = .ok (.iconst 1, 1) := by decide +kernel
theorem dn_XL_law_888 : decode code 888 = .ok (.iadd, 1) := by decide +kernel
theorem dn_XL_law_889 : decode code 889 = .ok (.iaload, 1) := by decide +kernel
theorem dn_XL_law_890 : decode code 890 = .ok (.invokevirtual 116, 3) := by decide +kernel
theorem dn_XL_law_893 : decode code 893 = .ok (.istore 6, 2) := by decide +kernel
theorem dn_XL_law_895 : decode code 895 = .ok (.aload_n 2, 1) := by decide +kernel
theorem dn_XL_law_896 : decode code 896 = .ok (.invokevirtual 67, 3) := by decide +kernel
theorem dn_XL_law_899 : decode code 899 = .ok (.iload 5, 2) := by decide +kernel
theorem dn_XL_law_901 : decode code 901 = .ok (.if_icmp .eq 5, 3) := by decide +kernel
theorem dn_XL_law_904 : decode code 904 = .ok (.iconst 0, 1) := by decide +kernel
theorem dn_XL_law_905 : decode code 905 = .ok (.ireturn, 1) := by decide +kernel
theorem dn_XL_law_906 : decode code 906 = .ok (.iload 5, 2) := by decide +kernel
theorem dn_XL_law_908 : decode code 908 = .ok (.ifCond .ne 15, 3) := by decide +kernel
theorem dn_XL_law_911 : decode code 911 = .ok (.aload_n 3, 1) := by decide +kernel
theorem dn_XL_law_912 : decode code 912 = .ok (.iconst 0, 1) := by decide +kernel
theorem dn_XL_law_913 : decode code 913 = .ok (.laload, 1) := by decide +kernel
theorem dn_XL_law_914 : decode code 914 = .ok (.iload 6, 2) := by decide +kernel
theorem dn_XL_law_916 : decode code 916 = .ok (.i2l, 1) := by decide +kernel
theorem dn_XL_law_917 : decode code 917 = .ok (.lcmp, 1) := by decide +kernel
theorem dn_XL_law_918 : decode code 918 = .ok (.ifCond .eq 5, 3) := by decide +kernel
theorem dn_XL_law_921 : decode code 921 = .ok (.iconst 0, 1) := by decide +kernel
theorem dn_XL_law_922 : decode code 922 = .ok (.ireturn, 1) := by decide +kernel
theorem dn_XL_law_923 : decode code 923 = .ok (.goto 3, 3) := by decide +kernel
theorem dn_XL_law_926 : decode code 926 = .ok (.iinc 4 5, 3) := by decide +kernel
theorem dn_XL_law_929 : decode code 929 = .ok (.goto (-906), 3) := by decide +kernel
theorem dn_XL_law_932 : decode code 932 = .ok (.iconst 1, 1) := by decide +kernel
theorem dn_XL_law_933 : decode code 933 = .ok (.ireturn, 1) := by decide +kernel
