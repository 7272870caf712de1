theorem dX6_back_0 : decode cX6_back 0 = .ok (.aload_n 0, 1) := by decide +kernel
theorem dX6_back_1 : decode cX6_back 1 = .ok (.getfield 362, 3) := by decide +kernel
theorem dX6_back_4 : decode cX6_back 4 = .ok (.ifnonnull 10, 3) := by decide +kernel
theorem dX6_back_7 : decode cX6_back 7 = .ok (.aload_n 0, 1) := by decide +kernel
theorem dX6_back_8 : decode cX6_back 8 = .ok (.bipush (-5), 2) := by decide +kernel
theorem dX6_back_10 : decode cX6_back 10 = .ok (.invokevirtual 91, 3) := by decide +kernel
theorem dX6_back_13 : decode cX6_back 13 = .ok (.ireturn, 1) := by decide +kernel
theorem dX6_bear_0 : decode cX6_bear 0 = .ok (.iload_n 1, 1) := by decide +kernel
theorem dX6_bear_1 : decode cX6_bear 1 = .ok (.i2l, 1) := by decide +kernel
theorem dX6_bear_2 : decode cX6_bear 2 = .ok (.lconst 1, 1) := by decide +kernel
theorem dX6_bear_3 : decode cX6_bear 3 = .ok (.ldc2_w 239, 3) := by decide +kernel
theorem dX6_bear_6 : decode cX6_bear 6 = .ok (.invokestatic 74, 3) := by decide +kernel
theorem dX6_bear_9 : decode cX6_bear 9 = .ok (.ifCond .ne 10, 3) := by decide +kernel
theorem dX6_bear_12 : decode cX6_bear 12 = .ok (.aload_n 0, 1) := by decide +kernel
theorem dX6_bear_13 : decode cX6_bear 13 = .ok (.bipush (-2), 2) := by decide +kernel
theorem dX6_bear_15 : decode cX6_bear 15 = .ok (.invokevirtual 91, 3) := by decide +kernel
theorem dX6_bear_18 : decode cX6_bear 18 = .ok (.ireturn, 1) := by decide +kernel
theorem dX6_bear_19 : decode cX6_bear 19 = .ok (.iconst 1, 1) := by decide +kernel
theorem dX6_bear_20 : decode cX6_bear 20 = .ok (.aload_n 0, 1) := by decide +kernel
theorem dX6_bear_21 : decode cX6_bear 21 = .ok (.getfield 78, 3) := by decide +kernel
theorem dX6_bear_24 : decode cX6_bear 24 = .ok (.ishl, 1) := by decide +kernel
theorem dX6_bear_25 : decode cX6_bear 25 = .ok (.iconst 1, 1) := by decide +kernel
theorem dX6_bear_26 : decode cX6_bear 26 = .ok (.isub, 1) := by decide +kernel
theorem dX6_bear_27 : decode cX6_bear 27 = .ok (.istore_n 2, 1) := by decide +kernel
theorem dX6_bear_28 : decode cX6_bear 28 = .ok (.iload_n 2, 1) := by decide +kernel
theorem dX6_bear_29 : decode cX6_bear 29 = .ok (.istore_n 3, 1) := by decide +kernel
theorem dX6_bear_30 : decode cX6_bear 30 = .ok (.iload_n 2, 1) := by decide +kernel
theorem dX6_bear_31 : decode cX6_bear 31 = .ok (.istore 4, 2) := by decide +kernel
theorem dX6_bear_33 : decode cX6_bear 33 = .ok (.iload 4, 2) := by decide +kernel
theorem dX6_bear_35 : decode cX6_bear 35 = .ok (.ifCond .lt 44, 3) := by decide +kernel
theorem dX6_bear_38 : decode cX6_bear 38 = .ok (.aload_n 0, 1) := by decide +kernel
theorem dX6_bear_39 : decode cX6_bear 39 = .ok (.iload_n 1, 1) := by decide +kernel
theorem dX6_bear_40 : decode cX6_bear 40 = .ok (.iload 4, 2) := by decide +kernel
theorem dX6_bear_42 : decode cX6_bear 42 = .ok (.invokevirtual 335, 3) := by decide +kernel
theorem dX6_bear_45 : decode cX6_bear 45 = .ok (.aload_n 0, 1) := by decide +kernel
theorem dX6_bear_46 : decode cX6_bear 46 = .ok (.iload_n 1, 1) := by decide +kernel
theorem dX6_bear_47 : decode cX6_bear 47 = .ok (.iload_n 2, 1) := by decide +kernel
theorem dX6_bear_48 : decode cX6_bear 48 = .ok (.invokevirtual 335, 3) := by decide +kernel
theorem dX6_bear_51 : decode cX6_bear 51 = .ok (.if_icmp .ne 20, 3) := by decide +kernel
theorem dX6_bear_54 : decode cX6_bear 54 = .ok (.iload 4, 2) := by decide +kernel
theorem dX6_bear_56 : decode cX6_bear 56 = .ok (.invokestatic 338, 3) := by decide +kernel
theorem dX6_bear_59 : decode cX6_bear 59 = .ok (.iload_n 3, 1) := by decide +kernel
theorem dX6_bear_60 : decode cX6_bear 60 = .ok (.invokestatic 338, 3) := by decide +kernel
theorem dX6_bear_63 : decode cX6_bear 63 = .ok (.if_icmp .gt 8, 3) := by decide +kernel
theorem dX6_bear_66 : decode cX6_bear 66 = .ok (.iload 4, 2) := by decide +kernel
theorem dX6_bear_68 : decode cX6_bear 68 = .ok (.goto 4, 3) := by decide +kernel
theorem dX6_bear_72 : decode cX6_bear 72 = .ok (.istore_n 3, 1) := by decide +kernel
theorem dX6_bear_73 : decode cX6_bear 73 = .ok (.iinc 4 (-1), 3) := by decide +kernel
theorem dX6_bear_76 : decode cX6_bear 76 = .ok (.goto (-43), 3) := by decide +kernel
theorem dX6_bear_79 : decode cX6_bear 79 = .ok (.iload_n 3, 1) := by decide +kernel
theorem dX6_bear_80 : decode cX6_bear 80 = .ok (.ireturn, 1) := by decide +kernel
theorem dX6_ends_0 : decode cX6_ends 0 = .ok (.aload_n 0, 1) := by decide +kernel
theorem dX6_ends_1 : decode cX6_ends 1 = .ok (.invokevirtual 288, 3) := by decide +kernel
theorem dX6_ends_4 : decode cX6_ends 4 = .ok (.ireturn, 1) := by decide +kernel
theorem dX6_gains_0 : decode cX6_gains 0 = .ok (.iload_n 1, 1) := by decide +kernel
theorem dX6_gains_1 : decode cX6_gains 1 = .ok (.i2l, 1) := by decide +kernel
theorem dX6_gains_2 : decode cX6_gains 2 = .ok (.lconst 0, 1) := by decide +kernel
theorem dX6_gains_3 : decode cX6_gains 3 = .ok (.ldc2_w 85, 3) := by decide +kernel
theorem dX6_gains_6 : decode cX6_gains 6 = .ok (.invokestatic 74, 3) := by decide +kernel
theorem dX6_gains_9 : decode cX6_gains 9 = .ok (.ifCond .eq 15, 3) := by decide +kernel
theorem dX6_gains_12 : decode cX6_gains 12 = .ok (.iload_n 2, 1) := by decide +kernel
theorem dX6_gains_13 : decode cX6_gains 13 = .ok (.i2l, 1) := by decide +kernel
theorem dX6_gains_14 : decode cX6_gains 14 = .ok (.lconst 1, 1) := by decide +kernel
theorem dX6_gains_15 : decode cX6_gains 15 = .ok (.ldc2_w 298, 3) := by decide +kernel
theorem dX6_gains_18 : decode cX6_gains 18 = .ok (.invokestatic 74, 3) := by decide +kernel
theorem dX6_gains_21 : decode cX6_gains 21 = .ok (.ifCond .ne 14, 3) := by decide +kernel
theorem dX6_gains_24 : decode cX6_gains 24 = .ok (.aload_n 0, 1) := by decide +kernel
theorem dX6_gains_25 : decode cX6_gains 25 = .ok (.bipush (-2), 2) := by decide +kernel
theorem dX6_gains_27 : decode cX6_gains 27 = .ok (.invokevirtual 91, 3) := by decide +kernel
theorem dX6_gains_30 : decode cX6_gains 30 = .ok (.ldc_w 311, 3) := by decide +kernel
theorem dX6_gains_33 : decode cX6_gains 33 = .ok (.isub, 1) := by decide +kernel
theorem dX6_gains_34 : decode cX6_gains 34 = .ok (.ireturn, 1) := by decide +kernel
theorem dX6_gains_35 : decode cX6_gains 35 = .ok (.aload_n 0, 1) := by decide +kernel
theorem dX6_gains_36 : decode cX6_gains 36 = .ok (.iload_n 1, 1) := by decide +kernel
theorem dX6_gains_37 : decode cX6_gains 37 = .ok (.invokevirtual 302, 3) := by decide +kernel
theorem dX6_gains_40 : decode cX6_gains 40 = .ok (.istore_n 3, 1) := by decide +kernel
theorem dX6_gains_41 : decode cX6_gains 41 = .ok (.iload_n 3, 1) := by decide +kernel
theorem dX6_gains_42 : decode cX6_gains 42 = .ok (.ifCond .eq 9, 3) := by decide +kernel
theorem dX6_gains_45 : decode cX6_gains 45 = .ok (.iload_n 3, 1) := by decide +kernel
theorem dX6_gains_46 : decode cX6_gains 46 = .ok (.ldc_w 311, 3) := by decide +kernel
theorem dX6_gains_49 : decode cX6_gains 49 = .ok (.isub, 1) := by decide +kernel
theorem dX6_gains_50 : decode cX6_gains 50 = .ok (.ireturn, 1) := by decide +kernel
theorem dX6_hangs_0 : decode cX6_hangs 0 = .ok (.iconst (-1), 1) := by decide +kernel
theorem dX6_hangs_1 : decode cX6_hangs 1 = .ok (.istore_n 1, 1) := by decide +kernel
theorem dX6_hangs_2 : decode cX6_hangs 2 = .ok (.iconst 0, 1) := by decide +kernel
theorem dX6_hangs_3 : decode cX6_hangs 3 = .ok (.istore_n 2, 1) := by decide +kernel
theorem dX6_hangs_4 : decode cX6_hangs 4 = .ok (.iconst 1, 1) := by decide +kernel
theorem dX6_hangs_5 : decode cX6_hangs 5 = .ok (.aload_n 0, 1) := by decide +kernel
theorem dX6_hangs_6 : decode cX6_hangs 6 = .ok (.getfield 78, 3) := by decide +kernel
theorem dX6_hangs_9 : decode cX6_hangs 9 = .ok (.ishl, 1) := by decide +kernel
theorem dX6_hangs_10 : decode cX6_hangs 10 = .ok (.iconst 1, 1) := by decide +kernel
theorem dX6_hangs_11 : decode cX6_hangs 11 = .ok (.isub, 1) := by decide +kernel
theorem dX6_hangs_12 : decode cX6_hangs 12 = .ok (.istore_n 3, 1) := by decide +kernel
theorem dX6_hangs_13 : decode cX6_hangs 13 = .ok (.iconst 0, 1) := by decide +kernel
theorem dX6_hangs_14 : decode cX6_hangs 14 = .ok (.istore 4, 2) := by decide +kernel
theorem dX6_hangs_16 : decode cX6_hangs 16 = .ok (.iload 4, 2) := by decide +kernel
theorem dX6_hangs_18 : decode cX6_hangs 18 = .ok (.aload_n 0, 1) := by decide +kernel
theorem dX6_hangs_19 : decode cX6_hangs 19 = .ok (.getfield 78, 3) := by decide +kernel
theorem dX6_hangs_22 : decode cX6_hangs 22 = .ok (.if_icmp .ge 49, 3) := by decide +kernel
theorem dX6_hangs_71 : decode cX6_hangs 71 = .ok (.iload_n 1, 1) := by decide +kernel
theorem dX6_hangs_72 : decode cX6_hangs 72 = .ok (.iconst (-1), 1) := by decide +kernel
theorem dX6_hangs_73 : decode cX6_hangs 73 = .ok (.if_icmp .ne 12, 3) := by decide +kernel
theorem dX6_hangs_76 : decode cX6_hangs 76 = .ok (.aload_n 0, 1) := by decide +kernel
theorem dX6_hangs_77 : decode cX6_hangs 77 = .ok (.bipush (-5), 2) := by decide +kernel
theorem dX6_hangs_79 : decode cX6_hangs 79 = .ok (.invokevirtual 91, 3) := by decide +kernel
theorem dX6_hangs_82 : decode cX6_hangs 82 = .ok (.goto 4, 3) := by decide +kernel
theorem dX6_hangs_86 : decode cX6_hangs 86 = .ok (.ireturn, 1) := by decide +kernel
theorem dX6_head_0 : decode cX6_head 0 = .ok (.iload_n 1, 1) := by decide +kernel
theorem dX6_head_1 : decode cX6_head 1 = .ok (.i2l, 1) := by decide +kernel
theorem dX6_head_2 : decode cX6_head 2 = .ok (.lconst 1, 1) := by decide +kernel
theorem dX6_head_3 : decode cX6_head 3 = .ok (.ldc2_w 298, 3) := by decide +kernel
theorem dX6_head_6 : decode cX6_head 6 = .ok (.invokestatic 74, 3) := by decide +kernel
theorem dX6_head_9 : decode cX6_head 9 = .ok (.ifCond .ne 10, 3) := by decide +kernel
theorem dX6_head_12 : decode cX6_head 12 = .ok (.aload_n 0, 1) := by decide +kernel
theorem dX6_head_13 : decode cX6_head 13 = .ok (.bipush (-2), 2) := by decide +kernel
theorem dX6_head_15 : decode cX6_head 15 = .ok (.invokevirtual 91, 3) := by decide +kernel
theorem dX6_head_18 : decode cX6_head 18 = .ok (.ireturn, 1) := by decide +kernel
theorem dX6_head_19 : decode cX6_head 19 = .ok (.iconst (-1), 1) := by decide +kernel
theorem dX6_head_20 : decode cX6_head 20 = .ok (.istore_n 2, 1) := by decide +kernel
theorem dX6_head_21 : decode cX6_head 21 = .ok (.iconst 0, 1) := by decide +kernel
theorem dX6_head_22 : decode cX6_head 22 = .ok (.istore_n 3, 1) := by decide +kernel
theorem dX6_head_23 : decode cX6_head 23 = .ok (.iconst 0, 1) := by decide +kernel
theorem dX6_head_24 : decode cX6_head 24 = .ok (.istore 4, 2) := by decide +kernel
theorem dX6_head_26 : decode cX6_head 26 = .ok (.iload 4, 2) := by decide +kernel
theorem dX6_head_28 : decode cX6_head 28 = .ok (.bipush 8, 2) := by decide +kernel
theorem dX6_head_30 : decode cX6_head 30 = .ok (.if_icmp .ge 46, 3) := by decide +kernel
theorem dX6_head_33 : decode cX6_head 33 = .ok (.aload_n 0, 1) := by decide +kernel
theorem dX6_head_34 : decode cX6_head 34 = .ok (.getfield 7, 3) := by decide +kernel
theorem dX6_head_37 : decode cX6_head 37 = .ok (.iload 4, 2) := by decide +kernel
theorem dX6_head_39 : decode cX6_head 39 = .ok (.iaload, 1) := by decide +kernel
theorem dX6_head_40 : decode cX6_head 40 = .ok (.iconst 2, 1) := by decide +kernel
theorem dX6_head_41 : decode cX6_head 41 = .ok (.if_icmp .ne 29, 3) := by decide +kernel
theorem dX6_head_70 : decode cX6_head 70 = .ok (.iinc 4 1, 3) := by decide +kernel
theorem dX6_head_73 : decode cX6_head 73 = .ok (.goto (-47), 3) := by decide +kernel
theorem dX6_head_76 : decode cX6_head 76 = .ok (.iload_n 2, 1) := by decide +kernel
theorem dX6_head_77 : decode cX6_head 77 = .ok (.iconst (-1), 1) := by decide +kernel
theorem dX6_head_78 : decode cX6_head 78 = .ok (.if_icmp .ne 12, 3) := by decide +kernel
theorem dX6_head_81 : decode cX6_head 81 = .ok (.aload_n 0, 1) := by decide +kernel
theorem dX6_head_82 : decode cX6_head 82 = .ok (.bipush (-5), 2) := by decide +kernel
theorem dX6_head_84 : decode cX6_head 84 = .ok (.invokevirtual 91, 3) := by decide +kernel
theorem dX6_head_87 : decode cX6_head 87 = .ok (.goto 4, 3) := by decide +kernel
theorem dX6_head_91 : decode cX6_head 91 = .ok (.ireturn, 1) := by decide +kernel
theorem dX6_judge_0 : decode cX6_judge 0 = .ok (.aload_n 0, 1) := by decide +kernel
theorem dX6_judge_1 : decode cX6_judge 1 = .ok (.iload_n 1, 1) := by decide +kernel
theorem dX6_judge_2 : decode cX6_judge 2 = .ok (.iload_n 2, 1) := by decide +kernel
theorem dX6_judge_3 : decode cX6_judge 3 = .ok (.invokevirtual 345, 3) := by decide +kernel
theorem dX6_judge_6 : decode cX6_judge 6 = .ok (.istore_n 3, 1) := by decide +kernel
theorem dX6_judge_7 : decode cX6_judge 7 = .ok (.iload_n 3, 1) := by decide +kernel
theorem dX6_judge_8 : decode cX6_judge 8 = .ok (.ifCond .eq 7, 3) := by decide +kernel
theorem dX6_judge_11 : decode cX6_judge 11 = .ok (.iload_n 3, 1) := by decide +kernel
theorem dX6_judge_12 : decode cX6_judge 12 = .ok (.goto 9, 3) := by decide +kernel
theorem dX6_judge_21 : decode cX6_judge 21 = .ok (.ireturn, 1) := by decide +kernel
theorem dX6_keeping_0 : decode cX6_keeping 0 = .ok (.aload_n 0, 1) := by decide +kernel
theorem dX6_keeping_1 : decode cX6_keeping 1 = .ok (.iload_n 1, 1) := by decide +kernel
theorem dX6_keeping_2 : decode cX6_keeping 2 = .ok (.i2l, 1) := by decide +kernel
theorem dX6_keeping_3 : decode cX6_keeping 3 = .ok (.invokevirtual 229, 3) := by decide +kernel
theorem dX6_keeping_6 : decode cX6_keeping 6 = .ok (.ifCond .eq 17, 3) := by decide +kernel
theorem dX6_keeping_23 : decode cX6_keeping 23 = .ok (.aload_n 0, 1) := by decide +kernel
theorem dX6_keeping_24 : decode cX6_keeping 24 = .ok (.bipush (-2), 2) := by decide +kernel
theorem dX6_keeping_26 : decode cX6_keeping 26 = .ok (.invokevirtual 91, 3) := by decide +kernel
theorem dX6_keeping_29 : decode cX6_keeping 29 = .ok (.ldc_w 311, 3) := by decide +kernel
theorem dX6_keeping_32 : decode cX6_keeping 32 = .ok (.isub, 1) := by decide +kernel
theorem dX6_keeping_33 : decode cX6_keeping 33 = .ok (.ireturn, 1) := by decide +kernel
theorem dX6_left_0 : decode cX6_left 0 = .ok (.iload_n 1, 1) := by decide +kernel
theorem dX6_left_1 : decode cX6_left 1 = .ok (.i2l, 1) := by decide +kernel
theorem dX6_left_2 : decode cX6_left 2 = .ok (.lconst 0, 1) := by decide +kernel
theorem dX6_left_3 : decode cX6_left 3 = .ok (.ldc2_w 239, 3) := by decide +kernel
theorem dX6_left_6 : decode cX6_left 6 = .ok (.invokestatic 74, 3) := by decide +kernel
theorem dX6_left_9 : decode cX6_left 9 = .ok (.ifCond .eq 36, 3) := by decide +kernel
theorem dX6_left_12 : decode cX6_left 12 = .ok (.iload_n 2, 1) := by decide +kernel
theorem dX6_left_13 : decode cX6_left 13 = .ok (.i2l, 1) := by decide +kernel
theorem dX6_left_14 : decode cX6_left 14 = .ok (.lconst 0, 1) := by decide +kernel
theorem dX6_left_15 : decode cX6_left 15 = .ok (.ldc2_w 132, 3) := by decide +kernel
theorem dX6_left_18 : decode cX6_left 18 = .ok (.invokestatic 74, 3) := by decide +kernel
theorem dX6_left_21 : decode cX6_left 21 = .ok (.ifCond .eq 24, 3) := by decide +kernel
theorem dX6_left_24 : decode cX6_left 24 = .ok (.iload_n 3, 1) := by decide +kernel
theorem dX6_left_25 : decode cX6_left 25 = .ok (.i2l, 1) := by decide +kernel
theorem dX6_left_26 : decode cX6_left 26 = .ok (.lconst 0, 1) := by decide +kernel
theorem dX6_left_27 : decode cX6_left 27 = .ok (.ldc2_w 104, 3) := by decide +kernel
theorem dX6_left_30 : decode cX6_left 30 = .ok (.invokestatic 74, 3) := by decide +kernel
theorem dX6_left_33 : decode cX6_left 33 = .ok (.ifCond .eq 12, 3) := by decide +kernel
theorem dX6_left_36 : decode cX6_left 36 = .ok (.iload_n 1, 1) := by decide +kernel
theorem dX6_left_37 : decode cX6_left 37 = .ok (.iload_n 2, 1) := by decide +kernel
theorem dX6_left_38 : decode cX6_left 38 = .ok (.iload_n 3, 1) := by decide +kernel
theorem dX6_left_39 : decode cX6_left 39 = .ok (.invokestatic 332, 3) := by decide +kernel
theorem dX6_left_42 : decode cX6_left 42 = .ok (.goto 9, 3) := by decide +kernel
theorem dX6_left_45 : decode cX6_left 45 = .ok (.aload_n 0, 1) := by decide +kernel
theorem dX6_left_46 : decode cX6_left 46 = .ok (.bipush (-2), 2) := by decide +kernel
theorem dX6_left_48 : decode cX6_left 48 = .ok (.invokevirtual 91, 3) := by decide +kernel
theorem dX6_left_51 : decode cX6_left 51 = .ok (.ireturn, 1) := by decide +kernel
theorem dX6_longest_0 : decode cX6_longest 0 = .ok (.iload_n 1, 1) := by decide +kernel
theorem dX6_longest_1 : decode cX6_longest 1 = .ok (.i2l, 1) := by decide +kernel
theorem dX6_longest_2 : decode cX6_longest 2 = .ok (.lconst 0, 1) := by decide +kernel
theorem dX6_longest_3 : decode cX6_longest 3 = .ok (.ldc2_w 239, 3) := by decide +kernel
theorem dX6_longest_6 : decode cX6_longest 6 = .ok (.invokestatic 74, 3) := by decide +kernel
theorem dX6_longest_9 : decode cX6_longest 9 = .ok (.ifCond .eq 27, 3) := by decide +kernel
theorem dX6_longest_12 : decode cX6_longest 12 = .ok (.iload_n 2, 1) := by decide +kernel
theorem dX6_longest_13 : decode cX6_longest 13 = .ok (.i2l, 1) := by decide +kernel
theorem dX6_longest_14 : decode cX6_longest 14 = .ok (.lconst 0, 1) := by decide +kernel
theorem dX6_longest_15 : decode cX6_longest 15 = .ok (.ldc2_w 132, 3) := by decide +kernel
theorem dX6_longest_18 : decode cX6_longest 18 = .ok (.invokestatic 74, 3) := by decide +kernel
theorem dX6_longest_21 : decode cX6_longest 21 = .ok (.ifCond .eq 15, 3) := by decide +kernel
theorem dX6_longest_24 : decode cX6_longest 24 = .ok (.iload_n 3, 1) := by decide +kernel
theorem dX6_longest_25 : decode cX6_longest 25 = .ok (.i2l, 1) := by decide +kernel
theorem dX6_longest_26 : decode cX6_longest 26 = .ok (.lconst 1, 1) := by decide +kernel
theorem dX6_longest_27 : decode cX6_longest 27 = .ok (.ldc2_w 239, 3) := by decide +kernel
theorem dX6_longest_30 : decode cX6_longest 30 = .ok (.invokestatic 74, 3) := by decide +kernel
theorem dX6_longest_33 : decode cX6_longest 33 = .ok (.ifCond .ne 10, 3) := by decide +kernel
theorem dX6_longest_36 : decode cX6_longest 36 = .ok (.aload_n 0, 1) := by decide +kernel
theorem dX6_longest_37 : decode cX6_longest 37 = .ok (.bipush (-2), 2) := by decide +kernel
theorem dX6_longest_39 : decode cX6_longest 39 = .ok (.invokevirtual 91, 3) := by decide +kernel
theorem dX6_longest_42 : decode cX6_longest 42 = .ok (.ireturn, 1) := by decide +kernel
theorem dX6_longest_43 : decode cX6_longest 43 = .ok (.iconst (-1), 1) := by decide +kernel
theorem dX6_longest_44 : decode cX6_longest 44 = .ok (.istore 4, 2) := by decide +kernel
theorem dX6_longest_46 : decode cX6_longest 46 = .ok (.iload 4, 2) := by decide +kernel
theorem dX6_longest_48 : decode cX6_longest 48 = .ok (.bipush 99, 2) := by decide +kernel
theorem dX6_longest_50 : decode cX6_longest 50 = .ok (.if_icmp .ge 22, 3) := by decide +kernel
theorem dX6_longest_53 : decode cX6_longest 53 = .ok (.iload_n 1, 1) := by decide +kernel
theorem dX6_longest_54 : decode cX6_longest 54 = .ok (.iload_n 2, 1) := by decide +kernel
theorem dX6_longest_55 : decode cX6_longest 55 = .ok (.iload 4, 2) := by decide +kernel
theorem dX6_longest_57 : decode cX6_longest 57 = .ok (.iconst 1, 1) := by decide +kernel
theorem dX6_longest_58 : decode cX6_longest 58 = .ok (.iadd, 1) := by decide +kernel
theorem dX6_longest_59 : decode cX6_longest 59 = .ok (.invokestatic 332, 3) := by decide +kernel
theorem dX6_longest_62 : decode cX6_longest 62 = .ok (.iload_n 3, 1) := by decide +kernel
theorem dX6_longest_63 : decode cX6_longest 63 = .ok (.if_icmp .lt 9, 3) := by decide +kernel
theorem dX6_longest_66 : decode cX6_longest 66 = .ok (.iinc 4 1, 3) := by decide +kernel
theorem dX6_longest_69 : decode cX6_longest 69 = .ok (.goto (-23), 3) := by decide +kernel
theorem dX6_longest_72 : decode cX6_longest 72 = .ok (.iload 4, 2) := by decide +kernel
theorem dX6_longest_74 : decode cX6_longest 74 = .ok (.ireturn, 1) := by decide +kernel
theorem dX6_lost_0 : decode cX6_lost 0 = .ok (.iload_n 1, 1) := by decide +kernel
theorem dX6_lost_1 : decode cX6_lost 1 = .ok (.i2l, 1) := by decide +kernel
theorem dX6_lost_2 : decode cX6_lost 2 = .ok (.lconst 1, 1) := by decide +kernel
theorem dX6_lost_3 : decode cX6_lost 3 = .ok (.ldc2_w 239, 3) := by decide +kernel
theorem dX6_lost_6 : decode cX6_lost 6 = .ok (.invokestatic 74, 3) := by decide +kernel
theorem dX6_lost_9 : decode cX6_lost 9 = .ok (.ifCond .eq 19, 3) := by decide +kernel
theorem dX6_lost_12 : decode cX6_lost 12 = .ok (.aload_n 0, 1) := by decide +kernel
theorem dX6_lost_13 : decode cX6_lost 13 = .ok (.iload_n 1, 1) := by decide +kernel
theorem dX6_lost_14 : decode cX6_lost 14 = .ok (.iconst 1, 1) := by decide +kernel
theorem dX6_lost_15 : decode cX6_lost 15 = .ok (.aload_n 0, 1) := by decide +kernel
theorem dX6_lost_16 : decode cX6_lost 16 = .ok (.getfield 78, 3) := by decide +kernel
theorem dX6_lost_19 : decode cX6_lost 19 = .ok (.ishl, 1) := by decide +kernel
theorem dX6_lost_20 : decode cX6_lost 20 = .ok (.iconst 1, 1) := by decide +kernel
theorem dX6_lost_21 : decode cX6_lost 21 = .ok (.isub, 1) := by decide +kernel
theorem dX6_lost_22 : decode cX6_lost 22 = .ok (.invokevirtual 335, 3) := by decide +kernel
theorem dX6_lost_25 : decode cX6_lost 25 = .ok (.goto 9, 3) := by decide +kernel
theorem dX6_lost_28 : decode cX6_lost 28 = .ok (.aload_n 0, 1) := by decide +kernel
theorem dX6_lost_29 : decode cX6_lost 29 = .ok (.bipush (-2), 2) := by decide +kernel
theorem dX6_lost_31 : decode cX6_lost 31 = .ok (.invokevirtual 91, 3) := by decide +kernel
theorem dX6_lost_34 : decode cX6_lost 34 = .ok (.ireturn, 1) := by decide +kernel
theorem dX6_needs_0 : decode cX6_needs 0 = .ok (.aload_n 0, 1) := by decide +kernel
theorem dX6_needs_1 : decode cX6_needs 1 = .ok (.iload_n 1, 1) := by decide +kernel
theorem dX6_needs_2 : decode cX6_needs 2 = .ok (.i2l, 1) := by decide +kernel
theorem dX6_needs_3 : decode cX6_needs 3 = .ok (.invokevirtual 229, 3) := by decide +kernel
theorem dX6_needs_6 : decode cX6_needs 6 = .ok (.ifCond .ne 10, 3) := by decide +kernel
theorem dX6_needs_9 : decode cX6_needs 9 = .ok (.aload_n 0, 1) := by decide +kernel
theorem dX6_needs_10 : decode cX6_needs 10 = .ok (.bipush (-2), 2) := by decide +kernel
theorem dX6_needs_12 : decode cX6_needs 12 = .ok (.invokevirtual 91, 3) := by decide +kernel
theorem dX6_needs_15 : decode cX6_needs 15 = .ok (.ireturn, 1) := by decide +kernel
theorem dX6_next_0 : decode cX6_next 0 = .ok (.iconst (-1), 1) := by decide +kernel
theorem dX6_next_1 : decode cX6_next 1 = .ok (.istore_n 1, 1) := by decide +kernel
theorem dX6_next_2 : decode cX6_next 2 = .ok (.aload_n 0, 1) := by decide +kernel
theorem dX6_next_3 : decode cX6_next 3 = .ok (.invokevirtual 122, 3) := by decide +kernel
theorem dX6_next_6 : decode cX6_next 6 = .ok (.istore_n 2, 1) := by decide +kernel
theorem dX6_next_7 : decode cX6_next 7 = .ok (.iconst 0, 1) := by decide +kernel
theorem dX6_next_8 : decode cX6_next 8 = .ok (.istore_n 3, 1) := by decide +kernel
theorem dX6_next_9 : decode cX6_next 9 = .ok (.iload_n 3, 1) := by decide +kernel
theorem dX6_next_10 : decode cX6_next 10 = .ok (.aload_n 0, 1) := by decide +kernel
theorem dX6_next_11 : decode cX6_next 11 = .ok (.getfield 71, 3) := by decide +kernel
theorem dX6_next_14 : decode cX6_next 14 = .ok (.if_icmp .ge 64, 3) := by decide +kernel
theorem dX6_next_78 : decode cX6_next 78 = .ok (.iload_n 1, 1) := by decide +kernel
theorem dX6_next_79 : decode cX6_next 79 = .ok (.ireturn, 1) := by decide +kernel
theorem dX6_order_0 : decode cX6_order 0 = .ok (.iconst 0, 1) := by decide +kernel
theorem dX6_order_1 : decode cX6_order 1 = .ok (.istore_n 3, 1) := by decide +kernel
theorem dX6_order_2 : decode cX6_order 2 = .ok (.iconst 0, 1) := by decide +kernel
theorem dX6_order_3 : decode cX6_order 3 = .ok (.istore 4, 2) := by decide +kernel
theorem dX6_order_5 : decode cX6_order 5 = .ok (.iload 4, 2) := by decide +kernel
theorem dX6_order_7 : decode cX6_order 7 = .ok (.aload_n 0, 1) := by decide +kernel
theorem dX6_order_8 : decode cX6_order 8 = .ok (.getfield 71, 3) := by decide +kernel
theorem dX6_order_11 : decode cX6_order 11 = .ok (.if_icmp .ge 29, 3) := by decide +kernel
theorem dX6_order_40 : decode cX6_order 40 = .ok (.aload_n 0, 1) := by decide +kernel
theorem dX6_order_41 : decode cX6_order 41 = .ok (.iload_n 1, 1) := by decide +kernel
theorem dX6_order_42 : decode cX6_order 42 = .ok (.i2l, 1) := by decide +kernel
theorem dX6_order_43 : decode cX6_order 43 = .ok (.invokevirtual 236, 3) := by decide +kernel
theorem dX6_order_46 : decode cX6_order 46 = .ok (.ifCond .eq 18, 3) := by decide +kernel
theorem dX6_order_64 : decode cX6_order 64 = .ok (.aload_n 0, 1) := by decide +kernel
theorem dX6_order_65 : decode cX6_order 65 = .ok (.bipush (-2), 2) := by decide +kernel
theorem dX6_order_67 : decode cX6_order 67 = .ok (.invokevirtual 91, 3) := by decide +kernel
theorem dX6_order_70 : decode cX6_order 70 = .ok (.ireturn, 1) := by decide +kernel
theorem dX6_run_0 : decode cX6_run 0 = .ok (.iload_n 1, 1) := by decide +kernel
theorem dX6_run_1 : decode cX6_run 1 = .ok (.i2l, 1) := by decide +kernel
theorem dX6_run_2 : decode cX6_run 2 = .ok (.lconst 0, 1) := by decide +kernel
theorem dX6_run_3 : decode cX6_run 3 = .ok (.ldc2_w 85, 3) := by decide +kernel
theorem dX6_run_6 : decode cX6_run 6 = .ok (.invokestatic 74, 3) := by decide +kernel
theorem dX6_run_9 : decode cX6_run 9 = .ok (.ifCond .eq 27, 3) := by decide +kernel
theorem dX6_run_12 : decode cX6_run 12 = .ok (.iload_n 2, 1) := by decide +kernel
theorem dX6_run_13 : decode cX6_run 13 = .ok (.i2l, 1) := by decide +kernel
theorem dX6_run_14 : decode cX6_run 14 = .ok (.lconst 1, 1) := by decide +kernel
theorem dX6_run_15 : decode cX6_run 15 = .ok (.ldc2_w 298, 3) := by decide +kernel
theorem dX6_run_18 : decode cX6_run 18 = .ok (.invokestatic 74, 3) := by decide +kernel
theorem dX6_run_21 : decode cX6_run 21 = .ok (.ifCond .eq 15, 3) := by decide +kernel
theorem dX6_run_24 : decode cX6_run 24 = .ok (.iload_n 3, 1) := by decide +kernel
theorem dX6_run_25 : decode cX6_run 25 = .ok (.i2l, 1) := by decide +kernel
theorem dX6_run_26 : decode cX6_run 26 = .ok (.lconst 0, 1) := by decide +kernel
theorem dX6_run_27 : decode cX6_run 27 = .ok (.ldc2_w 300, 3) := by decide +kernel
theorem dX6_run_30 : decode cX6_run 30 = .ok (.invokestatic 74, 3) := by decide +kernel
theorem dX6_run_33 : decode cX6_run 33 = .ok (.ifCond .ne 10, 3) := by decide +kernel
theorem dX6_run_36 : decode cX6_run 36 = .ok (.aload_n 0, 1) := by decide +kernel
theorem dX6_run_37 : decode cX6_run 37 = .ok (.bipush (-2), 2) := by decide +kernel
theorem dX6_run_39 : decode cX6_run 39 = .ok (.invokevirtual 91, 3) := by decide +kernel
theorem dX6_run_42 : decode cX6_run 42 = .ok (.ireturn, 1) := by decide +kernel
theorem dX6_run_43 : decode cX6_run 43 = .ok (.aload_n 0, 1) := by decide +kernel
theorem dX6_run_44 : decode cX6_run 44 = .ok (.iload_n 1, 1) := by decide +kernel
theorem dX6_run_45 : decode cX6_run 45 = .ok (.invokevirtual 302, 3) := by decide +kernel
theorem dX6_run_48 : decode cX6_run 48 = .ok (.istore 4, 2) := by decide +kernel
theorem dX6_run_50 : decode cX6_run 50 = .ok (.iload 4, 2) := by decide +kernel
theorem dX6_run_52 : decode cX6_run 52 = .ok (.ifCond .eq 6, 3) := by decide +kernel
theorem dX6_run_55 : decode cX6_run 55 = .ok (.iload 4, 2) := by decide +kernel
theorem dX6_run_57 : decode cX6_run 57 = .ok (.ireturn, 1) := by decide +kernel
theorem dX6_seed_0 : decode cX6_seed 0 = .ok (.aload_n 0, 1) := by decide +kernel
theorem dX6_seed_1 : decode cX6_seed 1 = .ok (.getfield 51, 3) := by decide +kernel
theorem dX6_seed_4 : decode cX6_seed 4 = .ok (.istore_n 2, 1) := by decide +kernel
theorem dX6_seed_5 : decode cX6_seed 5 = .ok (.aload_n 0, 1) := by decide +kernel
theorem dX6_seed_6 : decode cX6_seed 6 = .ok (.iload_n 1, 1) := by decide +kernel
theorem dX6_seed_7 : decode cX6_seed 7 = .ok (.putfield 51, 3) := by decide +kernel
theorem dX6_seed_10 : decode cX6_seed 10 = .ok (.iload_n 2, 1) := by decide +kernel
theorem dX6_seed_11 : decode cX6_seed 11 = .ok (.ireturn, 1) := by decide +kernel
theorem dX6_status_0 : decode cX6_status 0 = .ok (.iload_n 1, 1) := by decide +kernel
theorem dX6_status_1 : decode cX6_status 1 = .ok (.tableswitch 131 0 8 #[51, 56, 61, 66, 76, 81, 86, 91, 96], 51) := by decide +kernel
theorem dX6_status_52 : decode cX6_status 52 = .ok (.aload_n 0, 1) := by decide +kernel
theorem dX6_status_53 : decode cX6_status 53 = .ok (.getfield 71, 3) := by decide +kernel
theorem dX6_status_56 : decode cX6_status 56 = .ok (.ireturn, 1) := by decide +kernel
theorem dX6_status_57 : decode cX6_status 57 = .ok (.aload_n 0, 1) := by decide +kernel
theorem dX6_status_58 : decode cX6_status 58 = .ok (.invokevirtual 308, 3) := by decide +kernel
theorem dX6_status_61 : decode cX6_status 61 = .ok (.ireturn, 1) := by decide +kernel
theorem dX6_status_62 : decode cX6_status 62 = .ok (.aload_n 0, 1) := by decide +kernel
theorem dX6_status_63 : decode cX6_status 63 = .ok (.getfield 78, 3) := by decide +kernel
theorem dX6_status_66 : decode cX6_status 66 = .ok (.ireturn, 1) := by decide +kernel
theorem dX6_status_67 : decode cX6_status 67 = .ok (.aload_n 0, 1) := by decide +kernel
theorem dX6_status_68 : decode cX6_status 68 = .ok (.getfield 78, 3) := by decide +kernel
theorem dX6_status_71 : decode cX6_status 71 = .ok (.aload_n 0, 1) := by decide +kernel
theorem dX6_status_72 : decode cX6_status 72 = .ok (.invokevirtual 275, 3) := by decide +kernel
theorem dX6_status_75 : decode cX6_status 75 = .ok (.isub, 1) := by decide +kernel
theorem dX6_status_76 : decode cX6_status 76 = .ok (.ireturn, 1) := by decide +kernel
theorem dX6_status_77 : decode cX6_status 77 = .ok (.aload_n 0, 1) := by decide +kernel
theorem dX6_status_78 : decode cX6_status 78 = .ok (.getfield 285, 3) := by decide +kernel
theorem dX6_status_81 : decode cX6_status 81 = .ok (.ireturn, 1) := by decide +kernel
theorem dX6_status_82 : decode cX6_status 82 = .ok (.aload_n 0, 1) := by decide +kernel
theorem dX6_status_83 : decode cX6_status 83 = .ok (.getfield 355, 3) := by decide +kernel
theorem dX6_status_86 : decode cX6_status 86 = .ok (.ireturn, 1) := by decide +kernel
theorem dX6_status_87 : decode cX6_status 87 = .ok (.aload_n 0, 1) := by decide +kernel
theorem dX6_status_88 : decode cX6_status 88 = .ok (.getfield 141, 3) := by decide +kernel
theorem dX6_status_91 : decode cX6_status 91 = .ok (.ireturn, 1) := by decide +kernel
theorem dX6_status_92 : decode cX6_status 92 = .ok (.aload_n 0, 1) := by decide +kernel
theorem dX6_status_93 : decode cX6_status 93 = .ok (.getfield 51, 3) := by decide +kernel
theorem dX6_status_96 : decode cX6_status 96 = .ok (.ireturn, 1) := by decide +kernel
theorem dX6_status_97 : decode cX6_status 97 = .ok (.iconst 0, 1) := by decide +kernel
theorem dX6_status_98 : decode cX6_status 98 = .ok (.istore_n 2, 1) := by decide +kernel
theorem dX6_status_99 : decode cX6_status 99 = .ok (.iconst 0, 1) := by decide +kernel
theorem dX6_status_100 : decode cX6_status 100 = .ok (.istore_n 3, 1) := by decide +kernel
theorem dX6_status_101 : decode cX6_status 101 = .ok (.iload_n 3, 1) := by decide +kernel
theorem dX6_status_102 : decode cX6_status 102 = .ok (.bipush 8, 2) := by decide +kernel
theorem dX6_status_104 : decode cX6_status 104 = .ok (.if_icmp .ge 26, 3) := by decide +kernel
theorem dX6_status_107 : decode cX6_status 107 = .ok (.iload_n 2, 1) := by decide +kernel
theorem dX6_status_108 : decode cX6_status 108 = .ok (.aload_n 0, 1) := by decide +kernel
theorem dX6_status_109 : decode cX6_status 109 = .ok (.getfield 7, 3) := by decide +kernel
theorem dX6_status_112 : decode cX6_status 112 = .ok (.iload_n 3, 1) := by decide +kernel
theorem dX6_status_113 : decode cX6_status 113 = .ok (.iaload, 1) := by decide +kernel
theorem dX6_status_114 : decode cX6_status 114 = .ok (.ifCond .eq 7, 3) := by decide +kernel
theorem dX6_status_121 : decode cX6_status 121 = .ok (.iconst 0, 1) := by decide +kernel
theorem dX6_status_122 : decode cX6_status 122 = .ok (.iadd, 1) := by decide +kernel
theorem dX6_status_123 : decode cX6_status 123 = .ok (.istore_n 2, 1) := by decide +kernel
theorem dX6_status_124 : decode cX6_status 124 = .ok (.iinc 3 1, 3) := by decide +kernel
theorem dX6_status_127 : decode cX6_status 127 = .ok (.goto (-26), 3) := by decide +kernel
theorem dX6_status_130 : decode cX6_status 130 = .ok (.iload_n 2, 1) := by decide +kernel
theorem dX6_status_131 : decode cX6_status 131 = .ok (.ireturn, 1) := by decide +kernel
theorem dX6_status_132 : decode cX6_status 132 = .ok (.iload_n 1, 1) := by decide +kernel
theorem dX6_status_133 : decode cX6_status 133 = .ok (.i2l, 1) := by decide +kernel
theorem dX6_status_134 : decode cX6_status 134 = .ok (.ldc2_w 365, 3) := by decide +kernel
theorem dX6_status_137 : decode cX6_status 137 = .ok (.ldc2_w 367, 3) := by decide +kernel
theorem dX6_status_140 : decode cX6_status 140 = .ok (.invokestatic 74, 3) := by decide +kernel
theorem dX6_status_143 : decode cX6_status 143 = .ok (.ifCond .eq 15, 3) := by decide +kernel
theorem dX6_status_146 : decode cX6_status 146 = .ok (.aload_n 0, 1) := by decide +kernel
theorem dX6_status_147 : decode cX6_status 147 = .ok (.getfield 37, 3) := by decide +kernel
theorem dX6_status_150 : decode cX6_status 150 = .ok (.iload_n 1, 1) := by decide +kernel
theorem dX6_status_151 : decode cX6_status 151 = .ok (.bipush 10, 2) := by decide +kernel
theorem dX6_status_153 : decode cX6_status 153 = .ok (.isub, 1) := by decide +kernel
theorem dX6_status_154 : decode cX6_status 154 = .ok (.iaload, 1) := by decide +kernel
theorem dX6_status_155 : decode cX6_status 155 = .ok (.goto 4, 3) := by decide +kernel
theorem dX6_status_158 : decode cX6_status 158 = .ok (.iconst (-1), 1) := by decide +kernel
theorem dX6_status_159 : decode cX6_status 159 = .ok (.ireturn, 1) := by decide +kernel
theorem dX6_teach_0 : decode cX6_teach 0 = .ok (.aload_n 0, 1) := by decide +kernel
theorem dX6_teach_1 : decode cX6_teach 1 = .ok (.iload_n 1, 1) := by decide +kernel
theorem dX6_teach_2 : decode cX6_teach 2 = .ok (.i2l, 1) := by decide +kernel
theorem dX6_teach_3 : decode cX6_teach 3 = .ok (.invokevirtual 236, 3) := by decide +kernel
theorem dX6_teach_6 : decode cX6_teach 6 = .ok (.ifCond .eq 12, 3) := by decide +kernel
theorem dX6_teach_18 : decode cX6_teach 18 = .ok (.aload_n 0, 1) := by decide +kernel
theorem dX6_teach_19 : decode cX6_teach 19 = .ok (.bipush (-2), 2) := by decide +kernel
theorem dX6_teach_21 : decode cX6_teach 21 = .ok (.invokevirtual 91, 3) := by decide +kernel
theorem dX6_teach_24 : decode cX6_teach 24 = .ok (.ireturn, 1) := by decide +kernel
theorem dX6_told_0 : decode cX6_told 0 = .ok (.aload_n 0, 1) := by decide +kernel
theorem dX6_told_1 : decode cX6_told 1 = .ok (.iload_n 1, 1) := by decide +kernel
theorem dX6_told_2 : decode cX6_told 2 = .ok (.iload_n 2, 1) := by decide +kernel
theorem dX6_told_3 : decode cX6_told 3 = .ok (.invokevirtual 345, 3) := by decide +kernel
theorem dX6_told_6 : decode cX6_told 6 = .ok (.istore_n 3, 1) := by decide +kernel
theorem dX6_told_7 : decode cX6_told 7 = .ok (.iload_n 3, 1) := by decide +kernel
theorem dX6_told_8 : decode cX6_told 8 = .ok (.ifCond .eq 5, 3) := by decide +kernel
theorem dX6_told_11 : decode cX6_told 11 = .ok (.iload_n 3, 1) := by decide +kernel
theorem dX6_told_12 : decode cX6_told 12 = .ok (.ireturn, 1) := by decide +kernel
theorem dX6_two_0 : decode cX6_two 0 = .ok (.aload_n 0, 1) := by decide +kernel
theorem dX6_two_1 : decode cX6_two 1 = .ok (.iload_n 1, 1) := by decide +kernel
theorem dX6_two_2 : decode cX6_two 2 = .ok (.i2l, 1) := by decide +kernel
theorem dX6_two_3 : decode cX6_two 3 = .ok (.invokevirtual 236, 3) := by decide +kernel
theorem dX6_two_6 : decode cX6_two 6 = .ok (.ifCond .eq 26, 3) := by decide +kernel
theorem dX6_two_32 : decode cX6_two 32 = .ok (.aload_n 0, 1) := by decide +kernel
theorem dX6_two_33 : decode cX6_two 33 = .ok (.bipush (-2), 2) := by decide +kernel
theorem dX6_two_35 : decode cX6_two 35 = .ok (.invokevirtual 91, 3) := by decide +kernel
theorem dX6_two_38 : decode cX6_two 38 = .ok (.ireturn, 1) := by decide +kernel
theorem dX6_value_0 : decode cX6_value 0 = .ok (.aload_n 0, 1) := by decide +kernel
theorem dX6_value_1 : decode cX6_value 1 = .ok (.invokevirtual 122, 3) := by decide +kernel
theorem dX6_value_4 : decode cX6_value 4 = .ok (.ireturn, 1) := by decide +kernel
theorem dX6_who_0 : decode cX6_who 0 = .ok (.aload_n 0, 1) := by decide +kernel
theorem dX6_who_1 : decode cX6_who 1 = .ok (.iload_n 1, 1) := by decide +kernel
theorem dX6_who_2 : decode cX6_who 2 = .ok (.i2l, 1) := by decide +kernel
theorem dX6_who_3 : decode cX6_who 3 = .ok (.invokevirtual 229, 3) := by decide +kernel
theorem dX6_who_6 : decode cX6_who 6 = .ok (.ifCond .eq 15, 3) := by decide +kernel
theorem dX6_who_21 : decode cX6_who 21 = .ok (.aload_n 0, 1) := by decide +kernel
theorem dX6_who_22 : decode cX6_who 22 = .ok (.bipush (-2), 2) := by decide +kernel
theorem dX6_who_24 : decode cX6_who 24 = .ok (.invokevirtual 91, 3) := by decide +kernel
theorem dX6_who_27 : decode cX6_who 27 = .ok (.ireturn, 1) := by decide +kernel
theorem dX6_years_0 : decode cX6_years 0 = .ok (.iload_n 1, 1) := by decide +kernel
theorem dX6_years_1 : decode cX6_years 1 = .ok (.i2l, 1) := by decide +kernel
theorem dX6_years_2 : decode cX6_years 2 = .ok (.lconst 0, 1) := by decide +kernel
theorem dX6_years_3 : decode cX6_years 3 = .ok (.ldc2_w 85, 3) := by decide +kernel
theorem dX6_years_6 : decode cX6_years 6 = .ok (.invokestatic 74, 3) := by decide +kernel
theorem dX6_years_9 : decode cX6_years 9 = .ok (.ifCond .eq 15, 3) := by decide +kernel
theorem dX6_years_12 : decode cX6_years 12 = .ok (.iload_n 2, 1) := by decide +kernel
theorem dX6_years_13 : decode cX6_years 13 = .ok (.i2l, 1) := by decide +kernel
theorem dX6_years_14 : decode cX6_years 14 = .ok (.lconst 1, 1) := by decide +kernel
theorem dX6_years_15 : decode cX6_years 15 = .ok (.ldc2_w 341, 3) := by decide +kernel
theorem dX6_years_18 : decode cX6_years 18 = .ok (.invokestatic 74, 3) := by decide +kernel
theorem dX6_years_21 : decode cX6_years 21 = .ok (.ifCond .ne 10, 3) := by decide +kernel
theorem dX6_years_24 : decode cX6_years 24 = .ok (.aload_n 0, 1) := by decide +kernel
theorem dX6_years_25 : decode cX6_years 25 = .ok (.bipush (-2), 2) := by decide +kernel
theorem dX6_years_27 : decode cX6_years 27 = .ok (.invokevirtual 91, 3) := by decide +kernel
theorem dX6_years_30 : decode cX6_years 30 = .ok (.ireturn, 1) := by decide +kernel
theorem dX6_years_31 : decode cX6_years 31 = .ok (.aload_n 0, 1) := by decide +kernel
theorem dX6_years_32 : decode cX6_years 32 = .ok (.iload_n 1, 1) := by decide +kernel
theorem dX6_years_33 : decode cX6_years 33 = .ok (.invokevirtual 302, 3) := by decide +kernel
theorem dX6_years_36 : decode cX6_years 36 = .ok (.istore_n 3, 1) := by decide +kernel
theorem dX6_years_37 : decode cX6_years 37 = .ok (.iload_n 3, 1) := by decide +kernel
theorem dX6_years_38 : decode cX6_years 38 = .ok (.ifCond .eq 5, 3) := by decide +kernel
theorem dX6_years_41 : decode cX6_years 41 = .ok (.iload_n 3, 1) := by decide +kernel
theorem dX6_years_42 : decode cX6_years 42 = .ok (.ireturn, 1) := by decide +kernel
theorem dX6_youngest_0 : decode cX6_youngest 0 = .ok (.aload_n 0, 1) := by decide +kernel
theorem dX6_youngest_1 : decode cX6_youngest 1 = .ok (.iload_n 1, 1) := by decide +kernel
theorem dX6_youngest_2 : decode cX6_youngest 2 = .ok (.i2l, 1) := by decide +kernel
theorem dX6_youngest_3 : decode cX6_youngest 3 = .ok (.invokevirtual 236, 3) := by decide +kernel
theorem dX6_youngest_6 : decode cX6_youngest 6 = .ok (.ifCond .eq 11, 3) := by decide +kernel
theorem dX6_youngest_17 : decode cX6_youngest 17 = .ok (.aload_n 0, 1) := by decide +kernel
theorem dX6_youngest_18 : decode cX6_youngest 18 = .ok (.bipush (-2), 2) := by decide +kernel
theorem dX6_youngest_20 : decode cX6_youngest 20 = .ok (.invokevirtual 91, 3) := by decide +kernel
theorem dX6_youngest_23 : decode cX6_youngest 23 = .ok (.ireturn, 1) := by decide +kernel
set_option maxHeartbeats 4000000 in
set_option maxRecDepth 100000 in
theorem p_X6_who (l : Launch) (G : va_G) (cy : Nat → ClassId) (sz : Nat) (qm : Nat) (qms : Nat) (qmo : Nat) (qmz : Nat) (qmR : Nat) (qmv : Nat) (qmk : Nat) (qmb : Nat) (qmt : Nat) (qmr : Nat) (qmB : Nat) (qmO : Nat) (qmK : Nat) (qm_three : Nat) (qm_unread : Nat) (qm_tryRow : Nat) (qm_bestRow : Nat) (qm_steps : Nat) (iA : Int32) (iB : Int32)   : MW l yX6_who cX6_who 4 (some .int) 6 0 0 G cy [(qm, .inr (5, [.ref qms, .ref qmo, .ref qmz, .ref qmR, .ref qmv, .ref qmk, .ref qmb, .ref qmt, .int 0, .ref qmr, .int 0, .ref qmB, .int 0, .ref qmO, .ref qmK, .int 0, .int 0, .int 1, .null, .null, .int 0, .int 0, .int 0, .long 0, .int 0, .ref qm_three, .int 0, .int 0, .int 0, .null, .ref qm_unread, .ref qm_tryRow, .ref qm_bestRow, .ref qm_steps, .int 0])), (qmr, .inl (cy 0, 8, .inl (fun _ => 0)))] sz [.ref qm, .int iA, .int iB] (Wi G (fun r u => u = [] ∧ ((r = (-2))))) := by
  refine enW RX6 (by decide) rfl (Nat.le_of_ble_eq_true rfl) (fun p e s m below meth c ls A hx hb hml hown hts hr hlocks hP hN hl hin hD hA hS => ?_)
  have hin : meth.name = _ := hin
  have hK := hN.1
  have hl : lv_has ls 4 [(0, .ref qm), (1, .int iA), (2, .int iB)] := hl
  refine lv_aload_n hx hb dX6_who_0 rfl (lv_at hl 0 rfl) ?_
  refine lv_iload_n hx hb dX6_who_1 rfl (lv_at hl 1 rfl) ?_
  refine lv_i2l (v := iA.toInt64) hx hb dX6_who_2 rfl ?_
  refine kRi (rV (As := [.long iA.toInt64]) (rest := []) (b := qm) ⟨hx, hb, hml, hown, hts⟩ (c_X6_isBook l G cy qm (.ref qms) (.ref qmo) (.ref qmz) (.ref qmR) (.ref qmv) (.ref qmk) (.ref qmb) (.ref qmt) (.int 0) (.ref qmr) (.ref qmB) (.int 0) (.ref qmO) (.ref qmK) (.int 0) (.int 0) (.int 1) .null .null (.int 0) (.int 0) (.int 0) (.long 0) (.int 0) (.ref qm_three) (.int 0) (.int 0) (.int 0) .null (.ref qm_unread) (.ref qm_tryRow) (.ref qm_bestRow) (.ref qm_steps) (.int 0) iA.toInt64) L_X6_229 (preRV (q := (RX6, TX6, 35)) hN hP [0] rfl 0 5 rfl rfl) rfl ⟨Nat.le_of_ble_eq_true rfl, Nat.le_of_ble_eq_true rfl⟩ hl.1 (Nat.le_of_ble_eq_true rfl) dX6_who_3 ⟨Nat.le_of_ble_eq_true rfl, Nat.le_of_ble_eq_true rfl⟩) (fun r_1 h_2 => ?_)
  subst h_2
  refine lv_if_eq (tgt := 21) hx hb dX6_who_6 (by decide) (fun _ => ?_) (fun h9 => absurd (by decide) h9)
  refine lv_aload_n hx hb dX6_who_21 rfl (lv_at hl 0 rfl) ?_
  refine lv_bipush (v := (-2)) hx hb dX6_who_22 (by decide) ?_
  refine kWi (wr := []) (rV (As := [.int (-2)]) (rest := []) (b := qm) ⟨hx, hb, hml, hown, hts⟩ (c_X6_refuse2 l G cy (s.heap).size qm (.ref qms) (.ref qmo) (.ref qmz) (.ref qmR) (.ref qmv) (.ref qmk) (.ref qmb) (.ref qmt) (.int 0) qmr (.int 0) (.ref qmB) (.int 0) (.ref qmO) (.ref qmK) (.int 0) (.int 0) (.int 1) .null .null (.int 0) (.int 0) (.int 0) (.long 0) (.int 0) (.ref qm_three) (.int 0) (.int 0) (.int 0) .null (.ref qm_unread) (.ref qm_tryRow) (.ref qm_bestRow) (.ref qm_steps) (.int 0) (fun _ => 0)) L_X6_91 (preWV (q := (RX6, TX6, 35)) hN hP hD [0, 1] rfl (by decide) 0 5 rfl rfl) rfl ⟨Nat.le_of_ble_eq_true rfl, Nat.le_of_ble_eq_true rfl⟩ hl.1 (Nat.le_of_ble_eq_true rfl) dX6_who_24 ⟨Nat.le_of_ble_eq_true rfl, Nat.le_of_ble_eq_true rfl⟩) hP hD hS hA [0, 1] [] rfl rfl (by decide) (by decide) (fun r_4 u_6 H locs h_5 hP hD hS => ?_)
  obtain ⟨rfl, h_5⟩ := h_5
  have hP : va_P G CL [(qm, .inr (5, [.ref qms, .ref qmo, .ref qmz, .ref qmR, .ref qmv, .ref qmk, .ref qmb, .ref qmt, .int 0, .ref qmr, .int 0, .ref qmB, .int 0, .ref qmO, .ref qmK, .int 0, .int 0, .int 1, .null, .null, .int 0, .int 0, .int 0, .long 0, .int 0, .ref qm_three, .int 0, .int 0, .int 0, .null, .ref qm_unread, .ref qm_tryRow, .ref qm_bestRow, .ref qm_steps, .int 0]))] H := hP
  have hD : va_D A [(qm, .inr (5, [.ref qms, .ref qmo, .ref qmz, .ref qmR, .ref qmv, .ref qmk, .ref qmb, .ref qmt, .int 0, .ref qmr, .int 0, .ref qmB, .int 0, .ref qmO, .ref qmK, .int 0, .int 0, .int 1, .null, .null, .int 0, .int 0, .int 0, .long 0, .int 0, .ref qm_three, .int 0, .int 0, .int 0, .null, .ref qm_unread, .ref qm_tryRow, .ref qm_bestRow, .ref qm_steps, .int 0]))] := hD
  subst h_5
  exact endW (u := []) hx hb hr hlocks rfl va_P0 va_D0 hS ⟨rfl, rfl⟩ dX6_who_27
set_option maxHeartbeats 4000000 in
set_option maxRecDepth 100000 in
theorem p_X6_youngest (l : Launch) (G : va_G) (cy : Nat → ClassId) (sz : Nat) (qm : Nat) (qms : Nat) (qmo : Nat) (qmz : Nat) (qmR : Nat) (qmv : Nat) (qmk : Nat) (qmb : Nat) (qmt : Nat) (qmr : Nat) (qmB : Nat) (qmO : Nat) (qmK : Nat) (qm_three : Nat) (qm_unread : Nat) (qm_tryRow : Nat) (qm_bestRow : Nat) (qm_steps : Nat) (iA : Int32)   : MW l yX6_youngest cX6_youngest 2 (some .int) 6 0 0 G cy [(qm, .inr (5, [.ref qms, .ref qmo, .ref qmz, .ref qmR, .ref qmv, .ref qmk, .ref qmb, .ref qmt, .int 0, .ref qmr, .int 0, .ref qmB, .int 0, .ref qmO, .ref qmK, .int 0, .int 0, .int 1, .null, .null, .int 0, .int 0, .int 0, .long 0, .int 0, .ref qm_three, .int 0, .int 0, .int 0, .null, .ref qm_unread, .ref qm_tryRow, .ref qm_bestRow, .ref qm_steps, .int 0])), (qmr, .inl (cy 0, 8, .inl (fun _ => 0)))] sz [.ref qm, .int iA] (Wi G (fun r u => u = [] ∧ ((r = (-2))))) := by
  refine enW RX6 (by decide) rfl (Nat.le_of_ble_eq_true rfl) (fun p e s m below meth c ls A hx hb hml hown hts hr hlocks hP hN hl hin hD hA hS => ?_)
  have hin : meth.name = _ := hin
  have hK := hN.1
  have hl : lv_has ls 2 [(0, .ref qm), (1, .int iA)] := hl
  refine lv_aload_n hx hb dX6_youngest_0 rfl (lv_at hl 0 rfl) ?_
  refine lv_iload_n hx hb dX6_youngest_1 rfl (lv_at hl 1 rfl) ?_
  refine lv_i2l (v := iA.toInt64) hx hb dX6_youngest_2 rfl ?_
  refine kRi (rV (As := [.long iA.toInt64]) (rest := []) (b := qm) ⟨hx, hb, hml, hown, hts⟩ (c_X6_isOne l G cy qm (.ref qms) (.ref qmo) (.ref qmz) (.ref qmR) (.ref qmv) (.ref qmk) (.ref qmb) (.ref qmt) (.int 0) (.ref qmr) (.int 0) (.ref qmB) (.ref qmO) (.ref qmK) (.int 0) (.int 0) (.int 1) .null .null (.int 0) (.int 0) (.int 0) (.long 0) (.int 0) (.ref qm_three) (.int 0) (.int 0) (.int 0) .null (.ref qm_unread) (.ref qm_tryRow) (.ref qm_bestRow) (.ref qm_steps) (.int 0) iA.toInt64) L_X6_236 (preRV (q := (RX6, TX6, 35)) hN hP [0] rfl 0 5 rfl rfl) rfl ⟨Nat.le_of_ble_eq_true rfl, Nat.le_of_ble_eq_true rfl⟩ hl.1 (Nat.le_of_ble_eq_true rfl) dX6_youngest_3 ⟨Nat.le_of_ble_eq_true rfl, Nat.le_of_ble_eq_true rfl⟩) (fun r_1 h_2 => ?_)
  subst h_2
  refine lv_if_eq (tgt := 17) hx hb dX6_youngest_6 (by decide) (fun _ => ?_) (fun h9 => absurd (by decide) h9)
  refine lv_aload_n hx hb dX6_youngest_17 rfl (lv_at hl 0 rfl) ?_
  refine lv_bipush (v := (-2)) hx hb dX6_youngest_18 (by decide) ?_
  refine kWi (wr := []) (rV (As := [.int (-2)]) (rest := []) (b := qm) ⟨hx, hb, hml, hown, hts⟩ (c_X6_refuse2 l G cy (s.heap).size qm (.ref qms) (.ref qmo) (.ref qmz) (.ref qmR) (.ref qmv) (.ref qmk) (.ref qmb) (.ref qmt) (.int 0) qmr (.int 0) (.ref qmB) (.int 0) (.ref qmO) (.ref qmK) (.int 0) (.int 0) (.int 1) .null .null (.int 0) (.int 0) (.int 0) (.long 0) (.int 0) (.ref qm_three) (.int 0) (.int 0) (.int 0) .null (.ref qm_unread) (.ref qm_tryRow) (.ref qm_bestRow) (.ref qm_steps) (.int 0) (fun _ => 0)) L_X6_91 (preWV (q := (RX6, TX6, 35)) hN hP hD [0, 1] rfl (by decide) 0 5 rfl rfl) rfl ⟨Nat.le_of_ble_eq_true rfl, Nat.le_of_ble_eq_true rfl⟩ hl.1 (Nat.le_of_ble_eq_true rfl) dX6_youngest_20 ⟨Nat.le_of_ble_eq_true rfl, Nat.le_of_ble_eq_true rfl⟩) hP hD hS hA [0, 1] [] rfl rfl (by decide) (by decide) (fun r_4 u_6 H locs h_5 hP hD hS => ?_)
  obtain ⟨rfl, h_5⟩ := h_5
  have hP : va_P G CL [(qm, .inr (5, [.ref qms, .ref qmo, .ref qmz, .ref qmR, .ref qmv, .ref qmk, .ref qmb, .ref qmt, .int 0, .ref qmr, .int 0, .ref qmB, .int 0, .ref qmO, .ref qmK, .int 0, .int 0, .int 1, .null, .null, .int 0, .int 0, .int 0, .long 0, .int 0, .ref qm_three, .int 0, .int 0, .int 0, .null, .ref qm_unread, .ref qm_tryRow, .ref qm_bestRow, .ref qm_steps, .int 0]))] H := hP
  have hD : va_D A [(qm, .inr (5, [.ref qms, .ref qmo, .ref qmz, .ref qmR, .ref qmv, .ref qmk, .ref qmb, .ref qmt, .int 0, .ref qmr, .int 0, .ref qmB, .int 0, .ref qmO, .ref qmK, .int 0, .int 0, .int 1, .null, .null, .int 0, .int 0, .int 0, .long 0, .int 0, .ref qm_three, .int 0, .int 0, .int 0, .null, .ref qm_unread, .ref qm_tryRow, .ref qm_bestRow, .ref qm_steps, .int 0]))] := hD
  subst h_5
  exact endW (u := []) hx hb hr hlocks rfl va_P0 va_D0 hS ⟨rfl, rfl⟩ dX6_youngest_23
set_option maxHeartbeats 4000000 in
set_option maxRecDepth 100000 in
theorem p_X6_teach (l : Launch) (G : va_G) (cy : Nat → ClassId) (sz : Nat) (qm : Nat) (qms : Nat) (qmo : Nat) (qmz : Nat) (qmR : Nat) (qmv : Nat) (qmk : Nat) (qmb : Nat) (qmt : Nat) (qmr : Nat) (qmB : Nat) (qmO : Nat) (qmK : Nat) (qm_three : Nat) (qm_unread : Nat) (qm_tryRow : Nat) (qm_bestRow : Nat) (qm_steps : Nat) (iA : Int32) (iB : Int32)   : MW l yX6_teach cX6_teach 7 (some .int) 6 0 0 G cy [(qm, .inr (5, [.ref qms, .ref qmo, .ref qmz, .ref qmR, .ref qmv, .ref qmk, .ref qmb, .ref qmt, .int 0, .ref qmr, .int 0, .ref qmB, .int 0, .ref qmO, .ref qmK, .int 0, .int 0, .int 1, .null, .null, .int 0, .int 0, .int 0, .long 0, .int 0, .ref qm_three, .int 0, .int 0, .int 0, .null, .ref qm_unread, .ref qm_tryRow, .ref qm_bestRow, .ref qm_steps, .int 0])), (qmr, .inl (cy 0, 8, .inl (fun _ => 0)))] sz [.ref qm, .int iA, .int iB] (Wi G (fun r u => u = [] ∧ ((r = (-2))))) := by
  refine enW RX6 (by decide) rfl (Nat.le_of_ble_eq_true rfl) (fun p e s m below meth c ls A hx hb hml hown hts hr hlocks hP hN hl hin hD hA hS => ?_)
  have hin : meth.name = _ := hin
  have hK := hN.1
  have hl : lv_has ls 7 [(0, .ref qm), (1, .int iA), (2, .int iB)] := hl
  refine lv_aload_n hx hb dX6_teach_0 rfl (lv_at hl 0 rfl) ?_
  refine lv_iload_n hx hb dX6_teach_1 rfl (lv_at hl 1 rfl) ?_
  refine lv_i2l (v := iA.toInt64) hx hb dX6_teach_2 rfl ?_
  refine kRi (rV (As := [.long iA.toInt64]) (rest := []) (b := qm) ⟨hx, hb, hml, hown, hts⟩ (c_X6_isOne l G cy qm (.ref qms) (.ref qmo) (.ref qmz) (.ref qmR) (.ref qmv) (.ref qmk) (.ref qmb) (.ref qmt) (.int 0) (.ref qmr) (.int 0) (.ref qmB) (.ref qmO) (.ref qmK) (.int 0) (.int 0) (.int 1) .null .null (.int 0) (.int 0) (.int 0) (.long 0) (.int 0) (.ref qm_three) (.int 0) (.int 0) (.int 0) .null (.ref qm_unread) (.ref qm_tryRow) (.ref qm_bestRow) (.ref qm_steps) (.int 0) iA.toInt64) L_X6_236 (preRV (q := (RX6, TX6, 35)) hN hP [0] rfl 0 5 rfl rfl) rfl ⟨Nat.le_of_ble_eq_true rfl, Nat.le_of_ble_eq_true rfl⟩ hl.1 (Nat.le_of_ble_eq_true rfl) dX6_teach_3 ⟨Nat.le_of_ble_eq_true rfl, Nat.le_of_ble_eq_true rfl⟩) (fun r_1 h_2 => ?_)
  subst h_2
  refine lv_if_eq (tgt := 18) hx hb dX6_teach_6 (by decide) (fun _ => ?_) (fun h9 => absurd (by decide) h9)
  refine lv_aload_n hx hb dX6_teach_18 rfl (lv_at hl 0 rfl) ?_
  refine lv_bipush (v := (-2)) hx hb dX6_teach_19 (by decide) ?_
  refine kWi (wr := []) (rV (As := [.int (-2)]) (rest := []) (b := qm) ⟨hx, hb, hml, hown, hts⟩ (c_X6_refuse2 l G cy (s.heap).size qm (.ref qms) (.ref qmo) (.ref qmz) (.ref qmR) (.ref qmv) (.ref qmk) (.ref qmb) (.ref qmt) (.int 0) qmr (.int 0) (.ref qmB) (.int 0) (.ref qmO) (.ref qmK) (.int 0) (.int 0) (.int 1) .null .null (.int 0) (.int 0) (.int 0) (.long 0) (.int 0) (.ref qm_three) (.int 0) (.int 0) (.int 0) .null (.ref qm_unread) (.ref qm_tryRow) (.ref qm_bestRow) (.ref qm_steps) (.int 0) (fun _ => 0)) L_X6_91 (preWV (q := (RX6, TX6, 35)) hN hP hD [0, 1] rfl (by decide) 0 5 rfl rfl) rfl ⟨Nat.le_of_ble_eq_true rfl, Nat.le_of_ble_eq_true rfl⟩ hl.1 (Nat.le_of_ble_eq_true rfl) dX6_teach_21 ⟨Nat.le_of_ble_eq_true rfl, Nat.le_of_ble_eq_true rfl⟩) hP hD hS hA [0, 1] [] rfl rfl (by decide) (by decide) (fun r_4 u_6 H locs h_5 hP hD hS => ?_)
  obtain ⟨rfl, h_5⟩ := h_5
  have hP : va_P G CL [(qm, .inr (5, [.ref qms, .ref qmo, .ref qmz, .ref qmR, .ref qmv, .ref qmk, .ref qmb, .ref qmt, .int 0, .ref qmr, .int 0, .ref qmB, .int 0, .ref qmO, .ref qmK, .int 0, .int 0, .int 1, .null, .null, .int 0, .int 0, .int 0, .long 0, .int 0, .ref qm_three, .int 0, .int 0, .int 0, .null, .ref qm_unread, .ref qm_tryRow, .ref qm_bestRow, .ref qm_steps, .int 0]))] H := hP
  have hD : va_D A [(qm, .inr (5, [.ref qms, .ref qmo, .ref qmz, .ref qmR, .ref qmv, .ref qmk, .ref qmb, .ref qmt, .int 0, .ref qmr, .int 0, .ref qmB, .int 0, .ref qmO, .ref qmK, .int 0, .int 0, .int 1, .null, .null, .int 0, .int 0, .int 0, .long 0, .int 0, .ref qm_three, .int 0, .int 0, .int 0, .null, .ref qm_unread, .ref qm_tryRow, .ref qm_bestRow, .ref qm_steps, .int 0]))] := hD
  subst h_5
  exact endW (u := []) hx hb hr hlocks rfl va_P0 va_D0 hS ⟨rfl, rfl⟩ dX6_teach_24
set_option maxHeartbeats 4000000 in
set_option maxRecDepth 100000 in
theorem p_X6_two (l : Launch) (G : va_G) (cy : Nat → ClassId) (sz : Nat) (qm : Nat) (qms : Nat) (qmo : Nat) (qmz : Nat) (qmR : Nat) (qmv : Nat) (qmk : Nat) (qmb : Nat) (qmt : Nat) (qmr : Nat) (qmB : Nat) (qmO : Nat) (qmK : Nat) (qm_three : Nat) (qm_unread : Nat) (qm_tryRow : Nat) (qm_bestRow : Nat) (qm_steps : Nat) (iA : Int32) (iB : Int32)   : MW l yX6_two cX6_two 3 (some .int) 6 0 0 G cy [(qm, .inr (5, [.ref qms, .ref qmo, .ref qmz, .ref qmR, .ref qmv, .ref qmk, .ref qmb, .ref qmt, .int 0, .ref qmr, .int 0, .ref qmB, .int 0, .ref qmO, .ref qmK, .int 0, .int 0, .int 1, .null, .null, .int 0, .int 0, .int 0, .long 0, .int 0, .ref qm_three, .int 0, .int 0, .int 0, .null, .ref qm_unread, .ref qm_tryRow, .ref qm_bestRow, .ref qm_steps, .int 0])), (qmr, .inl (cy 0, 8, .inl (fun _ => 0)))] sz [.ref qm, .int iA, .int iB] (Wi G (fun r u => u = [] ∧ ((r = (-2))))) := by
  refine enW RX6 (by decide) rfl (Nat.le_of_ble_eq_true rfl) (fun p e s m below meth c ls A hx hb hml hown hts hr hlocks hP hN hl hin hD hA hS => ?_)
  have hin : meth.name = _ := hin
  have hK := hN.1
  have hl : lv_has ls 3 [(0, .ref qm), (1, .int iA), (2, .int iB)] := hl
  refine lv_aload_n hx hb dX6_two_0 rfl (lv_at hl 0 rfl) ?_
  refine lv_iload_n hx hb dX6_two_1 rfl (lv_at hl 1 rfl) ?_
  refine lv_i2l (v := iA.toInt64) hx hb dX6_two_2 rfl ?_
  refine kRi (rV (As := [.long iA.toInt64]) (rest := []) (b := qm) ⟨hx, hb, hml, hown, hts⟩ (c_X6_isOne l G cy qm (.ref qms) (.ref qmo) (.ref qmz) (.ref qmR) (.ref qmv) (.ref qmk) (.ref qmb) (.ref qmt) (.int 0) (.ref qmr) (.int 0) (.ref qmB) (.ref qmO) (.ref qmK) (.int 0) (.int 0) (.int 1) .null .null (.int 0) (.int 0) (.int 0) (.long 0) (.int 0) (.ref qm_three) (.int 0) (.int 0) (.int 0) .null (.ref qm_unread) (.ref qm_tryRow) (.ref qm_bestRow) (.ref qm_steps) (.int 0) iA.toInt64) L_X6_236 (preRV (q := (RX6, TX6, 35)) hN hP [0] rfl 0 5 rfl rfl) rfl ⟨Nat.le_of_ble_eq_true rfl, Nat.le_of_ble_eq_true rfl⟩ hl.1 (Nat.le_of_ble_eq_true rfl) dX6_two_3 ⟨Nat.le_of_ble_eq_true rfl, Nat.le_of_ble_eq_true rfl⟩) (fun r_1 h_2 => ?_)
  subst h_2
  refine lv_if_eq (tgt := 32) hx hb dX6_two_6 (by decide) (fun _ => ?_) (fun h9 => absurd (by decide) h9)
  refine lv_aload_n hx hb dX6_two_32 rfl (lv_at hl 0 rfl) ?_
  refine lv_bipush (v := (-2)) hx hb dX6_two_33 (by decide) ?_
  refine kWi (wr := []) (rV (As := [.int (-2)]) (rest := []) (b := qm) ⟨hx, hb, hml, hown, hts⟩ (c_X6_refuse2 l G cy (s.heap).size qm (.ref qms) (.ref qmo) (.ref qmz) (.ref qmR) (.ref qmv) (.ref qmk) (.ref qmb) (.ref qmt) (.int 0) qmr (.int 0) (.ref qmB) (.int 0) (.ref qmO) (.ref qmK) (.int 0) (.int 0) (.int 1) .null .null (.int 0) (.int 0) (.int 0) (.long 0) (.int 0) (.ref qm_three) (.int 0) (.int 0) (.int 0) .null (.ref qm_unread) (.ref qm_tryRow) (.ref qm_bestRow) (.ref qm_steps) (.int 0) (fun _ => 0)) L_X6_91 (preWV (q := (RX6, TX6, 35)) hN hP hD [0, 1] rfl (by decide) 0 5 rfl rfl) rfl ⟨Nat.le_of_ble_eq_true rfl, Nat.le_of_ble_eq_true rfl⟩ hl.1 (Nat.le_of_ble_eq_true rfl) dX6_two_35 ⟨Nat.le_of_ble_eq_true rfl, Nat.le_of_ble_eq_true rfl⟩) hP hD hS hA [0, 1] [] rfl rfl (by decide) (by decide) (fun r_4 u_6 H locs h_5 hP hD hS => ?_)
  obtain ⟨rfl, h_5⟩ := h_5
  have hP : va_P G CL [(qm, .inr (5, [.ref qms, .ref qmo, .ref qmz, .ref qmR, .ref qmv, .ref qmk, .ref qmb, .ref qmt, .int 0, .ref qmr, .int 0, .ref qmB, .int 0, .ref qmO, .ref qmK, .int 0, .int 0, .int 1, .null, .null, .int 0, .int 0, .int 0, .long 0, .int 0, .ref qm_three, .int 0, .int 0, .int 0, .null, .ref qm_unread, .ref qm_tryRow, .ref qm_bestRow, .ref qm_steps, .int 0]))] H := hP
  have hD : va_D A [(qm, .inr (5, [.ref qms, .ref qmo, .ref qmz, .ref qmR, .ref qmv, .ref qmk, .ref qmb, .ref qmt, .int 0, .ref qmr, .int 0, .ref qmB, .int 0, .ref qmO, .ref qmK, .int 0, .int 0, .int 1, .null, .null, .int 0, .int 0, .int 0, .long 0, .int 0, .ref qm_three, .int 0, .int 0, .int 0, .null, .ref qm_unread, .ref qm_tryRow, .ref qm_bestRow, .ref qm_steps, .int 0]))] := hD
  subst h_5
  exact endW (u := []) hx hb hr hlocks rfl va_P0 va_D0 hS ⟨rfl, rfl⟩ dX6_two_38
set_option maxHeartbeats 4000000 in
set_option maxRecDepth 100000 in
theorem p_X6_needs (l : Launch) (G : va_G) (cy : Nat → ClassId) (sz : Nat) (qm : Nat) (qms : Nat) (qmo : Nat) (qmz : Nat) (qmR : Nat) (qmv : Nat) (qmk : Nat) (qmb : Nat) (qmt : Nat) (qmr : Nat) (qmB : Nat) (qmO : Nat) (qmK : Nat) (qm_three : Nat) (qm_unread : Nat) (qm_tryRow : Nat) (qm_bestRow : Nat) (qm_steps : Nat) (iA : Int32) (iB : Int32)   : MW l yX6_needs cX6_needs 5 (some .int) 6 0 0 G cy [(qm, .inr (5, [.ref qms, .ref qmo, .ref qmz, .ref qmR, .ref qmv, .ref qmk, .ref qmb, .ref qmt, .int 0, .ref qmr, .int 0, .ref qmB, .int 0, .ref qmO, .ref qmK, .int 0, .int 0, .int 1, .null, .null, .int 0, .int 0, .int 0, .long 0, .int 0, .ref qm_three, .int 0, .int 0, .int 0, .null, .ref qm_unread, .ref qm_tryRow, .ref qm_bestRow, .ref qm_steps, .int 0])), (qmr, .inl (cy 0, 8, .inl (fun _ => 0)))] sz [.ref qm, .int iA, .int iB] (Wi G (fun r u => u = [] ∧ ((r = (-2))))) := by
  refine enW RX6 (by decide) rfl (Nat.le_of_ble_eq_true rfl) (fun p e s m below meth c ls A hx hb hml hown hts hr hlocks hP hN hl hin hD hA hS => ?_)
  have hin : meth.name = _ := hin
  have hK := hN.1
  have hl : lv_has ls 5 [(0, .ref qm), (1, .int iA), (2, .int iB)] := hl
  refine lv_aload_n hx hb dX6_needs_0 rfl (lv_at hl 0 rfl) ?_
  refine lv_iload_n hx hb dX6_needs_1 rfl (lv_at hl 1 rfl) ?_
  refine lv_i2l (v := iA.toInt64) hx hb dX6_needs_2 rfl ?_
  refine kRi (rV (As := [.long iA.toInt64]) (rest := []) (b := qm) ⟨hx, hb, hml, hown, hts⟩ (c_X6_isBook l G cy qm (.ref qms) (.ref qmo) (.ref qmz) (.ref qmR) (.ref qmv) (.ref qmk) (.ref qmb) (.ref qmt) (.int 0) (.ref qmr) (.ref qmB) (.int 0) (.ref qmO) (.ref qmK) (.int 0) (.int 0) (.int 1) .null .null (.int 0) (.int 0) (.int 0) (.long 0) (.int 0) (.ref qm_three) (.int 0) (.int 0) (.int 0) .null (.ref qm_unread) (.ref qm_tryRow) (.ref qm_bestRow) (.ref qm_steps) (.int 0) iA.toInt64) L_X6_229 (preRV (q := (RX6, TX6, 35)) hN hP [0] rfl 0 5 rfl rfl) rfl ⟨Nat.le_of_ble_eq_true rfl, Nat.le_of_ble_eq_true rfl⟩ hl.1 (Nat.le_of_ble_eq_true rfl) dX6_needs_3 ⟨Nat.le_of_ble_eq_true rfl, Nat.le_of_ble_eq_true rfl⟩) (fun r_1 h_2 => ?_)
  subst h_2
  refine lv_if_ne (tgt := 16) hx hb dX6_needs_6 (by decide) (fun h9 => absurd (by decide) h9) (fun _ => ?_)
  refine lv_aload_n hx hb dX6_needs_9 rfl (lv_at hl 0 rfl) ?_
  refine lv_bipush (v := (-2)) hx hb dX6_needs_10 (by decide) ?_
  refine kWi (wr := []) (rV (As := [.int (-2)]) (rest := []) (b := qm) ⟨hx, hb, hml, hown, hts⟩ (c_X6_refuse2 l G cy (s.heap).size qm (.ref qms) (.ref qmo) (.ref qmz) (.ref qmR) (.ref qmv) (.ref qmk) (.ref qmb) (.ref qmt) (.int 0) qmr (.int 0) (.ref qmB) (.int 0) (.ref qmO) (.ref qmK) (.int 0) (.int 0) (.int 1) .null .null (.int 0) (.int 0) (.int 0) (.long 0) (.int 0) (.ref qm_three) (.int 0) (.int 0) (.int 0) .null (.ref qm_unread) (.ref qm_tryRow) (.ref qm_bestRow) (.ref qm_steps) (.int 0) (fun _ => 0)) L_X6_91 (preWV (q := (RX6, TX6, 35)) hN hP hD [0, 1] rfl (by decide) 0 5 rfl rfl) rfl ⟨Nat.le_of_ble_eq_true rfl, Nat.le_of_ble_eq_true rfl⟩ hl.1 (Nat.le_of_ble_eq_true rfl) dX6_needs_12 ⟨Nat.le_of_ble_eq_true rfl, Nat.le_of_ble_eq_true rfl⟩) hP hD hS hA [0, 1] [] rfl rfl (by decide) (by decide) (fun r_4 u_6 H locs h_5 hP hD hS => ?_)
  obtain ⟨rfl, h_5⟩ := h_5
  have hP : va_P G CL [(qm, .inr (5, [.ref qms, .ref qmo, .ref qmz, .ref qmR, .ref qmv, .ref qmk, .ref qmb, .ref qmt, .int 0, .ref qmr, .int 0, .ref qmB, .int 0, .ref qmO, .ref qmK, .int 0, .int 0, .int 1, .null, .null, .int 0, .int 0, .int 0, .long 0, .int 0, .ref qm_three, .int 0, .int 0, .int 0, .null, .ref qm_unread, .ref qm_tryRow, .ref qm_bestRow, .ref qm_steps, .int 0]))] H := hP
  have hD : va_D A [(qm, .inr (5, [.ref qms, .ref qmo, .ref qmz, .ref qmR, .ref qmv, .ref qmk, .ref qmb, .ref qmt, .int 0, .ref qmr, .int 0, .ref qmB, .int 0, .ref qmO, .ref qmK, .int 0, .int 0, .int 1, .null, .null, .int 0, .int 0, .int 0, .long 0, .int 0, .ref qm_three, .int 0, .int 0, .int 0, .null, .ref qm_unread, .ref qm_tryRow, .ref qm_bestRow, .ref qm_steps, .int 0]))] := hD
  subst h_5
  exact endW (u := []) hx hb hr hlocks rfl va_P0 va_D0 hS ⟨rfl, rfl⟩ dX6_needs_15
set_option maxHeartbeats 4000000 in
set_option maxRecDepth 100000 in
theorem p_X6_value (l : Launch) (G : va_G) (cy : Nat → ClassId) (qm : Nat) (qms : Nat) (qmo : Nat) (qmz : Nat) (qmR : Nat) (qmv : Nat) (qmk : Nat) (qmb : Nat) (qmt : Nat) (qmr : Nat) (qmB : Nat) (qmO : Nat) (qmK : Nat) (qm_three : Nat) (qm_unread : Nat) (qm_tryRow : Nat) (qm_bestRow : Nat) (qm_steps : Nat)   : MR l yX6_value cX6_value 1 (some .int) 6 G cy [(qm, .inr (5, [.ref qms, .ref qmo, .ref qmz, .ref qmR, .ref qmv, .ref qmk, .ref qmb, .ref qmt, .int 0, .ref qmr, .int 0, .ref qmB, .int 0, .ref qmO, .ref qmK, .int 0, .int 0, .int 1, .null, .null, .int 0, .int 0, .int 0, .long 0, .int 0, .ref qm_three, .int 0, .int 0, .int 0, .null, .ref qm_unread, .ref qm_tryRow, .ref qm_bestRow, .ref qm_steps, .int 0]))] [.ref qm] (vp_Si (fun r => (r = 0))) := by
  refine enR RX6 (by decide) rfl (Nat.le_of_ble_eq_true rfl) (fun p e s m below meth c ls hx hb hml hown hts hr hlocks hP hN hl => ?_)
  have hK := hN.1
  have hl : lv_has ls 1 [(0, .ref qm)] := hl
  refine lv_aload_n hx hb dX6_value_0 rfl (lv_at hl 0 rfl) ?_
  refine kRi (rV (As := []) (rest := []) (b := qm) ⟨hx, hb, hml, hown, hts⟩ (c_X6_valueNow l G cy qm (.ref qms) (.ref qmo) (.ref qmz) (.ref qmR) (.ref qmv) (.ref qmk) (.ref qmb) (.ref qmt) (.int 0) (.ref qmr) (.ref qmB) (.ref qmO) (.ref qmK) (.int 0) (.int 0) (.int 1) .null .null (.int 0) (.int 0) (.int 0) (.long 0) (.int 0) (.ref qm_three) (.int 0) (.int 0) (.int 0) .null (.ref qm_unread) (.ref qm_tryRow) (.ref qm_bestRow) (.ref qm_steps) (.int 0)) L_X6_122 (preRV (q := (RX6, TX6, 35)) hN hP [0] rfl 0 5 rfl rfl) rfl ⟨Nat.le_of_ble_eq_true rfl, Nat.le_of_ble_eq_true rfl⟩ hl.1 (Nat.le_of_ble_eq_true rfl) dX6_value_1 ⟨Nat.le_of_ble_eq_true rfl, Nat.le_of_ble_eq_true rfl⟩) (fun r_1 h_2 => ?_)
  subst h_2
  exact endR hx hb hr hlocks rfl rfl dX6_value_4
set_option maxHeartbeats 4000000 in
set_option maxRecDepth 100000 in
theorem p_X6_run (l : Launch) (G : va_G) (cy : Nat → ClassId) (sz : Nat) (qm : Nat) (qms : Nat) (qmo : Nat) (qmz : Nat) (qmR : Nat) (qmv : Nat) (qmk : Nat) (qmb : Nat) (qmt : Nat) (qmr : Nat) (qmB : Nat) (qmO : Nat) (qmK : Nat) (qm_three : Nat) (qm_unread : Nat) (qm_tryRow : Nat) (qm_bestRow : Nat) (qm_steps : Nat) (iA : Int32) (iB : Int32) (iC : Int32)   : MW l yX6_run cX6_run 6 (some .int) 6 0 0 G cy [(qm, .inr (5, [.ref qms, .ref qmo, .ref qmz, .ref qmR, .ref qmv, .ref qmk, .ref qmb, .ref qmt, .int 0, .ref qmr, .int 0, .ref qmB, .int 0, .ref qmO, .ref qmK, .int 0, .int 0, .int 1, .null, .null, .int 0, .int 0, .int 0, .long 0, .int 0, .ref qm_three, .int 0, .int 0, .int 0, .null, .ref qm_unread, .ref qm_tryRow, .ref qm_bestRow, .ref qm_steps, .int 0])), (qms, .inl (cy 0, 8, .inl (fun _ => 0))), (qmr, .inl (cy 0, 8, .inl (fun _ => 0)))] sz [.ref qm, .int iA, .int iB, .int iC] (Wi G (fun r u => u = [] ∧ ((r = (sp_run iA iB iC))))) := by
  refine enW RX6 (by decide) rfl (Nat.le_of_ble_eq_true rfl) (fun p e s m below meth c ls A hx hb hml hown hts hr hlocks hP hN hl hin hD hA hS => ?_)
  have hin : meth.name = _ := hin
  have hK := hN.1
  have hl : lv_has ls 6 [(0, .ref qm), (1, .int iA), (2, .int iB), (3, .int iC)] := hl
  refine lv_iload_n hx hb dX6_run_0 rfl (lv_at hl 1 rfl) ?_
  refine lv_i2l (v := iA.toInt64) hx hb dX6_run_1 rfl ?_
  refine lv_lconst (v := 0) hx hb dX6_run_2 (by decide) ?_
  refine lv_ldc2 hx hb hown (hts _ m_t960) dX6_run_3 ?_
  refine kRi (rS (As := [.long iA.toInt64, .long 0, .long 7]) (rest := []) ⟨hx, hb, hml, hown, hts⟩ (c_X6_in l G cy iA.toInt64 0 7) L_X6_74 (preRS hN hP [] rfl) rfl ⟨Nat.le_of_ble_eq_true rfl, Nat.le_of_ble_eq_true rfl⟩ hl.1 (Nat.le_of_ble_eq_true rfl) dX6_run_6 ⟨Nat.le_of_ble_eq_true rfl, Nat.le_of_ble_eq_true rfl⟩) (fun r_1 h_2 => ?_)
  rcases h_2 with ⟨rfl, h_3⟩ | ⟨rfl, h_3⟩
  · refine lv_if_eq (tgt := 36) hx hb dX6_run_9 (by decide) (fun h9 => absurd h9 (by decide)) (fun _ => ?_)
    refine lv_iload_n hx hb dX6_run_12 rfl (lv_at hl 2 rfl) ?_
    refine lv_i2l (v := iB.toInt64) hx hb dX6_run_13 rfl ?_
    refine lv_lconst (v := 1) hx hb dX6_run_14 (by decide) ?_
    refine lv_ldc2 hx hb hown (hts _ m_t1268) dX6_run_15 ?_
    refine kRi (rS (As := [.long iB.toInt64, .long 1, .long 60]) (rest := []) ⟨hx, hb, hml, hown, hts⟩ (c_X6_in l G cy iB.toInt64 1 60) L_X6_74 (preRS hN hP [] rfl) rfl ⟨Nat.le_of_ble_eq_true rfl, Nat.le_of_ble_eq_true rfl⟩ hl.1 (Nat.le_of_ble_eq_true rfl) dX6_run_18 ⟨Nat.le_of_ble_eq_true rfl, Nat.le_of_ble_eq_true rfl⟩) (fun r_5 h_6 => ?_)
    rcases h_6 with ⟨rfl, h_7⟩ | ⟨rfl, h_7⟩
    · refine lv_if_eq (tgt := 36) hx hb dX6_run_21 (by decide) (fun h9 => absurd h9 (by decide)) (fun _ => ?_)
      refine lv_iload_n hx hb dX6_run_24 rfl (lv_at hl 3 rfl) ?_
      refine lv_i2l (v := iC.toInt64) hx hb dX6_run_25 rfl ?_
      refine lv_lconst (v := 0) hx hb dX6_run_26 (by decide) ?_
      refine lv_ldc2 hx hb hown (hts _ m_t1269) dX6_run_27 ?_
      refine kRi (rS (As := [.long iC.toInt64, .long 0, .long 3]) (rest := []) ⟨hx, hb, hml, hown, hts⟩ (c_X6_in l G cy iC.toInt64 0 3) L_X6_74 (preRS hN hP [] rfl) rfl ⟨Nat.le_of_ble_eq_true rfl, Nat.le_of_ble_eq_true rfl⟩ hl.1 (Nat.le_of_ble_eq_true rfl) dX6_run_30 ⟨Nat.le_of_ble_eq_true rfl, Nat.le_of_ble_eq_true rfl⟩) (fun r_9 h_10 => ?_)
      rcases h_10 with ⟨rfl, h_11⟩ | ⟨rfl, h_11⟩
      · refine lv_if_ne (tgt := 43) hx hb dX6_run_33 (by decide) (fun _ => ?_) (fun h9 => absurd h9 (by decide))
        refine lv_aload_n hx hb dX6_run_43 rfl (lv_at hl 0 rfl) ?_
        refine lv_iload_n hx hb dX6_run_44 rfl (lv_at hl 1 rfl) ?_
        refine kWi (wr := []) (rV (As := [.int iA]) (rest := []) (b := qm) ⟨hx, hb, hml, hown, hts⟩ (c_X6_noRule l G cy (s.heap).size qm qms (.ref qmo) (.ref qmz) (.ref qmR) (.ref qmv) (.ref qmk) (.ref qmb) (.ref qmt) (.int 0) qmr (.int 0) (.ref qmB) (.int 0) (.ref qmO) (.ref qmK) (.int 0) (.int 0) (.int 1) .null .null (.int 0) (.int 0) (.int 0) (.long 0) (.int 0) (.ref qm_three) (.int 0) (.int 0) (.int 0) .null (.ref qm_unread) (.ref qm_tryRow) (.ref qm_bestRow) (.ref qm_steps) (.int 0) iA) L_X6_302 (preWV (q := (RX6, TX6, 35)) hN hP hD [0, 1, 2] rfl (by decide) 0 5 rfl rfl) rfl ⟨Nat.le_of_ble_eq_true rfl, Nat.le_of_ble_eq_true rfl⟩ hl.1 (Nat.le_of_ble_eq_true rfl) dX6_run_45 ⟨Nat.le_of_ble_eq_true rfl, Nat.le_of_ble_eq_true rfl⟩) hP hD hS hA [0, 1, 2] [] rfl rfl (by decide) (by decide) (fun r_13 u_15 H locs h_14 hP hD hS => ?_)
        obtain ⟨rfl, h_14⟩ := h_14
        have hP : va_P G CL [] H := hP
        have hD : va_D A [] := hD
        rcases h_14 with ⟨rfl, h_16⟩ | ⟨rfl, h_16⟩
        · exact absurd h_3 h_16
        · refine lv_istore (lv' := [(4, .int (-4)), (0, .ref qm), (1, .int iA), (2, .int iB), (3, .int iC)]) hx hb dX6_run_48 hl (by decide) rfl (fun ls hl => ?_)
          refine lv_iload hx hb dX6_run_50 (lv_at hl 0 rfl) ?_
          refine lv_if_eq (tgt := 58) hx hb dX6_run_52 (by decide) (fun h9 => absurd h9 (by decide)) (fun _ => ?_)
          refine lv_iload hx hb dX6_run_55 (lv_at hl 0 rfl) ?_
          exact endW (u := []) hx hb hr hlocks rfl va_P0 va_D0 hS ⟨rfl, (by first | (simp [sp_run, Iv, h_3, h_7, h_11, h_16]; done) | (unfold sp_run; decide))⟩ dX6_run_57
      · refine lv_if_ne (tgt := 43) hx hb dX6_run_33 (by decide) (fun h9 => absurd (by decide) h9) (fun _ => ?_)
        refine lv_aload_n hx hb dX6_run_36 rfl (lv_at hl 0 rfl) ?_
        refine lv_bipush (v := (-2)) hx hb dX6_run_37 (by decide) ?_
        refine kWi (wr := [(qms, .inl (cy 0, 8, .inl (fun _ => 0)))]) (rV (As := [.int (-2)]) (rest := []) (b := qm) ⟨hx, hb, hml, hown, hts⟩ (c_X6_refuse2 l G cy (s.heap).size qm (.ref qms) (.ref qmo) (.ref qmz) (.ref qmR) (.ref qmv) (.ref qmk) (.ref qmb) (.ref qmt) (.int 0) qmr (.int 0) (.ref qmB) (.int 0) (.ref qmO) (.ref qmK) (.int 0) (.int 0) (.int 1) .null .null (.int 0) (.int 0) (.int 0) (.long 0) (.int 0) (.ref qm_three) (.int 0) (.int 0) (.int 0) .null (.ref qm_unread) (.ref qm_tryRow) (.ref qm_bestRow) (.ref qm_steps) (.int 0) (fun _ => 0)) L_X6_91 (preWV (q := (RX6, TX6, 35)) hN hP hD [0, 2] rfl (by decide) 0 5 rfl rfl) rfl ⟨Nat.le_of_ble_eq_true rfl, Nat.le_of_ble_eq_true rfl⟩ hl.1 (Nat.le_of_ble_eq_true rfl) dX6_run_39 ⟨Nat.le_of_ble_eq_true rfl, Nat.le_of_ble_eq_true rfl⟩) hP hD hS hA [0, 2] [1] rfl rfl (by decide) (by decide) (fun r_19 u_21 H locs h_20 hP hD hS => ?_)
        obtain ⟨rfl, h_20⟩ := h_20
        have hP : va_P G CL [(qms, .inl (cy 0, 8, .inl (fun _ => 0))), (qm, .inr (5, [.ref qms, .ref qmo, .ref qmz, .ref qmR, .ref qmv, .ref qmk, .ref qmb, .ref qmt, .int 0, .ref qmr, .int 0, .ref qmB, .int 0, .ref qmO, .ref qmK, .int 0, .int 0, .int 1, .null, .null, .int 0, .int 0, .int 0, .long 0, .int 0, .ref qm_three, .int 0, .int 0, .int 0, .null, .ref qm_unread, .ref qm_tryRow, .ref qm_bestRow, .ref qm_steps, .int 0]))] H := hP
        have hD : va_D A [(qms, .inl (cy 0, 8, .inl (fun _ => 0))), (qm, .inr (5, [.ref qms, .ref qmo, .ref qmz, .ref qmR, .ref qmv, .ref qmk, .ref qmb, .ref qmt, .int 0, .ref qmr, .int 0, .ref qmB, .int 0, .ref qmO, .ref qmK, .int 0, .int 0, .int 1, .null, .null, .int 0, .int 0, .int 0, .long 0, .int 0, .ref qm_three, .int 0, .int 0, .int 0, .null, .ref qm_unread, .ref qm_tryRow, .ref qm_bestRow, .ref qm_steps, .int 0]))] := hD
        subst h_20
        exact endW (u := []) hx hb hr hlocks rfl va_P0 va_D0 hS ⟨rfl, (by first | (simp [sp_run, Iv, h_3, h_7, h_11]; done) | (unfold sp_run; decide))⟩ dX6_run_42
    · refine lv_if_eq (tgt := 36) hx hb dX6_run_21 (by decide) (fun _ => ?_) (fun h9 => absurd (by decide) h9)
      refine lv_aload_n hx hb dX6_run_36 rfl (lv_at hl 0 rfl) ?_
      refine lv_bipush (v := (-2)) hx hb dX6_run_37 (by decide) ?_
      refine kWi (wr := [(qms, .inl (cy 0, 8, .inl (fun _ => 0)))]) (rV (As := [.int (-2)]) (rest := []) (b := qm) ⟨hx, hb, hml, hown, hts⟩ (c_X6_refuse2 l G cy (s.heap).size qm (.ref qms) (.ref qmo) (.ref qmz) (.ref qmR) (.ref qmv) (.ref qmk) (.ref qmb) (.ref qmt) (.int 0) qmr (.int 0) (.ref qmB) (.int 0) (.ref qmO) (.ref qmK) (.int 0) (.int 0) (.int 1) .null .null (.int 0) (.int 0) (.int 0) (.long 0) (.int 0) (.ref qm_three) (.int 0) (.int 0) (.int 0) .null (.ref qm_unread) (.ref qm_tryRow) (.ref qm_bestRow) (.ref qm_steps) (.int 0) (fun _ => 0)) L_X6_91 (preWV (q := (RX6, TX6, 35)) hN hP hD [0, 2] rfl (by decide) 0 5 rfl rfl) rfl ⟨Nat.le_of_ble_eq_true rfl, Nat.le_of_ble_eq_true rfl⟩ hl.1 (Nat.le_of_ble_eq_true rfl) dX6_run_39 ⟨Nat.le_of_ble_eq_true rfl, Nat.le_of_ble_eq_true rfl⟩) hP hD hS hA [0, 2] [1] rfl rfl (by decide) (by decide) (fun r_23 u_25 H locs h_24 hP hD hS => ?_)
      obtain ⟨rfl, h_24⟩ := h_24
      have hP : va_P G CL [(qms, .inl (cy 0, 8, .inl (fun _ => 0))), (qm, .inr (5, [.ref qms, .ref qmo, .ref qmz, .ref qmR, .ref qmv, .ref qmk, .ref qmb, .ref qmt, .int 0, .ref qmr, .int 0, .ref qmB, .int 0, .ref qmO, .ref qmK, .int 0, .int 0, .int 1, .null, .null, .int 0, .int 0, .int 0, .long 0, .int 0, .ref qm_three, .int 0, .int 0, .int 0, .null, .ref qm_unread, .ref qm_tryRow, .ref qm_bestRow, .ref qm_steps, .int 0]))] H := hP
      have hD : va_D A [(qms, .inl (cy 0, 8, .inl (fun _ => 0))), (qm, .inr (5, [.ref qms, .ref qmo, .ref qmz, .ref qmR, .ref qmv, .ref qmk, .ref qmb, .ref qmt, .int 0, .ref qmr, .int 0, .ref qmB, .int 0, .ref qmO, .ref qmK, .int 0, .int 0, .int 1, .null, .null, .int 0, .int 0, .int 0, .long 0, .int 0, .ref qm_three, .int 0, .int 0, .int 0, .null, .ref qm_unread, .ref qm_tryRow, .ref qm_bestRow, .ref qm_steps, .int 0]))] := hD
      subst h_24
      exact endW (u := []) hx hb hr hlocks rfl va_P0 va_D0 hS ⟨rfl, (by first | (simp [sp_run, Iv, h_3, h_7]; done) | (unfold sp_run; decide))⟩ dX6_run_42
  · refine lv_if_eq (tgt := 36) hx hb dX6_run_9 (by decide) (fun _ => ?_) (fun h9 => absurd (by decide) h9)
    refine lv_aload_n hx hb dX6_run_36 rfl (lv_at hl 0 rfl) ?_
    refine lv_bipush (v := (-2)) hx hb dX6_run_37 (by decide) ?_
    refine kWi (wr := [(qms, .inl (cy 0, 8, .inl (fun _ => 0)))]) (rV (As := [.int (-2)]) (rest := []) (b := qm) ⟨hx, hb, hml, hown, hts⟩ (c_X6_refuse2 l G cy (s.heap).size qm (.ref qms) (.ref qmo) (.ref qmz) (.ref qmR) (.ref qmv) (.ref qmk) (.ref qmb) (.ref qmt) (.int 0) qmr (.int 0) (.ref qmB) (.int 0) (.ref qmO) (.ref qmK) (.int 0) (.int 0) (.int 1) .null .null (.int 0) (.int 0) (.int 0) (.long 0) (.int 0) (.ref qm_three) (.int 0) (.int 0) (.int 0) .null (.ref qm_unread) (.ref qm_tryRow) (.ref qm_bestRow) (.ref qm_steps) (.int 0) (fun _ => 0)) L_X6_91 (preWV (q := (RX6, TX6, 35)) hN hP hD [0, 2] rfl (by decide) 0 5 rfl rfl) rfl ⟨Nat.le_of_ble_eq_true rfl, Nat.le_of_ble_eq_true rfl⟩ hl.1 (Nat.le_of_ble_eq_true rfl) dX6_run_39 ⟨Nat.le_of_ble_eq_true rfl, Nat.le_of_ble_eq_true rfl⟩) hP hD hS hA [0, 2] [1] rfl rfl (by decide) (by decide) (fun r_27 u_29 H locs h_28 hP hD hS => ?_)
    obtain ⟨rfl, h_28⟩ := h_28
    have hP : va_P G CL [(qms, .inl (cy 0, 8, .inl (fun _ => 0))), (qm, .inr (5, [.ref qms, .ref qmo, .ref qmz, .ref qmR, .ref qmv, .ref qmk, .ref qmb, .ref qmt, .int 0, .ref qmr, .int 0, .ref qmB, .int 0, .ref qmO, .ref qmK, .int 0, .int 0, .int 1, .null, .null, .int 0, .int 0, .int 0, .long 0, .int 0, .ref qm_three, .int 0, .int 0, .int 0, .null, .ref qm_unread, .ref qm_tryRow, .ref qm_bestRow, .ref qm_steps, .int 0]))] H := hP
    have hD : va_D A [(qms, .inl (cy 0, 8, .inl (fun _ => 0))), (qm, .inr (5, [.ref qms, .ref qmo, .ref qmz, .ref qmR, .ref qmv, .ref qmk, .ref qmb, .ref qmt, .int 0, .ref qmr, .int 0, .ref qmB, .int 0, .ref qmO, .ref qmK, .int 0, .int 0, .int 1, .null, .null, .int 0, .int 0, .int 0, .long 0, .int 0, .ref qm_three, .int 0, .int 0, .int 0, .null, .ref qm_unread, .ref qm_tryRow, .ref qm_bestRow, .ref qm_steps, .int 0]))] := hD
    subst h_28
    exact endW (u := []) hx hb hr hlocks rfl va_P0 va_D0 hS ⟨rfl, (by first | (simp [sp_run, Iv, h_3]; done) | (unfold sp_run; decide))⟩ dX6_run_42
set_option maxHeartbeats 4000000 in
set_option maxRecDepth 100000 in
theorem p_X6_head (l : Launch) (G : va_G) (cy : Nat → ClassId) (sz : Nat) (qm : Nat) (qms : Nat) (qmo : Nat) (qmz : Nat) (qmR : Nat) (qmv : Nat) (qmk : Nat) (qmb : Nat) (qmt : Nat) (qmr : Nat) (qmB : Nat) (qmO : Nat) (qmK : Nat) (qm_three : Nat) (qm_unread : Nat) (qm_tryRow : Nat) (qm_bestRow : Nat) (qm_steps : Nat) (iA : Int32)   : MW l yX6_head cX6_head 6 (some .int) 6 0 0 G cy [(qm, .inr (5, [.ref qms, .ref qmo, .ref qmz, .ref qmR, .ref qmv, .ref qmk, .ref qmb, .ref qmt, .int 0, .ref qmr, .int 0, .ref qmB, .int 0, .ref qmO, .ref qmK, .int 0, .int 0, .int 1, .null, .null, .int 0, .int 0, .int 0, .long 0, .int 0, .ref qm_three, .int 0, .int 0, .int 0, .null, .ref qm_unread, .ref qm_tryRow, .ref qm_bestRow, .ref qm_steps, .int 0])), (qms, .inl (cy 0, 8, .inl (fun _ => 0))), (qmr, .inl (cy 0, 8, .inl (fun _ => 0)))] sz [.ref qm, .int iA] (Wi G (fun r u => u = [] ∧ ((r = (sp_head iA))))) := by
  refine enW RX6 (by decide) rfl (Nat.le_of_ble_eq_true rfl) (fun p e s m below meth c ls A hx hb hml hown hts hr hlocks hP hN hl hin hD hA hS => ?_)
  have hin : meth.name = _ := hin
  have hK := hN.1
  have hl : lv_has ls 6 [(0, .ref qm), (1, .int iA)] := hl
  refine lv_iload_n hx hb dX6_head_0 rfl (lv_at hl 1 rfl) ?_
  refine lv_i2l (v := iA.toInt64) hx hb dX6_head_1 rfl ?_
  refine lv_lconst (v := 1) hx hb dX6_head_2 (by decide) ?_
  refine lv_ldc2 hx hb hown (hts _ m_t1268) dX6_head_3 ?_
  refine kRi (rS (As := [.long iA.toInt64, .long 1, .long 60]) (rest := []) ⟨hx, hb, hml, hown, hts⟩ (c_X6_in l G cy iA.toInt64 1 60) L_X6_74 (preRS hN hP [] rfl) rfl ⟨Nat.le_of_ble_eq_true rfl, Nat.le_of_ble_eq_true rfl⟩ hl.1 (Nat.le_of_ble_eq_true rfl) dX6_head_6 ⟨Nat.le_of_ble_eq_true rfl, Nat.le_of_ble_eq_true rfl⟩) (fun r_1 h_2 => ?_)
  rcases h_2 with ⟨rfl, h_3⟩ | ⟨rfl, h_3⟩
  · refine lv_if_ne (tgt := 19) hx hb dX6_head_9 (by decide) (fun _ => ?_) (fun h9 => absurd h9 (by decide))
    refine lv_iconst (v := (-1)) hx hb dX6_head_19 (by decide) ?_
    refine lv_istore_n (lv' := [(2, .int (-1)), (0, .ref qm), (1, .int iA)]) hx hb dX6_head_20 rfl hl (by decide) rfl (fun ls hl => ?_)
    refine lv_iconst (v := 0) hx hb dX6_head_21 (by decide) ?_
    refine lv_istore_n (lv' := [(3, .int 0), (2, .int (-1)), (0, .ref qm), (1, .int iA)]) hx hb dX6_head_22 rfl hl (by decide) rfl (fun ls hl => ?_)
    refine lv_iconst (v := 0) hx hb dX6_head_23 (by decide) ?_
    refine lv_istore (lv' := [(4, .int 0), (3, .int 0), (2, .int (-1)), (0, .ref qm), (1, .int iA)]) hx hb dX6_head_24 hl (by decide) rfl (fun ls hl => ?_)
    refine lv_iload hx hb dX6_head_26 (lv_at hl 0 rfl) ?_
    refine lv_bipush (v := 8) hx hb dX6_head_28 (by decide) ?_
    refine lv_icmp_ge (tgt := 76) hx hb dX6_head_30 (by decide) (fun h9 => absurd h9 (by decide)) (fun _ => ?_)
    refine lv_aload_n hx hb dX6_head_33 rfl (lv_at hl 3 rfl) ?_
    refine va_get (D := G) (ci := 5) (v := .ref qms) (C := RX6) (T := TX6) (N := 35) hx hb hts iX_X6 hown hK hP 0 rfl rfl 0 (by decide) (hts _ m_t850) (fun _ h9 => h9) rfl dX6_head_34 ?_
    refine lv_iload hx hb dX6_head_37 (lv_at hl 0 rfl) ?_
    refine va_iald hx hb hK hP 1 0 rfl rfl (in_c rfl) dX6_head_39 ?_
    refine lv_seti (v := 0) (rfl) ?_
    refine lv_iconst (v := 2) hx hb dX6_head_40 (by decide) ?_
    refine lv_icmp_ne (tgt := 70) hx hb dX6_head_41 (by decide) (fun _ => ?_) (fun h9 => absurd h9 (by decide))
    refine lv_iinc (v := 1) (lv' := [(4, .int 1), (3, .int 0), (2, .int (-1)), (0, .ref qm), (1, .int iA)]) hx hb dX6_head_70 hl (k := 0) rfl (by decide) (by decide) rfl (fun ls hl => ?_)
    refine lv_goto (tgt := 26) hx hb dX6_head_73 (by decide) ?_
    refine lv_iload hx hb dX6_head_26 (lv_at hl 0 rfl) ?_
    refine lv_bipush (v := 8) hx hb dX6_head_28 (by decide) ?_
    refine lv_icmp_ge (tgt := 76) hx hb dX6_head_30 (by decide) (fun h9 => absurd h9 (by decide)) (fun _ => ?_)
    refine lv_aload_n hx hb dX6_head_33 rfl (lv_at hl 3 rfl) ?_
    refine va_get (D := G) (ci := 5) (v := .ref qms) (C := RX6) (T := TX6) (N := 35) hx hb hts iX_X6 hown hK hP 0 rfl rfl 0 (by decide) (hts _ m_t850) (fun _ h9 => h9) rfl dX6_head_34 ?_
    refine lv_iload hx hb dX6_head_37 (lv_at hl 0 rfl) ?_
    refine va_iald hx hb hK hP 1 0 rfl rfl (in_c rfl) dX6_head_39 ?_
    refine lv_seti (v := 0) (rfl) ?_
    refine lv_iconst (v := 2) hx hb dX6_head_40 (by decide) ?_
    refine lv_icmp_ne (tgt := 70) hx hb dX6_head_41 (by decide) (fun _ => ?_) (fun h9 => absurd h9 (by decide))
    refine lv_iinc (v := 2) (lv' := [(4, .int 2), (3, .int 0), (2, .int (-1)), (0, .ref qm), (1, .int iA)]) hx hb dX6_head_70 hl (k := 0) rfl (by decide) (by decide) rfl (fun ls hl => ?_)
    refine lv_goto (tgt := 26) hx hb dX6_head_73 (by decide) ?_
    refine lv_iload hx hb dX6_head_26 (lv_at hl 0 rfl) ?_
    refine lv_bipush (v := 8) hx hb dX6_head_28 (by decide) ?_
    refine lv_icmp_ge (tgt := 76) hx hb dX6_head_30 (by decide) (fun h9 => absurd h9 (by decide)) (fun _ => ?_)
    refine lv_aload_n hx hb dX6_head_33 rfl (lv_at hl 3 rfl) ?_
    refine va_get (D := G) (ci := 5) (v := .ref qms) (C := RX6) (T := TX6) (N := 35) hx hb hts iX_X6 hown hK hP 0 rfl rfl 0 (by decide) (hts _ m_t850) (fun _ h9 => h9) rfl dX6_head_34 ?_
    refine lv_iload hx hb dX6_head_37 (lv_at hl 0 rfl) ?_
    refine va_iald hx hb hK hP 1 0 rfl rfl (in_c rfl) dX6_head_39 ?_
    refine lv_seti (v := 0) (rfl) ?_
    refine lv_iconst (v := 2) hx hb dX6_head_40 (by decide) ?_
    refine lv_icmp_ne (tgt := 70) hx hb dX6_head_41 (by decide) (fun _ => ?_) (fun h9 => absurd h9 (by decide))
    refine lv_iinc (v := 3) (lv' := [(4, .int 3), (3, .int 0), (2, .int (-1)), (0, .ref qm), (1, .int iA)]) hx hb dX6_head_70 hl (k := 0) rfl (by decide) (by decide) rfl (fun ls hl => ?_)
    refine lv_goto (tgt := 26) hx hb dX6_head_73 (by decide) ?_
    refine lv_iload hx hb dX6_head_26 (lv_at hl 0 rfl) ?_
    refine lv_bipush (v := 8) hx hb dX6_head_28 (by decide) ?_
    refine lv_icmp_ge (tgt := 76) hx hb dX6_head_30 (by decide) (fun h9 => absurd h9 (by decide)) (fun _ => ?_)
    refine lv_aload_n hx hb dX6_head_33 rfl (lv_at hl 3 rfl) ?_
    refine va_get (D := G) (ci := 5) (v := .ref qms) (C := RX6) (T := TX6) (N := 35) hx hb hts iX_X6 hown hK hP 0 rfl rfl 0 (by decide) (hts _ m_t850) (fun _ h9 => h9) rfl dX6_head_34 ?_
    refine lv_iload hx hb dX6_head_37 (lv_at hl 0 rfl) ?_
    refine va_iald hx hb hK hP 1 0 rfl rfl (in_c rfl) dX6_head_39 ?_
    refine lv_seti (v := 0) (rfl) ?_
    refine lv_iconst (v := 2) hx hb dX6_head_40 (by decide) ?_
    refine lv_icmp_ne (tgt := 70) hx hb dX6_head_41 (by decide) (fun _ => ?_) (fun h9 => absurd h9 (by decide))
    refine lv_iinc (v := 4) (lv' := [(4, .int 4), (3, .int 0), (2, .int (-1)), (0, .ref qm), (1, .int iA)]) hx hb dX6_head_70 hl (k := 0) rfl (by decide) (by decide) rfl (fun ls hl => ?_)
    refine lv_goto (tgt := 26) hx hb dX6_head_73 (by decide) ?_
    refine lv_iload hx hb dX6_head_26 (lv_at hl 0 rfl) ?_
    refine lv_bipush (v := 8) hx hb dX6_head_28 (by decide) ?_
    refine lv_icmp_ge (tgt := 76) hx hb dX6_head_30 (by decide) (fun h9 => absurd h9 (by decide)) (fun _ => ?_)
    refine lv_aload_n hx hb dX6_head_33 rfl (lv_at hl 3 rfl) ?_
    refine va_get (D := G) (ci := 5) (v := .ref qms) (C := RX6) (T := TX6) (N := 35) hx hb hts iX_X6 hown hK hP 0 rfl rfl 0 (by decide) (hts _ m_t850) (fun _ h9 => h9) rfl dX6_head_34 ?_
    refine lv_iload hx hb dX6_head_37 (lv_at hl 0 rfl) ?_
    refine va_iald hx hb hK hP 1 0 rfl rfl (in_c rfl) dX6_head_39 ?_
    refine lv_seti (v := 0) (rfl) ?_
    refine lv_iconst (v := 2) hx hb dX6_head_40 (by decide) ?_
    refine lv_icmp_ne (tgt := 70) hx hb dX6_head_41 (by decide) (fun _ => ?_) (fun h9 => absurd h9 (by decide))
    refine lv_iinc (v := 5) (lv' := [(4, .int 5), (3, .int 0), (2, .int (-1)), (0, .ref qm), (1, .int iA)]) hx hb dX6_head_70 hl (k := 0) rfl (by decide) (by decide) rfl (fun ls hl => ?_)
    refine lv_goto (tgt := 26) hx hb dX6_head_73 (by decide) ?_
    refine lv_iload hx hb dX6_head_26 (lv_at hl 0 rfl) ?_
    refine lv_bipush (v := 8) hx hb dX6_head_28 (by decide) ?_
    refine lv_icmp_ge (tgt := 76) hx hb dX6_head_30 (by decide) (fun h9 => absurd h9 (by decide)) (fun _ => ?_)
    refine lv_aload_n hx hb dX6_head_33 rfl (lv_at hl 3 rfl) ?_
    refine va_get (D := G) (ci := 5) (v := .ref qms) (C := RX6) (T := TX6) (N := 35) hx hb hts iX_X6 hown hK hP 0 rfl rfl 0 (by decide) (hts _ m_t850) (fun _ h9 => h9) rfl dX6_head_34 ?_
    refine lv_iload hx hb dX6_head_37 (lv_at hl 0 rfl) ?_
    refine va_iald hx hb hK hP 1 0 rfl rfl (in_c rfl) dX6_head_39 ?_
    refine lv_seti (v := 0) (rfl) ?_
    refine lv_iconst (v := 2) hx hb dX6_head_40 (by decide) ?_
    refine lv_icmp_ne (tgt := 70) hx hb dX6_head_41 (by decide) (fun _ => ?_) (fun h9 => absurd h9 (by decide))
    refine lv_iinc (v := 6) (lv' := [(4, .int 6), (3, .int 0), (2, .int (-1)), (0, .ref qm), (1, .int iA)]) hx hb dX6_head_70 hl (k := 0) rfl (by decide) (by decide) rfl (fun ls hl => ?_)
    refine lv_goto (tgt := 26) hx hb dX6_head_73 (by decide) ?_
    refine lv_iload hx hb dX6_head_26 (lv_at hl 0 rfl) ?_
    refine lv_bipush (v := 8) hx hb dX6_head_28 (by decide) ?_
    refine lv_icmp_ge (tgt := 76) hx hb dX6_head_30 (by decide) (fun h9 => absurd h9 (by decide)) (fun _ => ?_)
    refine lv_aload_n hx hb dX6_head_33 rfl (lv_at hl 3 rfl) ?_
    refine va_get (D := G) (ci := 5) (v := .ref qms) (C := RX6) (T := TX6) (N := 35) hx hb hts iX_X6 hown hK hP 0 rfl rfl 0 (by decide) (hts _ m_t850) (fun _ h9 => h9) rfl dX6_head_34 ?_
    refine lv_iload hx hb dX6_head_37 (lv_at hl 0 rfl) ?_
    refine va_iald hx hb hK hP 1 0 rfl rfl (in_c rfl) dX6_head_39 ?_
    refine lv_seti (v := 0) (rfl) ?_
    refine lv_iconst (v := 2) hx hb dX6_head_40 (by decide) ?_
    refine lv_icmp_ne (tgt := 70) hx hb dX6_head_41 (by decide) (fun _ => ?_) (fun h9 => absurd h9 (by decide))
    refine lv_iinc (v := 7) (lv' := [(4, .int 7), (3, .int 0), (2, .int (-1)), (0, .ref qm), (1, .int iA)]) hx hb dX6_head_70 hl (k := 0) rfl (by decide) (by decide) rfl (fun ls hl => ?_)
    refine lv_goto (tgt := 26) hx hb dX6_head_73 (by decide) ?_
    refine lv_iload hx hb dX6_head_26 (lv_at hl 0 rfl) ?_
    refine lv_bipush (v := 8) hx hb dX6_head_28 (by decide) ?_
    refine lv_icmp_ge (tgt := 76) hx hb dX6_head_30 (by decide) (fun h9 => absurd h9 (by decide)) (fun _ => ?_)
    refine lv_aload_n hx hb dX6_head_33 rfl (lv_at hl 3 rfl) ?_
    refine va_get (D := G) (ci := 5) (v := .ref qms) (C := RX6) (T := TX6) (N := 35) hx hb hts iX_X6 hown hK hP 0 rfl rfl 0 (by decide) (hts _ m_t850) (fun _ h9 => h9) rfl dX6_head_34 ?_
    refine lv_iload hx hb dX6_head_37 (lv_at hl 0 rfl) ?_
    refine va_iald hx hb hK hP 1 0 rfl rfl (in_c rfl) dX6_head_39 ?_
    refine lv_seti (v := 0) (rfl) ?_
    refine lv_iconst (v := 2) hx hb dX6_head_40 (by decide) ?_
    refine lv_icmp_ne (tgt := 70) hx hb dX6_head_41 (by decide) (fun _ => ?_) (fun h9 => absurd h9 (by decide))
    refine lv_iinc (v := 8) (lv' := [(4, .int 8), (3, .int 0), (2, .int (-1)), (0, .ref qm), (1, .int iA)]) hx hb dX6_head_70 hl (k := 0) rfl (by decide) (by decide) rfl (fun ls hl => ?_)
    refine lv_goto (tgt := 26) hx hb dX6_head_73 (by decide) ?_
    refine lv_iload hx hb dX6_head_26 (lv_at hl 0 rfl) ?_
    refine lv_bipush (v := 8) hx hb dX6_head_28 (by decide) ?_
    refine lv_icmp_ge (tgt := 76) hx hb dX6_head_30 (by decide) (fun _ => ?_) (fun h9 => absurd (by decide) h9)
    refine lv_iload_n hx hb dX6_head_76 rfl (lv_at hl 2 rfl) ?_
    refine lv_iconst (v := (-1)) hx hb dX6_head_77 (by decide) ?_
    refine lv_icmp_ne (tgt := 90) hx hb dX6_head_78 (by decide) (fun h9 => absurd (by decide) h9) (fun _ => ?_)
    refine lv_aload_n hx hb dX6_head_81 rfl (lv_at hl 3 rfl) ?_
    refine lv_bipush (v := (-5)) hx hb dX6_head_82 (by decide) ?_
    refine kWi (wr := [(qms, .inl (cy 0, 8, .inl (fun _ => 0)))]) (rV (As := [.int (-5)]) (rest := []) (b := qm) ⟨hx, hb, hml, hown, hts⟩ (c_X6_refuse5 l G cy (s.heap).size qm (.ref qms) (.ref qmo) (.ref qmz) (.ref qmR) (.ref qmv) (.ref qmk) (.ref qmb) (.ref qmt) (.int 0) qmr (.int 0) (.ref qmB) (.int 0) (.ref qmO) (.ref qmK) (.int 0) (.int 0) (.int 1) .null .null (.int 0) (.int 0) (.int 0) (.long 0) (.int 0) (.ref qm_three) (.int 0) (.int 0) (.int 0) .null (.ref qm_unread) (.ref qm_tryRow) (.ref qm_bestRow) (.ref qm_steps) (.int 0) (fun _ => 0)) L_X6_91 (preWV (q := (RX6, TX6, 35)) hN hP hD [0, 2] rfl (by decide) 0 5 rfl rfl) rfl ⟨Nat.le_of_ble_eq_true rfl, Nat.le_of_ble_eq_true rfl⟩ hl.1 (Nat.le_of_ble_eq_true rfl) dX6_head_84 ⟨Nat.le_of_ble_eq_true rfl, Nat.le_of_ble_eq_true rfl⟩) hP hD hS hA [0, 2] [1] rfl rfl (by decide) (by decide) (fun r_23 u_25 H locs h_24 hP hD hS => ?_)
    obtain ⟨rfl, h_24⟩ := h_24
    have hP : va_P G CL [(qms, .inl (cy 0, 8, .inl (fun _ => 0))), (qm, .inr (5, [.ref qms, .ref qmo, .ref qmz, .ref qmR, .ref qmv, .ref qmk, .ref qmb, .ref qmt, .int 0, .ref qmr, .int 0, .ref qmB, .int 0, .ref qmO, .ref qmK, .int 0, .int 0, .int 1, .null, .null, .int 0, .int 0, .int 0, .long 0, .int 0, .ref qm_three, .int 0, .int 0, .int 0, .null, .ref qm_unread, .ref qm_tryRow, .ref qm_bestRow, .ref qm_steps, .int 0]))] H := hP
    have hD : va_D A [(qms, .inl (cy 0, 8, .inl (fun _ => 0))), (qm, .inr (5, [.ref qms, .ref qmo, .ref qmz, .ref qmR, .ref qmv, .ref qmk, .ref qmb, .ref qmt, .int 0, .ref qmr, .int 0, .ref qmB, .int 0, .ref qmO, .ref qmK, .int 0, .int 0, .int 1, .null, .null, .int 0, .int 0, .int 0, .long 0, .int 0, .ref qm_three, .int 0, .int 0, .int 0, .null, .ref qm_unread, .ref qm_tryRow, .ref qm_bestRow, .ref qm_steps, .int 0]))] := hD
    subst h_24
    refine lv_goto (tgt := 91) hx hb dX6_head_87 (by decide) ?_
    exact endW (u := []) hx hb hr hlocks rfl va_P0 va_D0 hS ⟨rfl, (by first | (simp [sp_head, Iv, h_3]; done) | (unfold sp_head; decide))⟩ dX6_head_91
  · refine lv_if_ne (tgt := 19) hx hb dX6_head_9 (by decide) (fun h9 => absurd (by decide) h9) (fun _ => ?_)
    refine lv_aload_n hx hb dX6_head_12 rfl (lv_at hl 0 rfl) ?_
    refine lv_bipush (v := (-2)) hx hb dX6_head_13 (by decide) ?_
    refine kWi (wr := [(qms, .inl (cy 0, 8, .inl (fun _ => 0)))]) (rV (As := [.int (-2)]) (rest := []) (b := qm) ⟨hx, hb, hml, hown, hts⟩ (c_X6_refuse2 l G cy (s.heap).size qm (.ref qms) (.ref qmo) (.ref qmz) (.ref qmR) (.ref qmv) (.ref qmk) (.ref qmb) (.ref qmt) (.int 0) qmr (.int 0) (.ref qmB) (.int 0) (.ref qmO) (.ref qmK) (.int 0) (.int 0) (.int 1) .null .null (.int 0) (.int 0) (.int 0) (.long 0) (.int 0) (.ref qm_three) (.int 0) (.int 0) (.int 0) .null (.ref qm_unread) (.ref qm_tryRow) (.ref qm_bestRow) (.ref qm_steps) (.int 0) (fun _ => 0)) L_X6_91 (preWV (q := (RX6, TX6, 35)) hN hP hD [0, 2] rfl (by decide) 0 5 rfl rfl) rfl ⟨Nat.le_of_ble_eq_true rfl, Nat.le_of_ble_eq_true rfl⟩ hl.1 (Nat.le_of_ble_eq_true rfl) dX6_head_15 ⟨Nat.le_of_ble_eq_true rfl, Nat.le_of_ble_eq_true rfl⟩) hP hD hS hA [0, 2] [1] rfl rfl (by decide) (by decide) (fun r_27 u_29 H locs h_28 hP hD hS => ?_)
    obtain ⟨rfl, h_28⟩ := h_28
    have hP : va_P G CL [(qms, .inl (cy 0, 8, .inl (fun _ => 0))), (qm, .inr (5, [.ref qms, .ref qmo, .ref qmz, .ref qmR, .ref qmv, .ref qmk, .ref qmb, .ref qmt, .int 0, .ref qmr, .int 0, .ref qmB, .int 0, .ref qmO, .ref qmK, .int 0, .int 0, .int 1, .null, .null, .int 0, .int 0, .int 0, .long 0, .int 0, .ref qm_three, .int 0, .int 0, .int 0, .null, .ref qm_unread, .ref qm_tryRow, .ref qm_bestRow, .ref qm_steps, .int 0]))] H := hP
    have hD : va_D A [(qms, .inl (cy 0, 8, .inl (fun _ => 0))), (qm, .inr (5, [.ref qms, .ref qmo, .ref qmz, .ref qmR, .ref qmv, .ref qmk, .ref qmb, .ref qmt, .int 0, .ref qmr, .int 0, .ref qmB, .int 0, .ref qmO, .ref qmK, .int 0, .int 0, .int 1, .null, .null, .int 0, .int 0, .int 0, .long 0, .int 0, .ref qm_three, .int 0, .int 0, .int 0, .null, .ref qm_unread, .ref qm_tryRow, .ref qm_bestRow, .ref qm_steps, .int 0]))] := hD
    subst h_28
    exact endW (u := []) hx hb hr hlocks rfl va_P0 va_D0 hS ⟨rfl, (by first | (simp [sp_head, Iv, h_3]; done) | (unfold sp_head; decide))⟩ dX6_head_18
set_option maxHeartbeats 4000000 in
set_option maxRecDepth 100000 in
theorem p_X6_order (l : Launch) (G : va_G) (cy : Nat → ClassId) (sz : Nat) (qm : Nat) (qms : Nat) (qmo : Nat) (qmz : Nat) (qmR : Nat) (qmv : Nat) (qmk : Nat) (qmb : Nat) (qmt : Nat) (qmr : Nat) (qmB : Nat) (qmO : Nat) (qmK : Nat) (qm_three : Nat) (qm_unread : Nat) (qm_tryRow : Nat) (qm_bestRow : Nat) (qm_steps : Nat) (iA : Int32) (iB : Int32)   : MW l yX6_order cX6_order 5 (some .int) 6 0 0 G cy [(qm, .inr (5, [.ref qms, .ref qmo, .ref qmz, .ref qmR, .ref qmv, .ref qmk, .ref qmb, .ref qmt, .int 0, .ref qmr, .int 0, .ref qmB, .int 0, .ref qmO, .ref qmK, .int 0, .int 0, .int 1, .null, .null, .int 0, .int 0, .int 0, .long 0, .int 0, .ref qm_three, .int 0, .int 0, .int 0, .null, .ref qm_unread, .ref qm_tryRow, .ref qm_bestRow, .ref qm_steps, .int 0])), (qmr, .inl (cy 0, 8, .inl (fun _ => 0)))] sz [.ref qm, .int iA, .int iB] (Wi G (fun r u => u = [] ∧ ((r = (-2))))) := by
  refine enW RX6 (by decide) rfl (Nat.le_of_ble_eq_true rfl) (fun p e s m below meth c ls A hx hb hml hown hts hr hlocks hP hN hl hin hD hA hS => ?_)
  have hin : meth.name = _ := hin
  have hK := hN.1
  have hl : lv_has ls 5 [(0, .ref qm), (1, .int iA), (2, .int iB)] := hl
  refine lv_iconst (v := 0) hx hb dX6_order_0 (by decide) ?_
  refine lv_istore_n (lv' := [(3, .int 0), (0, .ref qm), (1, .int iA), (2, .int iB)]) hx hb dX6_order_1 rfl hl (by decide) rfl (fun ls hl => ?_)
  refine lv_iconst (v := 0) hx hb dX6_order_2 (by decide) ?_
  refine lv_istore (lv' := [(4, .int 0), (3, .int 0), (0, .ref qm), (1, .int iA), (2, .int iB)]) hx hb dX6_order_3 hl (by decide) rfl (fun ls hl => ?_)
  refine lv_iload hx hb dX6_order_5 (lv_at hl 0 rfl) ?_
  refine lv_aload_n hx hb dX6_order_7 rfl (lv_at hl 2 rfl) ?_
  refine va_get (D := G) (ci := 5) (v := .int 0) (C := RX6) (T := TX6) (N := 35) hx hb hts iX_X6 hown hK hP 0 rfl rfl 10 (by decide) (hts _ m_t860) (fun _ h9 => h9) rfl dX6_order_8 ?_
  refine lv_icmp_ge (tgt := 40) hx hb dX6_order_11 (by decide) (fun _ => ?_) (fun h9 => absurd (by decide) h9)
  refine lv_aload_n hx hb dX6_order_40 rfl (lv_at hl 2 rfl) ?_
  refine lv_iload_n hx hb dX6_order_41 rfl (lv_at hl 3 rfl) ?_
  refine lv_i2l (v := iA.toInt64) hx hb dX6_order_42 rfl ?_
  refine kRi (rV (As := [.long iA.toInt64]) (rest := []) (b := qm) ⟨hx, hb, hml, hown, hts⟩ (c_X6_isOne l G cy qm (.ref qms) (.ref qmo) (.ref qmz) (.ref qmR) (.ref qmv) (.ref qmk) (.ref qmb) (.ref qmt) (.int 0) (.ref qmr) (.int 0) (.ref qmB) (.ref qmO) (.ref qmK) (.int 0) (.int 0) (.int 1) .null .null (.int 0) (.int 0) (.int 0) (.long 0) (.int 0) (.ref qm_three) (.int 0) (.int 0) (.int 0) .null (.ref qm_unread) (.ref qm_tryRow) (.ref qm_bestRow) (.ref qm_steps) (.int 0) iA.toInt64) L_X6_236 (preRV (q := (RX6, TX6, 35)) hN hP [0] rfl 0 5 rfl rfl) rfl ⟨Nat.le_of_ble_eq_true rfl, Nat.le_of_ble_eq_true rfl⟩ hl.1 (Nat.le_of_ble_eq_true rfl) dX6_order_43 ⟨Nat.le_of_ble_eq_true rfl, Nat.le_of_ble_eq_true rfl⟩) (fun r_2 h_3 => ?_)
  subst h_3
  refine lv_if_eq (tgt := 64) hx hb dX6_order_46 (by decide) (fun _ => ?_) (fun h9 => absurd (by decide) h9)
  refine lv_aload_n hx hb dX6_order_64 rfl (lv_at hl 2 rfl) ?_
  refine lv_bipush (v := (-2)) hx hb dX6_order_65 (by decide) ?_
  refine kWi (wr := []) (rV (As := [.int (-2)]) (rest := []) (b := qm) ⟨hx, hb, hml, hown, hts⟩ (c_X6_refuse2 l G cy (s.heap).size qm (.ref qms) (.ref qmo) (.ref qmz) (.ref qmR) (.ref qmv) (.ref qmk) (.ref qmb) (.ref qmt) (.int 0) qmr (.int 0) (.ref qmB) (.int 0) (.ref qmO) (.ref qmK) (.int 0) (.int 0) (.int 1) .null .null (.int 0) (.int 0) (.int 0) (.long 0) (.int 0) (.ref qm_three) (.int 0) (.int 0) (.int 0) .null (.ref qm_unread) (.ref qm_tryRow) (.ref qm_bestRow) (.ref qm_steps) (.int 0) (fun _ => 0)) L_X6_91 (preWV (q := (RX6, TX6, 35)) hN hP hD [0, 1] rfl (by decide) 0 5 rfl rfl) rfl ⟨Nat.le_of_ble_eq_true rfl, Nat.le_of_ble_eq_true rfl⟩ hl.1 (Nat.le_of_ble_eq_true rfl) dX6_order_67 ⟨Nat.le_of_ble_eq_true rfl, Nat.le_of_ble_eq_true rfl⟩) hP hD hS hA [0, 1] [] rfl rfl (by decide) (by decide) (fun r_5 u_7 H locs h_6 hP hD hS => ?_)
  obtain ⟨rfl, h_6⟩ := h_6
  have hP : va_P G CL [(qm, .inr (5, [.ref qms, .ref qmo, .ref qmz, .ref qmR, .ref qmv, .ref qmk, .ref qmb, .ref qmt, .int 0, .ref qmr, .int 0, .ref qmB, .int 0, .ref qmO, .ref qmK, .int 0, .int 0, .int 1, .null, .null, .int 0, .int 0, .int 0, .long 0, .int 0, .ref qm_three, .int 0, .int 0, .int 0, .null, .ref qm_unread, .ref qm_tryRow, .ref qm_bestRow, .ref qm_steps, .int 0]))] H := hP
  have hD : va_D A [(qm, .inr (5, [.ref qms, .ref qmo, .ref qmz, .ref qmR, .ref qmv, .ref qmk, .ref qmb, .ref qmt, .int 0, .ref qmr, .int 0, .ref qmB, .int 0, .ref qmO, .ref qmK, .int 0, .int 0, .int 1, .null, .null, .int 0, .int 0, .int 0, .long 0, .int 0, .ref qm_three, .int 0, .int 0, .int 0, .null, .ref qm_unread, .ref qm_tryRow, .ref qm_bestRow, .ref qm_steps, .int 0]))] := hD
  subst h_6
  exact endW (u := []) hx hb hr hlocks rfl va_P0 va_D0 hS ⟨rfl, rfl⟩ dX6_order_70
set_option maxHeartbeats 4000000 in
set_option maxRecDepth 100000 in
theorem p_X6_keeping (l : Launch) (G : va_G) (cy : Nat → ClassId) (sz : Nat) (qm : Nat) (qms : Nat) (qmo : Nat) (qmz : Nat) (qmR : Nat) (qmv : Nat) (qmk : Nat) (qmb : Nat) (qmt : Nat) (qmr : Nat) (qmB : Nat) (qmO : Nat) (qmK : Nat) (qm_three : Nat) (qm_unread : Nat) (qm_tryRow : Nat) (qm_bestRow : Nat) (qm_steps : Nat) (iA : Int32) (iB : Int32)   : MW l yX6_keeping cX6_keeping 4 (some .int) 6 0 0 G cy [(qm, .inr (5, [.ref qms, .ref qmo, .ref qmz, .ref qmR, .ref qmv, .ref qmk, .ref qmb, .ref qmt, .int 0, .ref qmr, .int 0, .ref qmB, .int 0, .ref qmO, .ref qmK, .int 0, .int 0, .int 1, .null, .null, .int 0, .int 0, .int 0, .long 0, .int 0, .ref qm_three, .int 0, .int 0, .int 0, .null, .ref qm_unread, .ref qm_tryRow, .ref qm_bestRow, .ref qm_steps, .int 0])), (qmr, .inl (cy 0, 8, .inl (fun _ => 0)))] sz [.ref qm, .int iA, .int iB] (Wi G (fun r u => u = [] ∧ ((r = (-1000002))))) := by
  refine enW RX6 (by decide) rfl (Nat.le_of_ble_eq_true rfl) (fun p e s m below meth c ls A hx hb hml hown hts hr hlocks hP hN hl hin hD hA hS => ?_)
  have hin : meth.name = _ := hin
  have hK := hN.1
  have hl : lv_has ls 4 [(0, .ref qm), (1, .int iA), (2, .int iB)] := hl
  refine lv_aload_n hx hb dX6_keeping_0 rfl (lv_at hl 0 rfl) ?_
  refine lv_iload_n hx hb dX6_keeping_1 rfl (lv_at hl 1 rfl) ?_
  refine lv_i2l (v := iA.toInt64) hx hb dX6_keeping_2 rfl ?_
  refine kRi (rV (As := [.long iA.toInt64]) (rest := []) (b := qm) ⟨hx, hb, hml, hown, hts⟩ (c_X6_isBook l G cy qm (.ref qms) (.ref qmo) (.ref qmz) (.ref qmR) (.ref qmv) (.ref qmk) (.ref qmb) (.ref qmt) (.int 0) (.ref qmr) (.ref qmB) (.int 0) (.ref qmO) (.ref qmK) (.int 0) (.int 0) (.int 1) .null .null (.int 0) (.int 0) (.int 0) (.long 0) (.int 0) (.ref qm_three) (.int 0) (.int 0) (.int 0) .null (.ref qm_unread) (.ref qm_tryRow) (.ref qm_bestRow) (.ref qm_steps) (.int 0) iA.toInt64) L_X6_229 (preRV (q := (RX6, TX6, 35)) hN hP [0] rfl 0 5 rfl rfl) rfl ⟨Nat.le_of_ble_eq_true rfl, Nat.le_of_ble_eq_true rfl⟩ hl.1 (Nat.le_of_ble_eq_true rfl) dX6_keeping_3 ⟨Nat.le_of_ble_eq_true rfl, Nat.le_of_ble_eq_true rfl⟩) (fun r_1 h_2 => ?_)
  subst h_2
  refine lv_if_eq (tgt := 23) hx hb dX6_keeping_6 (by decide) (fun _ => ?_) (fun h9 => absurd (by decide) h9)
  refine lv_aload_n hx hb dX6_keeping_23 rfl (lv_at hl 0 rfl) ?_
  refine lv_bipush (v := (-2)) hx hb dX6_keeping_24 (by decide) ?_
  refine kWi (wr := []) (rV (As := [.int (-2)]) (rest := []) (b := qm) ⟨hx, hb, hml, hown, hts⟩ (c_X6_refuse2 l G cy (s.heap).size qm (.ref qms) (.ref qmo) (.ref qmz) (.ref qmR) (.ref qmv) (.ref qmk) (.ref qmb) (.ref qmt) (.int 0) qmr (.int 0) (.ref qmB) (.int 0) (.ref qmO) (.ref qmK) (.int 0) (.int 0) (.int 1) .null .null (.int 0) (.int 0) (.int 0) (.long 0) (.int 0) (.ref qm_three) (.int 0) (.int 0) (.int 0) .null (.ref qm_unread) (.ref qm_tryRow) (.ref qm_bestRow) (.ref qm_steps) (.int 0) (fun _ => 0)) L_X6_91 (preWV (q := (RX6, TX6, 35)) hN hP hD [0, 1] rfl (by decide) 0 5 rfl rfl) rfl ⟨Nat.le_of_ble_eq_true rfl, Nat.le_of_ble_eq_true rfl⟩ hl.1 (Nat.le_of_ble_eq_true rfl) dX6_keeping_26 ⟨Nat.le_of_ble_eq_true rfl, Nat.le_of_ble_eq_true rfl⟩) hP hD hS hA [0, 1] [] rfl rfl (by decide) (by decide) (fun r_4 u_6 H locs h_5 hP hD hS => ?_)
  obtain ⟨rfl, h_5⟩ := h_5
  have hP : va_P G CL [(qm, .inr (5, [.ref qms, .ref qmo, .ref qmz, .ref qmR, .ref qmv, .ref qmk, .ref qmb, .ref qmt, .int 0, .ref qmr, .int 0, .ref qmB, .int 0, .ref qmO, .ref qmK, .int 0, .int 0, .int 1, .null, .null, .int 0, .int 0, .int 0, .long 0, .int 0, .ref qm_three, .int 0, .int 0, .int 0, .null, .ref qm_unread, .ref qm_tryRow, .ref qm_bestRow, .ref qm_steps, .int 0]))] H := hP
  have hD : va_D A [(qm, .inr (5, [.ref qms, .ref qmo, .ref qmz, .ref qmR, .ref qmv, .ref qmk, .ref qmb, .ref qmt, .int 0, .ref qmr, .int 0, .ref qmB, .int 0, .ref qmO, .ref qmK, .int 0, .int 0, .int 1, .null, .null, .int 0, .int 0, .int 0, .long 0, .int 0, .ref qm_three, .int 0, .int 0, .int 0, .null, .ref qm_unread, .ref qm_tryRow, .ref qm_bestRow, .ref qm_steps, .int 0]))] := hD
  subst h_5
  refine lv_ldcw hx hb hown (hts _ m_t1290) dX6_keeping_29 ?_
  refine lv_isub hx hb dX6_keeping_32 ?_
  refine lv_seti (v := (-1000002)) (by decide) ?_
  exact endW (u := []) hx hb hr hlocks rfl va_P0 va_D0 hS ⟨rfl, rfl⟩ dX6_keeping_33
set_option maxHeartbeats 4000000 in
set_option maxRecDepth 100000 in
theorem p_X6_hangs (l : Launch) (G : va_G) (cy : Nat → ClassId) (sz : Nat) (qm : Nat) (qms : Nat) (qmo : Nat) (qmz : Nat) (qmR : Nat) (qmv : Nat) (qmk : Nat) (qmb : Nat) (qmt : Nat) (qmr : Nat) (qmB : Nat) (qmO : Nat) (qmK : Nat) (qm_three : Nat) (qm_unread : Nat) (qm_tryRow : Nat) (qm_bestRow : Nat) (qm_steps : Nat)   : MW l yX6_hangs cX6_hangs 6 (some .int) 6 0 0 G cy [(qm, .inr (5, [.ref qms, .ref qmo, .ref qmz, .ref qmR, .ref qmv, .ref qmk, .ref qmb, .ref qmt, .int 0, .ref qmr, .int 0, .ref qmB, .int 0, .ref qmO, .ref qmK, .int 0, .int 0, .int 1, .null, .null, .int 0, .int 0, .int 0, .long 0, .int 0, .ref qm_three, .int 0, .int 0, .int 0, .null, .ref qm_unread, .ref qm_tryRow, .ref qm_bestRow, .ref qm_steps, .int 0])), (qmr, .inl (cy 0, 8, .inl (fun _ => 0)))] sz [.ref qm] (Wi G (fun r u => u = [] ∧ ((r = (-5))))) := by
  refine enW RX6 (by decide) rfl (Nat.le_of_ble_eq_true rfl) (fun p e s m below meth c ls A hx hb hml hown hts hr hlocks hP hN hl hin hD hA hS => ?_)
  have hin : meth.name = _ := hin
  have hK := hN.1
  have hl : lv_has ls 6 [(0, .ref qm)] := hl
  refine lv_iconst (v := (-1)) hx hb dX6_hangs_0 (by decide) ?_
  refine lv_istore_n (lv' := [(1, .int (-1)), (0, .ref qm)]) hx hb dX6_hangs_1 rfl hl (by decide) rfl (fun ls hl => ?_)
  refine lv_iconst (v := 0) hx hb dX6_hangs_2 (by decide) ?_
  refine lv_istore_n (lv' := [(2, .int 0), (1, .int (-1)), (0, .ref qm)]) hx hb dX6_hangs_3 rfl hl (by decide) rfl (fun ls hl => ?_)
  refine lv_iconst (v := 1) hx hb dX6_hangs_4 (by decide) ?_
  refine lv_aload_n hx hb dX6_hangs_5 rfl (lv_at hl 2 rfl) ?_
  refine va_get (D := G) (ci := 5) (v := .int 0) (C := RX6) (T := TX6) (N := 35) hx hb hts iX_X6 hown hK hP 0 rfl rfl 12 (by decide) (hts _ m_t862) (fun _ h9 => h9) rfl dX6_hangs_6 ?_
  refine lv_ishl hx hb dX6_hangs_9 ?_
  refine lv_seti (v := 1) (by decide) ?_
  refine lv_iconst (v := 1) hx hb dX6_hangs_10 (by decide) ?_
  refine lv_isub hx hb dX6_hangs_11 ?_
  refine lv_seti (v := 0) (by decide) ?_
  refine lv_istore_n (lv' := [(3, .int 0), (2, .int 0), (1, .int (-1)), (0, .ref qm)]) hx hb dX6_hangs_12 rfl hl (by decide) rfl (fun ls hl => ?_)
  refine lv_iconst (v := 0) hx hb dX6_hangs_13 (by decide) ?_
  refine lv_istore (lv' := [(4, .int 0), (3, .int 0), (2, .int 0), (1, .int (-1)), (0, .ref qm)]) hx hb dX6_hangs_14 hl (by decide) rfl (fun ls hl => ?_)
  refine lv_iload hx hb dX6_hangs_16 (lv_at hl 0 rfl) ?_
  refine lv_aload_n hx hb dX6_hangs_18 rfl (lv_at hl 4 rfl) ?_
  refine va_get (D := G) (ci := 5) (v := .int 0) (C := RX6) (T := TX6) (N := 35) hx hb hts iX_X6 hown hK hP 0 rfl rfl 12 (by decide) (hts _ m_t862) (fun _ h9 => h9) rfl dX6_hangs_19 ?_
  refine lv_icmp_ge (tgt := 71) hx hb dX6_hangs_22 (by decide) (fun _ => ?_) (fun h9 => absurd (by decide) h9)
  refine lv_iload_n hx hb dX6_hangs_71 rfl (lv_at hl 3 rfl) ?_
  refine lv_iconst (v := (-1)) hx hb dX6_hangs_72 (by decide) ?_
  refine lv_icmp_ne (tgt := 85) hx hb dX6_hangs_73 (by decide) (fun h9 => absurd (by decide) h9) (fun _ => ?_)
  refine lv_aload_n hx hb dX6_hangs_76 rfl (lv_at hl 4 rfl) ?_
  refine lv_bipush (v := (-5)) hx hb dX6_hangs_77 (by decide) ?_
  refine kWi (wr := []) (rV (As := [.int (-5)]) (rest := []) (b := qm) ⟨hx, hb, hml, hown, hts⟩ (c_X6_refuse5 l G cy (s.heap).size qm (.ref qms) (.ref qmo) (.ref qmz) (.ref qmR) (.ref qmv) (.ref qmk) (.ref qmb) (.ref qmt) (.int 0) qmr (.int 0) (.ref qmB) (.int 0) (.ref qmO) (.ref qmK) (.int 0) (.int 0) (.int 1) .null .null (.int 0) (.int 0) (.int 0) (.long 0) (.int 0) (.ref qm_three) (.int 0) (.int 0) (.int 0) .null (.ref qm_unread) (.ref qm_tryRow) (.ref qm_bestRow) (.ref qm_steps) (.int 0) (fun _ => 0)) L_X6_91 (preWV (q := (RX6, TX6, 35)) hN hP hD [0, 1] rfl (by decide) 0 5 rfl rfl) rfl ⟨Nat.le_of_ble_eq_true rfl, Nat.le_of_ble_eq_true rfl⟩ hl.1 (Nat.le_of_ble_eq_true rfl) dX6_hangs_79 ⟨Nat.le_of_ble_eq_true rfl, Nat.le_of_ble_eq_true rfl⟩) hP hD hS hA [0, 1] [] rfl rfl (by decide) (by decide) (fun r_3 u_5 H locs h_4 hP hD hS => ?_)
  obtain ⟨rfl, h_4⟩ := h_4
  have hP : va_P G CL [(qm, .inr (5, [.ref qms, .ref qmo, .ref qmz, .ref qmR, .ref qmv, .ref qmk, .ref qmb, .ref qmt, .int 0, .ref qmr, .int 0, .ref qmB, .int 0, .ref qmO, .ref qmK, .int 0, .int 0, .int 1, .null, .null, .int 0, .int 0, .int 0, .long 0, .int 0, .ref qm_three, .int 0, .int 0, .int 0, .null, .ref qm_unread, .ref qm_tryRow, .ref qm_bestRow, .ref qm_steps, .int 0]))] H := hP
  have hD : va_D A [(qm, .inr (5, [.ref qms, .ref qmo, .ref qmz, .ref qmR, .ref qmv, .ref qmk, .ref qmb, .ref qmt, .int 0, .ref qmr, .int 0, .ref qmB, .int 0, .ref qmO, .ref qmK, .int 0, .int 0, .int 1, .null, .null, .int 0, .int 0, .int 0, .long 0, .int 0, .ref qm_three, .int 0, .int 0, .int 0, .null, .ref qm_unread, .ref qm_tryRow, .ref qm_bestRow, .ref qm_steps, .int 0]))] := hD
  subst h_4
  refine lv_goto (tgt := 86) hx hb dX6_hangs_82 (by decide) ?_
  exact endW (u := []) hx hb hr hlocks rfl va_P0 va_D0 hS ⟨rfl, rfl⟩ dX6_hangs_86
set_option maxHeartbeats 4000000 in
set_option maxRecDepth 100000 in
theorem p_X6_lost (l : Launch) (G : va_G) (cy : Nat → ClassId) (sz : Nat) (qm : Nat) (qms : Nat) (qmo : Nat) (qmz : Nat) (qmR : Nat) (qmv : Nat) (qmk : Nat) (qmb : Nat) (qmt : Nat) (qmr : Nat) (qmB : Nat) (qmO : Nat) (qmK : Nat) (qm_three : Nat) (qm_unread : Nat) (qm_tryRow : Nat) (qm_bestRow : Nat) (qm_steps : Nat) (iA : Int32)   : MW l yX6_lost cX6_lost 2 (some .int) 6 0 0 G cy [(qm, .inr (5, [.ref qms, .ref qmo, .ref qmz, .ref qmR, .ref qmv, .ref qmk, .ref qmb, .ref qmt, .int 0, .ref qmr, .int 0, .ref qmB, .int 0, .ref qmO, .ref qmK, .int 0, .int 0, .int 1, .null, .null, .int 0, .int 0, .int 0, .long 0, .int 0, .ref qm_three, .int 0, .int 0, .int 0, .null, .ref qm_unread, .ref qm_tryRow, .ref qm_bestRow, .ref qm_steps, .int 0])), (qmr, .inl (cy 0, 8, .inl (fun _ => 0)))] sz [.ref qm, .int iA] (Wi G (fun r u => u = [] ∧ ((r = (sp_lost iA))))) := by
  refine enW RX6 (by decide) rfl (Nat.le_of_ble_eq_true rfl) (fun p e s m below meth c ls A hx hb hml hown hts hr hlocks hP hN hl hin hD hA hS => ?_)
  have hin : meth.name = _ := hin
  have hK := hN.1
  have hl : lv_has ls 2 [(0, .ref qm), (1, .int iA)] := hl
  refine lv_iload_n hx hb dX6_lost_0 rfl (lv_at hl 1 rfl) ?_
  refine lv_i2l (v := iA.toInt64) hx hb dX6_lost_1 rfl ?_
  refine lv_lconst (v := 1) hx hb dX6_lost_2 (by decide) ?_
  refine lv_ldc2 hx hb hown (hts _ m_t1199) dX6_lost_3 ?_
  refine kRi (rS (As := [.long iA.toInt64, .long 1, .long 1000]) (rest := []) ⟨hx, hb, hml, hown, hts⟩ (c_X6_in l G cy iA.toInt64 1 1000) L_X6_74 (preRS hN hP [] rfl) rfl ⟨Nat.le_of_ble_eq_true rfl, Nat.le_of_ble_eq_true rfl⟩ hl.1 (Nat.le_of_ble_eq_true rfl) dX6_lost_6 ⟨Nat.le_of_ble_eq_true rfl, Nat.le_of_ble_eq_true rfl⟩) (fun r_1 h_2 => ?_)
  rcases h_2 with ⟨rfl, h_3⟩ | ⟨rfl, h_3⟩
  · refine lv_if_eq (tgt := 28) hx hb dX6_lost_9 (by decide) (fun h9 => absurd h9 (by decide)) (fun _ => ?_)
    refine lv_aload_n hx hb dX6_lost_12 rfl (lv_at hl 0 rfl) ?_
    refine lv_iload_n hx hb dX6_lost_13 rfl (lv_at hl 1 rfl) ?_
    refine lv_iconst (v := 1) hx hb dX6_lost_14 (by decide) ?_
    refine lv_aload_n hx hb dX6_lost_15 rfl (lv_at hl 0 rfl) ?_
    refine va_get (D := G) (ci := 5) (v := .int 0) (C := RX6) (T := TX6) (N := 35) hx hb hts iX_X6 hown hK hP 0 rfl rfl 12 (by decide) (hts _ m_t862) (fun _ h9 => h9) rfl dX6_lost_16 ?_
    refine lv_ishl hx hb dX6_lost_19 ?_
    refine lv_seti (v := 1) (by decide) ?_
    refine lv_iconst (v := 1) hx hb dX6_lost_20 (by decide) ?_
    refine lv_isub hx hb dX6_lost_21 ?_
    refine lv_seti (v := 0) (by decide) ?_
    refine kRi (rV (As := [.int iA, .int 0]) (rest := []) (b := qm) ⟨hx, hb, hml, hown, hts⟩ (c_X6_lostBy l G cy qm (.ref qms) (.ref qmo) (.ref qmz) (.ref qmR) (.ref qmv) (.ref qmk) (.ref qmb) (.ref qmt) (.int 0) (.ref qmr) (.ref qmB) (.int 0) (.ref qmO) (.ref qmK) (.int 0) (.int 0) (.int 1) .null .null (.int 0) (.int 0) (.int 0) (.long 0) (.int 0) (.ref qm_three) (.int 0) (.int 0) (.int 0) .null (.ref qm_unread) (.ref qm_tryRow) (.ref qm_bestRow) (.ref qm_steps) (.int 0) iA 0) L_X6_335 (preRV (q := (RX6, TX6, 35)) hN hP [0] rfl 0 5 rfl rfl) rfl ⟨Nat.le_of_ble_eq_true rfl, Nat.le_of_ble_eq_true rfl⟩ hl.1 (Nat.le_of_ble_eq_true rfl) dX6_lost_22 ⟨Nat.le_of_ble_eq_true rfl, Nat.le_of_ble_eq_true rfl⟩) (fun r_5 h_6 => ?_)
    subst h_6
    refine lv_goto (tgt := 34) hx hb dX6_lost_25 (by decide) ?_
    exact endW (u := []) hx hb hr hlocks rfl va_P0 va_D0 hS ⟨rfl, (by first | (simp [sp_lost, Iv, h_3]; done) | (unfold sp_lost; decide))⟩ dX6_lost_34
  · refine lv_if_eq (tgt := 28) hx hb dX6_lost_9 (by decide) (fun _ => ?_) (fun h9 => absurd (by decide) h9)
    refine lv_aload_n hx hb dX6_lost_28 rfl (lv_at hl 0 rfl) ?_
    refine lv_bipush (v := (-2)) hx hb dX6_lost_29 (by decide) ?_
    refine kWi (wr := []) (rV (As := [.int (-2)]) (rest := []) (b := qm) ⟨hx, hb, hml, hown, hts⟩ (c_X6_refuse2 l G cy (s.heap).size qm (.ref qms) (.ref qmo) (.ref qmz) (.ref qmR) (.ref qmv) (.ref qmk) (.ref qmb) (.ref qmt) (.int 0) qmr (.int 0) (.ref qmB) (.int 0) (.ref qmO) (.ref qmK) (.int 0) (.int 0) (.int 1) .null .null (.int 0) (.int 0) (.int 0) (.long 0) (.int 0) (.ref qm_three) (.int 0) (.int 0) (.int 0) .null (.ref qm_unread) (.ref qm_tryRow) (.ref qm_bestRow) (.ref qm_steps) (.int 0) (fun _ => 0)) L_X6_91 (preWV (q := (RX6, TX6, 35)) hN hP hD [0, 1] rfl (by decide) 0 5 rfl rfl) rfl ⟨Nat.le_of_ble_eq_true rfl, Nat.le_of_ble_eq_true rfl⟩ hl.1 (Nat.le_of_ble_eq_true rfl) dX6_lost_31 ⟨Nat.le_of_ble_eq_true rfl, Nat.le_of_ble_eq_true rfl⟩) hP hD hS hA [0, 1] [] rfl rfl (by decide) (by decide) (fun r_8 u_10 H locs h_9 hP hD hS => ?_)
    obtain ⟨rfl, h_9⟩ := h_9
    have hP : va_P G CL [(qm, .inr (5, [.ref qms, .ref qmo, .ref qmz, .ref qmR, .ref qmv, .ref qmk, .ref qmb, .ref qmt, .int 0, .ref qmr, .int 0, .ref qmB, .int 0, .ref qmO, .ref qmK, .int 0, .int 0, .int 1, .null, .null, .int 0, .int 0, .int 0, .long 0, .int 0, .ref qm_three, .int 0, .int 0, .int 0, .null, .ref qm_unread, .ref qm_tryRow, .ref qm_bestRow, .ref qm_steps, .int 0]))] H := hP
    have hD : va_D A [(qm, .inr (5, [.ref qms, .ref qmo, .ref qmz, .ref qmR, .ref qmv, .ref qmk, .ref qmb, .ref qmt, .int 0, .ref qmr, .int 0, .ref qmB, .int 0, .ref qmO, .ref qmK, .int 0, .int 0, .int 1, .null, .null, .int 0, .int 0, .int 0, .long 0, .int 0, .ref qm_three, .int 0, .int 0, .int 0, .null, .ref qm_unread, .ref qm_tryRow, .ref qm_bestRow, .ref qm_steps, .int 0]))] := hD
    subst h_9
    exact endW (u := []) hx hb hr hlocks rfl va_P0 va_D0 hS ⟨rfl, (by first | (simp [sp_lost, Iv, h_3]; done) | (unfold sp_lost; decide))⟩ dX6_lost_34
set_option maxHeartbeats 4000000 in
set_option maxRecDepth 100000 in
theorem p_X6_bear (l : Launch) (G : va_G) (cy : Nat → ClassId) (sz : Nat) (qm : Nat) (qms : Nat) (qmo : Nat) (qmz : Nat) (qmR : Nat) (qmv : Nat) (qmk : Nat) (qmb : Nat) (qmt : Nat) (qmr : Nat) (qmB : Nat) (qmO : Nat) (qmK : Nat) (qm_three : Nat) (qm_unread : Nat) (qm_tryRow : Nat) (qm_bestRow : Nat) (qm_steps : Nat) (iA : Int32)   : MW l yX6_bear cX6_bear 5 (some .int) 6 0 0 G cy [(qm, .inr (5, [.ref qms, .ref qmo, .ref qmz, .ref qmR, .ref qmv, .ref qmk, .ref qmb, .ref qmt, .int 0, .ref qmr, .int 0, .ref qmB, .int 0, .ref qmO, .ref qmK, .int 0, .int 0, .int 1, .null, .null, .int 0, .int 0, .int 0, .long 0, .int 0, .ref qm_three, .int 0, .int 0, .int 0, .null, .ref qm_unread, .ref qm_tryRow, .ref qm_bestRow, .ref qm_steps, .int 0])), (qmr, .inl (cy 0, 8, .inl (fun _ => 0)))] sz [.ref qm, .int iA] (Wi G (fun r u => u = [] ∧ ((r = (sp_lost iA))))) := by
  refine enW RX6 (by decide) rfl (Nat.le_of_ble_eq_true rfl) (fun p e s m below meth c ls A hx hb hml hown hts hr hlocks hP hN hl hin hD hA hS => ?_)
  have hin : meth.name = _ := hin
  have hK := hN.1
  have hl : lv_has ls 5 [(0, .ref qm), (1, .int iA)] := hl
  refine lv_iload_n hx hb dX6_bear_0 rfl (lv_at hl 1 rfl) ?_
  refine lv_i2l (v := iA.toInt64) hx hb dX6_bear_1 rfl ?_
  refine lv_lconst (v := 1) hx hb dX6_bear_2 (by decide) ?_
  refine lv_ldc2 hx hb hown (hts _ m_t1199) dX6_bear_3 ?_
  refine kRi (rS (As := [.long iA.toInt64, .long 1, .long 1000]) (rest := []) ⟨hx, hb, hml, hown, hts⟩ (c_X6_in l G cy iA.toInt64 1 1000) L_X6_74 (preRS hN hP [] rfl) rfl ⟨Nat.le_of_ble_eq_true rfl, Nat.le_of_ble_eq_true rfl⟩ hl.1 (Nat.le_of_ble_eq_true rfl) dX6_bear_6 ⟨Nat.le_of_ble_eq_true rfl, Nat.le_of_ble_eq_true rfl⟩) (fun r_1 h_2 => ?_)
  rcases h_2 with ⟨rfl, h_3⟩ | ⟨rfl, h_3⟩
  · refine lv_if_ne (tgt := 19) hx hb dX6_bear_9 (by decide) (fun _ => ?_) (fun h9 => absurd h9 (by decide))
    refine lv_iconst (v := 1) hx hb dX6_bear_19 (by decide) ?_
    refine lv_aload_n hx hb dX6_bear_20 rfl (lv_at hl 0 rfl) ?_
    refine va_get (D := G) (ci := 5) (v := .int 0) (C := RX6) (T := TX6) (N := 35) hx hb hts iX_X6 hown hK hP 0 rfl rfl 12 (by decide) (hts _ m_t862) (fun _ h9 => h9) rfl dX6_bear_21 ?_
    refine lv_ishl hx hb dX6_bear_24 ?_
    refine lv_seti (v := 1) (by decide) ?_
    refine lv_iconst (v := 1) hx hb dX6_bear_25 (by decide) ?_
    refine lv_isub hx hb dX6_bear_26 ?_
    refine lv_seti (v := 0) (by decide) ?_
    refine lv_istore_n (lv' := [(2, .int 0), (0, .ref qm), (1, .int iA)]) hx hb dX6_bear_27 rfl hl (by decide) rfl (fun ls hl => ?_)
    refine lv_iload_n hx hb dX6_bear_28 rfl (lv_at hl 0 rfl) ?_
    refine lv_istore_n (lv' := [(3, .int 0), (2, .int 0), (0, .ref qm), (1, .int iA)]) hx hb dX6_bear_29 rfl hl (by decide) rfl (fun ls hl => ?_)
    refine lv_iload_n hx hb dX6_bear_30 rfl (lv_at hl 1 rfl) ?_
    refine lv_istore (lv' := [(4, .int 0), (3, .int 0), (2, .int 0), (0, .ref qm), (1, .int iA)]) hx hb dX6_bear_31 hl (by decide) rfl (fun ls hl => ?_)
    refine lv_iload hx hb dX6_bear_33 (lv_at hl 0 rfl) ?_
    refine lv_if_lt (tgt := 79) hx hb dX6_bear_35 (by decide) (fun h9 => absurd h9 (by decide)) (fun _ => ?_)
    refine lv_aload_n hx hb dX6_bear_38 rfl (lv_at hl 3 rfl) ?_
    refine lv_iload_n hx hb dX6_bear_39 rfl (lv_at hl 4 rfl) ?_
    refine lv_iload hx hb dX6_bear_40 (lv_at hl 0 rfl) ?_
    refine kRi (rV (As := [.int iA, .int 0]) (rest := []) (b := qm) ⟨hx, hb, hml, hown, hts⟩ (c_X6_lostBy l G cy qm (.ref qms) (.ref qmo) (.ref qmz) (.ref qmR) (.ref qmv) (.ref qmk) (.ref qmb) (.ref qmt) (.int 0) (.ref qmr) (.ref qmB) (.int 0) (.ref qmO) (.ref qmK) (.int 0) (.int 0) (.int 1) .null .null (.int 0) (.int 0) (.int 0) (.long 0) (.int 0) (.ref qm_three) (.int 0) (.int 0) (.int 0) .null (.ref qm_unread) (.ref qm_tryRow) (.ref qm_bestRow) (.ref qm_steps) (.int 0) iA 0) L_X6_335 (preRV (q := (RX6, TX6, 35)) hN hP [0] rfl 0 5 rfl rfl) rfl ⟨Nat.le_of_ble_eq_true rfl, Nat.le_of_ble_eq_true rfl⟩ hl.1 (Nat.le_of_ble_eq_true rfl) dX6_bear_42 ⟨Nat.le_of_ble_eq_true rfl, Nat.le_of_ble_eq_true rfl⟩) (fun r_6 h_7 => ?_)
    subst h_7
    refine lv_aload_n hx hb dX6_bear_45 rfl (lv_at hl 3 rfl) ?_
    refine lv_iload_n hx hb dX6_bear_46 rfl (lv_at hl 4 rfl) ?_
    refine lv_iload_n hx hb dX6_bear_47 rfl (lv_at hl 2 rfl) ?_
    refine kRi (rV (As := [.int iA, .int 0]) (rest := [.int 0]) (b := qm) ⟨hx, hb, hml, hown, hts⟩ (c_X6_lostBy l G cy qm (.ref qms) (.ref qmo) (.ref qmz) (.ref qmR) (.ref qmv) (.ref qmk) (.ref qmb) (.ref qmt) (.int 0) (.ref qmr) (.ref qmB) (.int 0) (.ref qmO) (.ref qmK) (.int 0) (.int 0) (.int 1) .null .null (.int 0) (.int 0) (.int 0) (.long 0) (.int 0) (.ref qm_three) (.int 0) (.int 0) (.int 0) .null (.ref qm_unread) (.ref qm_tryRow) (.ref qm_bestRow) (.ref qm_steps) (.int 0) iA 0) L_X6_335 (preRV (q := (RX6, TX6, 35)) hN hP [0] rfl 0 5 rfl rfl) rfl ⟨Nat.le_of_ble_eq_true rfl, Nat.le_of_ble_eq_true rfl⟩ hl.1 (Nat.le_of_ble_eq_true rfl) dX6_bear_48 ⟨Nat.le_of_ble_eq_true rfl, Nat.le_of_ble_eq_true rfl⟩) (fun r_8 h_9 => ?_)
    subst h_9
    refine lv_icmp_ne (tgt := 71) hx hb dX6_bear_51 (by decide) (fun h9 => absurd (by decide) h9) (fun _ => ?_)
    refine lv_iload hx hb dX6_bear_54 (lv_at hl 0 rfl) ?_
    refine kRi (rS (As := [.int 0]) (rest := []) ⟨hx, hb, hml, hown, hts⟩ (c_X6_bits0 l G cy ) L_X6_338 (preRS hN hP [] rfl) rfl ⟨Nat.le_of_ble_eq_true rfl, Nat.le_of_ble_eq_true rfl⟩ hl.1 (Nat.le_of_ble_eq_true rfl) dX6_bear_56 ⟨Nat.le_of_ble_eq_true rfl, Nat.le_of_ble_eq_true rfl⟩) (fun r_11 h_12 => ?_)
    subst h_12
    refine lv_iload_n hx hb dX6_bear_59 rfl (lv_at hl 1 rfl) ?_
    refine kRi (rS (As := [.int 0]) (rest := [.int 0]) ⟨hx, hb, hml, hown, hts⟩ (c_X6_bits0 l G cy ) L_X6_338 (preRS hN hP [] rfl) rfl ⟨Nat.le_of_ble_eq_true rfl, Nat.le_of_ble_eq_true rfl⟩ hl.1 (Nat.le_of_ble_eq_true rfl) dX6_bear_60 ⟨Nat.le_of_ble_eq_true rfl, Nat.le_of_ble_eq_true rfl⟩) (fun r_13 h_14 => ?_)
    subst h_14
    refine lv_icmp_gt (tgt := 71) hx hb dX6_bear_63 (by decide) (fun h9 => absurd h9 (by decide)) (fun _ => ?_)
    refine lv_iload hx hb dX6_bear_66 (lv_at hl 0 rfl) ?_
    refine lv_goto (tgt := 72) hx hb dX6_bear_68 (by decide) ?_
    refine lv_istore_n (lv' := [(3, .int 0), (4, .int 0), (2, .int 0), (0, .ref qm), (1, .int iA)]) hx hb dX6_bear_72 rfl hl (by decide) rfl (fun ls hl => ?_)
    refine lv_iinc (v := (-1)) (lv' := [(4, .int (-1)), (3, .int 0), (2, .int 0), (0, .ref qm), (1, .int iA)]) hx hb dX6_bear_73 hl (k := 1) rfl (by decide) (by decide) rfl (fun ls hl => ?_)
    refine lv_goto (tgt := 33) hx hb dX6_bear_76 (by decide) ?_
    refine lv_iload hx hb dX6_bear_33 (lv_at hl 0 rfl) ?_
    refine lv_if_lt (tgt := 79) hx hb dX6_bear_35 (by decide) (fun _ => ?_) (fun h9 => absurd (by decide) h9)
    refine lv_iload_n hx hb dX6_bear_79 rfl (lv_at hl 1 rfl) ?_
    exact endW (u := []) hx hb hr hlocks rfl va_P0 va_D0 hS ⟨rfl, (by first | (simp [sp_lost, Iv, h_3]; done) | (unfold sp_lost; decide))⟩ dX6_bear_80
  · refine lv_if_ne (tgt := 19) hx hb dX6_bear_9 (by decide) (fun h9 => absurd (by decide) h9) (fun _ => ?_)
    refine lv_aload_n hx hb dX6_bear_12 rfl (lv_at hl 0 rfl) ?_
    refine lv_bipush (v := (-2)) hx hb dX6_bear_13 (by decide) ?_
    refine kWi (wr := []) (rV (As := [.int (-2)]) (rest := []) (b := qm) ⟨hx, hb, hml, hown, hts⟩ (c_X6_refuse2 l G cy (s.heap).size qm (.ref qms) (.ref qmo) (.ref qmz) (.ref qmR) (.ref qmv) (.ref qmk) (.ref qmb) (.ref qmt) (.int 0) qmr (.int 0) (.ref qmB) (.int 0) (.ref qmO) (.ref qmK) (.int 0) (.int 0) (.int 1) .null .null (.int 0) (.int 0) (.int 0) (.long 0) (.int 0) (.ref qm_three) (.int 0) (.int 0) (.int 0) .null (.ref qm_unread) (.ref qm_tryRow) (.ref qm_bestRow) (.ref qm_steps) (.int 0) (fun _ => 0)) L_X6_91 (preWV (q := (RX6, TX6, 35)) hN hP hD [0, 1] rfl (by decide) 0 5 rfl rfl) rfl ⟨Nat.le_of_ble_eq_true rfl, Nat.le_of_ble_eq_true rfl⟩ hl.1 (Nat.le_of_ble_eq_true rfl) dX6_bear_15 ⟨Nat.le_of_ble_eq_true rfl, Nat.le_of_ble_eq_true rfl⟩) hP hD hS hA [0, 1] [] rfl rfl (by decide) (by decide) (fun r_18 u_20 H locs h_19 hP hD hS => ?_)
    obtain ⟨rfl, h_19⟩ := h_19
    have hP : va_P G CL [(qm, .inr (5, [.ref qms, .ref qmo, .ref qmz, .ref qmR, .ref qmv, .ref qmk, .ref qmb, .ref qmt, .int 0, .ref qmr, .int 0, .ref qmB, .int 0, .ref qmO, .ref qmK, .int 0, .int 0, .int 1, .null, .null, .int 0, .int 0, .int 0, .long 0, .int 0, .ref qm_three, .int 0, .int 0, .int 0, .null, .ref qm_unread, .ref qm_tryRow, .ref qm_bestRow, .ref qm_steps, .int 0]))] H := hP
    have hD : va_D A [(qm, .inr (5, [.ref qms, .ref qmo, .ref qmz, .ref qmR, .ref qmv, .ref qmk, .ref qmb, .ref qmt, .int 0, .ref qmr, .int 0, .ref qmB, .int 0, .ref qmO, .ref qmK, .int 0, .int 0, .int 1, .null, .null, .int 0, .int 0, .int 0, .long 0, .int 0, .ref qm_three, .int 0, .int 0, .int 0, .null, .ref qm_unread, .ref qm_tryRow, .ref qm_bestRow, .ref qm_steps, .int 0]))] := hD
    subst h_19
    exact endW (u := []) hx hb hr hlocks rfl va_P0 va_D0 hS ⟨rfl, (by first | (simp [sp_lost, Iv, h_3]; done) | (unfold sp_lost; decide))⟩ dX6_bear_18
set_option maxHeartbeats 4000000 in
set_option maxRecDepth 100000 in
theorem p_X6_next (l : Launch) (G : va_G) (cy : Nat → ClassId) (qm : Nat) (qms : Nat) (qmo : Nat) (qmz : Nat) (qmR : Nat) (qmv : Nat) (qmk : Nat) (qmb : Nat) (qmt : Nat) (qmr : Nat) (qmB : Nat) (qmO : Nat) (qmK : Nat) (qm_three : Nat) (qm_unread : Nat) (qm_tryRow : Nat) (qm_bestRow : Nat) (qm_steps : Nat)   : MR l yX6_next cX6_next 6 (some .int) 6 G cy [(qm, .inr (5, [.ref qms, .ref qmo, .ref qmz, .ref qmR, .ref qmv, .ref qmk, .ref qmb, .ref qmt, .int 0, .ref qmr, .int 0, .ref qmB, .int 0, .ref qmO, .ref qmK, .int 0, .int 0, .int 1, .null, .null, .int 0, .int 0, .int 0, .long 0, .int 0, .ref qm_three, .int 0, .int 0, .int 0, .null, .ref qm_unread, .ref qm_tryRow, .ref qm_bestRow, .ref qm_steps, .int 0]))] [.ref qm] (vp_Si (fun r => (r = (-1)))) := by
  refine enR RX6 (by decide) rfl (Nat.le_of_ble_eq_true rfl) (fun p e s m below meth c ls hx hb hml hown hts hr hlocks hP hN hl => ?_)
  have hK := hN.1
  have hl : lv_has ls 6 [(0, .ref qm)] := hl
  refine lv_iconst (v := (-1)) hx hb dX6_next_0 (by decide) ?_
  refine lv_istore_n (lv' := [(1, .int (-1)), (0, .ref qm)]) hx hb dX6_next_1 rfl hl (by decide) rfl (fun ls hl => ?_)
  refine lv_aload_n hx hb dX6_next_2 rfl (lv_at hl 1 rfl) ?_
  refine kRi (rV (As := []) (rest := []) (b := qm) ⟨hx, hb, hml, hown, hts⟩ (c_X6_valueNow l G cy qm (.ref qms) (.ref qmo) (.ref qmz) (.ref qmR) (.ref qmv) (.ref qmk) (.ref qmb) (.ref qmt) (.int 0) (.ref qmr) (.ref qmB) (.ref qmO) (.ref qmK) (.int 0) (.int 0) (.int 1) .null .null (.int 0) (.int 0) (.int 0) (.long 0) (.int 0) (.ref qm_three) (.int 0) (.int 0) (.int 0) .null (.ref qm_unread) (.ref qm_tryRow) (.ref qm_bestRow) (.ref qm_steps) (.int 0)) L_X6_122 (preRV (q := (RX6, TX6, 35)) hN hP [0] rfl 0 5 rfl rfl) rfl ⟨Nat.le_of_ble_eq_true rfl, Nat.le_of_ble_eq_true rfl⟩ hl.1 (Nat.le_of_ble_eq_true rfl) dX6_next_3 ⟨Nat.le_of_ble_eq_true rfl, Nat.le_of_ble_eq_true rfl⟩) (fun r_1 h_2 => ?_)
  subst h_2
  refine lv_istore_n (lv' := [(2, .int 0), (1, .int (-1)), (0, .ref qm)]) hx hb dX6_next_6 rfl hl (by decide) rfl (fun ls hl => ?_)
  refine lv_iconst (v := 0) hx hb dX6_next_7 (by decide) ?_
  refine lv_istore_n (lv' := [(3, .int 0), (2, .int 0), (1, .int (-1)), (0, .ref qm)]) hx hb dX6_next_8 rfl hl (by decide) rfl (fun ls hl => ?_)
  refine lv_iload_n hx hb dX6_next_9 rfl (lv_at hl 0 rfl) ?_
  refine lv_aload_n hx hb dX6_next_10 rfl (lv_at hl 3 rfl) ?_
  refine va_get (D := G) (ci := 5) (v := .int 0) (C := RX6) (T := TX6) (N := 35) hx hb hts iX_X6 hown hK hP 0 rfl rfl 10 (by decide) (hts _ m_t860) (fun _ h9 => h9) rfl dX6_next_11 ?_
  refine lv_icmp_ge (tgt := 78) hx hb dX6_next_14 (by decide) (fun _ => ?_) (fun h9 => absurd (by decide) h9)
  refine lv_iload_n hx hb dX6_next_78 rfl (lv_at hl 2 rfl) ?_
  exact endR hx hb hr hlocks rfl rfl dX6_next_79
set_option maxHeartbeats 4000000 in
set_option maxRecDepth 100000 in
theorem p_X6_gains (l : Launch) (G : va_G) (cy : Nat → ClassId) (sz : Nat) (qm : Nat) (qms : Nat) (qmo : Nat) (qmz : Nat) (qmR : Nat) (qmv : Nat) (qmk : Nat) (qmb : Nat) (qmt : Nat) (qmr : Nat) (qmB : Nat) (qmO : Nat) (qmK : Nat) (qm_three : Nat) (qm_unread : Nat) (qm_tryRow : Nat) (qm_bestRow : Nat) (qm_steps : Nat) (iA : Int32) (iB : Int32)   : MW l yX6_gains cX6_gains 4 (some .int) 6 0 0 G cy [(qm, .inr (5, [.ref qms, .ref qmo, .ref qmz, .ref qmR, .ref qmv, .ref qmk, .ref qmb, .ref qmt, .int 0, .ref qmr, .int 0, .ref qmB, .int 0, .ref qmO, .ref qmK, .int 0, .int 0, .int 1, .null, .null, .int 0, .int 0, .int 0, .long 0, .int 0, .ref qm_three, .int 0, .int 0, .int 0, .null, .ref qm_unread, .ref qm_tryRow, .ref qm_bestRow, .ref qm_steps, .int 0])), (qms, .inl (cy 0, 8, .inl (fun _ => 0))), (qmr, .inl (cy 0, 8, .inl (fun _ => 0)))] sz [.ref qm, .int iA, .int iB] (Wi G (fun r u => u = [] ∧ ((r = (sp_gains iA iB))))) := by
  refine enW RX6 (by decide) rfl (Nat.le_of_ble_eq_true rfl) (fun p e s m below meth c ls A hx hb hml hown hts hr hlocks hP hN hl hin hD hA hS => ?_)
  have hin : meth.name = _ := hin
  have hK := hN.1
  have hl : lv_has ls 4 [(0, .ref qm), (1, .int iA), (2, .int iB)] := hl
  refine lv_iload_n hx hb dX6_gains_0 rfl (lv_at hl 1 rfl) ?_
  refine lv_i2l (v := iA.toInt64) hx hb dX6_gains_1 rfl ?_
  refine lv_lconst (v := 0) hx hb dX6_gains_2 (by decide) ?_
  refine lv_ldc2 hx hb hown (hts _ m_t960) dX6_gains_3 ?_
  refine kRi (rS (As := [.long iA.toInt64, .long 0, .long 7]) (rest := []) ⟨hx, hb, hml, hown, hts⟩ (c_X6_in l G cy iA.toInt64 0 7) L_X6_74 (preRS hN hP [] rfl) rfl ⟨Nat.le_of_ble_eq_true rfl, Nat.le_of_ble_eq_true rfl⟩ hl.1 (Nat.le_of_ble_eq_true rfl) dX6_gains_6 ⟨Nat.le_of_ble_eq_true rfl, Nat.le_of_ble_eq_true rfl⟩) (fun r_1 h_2 => ?_)
  rcases h_2 with ⟨rfl, h_3⟩ | ⟨rfl, h_3⟩
  · refine lv_if_eq (tgt := 24) hx hb dX6_gains_9 (by decide) (fun h9 => absurd h9 (by decide)) (fun _ => ?_)
    refine lv_iload_n hx hb dX6_gains_12 rfl (lv_at hl 2 rfl) ?_
    refine lv_i2l (v := iB.toInt64) hx hb dX6_gains_13 rfl ?_
    refine lv_lconst (v := 1) hx hb dX6_gains_14 (by decide) ?_
    refine lv_ldc2 hx hb hown (hts _ m_t1268) dX6_gains_15 ?_
    refine kRi (rS (As := [.long iB.toInt64, .long 1, .long 60]) (rest := []) ⟨hx, hb, hml, hown, hts⟩ (c_X6_in l G cy iB.toInt64 1 60) L_X6_74 (preRS hN hP [] rfl) rfl ⟨Nat.le_of_ble_eq_true rfl, Nat.le_of_ble_eq_true rfl⟩ hl.1 (Nat.le_of_ble_eq_true rfl) dX6_gains_18 ⟨Nat.le_of_ble_eq_true rfl, Nat.le_of_ble_eq_true rfl⟩) (fun r_5 h_6 => ?_)
    rcases h_6 with ⟨rfl, h_7⟩ | ⟨rfl, h_7⟩
    · refine lv_if_ne (tgt := 35) hx hb dX6_gains_21 (by decide) (fun _ => ?_) (fun h9 => absurd h9 (by decide))
      refine lv_aload_n hx hb dX6_gains_35 rfl (lv_at hl 0 rfl) ?_
      refine lv_iload_n hx hb dX6_gains_36 rfl (lv_at hl 1 rfl) ?_
      refine kWi (wr := []) (rV (As := [.int iA]) (rest := []) (b := qm) ⟨hx, hb, hml, hown, hts⟩ (c_X6_noRule l G cy (s.heap).size qm qms (.ref qmo) (.ref qmz) (.ref qmR) (.ref qmv) (.ref qmk) (.ref qmb) (.ref qmt) (.int 0) qmr (.int 0) (.ref qmB) (.int 0) (.ref qmO) (.ref qmK) (.int 0) (.int 0) (.int 1) .null .null (.int 0) (.int 0) (.int 0) (.long 0) (.int 0) (.ref qm_three) (.int 0) (.int 0) (.int 0) .null (.ref qm_unread) (.ref qm_tryRow) (.ref qm_bestRow) (.ref qm_steps) (.int 0) iA) L_X6_302 (preWV (q := (RX6, TX6, 35)) hN hP hD [0, 1, 2] rfl (by decide) 0 5 rfl rfl) rfl ⟨Nat.le_of_ble_eq_true rfl, Nat.le_of_ble_eq_true rfl⟩ hl.1 (Nat.le_of_ble_eq_true rfl) dX6_gains_37 ⟨Nat.le_of_ble_eq_true rfl, Nat.le_of_ble_eq_true rfl⟩) hP hD hS hA [0, 1, 2] [] rfl rfl (by decide) (by decide) (fun r_9 u_11 H locs h_10 hP hD hS => ?_)
      obtain ⟨rfl, h_10⟩ := h_10
      have hP : va_P G CL [] H := hP
      have hD : va_D A [] := hD
      rcases h_10 with ⟨rfl, h_12⟩ | ⟨rfl, h_12⟩
      · exact absurd h_3 h_12
      · refine lv_istore_n (lv' := [(3, .int (-4)), (0, .ref qm), (1, .int iA), (2, .int iB)]) hx hb dX6_gains_40 rfl hl (by decide) rfl (fun ls hl => ?_)
        refine lv_iload_n hx hb dX6_gains_41 rfl (lv_at hl 0 rfl) ?_
        refine lv_if_eq (tgt := 51) hx hb dX6_gains_42 (by decide) (fun h9 => absurd h9 (by decide)) (fun _ => ?_)
        refine lv_iload_n hx hb dX6_gains_45 rfl (lv_at hl 0 rfl) ?_
        refine lv_ldcw hx hb hown (hts _ m_t1290) dX6_gains_46 ?_
        refine lv_isub hx hb dX6_gains_49 ?_
        refine lv_seti (v := (-1000004)) (by decide) ?_
        exact endW (u := []) hx hb hr hlocks rfl va_P0 va_D0 hS ⟨rfl, (by first | (simp [sp_gains, Iv, h_3, h_7, h_12]; done) | (unfold sp_gains; decide))⟩ dX6_gains_50
    · refine lv_if_ne (tgt := 35) hx hb dX6_gains_21 (by decide) (fun h9 => absurd (by decide) h9) (fun _ => ?_)
      refine lv_aload_n hx hb dX6_gains_24 rfl (lv_at hl 0 rfl) ?_
      refine lv_bipush (v := (-2)) hx hb dX6_gains_25 (by decide) ?_
      refine kWi (wr := [(qms, .inl (cy 0, 8, .inl (fun _ => 0)))]) (rV (As := [.int (-2)]) (rest := []) (b := qm) ⟨hx, hb, hml, hown, hts⟩ (c_X6_refuse2 l G cy (s.heap).size qm (.ref qms) (.ref qmo) (.ref qmz) (.ref qmR) (.ref qmv) (.ref qmk) (.ref qmb) (.ref qmt) (.int 0) qmr (.int 0) (.ref qmB) (.int 0) (.ref qmO) (.ref qmK) (.int 0) (.int 0) (.int 1) .null .null (.int 0) (.int 0) (.int 0) (.long 0) (.int 0) (.ref qm_three) (.int 0) (.int 0) (.int 0) .null (.ref qm_unread) (.ref qm_tryRow) (.ref qm_bestRow) (.ref qm_steps) (.int 0) (fun _ => 0)) L_X6_91 (preWV (q := (RX6, TX6, 35)) hN hP hD [0, 2] rfl (by decide) 0 5 rfl rfl) rfl ⟨Nat.le_of_ble_eq_true rfl, Nat.le_of_ble_eq_true rfl⟩ hl.1 (Nat.le_of_ble_eq_true rfl) dX6_gains_27 ⟨Nat.le_of_ble_eq_true rfl, Nat.le_of_ble_eq_true rfl⟩) hP hD hS hA [0, 2] [1] rfl rfl (by decide) (by decide) (fun r_15 u_17 H locs h_16 hP hD hS => ?_)
      obtain ⟨rfl, h_16⟩ := h_16
      have hP : va_P G CL [(qms, .inl (cy 0, 8, .inl (fun _ => 0))), (qm, .inr (5, [.ref qms, .ref qmo, .ref qmz, .ref qmR, .ref qmv, .ref qmk, .ref qmb, .ref qmt, .int 0, .ref qmr, .int 0, .ref qmB, .int 0, .ref qmO, .ref qmK, .int 0, .int 0, .int 1, .null, .null, .int 0, .int 0, .int 0, .long 0, .int 0, .ref qm_three, .int 0, .int 0, .int 0, .null, .ref qm_unread, .ref qm_tryRow, .ref qm_bestRow, .ref qm_steps, .int 0]))] H := hP
      have hD : va_D A [(qms, .inl (cy 0, 8, .inl (fun _ => 0))), (qm, .inr (5, [.ref qms, .ref qmo, .ref qmz, .ref qmR, .ref qmv, .ref qmk, .ref qmb, .ref qmt, .int 0, .ref qmr, .int 0, .ref qmB, .int 0, .ref qmO, .ref qmK, .int 0, .int 0, .int 1, .null, .null, .int 0, .int 0, .int 0, .long 0, .int 0, .ref qm_three, .int 0, .int 0, .int 0, .null, .ref qm_unread, .ref qm_tryRow, .ref qm_bestRow, .ref qm_steps, .int 0]))] := hD
      subst h_16
      refine lv_ldcw hx hb hown (hts _ m_t1290) dX6_gains_30 ?_
      refine lv_isub hx hb dX6_gains_33 ?_
      refine lv_seti (v := (-1000002)) (by decide) ?_
      exact endW (u := []) hx hb hr hlocks rfl va_P0 va_D0 hS ⟨rfl, (by first | (simp [sp_gains, Iv, h_3, h_7]; done) | (unfold sp_gains; decide))⟩ dX6_gains_34
  · refine lv_if_eq (tgt := 24) hx hb dX6_gains_9 (by decide) (fun _ => ?_) (fun h9 => absurd (by decide) h9)
    refine lv_aload_n hx hb dX6_gains_24 rfl (lv_at hl 0 rfl) ?_
    refine lv_bipush (v := (-2)) hx hb dX6_gains_25 (by decide) ?_
    refine kWi (wr := [(qms, .inl (cy 0, 8, .inl (fun _ => 0)))]) (rV (As := [.int (-2)]) (rest := []) (b := qm) ⟨hx, hb, hml, hown, hts⟩ (c_X6_refuse2 l G cy (s.heap).size qm (.ref qms) (.ref qmo) (.ref qmz) (.ref qmR) (.ref qmv) (.ref qmk) (.ref qmb) (.ref qmt) (.int 0) qmr (.int 0) (.ref qmB) (.int 0) (.ref qmO) (.ref qmK) (.int 0) (.int 0) (.int 1) .null .null (.int 0) (.int 0) (.int 0) (.long 0) (.int 0) (.ref qm_three) (.int 0) (.int 0) (.int 0) .null (.ref qm_unread) (.ref qm_tryRow) (.ref qm_bestRow) (.ref qm_steps) (.int 0) (fun _ => 0)) L_X6_91 (preWV (q := (RX6, TX6, 35)) hN hP hD [0, 2] rfl (by decide) 0 5 rfl rfl) rfl ⟨Nat.le_of_ble_eq_true rfl, Nat.le_of_ble_eq_true rfl⟩ hl.1 (Nat.le_of_ble_eq_true rfl) dX6_gains_27 ⟨Nat.le_of_ble_eq_true rfl, Nat.le_of_ble_eq_true rfl⟩) hP hD hS hA [0, 2] [1] rfl rfl (by decide) (by decide) (fun r_19 u_21 H locs h_20 hP hD hS => ?_)
    obtain ⟨rfl, h_20⟩ := h_20
    have hP : va_P G CL [(qms, .inl (cy 0, 8, .inl (fun _ => 0))), (qm, .inr (5, [.ref qms, .ref qmo, .ref qmz, .ref qmR, .ref qmv, .ref qmk, .ref qmb, .ref qmt, .int 0, .ref qmr, .int 0, .ref qmB, .int 0, .ref qmO, .ref qmK, .int 0, .int 0, .int 1, .null, .null, .int 0, .int 0, .int 0, .long 0, .int 0, .ref qm_three, .int 0, .int 0, .int 0, .null, .ref qm_unread, .ref qm_tryRow, .ref qm_bestRow, .ref qm_steps, .int 0]))] H := hP
    have hD : va_D A [(qms, .inl (cy 0, 8, .inl (fun _ => 0))), (qm, .inr (5, [.ref qms, .ref qmo, .ref qmz, .ref qmR, .ref qmv, .ref qmk, .ref qmb, .ref qmt, .int 0, .ref qmr, .int 0, .ref qmB, .int 0, .ref qmO, .ref qmK, .int 0, .int 0, .int 1, .null, .null, .int 0, .int 0, .int 0, .long 0, .int 0, .ref qm_three, .int 0, .int 0, .int 0, .null, .ref qm_unread, .ref qm_tryRow, .ref qm_bestRow, .ref qm_steps, .int 0]))] := hD
    subst h_20
    refine lv_ldcw hx hb hown (hts _ m_t1290) dX6_gains_30 ?_
    refine lv_isub hx hb dX6_gains_33 ?_
    refine lv_seti (v := (-1000002)) (by decide) ?_
    exact endW (u := []) hx hb hr hlocks rfl va_P0 va_D0 hS ⟨rfl, (by first | (simp [sp_gains, Iv, h_3]; done) | (unfold sp_gains; decide))⟩ dX6_gains_34
set_option maxHeartbeats 4000000 in
set_option maxRecDepth 100000 in
theorem p_X6_judge (l : Launch) (G : va_G) (cy : Nat → ClassId) (sz : Nat) (qm : Nat) (qms : Nat) (qmo : Nat) (qmz : Nat) (qmR : Nat) (qmv : Nat) (qmk : Nat) (qmb : Nat) (qmt : Nat) (qmr : Nat) (qmB : Nat) (qmO : Nat) (qmK : Nat) (qm_three : Nat) (qm_unread : Nat) (qm_tryRow : Nat) (qm_bestRow : Nat) (qm_steps : Nat) (iA : Int32) (iB : Int32)   : MW l yX6_judge cX6_judge 4 (some .int) 6 0 0 G cy [(qm, .inr (5, [.ref qms, .ref qmo, .ref qmz, .ref qmR, .ref qmv, .ref qmk, .ref qmb, .ref qmt, .int 0, .ref qmr, .int 0, .ref qmB, .int 0, .ref qmO, .ref qmK, .int 0, .int 0, .int 1, .null, .null, .int 0, .int 0, .int 0, .long 0, .int 0, .ref qm_three, .int 0, .int 0, .int 0, .null, .ref qm_unread, .ref qm_tryRow, .ref qm_bestRow, .ref qm_steps, .int 0])), (qms, .inl (cy 0, 8, .inl (fun _ => 0))), (qmr, .inl (cy 0, 8, .inl (fun _ => 0)))] sz [.ref qm, .int iA, .int iB] (Wi G (fun r u => u = [] ∧ ((r = (sp_judge iA iB))))) := by
  refine enW RX6 (by decide) rfl (Nat.le_of_ble_eq_true rfl) (fun p e s m below meth c ls A hx hb hml hown hts hr hlocks hP hN hl hin hD hA hS => ?_)
  have hin : meth.name = _ := hin
  have hK := hN.1
  have hl : lv_has ls 4 [(0, .ref qm), (1, .int iA), (2, .int iB)] := hl
  refine lv_aload_n hx hb dX6_judge_0 rfl (lv_at hl 0 rfl) ?_
  refine lv_iload_n hx hb dX6_judge_1 rfl (lv_at hl 1 rfl) ?_
  refine lv_iload_n hx hb dX6_judge_2 rfl (lv_at hl 2 rfl) ?_
  refine kWi (wr := []) (rV (As := [.int iA, .int iB]) (rest := []) (b := qm) ⟨hx, hb, hml, hown, hts⟩ (c_X6_noTold l G cy (s.heap).size qm qms (.ref qmo) (.ref qmz) (.ref qmR) (.ref qmv) (.ref qmk) (.ref qmb) (.ref qmt) (.int 0) qmr (.int 0) (.ref qmB) (.int 0) (.ref qmO) (.ref qmK) (.int 0) (.int 0) (.int 1) .null .null (.int 0) (.int 0) (.int 0) (.long 0) (.int 0) (.ref qm_three) (.int 0) (.int 0) (.int 0) .null (.ref qm_unread) (.ref qm_tryRow) (.ref qm_bestRow) (.ref qm_steps) (.int 0) iA iB) L_X6_345 (preWV (q := (RX6, TX6, 35)) hN hP hD [0, 1, 2] rfl (by decide) 0 5 rfl rfl) rfl ⟨Nat.le_of_ble_eq_true rfl, Nat.le_of_ble_eq_true rfl⟩ hl.1 (Nat.le_of_ble_eq_true rfl) dX6_judge_3 ⟨Nat.le_of_ble_eq_true rfl, Nat.le_of_ble_eq_true rfl⟩) hP hD hS hA [0, 1, 2] [] rfl rfl (by decide) (by decide) (fun r_1 u_3 H locs h_2 hP hD hS => ?_)
  obtain ⟨rfl, h_2⟩ := h_2
  have hP : va_P G CL [] H := hP
  have hD : va_D A [] := hD
  rcases h_2 with ⟨rfl, h_4⟩ | ⟨rfl, h_4⟩
  · refine lv_istore_n (lv' := [(3, .int (-2)), (0, .ref qm), (1, .int iA), (2, .int iB)]) hx hb dX6_judge_6 rfl hl (by decide) rfl (fun ls hl => ?_)
    refine lv_iload_n hx hb dX6_judge_7 rfl (lv_at hl 0 rfl) ?_
    refine lv_if_eq (tgt := 15) hx hb dX6_judge_8 (by decide) (fun h9 => absurd h9 (by decide)) (fun _ => ?_)
    refine lv_iload_n hx hb dX6_judge_11 rfl (lv_at hl 0 rfl) ?_
    refine lv_goto (tgt := 21) hx hb dX6_judge_12 (by decide) ?_
    exact endW (u := []) hx hb hr hlocks rfl va_P0 va_D0 hS ⟨rfl, (by first | (simp [sp_judge, Iv, h_4]; done) | (unfold sp_judge; decide))⟩ dX6_judge_21
  · refine lv_istore_n (lv' := [(3, .int (-4)), (0, .ref qm), (1, .int iA), (2, .int iB)]) hx hb dX6_judge_6 rfl hl (by decide) rfl (fun ls hl => ?_)
    refine lv_iload_n hx hb dX6_judge_7 rfl (lv_at hl 0 rfl) ?_
    refine lv_if_eq (tgt := 15) hx hb dX6_judge_8 (by decide) (fun h9 => absurd h9 (by decide)) (fun _ => ?_)
    refine lv_iload_n hx hb dX6_judge_11 rfl (lv_at hl 0 rfl) ?_
    refine lv_goto (tgt := 21) hx hb dX6_judge_12 (by decide) ?_
    exact endW (u := []) hx hb hr hlocks rfl va_P0 va_D0 hS ⟨rfl, (by first | (simp [sp_judge, Iv, h_4]; done) | (unfold sp_judge; decide))⟩ dX6_judge_21
set_option maxHeartbeats 4000000 in
set_option maxRecDepth 100000 in
theorem p_X6_told (l : Launch) (G : va_G) (cy : Nat → ClassId) (sz : Nat) (qm : Nat) (qms : Nat) (qmo : Nat) (qmz : Nat) (qmR : Nat) (qmv : Nat) (qmk : Nat) (qmb : Nat) (qmt : Nat) (qmr : Nat) (qmB : Nat) (qmO : Nat) (qmK : Nat) (qm_three : Nat) (qm_unread : Nat) (qm_tryRow : Nat) (qm_bestRow : Nat) (qm_steps : Nat) (iA : Int32) (iB : Int32)   : MW l yX6_told cX6_told 4 (some .int) 6 0 0 G cy [(qm, .inr (5, [.ref qms, .ref qmo, .ref qmz, .ref qmR, .ref qmv, .ref qmk, .ref qmb, .ref qmt, .int 0, .ref qmr, .int 0, .ref qmB, .int 0, .ref qmO, .ref qmK, .int 0, .int 0, .int 1, .null, .null, .int 0, .int 0, .int 0, .long 0, .int 0, .ref qm_three, .int 0, .int 0, .int 0, .null, .ref qm_unread, .ref qm_tryRow, .ref qm_bestRow, .ref qm_steps, .int 0])), (qms, .inl (cy 0, 8, .inl (fun _ => 0))), (qmr, .inl (cy 0, 8, .inl (fun _ => 0)))] sz [.ref qm, .int iA, .int iB] (Wi G (fun r u => u = [] ∧ ((r = (sp_judge iA iB))))) := by
  refine enW RX6 (by decide) rfl (Nat.le_of_ble_eq_true rfl) (fun p e s m below meth c ls A hx hb hml hown hts hr hlocks hP hN hl hin hD hA hS => ?_)
  have hin : meth.name = _ := hin
  have hK := hN.1
  have hl : lv_has ls 4 [(0, .ref qm), (1, .int iA), (2, .int iB)] := hl
  refine lv_aload_n hx hb dX6_told_0 rfl (lv_at hl 0 rfl) ?_
  refine lv_iload_n hx hb dX6_told_1 rfl (lv_at hl 1 rfl) ?_
  refine lv_iload_n hx hb dX6_told_2 rfl (lv_at hl 2 rfl) ?_
  refine kWi (wr := []) (rV (As := [.int iA, .int iB]) (rest := []) (b := qm) ⟨hx, hb, hml, hown, hts⟩ (c_X6_noTold l G cy (s.heap).size qm qms (.ref qmo) (.ref qmz) (.ref qmR) (.ref qmv) (.ref qmk) (.ref qmb) (.ref qmt) (.int 0) qmr (.int 0) (.ref qmB) (.int 0) (.ref qmO) (.ref qmK) (.int 0) (.int 0) (.int 1) .null .null (.int 0) (.int 0) (.int 0) (.long 0) (.int 0) (.ref qm_three) (.int 0) (.int 0) (.int 0) .null (.ref qm_unread) (.ref qm_tryRow) (.ref qm_bestRow) (.ref qm_steps) (.int 0) iA iB) L_X6_345 (preWV (q := (RX6, TX6, 35)) hN hP hD [0, 1, 2] rfl (by decide) 0 5 rfl rfl) rfl ⟨Nat.le_of_ble_eq_true rfl, Nat.le_of_ble_eq_true rfl⟩ hl.1 (Nat.le_of_ble_eq_true rfl) dX6_told_3 ⟨Nat.le_of_ble_eq_true rfl, Nat.le_of_ble_eq_true rfl⟩) hP hD hS hA [0, 1, 2] [] rfl rfl (by decide) (by decide) (fun r_1 u_3 H locs h_2 hP hD hS => ?_)
  obtain ⟨rfl, h_2⟩ := h_2
  have hP : va_P G CL [] H := hP
  have hD : va_D A [] := hD
  rcases h_2 with ⟨rfl, h_4⟩ | ⟨rfl, h_4⟩
  · refine lv_istore_n (lv' := [(3, .int (-2)), (0, .ref qm), (1, .int iA), (2, .int iB)]) hx hb dX6_told_6 rfl hl (by decide) rfl (fun ls hl => ?_)
    refine lv_iload_n hx hb dX6_told_7 rfl (lv_at hl 0 rfl) ?_
    refine lv_if_eq (tgt := 13) hx hb dX6_told_8 (by decide) (fun h9 => absurd h9 (by decide)) (fun _ => ?_)
    refine lv_iload_n hx hb dX6_told_11 rfl (lv_at hl 0 rfl) ?_
    exact endW (u := []) hx hb hr hlocks rfl va_P0 va_D0 hS ⟨rfl, (by first | (simp [sp_judge, Iv, h_4]; done) | (unfold sp_judge; decide))⟩ dX6_told_12
  · refine lv_istore_n (lv' := [(3, .int (-4)), (0, .ref qm), (1, .int iA), (2, .int iB)]) hx hb dX6_told_6 rfl hl (by decide) rfl (fun ls hl => ?_)
    refine lv_iload_n hx hb dX6_told_7 rfl (lv_at hl 0 rfl) ?_
    refine lv_if_eq (tgt := 13) hx hb dX6_told_8 (by decide) (fun h9 => absurd h9 (by decide)) (fun _ => ?_)
    refine lv_iload_n hx hb dX6_told_11 rfl (lv_at hl 0 rfl) ?_
    exact endW (u := []) hx hb hr hlocks rfl va_P0 va_D0 hS ⟨rfl, (by first | (simp [sp_judge, Iv, h_4]; done) | (unfold sp_judge; decide))⟩ dX6_told_12
set_option maxHeartbeats 4000000 in
set_option maxRecDepth 100000 in
theorem p_X6_years (l : Launch) (G : va_G) (cy : Nat → ClassId) (sz : Nat) (qm : Nat) (qms : Nat) (qmo : Nat) (qmz : Nat) (qmR : Nat) (qmv : Nat) (qmk : Nat) (qmb : Nat) (qmt : Nat) (qmr : Nat) (qmB : Nat) (qmO : Nat) (qmK : Nat) (qm_three : Nat) (qm_unread : Nat) (qm_tryRow : Nat) (qm_bestRow : Nat) (qm_steps : Nat) (iA : Int32) (iB : Int32)   : MW l yX6_years cX6_years 7 (some .int) 6 0 0 G cy [(qm, .inr (5, [.ref qms, .ref qmo, .ref qmz, .ref qmR, .ref qmv, .ref qmk, .ref qmb, .ref qmt, .int 0, .ref qmr, .int 0, .ref qmB, .int 0, .ref qmO, .ref qmK, .int 0, .int 0, .int 1, .null, .null, .int 0, .int 0, .int 0, .long 0, .int 0, .ref qm_three, .int 0, .int 0, .int 0, .null, .ref qm_unread, .ref qm_tryRow, .ref qm_bestRow, .ref qm_steps, .int 0])), (qms, .inl (cy 0, 8, .inl (fun _ => 0))), (qmr, .inl (cy 0, 8, .inl (fun _ => 0)))] sz [.ref qm, .int iA, .int iB] (Wi G (fun r u => u = [] ∧ ((r = (sp_years iA iB))))) := by
  refine enW RX6 (by decide) rfl (Nat.le_of_ble_eq_true rfl) (fun p e s m below meth c ls A hx hb hml hown hts hr hlocks hP hN hl hin hD hA hS => ?_)
  have hin : meth.name = _ := hin
  have hK := hN.1
  have hl : lv_has ls 7 [(0, .ref qm), (1, .int iA), (2, .int iB)] := hl
  refine lv_iload_n hx hb dX6_years_0 rfl (lv_at hl 1 rfl) ?_
  refine lv_i2l (v := iA.toInt64) hx hb dX6_years_1 rfl ?_
  refine lv_lconst (v := 0) hx hb dX6_years_2 (by decide) ?_
  refine lv_ldc2 hx hb hown (hts _ m_t960) dX6_years_3 ?_
  refine kRi (rS (As := [.long iA.toInt64, .long 0, .long 7]) (rest := []) ⟨hx, hb, hml, hown, hts⟩ (c_X6_in l G cy iA.toInt64 0 7) L_X6_74 (preRS hN hP [] rfl) rfl ⟨Nat.le_of_ble_eq_true rfl, Nat.le_of_ble_eq_true rfl⟩ hl.1 (Nat.le_of_ble_eq_true rfl) dX6_years_6 ⟨Nat.le_of_ble_eq_true rfl, Nat.le_of_ble_eq_true rfl⟩) (fun r_1 h_2 => ?_)
  rcases h_2 with ⟨rfl, h_3⟩ | ⟨rfl, h_3⟩
  · refine lv_if_eq (tgt := 24) hx hb dX6_years_9 (by decide) (fun h9 => absurd h9 (by decide)) (fun _ => ?_)
    refine lv_iload_n hx hb dX6_years_12 rfl (lv_at hl 2 rfl) ?_
    refine lv_i2l (v := iB.toInt64) hx hb dX6_years_13 rfl ?_
    refine lv_lconst (v := 1) hx hb dX6_years_14 (by decide) ?_
    refine lv_ldc2 hx hb hown (hts _ m_t1355) dX6_years_15 ?_
    refine kRi (rS (As := [.long iB.toInt64, .long 1, .long 20]) (rest := []) ⟨hx, hb, hml, hown, hts⟩ (c_X6_in l G cy iB.toInt64 1 20) L_X6_74 (preRS hN hP [] rfl) rfl ⟨Nat.le_of_ble_eq_true rfl, Nat.le_of_ble_eq_true rfl⟩ hl.1 (Nat.le_of_ble_eq_true rfl) dX6_years_18 ⟨Nat.le_of_ble_eq_true rfl, Nat.le_of_ble_eq_true rfl⟩) (fun r_5 h_6 => ?_)
    rcases h_6 with ⟨rfl, h_7⟩ | ⟨rfl, h_7⟩
    · refine lv_if_ne (tgt := 31) hx hb dX6_years_21 (by decide) (fun _ => ?_) (fun h9 => absurd h9 (by decide))
      refine lv_aload_n hx hb dX6_years_31 rfl (lv_at hl 0 rfl) ?_
      refine lv_iload_n hx hb dX6_years_32 rfl (lv_at hl 1 rfl) ?_
      refine kWi (wr := []) (rV (As := [.int iA]) (rest := []) (b := qm) ⟨hx, hb, hml, hown, hts⟩ (c_X6_noRule l G cy (s.heap).size qm qms (.ref qmo) (.ref qmz) (.ref qmR) (.ref qmv) (.ref qmk) (.ref qmb) (.ref qmt) (.int 0) qmr (.int 0) (.ref qmB) (.int 0) (.ref qmO) (.ref qmK) (.int 0) (.int 0) (.int 1) .null .null (.int 0) (.int 0) (.int 0) (.long 0) (.int 0) (.ref qm_three) (.int 0) (.int 0) (.int 0) .null (.ref qm_unread) (.ref qm_tryRow) (.ref qm_bestRow) (.ref qm_steps) (.int 0) iA) L_X6_302 (preWV (q := (RX6, TX6, 35)) hN hP hD [0, 1, 2] rfl (by decide) 0 5 rfl rfl) rfl ⟨Nat.le_of_ble_eq_true rfl, Nat.le_of_ble_eq_true rfl⟩ hl.1 (Nat.le_of_ble_eq_true rfl) dX6_years_33 ⟨Nat.le_of_ble_eq_true rfl, Nat.le_of_ble_eq_true rfl⟩) hP hD hS hA [0, 1, 2] [] rfl rfl (by decide) (by decide) (fun r_9 u_11 H locs h_10 hP hD hS => ?_)
      obtain ⟨rfl, h_10⟩ := h_10
      have hP : va_P G CL [] H := hP
      have hD : va_D A [] := hD
      rcases h_10 with ⟨rfl, h_12⟩ | ⟨rfl, h_12⟩
      · exact absurd h_3 h_12
      · refine lv_istore_n (lv' := [(3, .int (-4)), (0, .ref qm), (1, .int iA), (2, .int iB)]) hx hb dX6_years_36 rfl hl (by decide) rfl (fun ls hl => ?_)
        refine lv_iload_n hx hb dX6_years_37 rfl (lv_at hl 0 rfl) ?_
        refine lv_if_eq (tgt := 43) hx hb dX6_years_38 (by decide) (fun h9 => absurd h9 (by decide)) (fun _ => ?_)
        refine lv_iload_n hx hb dX6_years_41 rfl (lv_at hl 0 rfl) ?_
        exact endW (u := []) hx hb hr hlocks rfl va_P0 va_D0 hS ⟨rfl, (by first | (simp [sp_years, Iv, h_3, h_7, h_12]; done) | (unfold sp_years; decide))⟩ dX6_years_42
    · refine lv_if_ne (tgt := 31) hx hb dX6_years_21 (by decide) (fun h9 => absurd (by decide) h9) (fun _ => ?_)
      refine lv_aload_n hx hb dX6_years_24 rfl (lv_at hl 0 rfl) ?_
      refine lv_bipush (v := (-2)) hx hb dX6_years_25 (by decide) ?_
      refine kWi (wr := [(qms, .inl (cy 0, 8, .inl (fun _ => 0)))]) (rV (As := [.int (-2)]) (rest := []) (b := qm) ⟨hx, hb, hml, hown, hts⟩ (c_X6_refuse2 l G cy (s.heap).size qm (.ref qms) (.ref qmo) (.ref qmz) (.ref qmR) (.ref qmv) (.ref qmk) (.ref qmb) (.ref qmt) (.int 0) qmr (.int 0) (.ref qmB) (.int 0) (.ref qmO) (.ref qmK) (.int 0) (.int 0) (.int 1) .null .null (.int 0) (.int 0) (.int 0) (.long 0) (.int 0) (.ref qm_three) (.int 0) (.int 0) (.int 0) .null (.ref qm_unread) (.ref qm_tryRow) (.ref qm_bestRow) (.ref qm_steps) (.int 0) (fun _ => 0)) L_X6_91 (preWV (q := (RX6, TX6, 35)) hN hP hD [0, 2] rfl (by decide) 0 5 rfl rfl) rfl ⟨Nat.le_of_ble_eq_true rfl, Nat.le_of_ble_eq_true rfl⟩ hl.1 (Nat.le_of_ble_eq_true rfl) dX6_years_27 ⟨Nat.le_of_ble_eq_true rfl, Nat.le_of_ble_eq_true rfl⟩) hP hD hS hA [0, 2] [1] rfl rfl (by decide) (by decide) (fun r_15 u_17 H locs h_16 hP hD hS => ?_)
      obtain ⟨rfl, h_16⟩ := h_16
      have hP : va_P G CL [(qms, .inl (cy 0, 8, .inl (fun _ => 0))), (qm, .inr (5, [.ref qms, .ref qmo, .ref qmz, .ref qmR, .ref qmv, .ref qmk, .ref qmb, .ref qmt, .int 0, .ref qmr, .int 0, .ref qmB, .int 0, .ref qmO, .ref qmK, .int 0, .int 0, .int 1, .null, .null, .int 0, .int 0, .int 0, .long 0, .int 0, .ref qm_three, .int 0, .int 0, .int 0, .null, .ref qm_unread, .ref qm_tryRow, .ref qm_bestRow, .ref qm_steps, .int 0]))] H := hP
      have hD : va_D A [(qms, .inl (cy 0, 8, .inl (fun _ => 0))), (qm, .inr (5, [.ref qms, .ref qmo, .ref qmz, .ref qmR, .ref qmv, .ref qmk, .ref qmb, .ref qmt, .int 0, .ref qmr, .int 0, .ref qmB, .int 0, .ref qmO, .ref qmK, .int 0, .int 0, .int 1, .null, .null, .int 0, .int 0, .int 0, .long 0, .int 0, .ref qm_three, .int 0, .int 0, .int 0, .null, .ref qm_unread, .ref qm_tryRow, .ref qm_bestRow, .ref qm_steps, .int 0]))] := hD
      subst h_16
      exact endW (u := []) hx hb hr hlocks rfl va_P0 va_D0 hS ⟨rfl, (by first | (simp [sp_years, Iv, h_3, h_7]; done) | (unfold sp_years; decide))⟩ dX6_years_30
  · refine lv_if_eq (tgt := 24) hx hb dX6_years_9 (by decide) (fun _ => ?_) (fun h9 => absurd (by decide) h9)
    refine lv_aload_n hx hb dX6_years_24 rfl (lv_at hl 0 rfl) ?_
    refine lv_bipush (v := (-2)) hx hb dX6_years_25 (by decide) ?_
    refine kWi (wr := [(qms, .inl (cy 0, 8, .inl (fun _ => 0)))]) (rV (As := [.int (-2)]) (rest := []) (b := qm) ⟨hx, hb, hml, hown, hts⟩ (c_X6_refuse2 l G cy (s.heap).size qm (.ref qms) (.ref qmo) (.ref qmz) (.ref qmR) (.ref qmv) (.ref qmk) (.ref qmb) (.ref qmt) (.int 0) qmr (.int 0) (.ref qmB) (.int 0) (.ref qmO) (.ref qmK) (.int 0) (.int 0) (.int 1) .null .null (.int 0) (.int 0) (.int 0) (.long 0) (.int 0) (.ref qm_three) (.int 0) (.int 0) (.int 0) .null (.ref qm_unread) (.ref qm_tryRow) (.ref qm_bestRow) (.ref qm_steps) (.int 0) (fun _ => 0)) L_X6_91 (preWV (q := (RX6, TX6, 35)) hN hP hD [0, 2] rfl (by decide) 0 5 rfl rfl) rfl ⟨Nat.le_of_ble_eq_true rfl, Nat.le_of_ble_eq_true rfl⟩ hl.1 (Nat.le_of_ble_eq_true rfl) dX6_years_27 ⟨Nat.le_of_ble_eq_true rfl, Nat.le_of_ble_eq_true rfl⟩) hP hD hS hA [0, 2] [1] rfl rfl (by decide) (by decide) (fun r_19 u_21 H locs h_20 hP hD hS => ?_)
    obtain ⟨rfl, h_20⟩ := h_20
    have hP : va_P G CL [(qms, .inl (cy 0, 8, .inl (fun _ => 0))), (qm, .inr (5, [.ref qms, .ref qmo, .ref qmz, .ref qmR, .ref qmv, .ref qmk, .ref qmb, .ref qmt, .int 0, .ref qmr, .int 0, .ref qmB, .int 0, .ref qmO, .ref qmK, .int 0, .int 0, .int 1, .null, .null, .int 0, .int 0, .int 0, .long 0, .int 0, .ref qm_three, .int 0, .int 0, .int 0, .null, .ref qm_unread, .ref qm_tryRow, .ref qm_bestRow, .ref qm_steps, .int 0]))] H := hP
    have hD : va_D A [(qms, .inl (cy 0, 8, .inl (fun _ => 0))), (qm, .inr (5, [.ref qms, .ref qmo, .ref qmz, .ref qmR, .ref qmv, .ref qmk, .ref qmb, .ref qmt, .int 0, .ref qmr, .int 0, .ref qmB, .int 0, .ref qmO, .ref qmK, .int 0, .int 0, .int 1, .null, .null, .int 0, .int 0, .int 0, .long 0, .int 0, .ref qm_three, .int 0, .int 0, .int 0, .null, .ref qm_unread, .ref qm_tryRow, .ref qm_bestRow, .ref qm_steps, .int 0]))] := hD
    subst h_20
    exact endW (u := []) hx hb hr hlocks rfl va_P0 va_D0 hS ⟨rfl, (by first | (simp [sp_years, Iv, h_3]; done) | (unfold sp_years; decide))⟩ dX6_years_30
set_option maxHeartbeats 4000000 in
set_option maxRecDepth 100000 in
theorem p_X6_ends (l : Launch) (G : va_G) (cy : Nat → ClassId) (sz : Nat) (qm : Nat) (qms : Nat) (qmo : Nat) (qmz : Nat) (qmR : Nat) (qmv : Nat) (qmk : Nat) (qmb : Nat) (qmt : Nat) (qmr : Nat) (qmB : Nat) (qmO : Nat) (qmK : Nat) (qm_three : Nat) (qm_unread : Nat) (qm_tryRow : Nat) (qm_bestRow : Nat) (qm_steps : Nat)   : MW l yX6_ends cX6_ends 1 (some .int) 6 0 0 G cy [(qm, .inr (5, [.ref qms, .ref qmo, .ref qmz, .ref qmR, .ref qmv, .ref qmk, .ref qmb, .ref qmt, .int 0, .ref qmr, .int 0, .ref qmB, .int 0, .ref qmO, .ref qmK, .int 0, .int 0, .int 1, .null, .null, .int 0, .int 0, .int 0, .long 0, .int 0, .ref qm_three, .int 0, .int 0, .int 0, .null, .ref qm_unread, .ref qm_tryRow, .ref qm_bestRow, .ref qm_steps, .int 0]))] sz [.ref qm] (Wi G (fun r u => u = [] ∧ ((r = 0)))) := by
  refine enW RX6 (by decide) rfl (Nat.le_of_ble_eq_true rfl) (fun p e s m below meth c ls A hx hb hml hown hts hr hlocks hP hN hl hin hD hA hS => ?_)
  have hin : meth.name = _ := hin
  have hK := hN.1
  have hl : lv_has ls 1 [(0, .ref qm)] := hl
  refine lv_aload_n hx hb dX6_ends_0 rfl (lv_at hl 0 rfl) ?_
  refine kWi (wr := []) (rV (As := []) (rest := []) (b := qm) ⟨hx, hb, hml, hown, hts⟩ (c_X6_end l G cy (s.heap).size qm (.ref qms) (.ref qmo) (.ref qmz) (.ref qmR) (.ref qmv) (.ref qmk) (.ref qmb) (.ref qmt) (.int 0) (.ref qmr) (.int 0) (.ref qmB) (.ref qmO) (.ref qmK) (.int 0) (.int 1) .null .null (.int 0) (.int 0) (.int 0) (.long 0) (.int 0) (.ref qm_three) (.int 0) (.int 0) (.int 0) .null (.ref qm_unread) (.ref qm_tryRow) (.ref qm_bestRow) (.ref qm_steps) (.int 0)) L_X6_288 (preWV (q := (RX6, TX6, 35)) hN hP hD [0] rfl (by decide) 0 5 rfl rfl) rfl ⟨Nat.le_of_ble_eq_true rfl, Nat.le_of_ble_eq_true rfl⟩ hl.1 (Nat.le_of_ble_eq_true rfl) dX6_ends_1 ⟨Nat.le_of_ble_eq_true rfl, Nat.le_of_ble_eq_true rfl⟩) hP hD hS hA [0] [] rfl rfl (by decide) (by decide) (fun r_1 u_3 H locs h_2 hP hD hS => ?_)
  obtain ⟨rfl, h_2⟩ := h_2
  have hP : va_P G CL [] H := hP
  have hD : va_D A [] := hD
  subst h_2
  exact endW (u := []) hx hb hr hlocks rfl va_P0 va_D0 hS ⟨rfl, rfl⟩ dX6_ends_4
set_option maxHeartbeats 4000000 in
set_option maxRecDepth 100000 in
theorem p_X6_seed (l : Launch) (G : va_G) (cy : Nat → ClassId) (sz : Nat) (qm : Nat) (qms : Nat) (qmo : Nat) (qmz : Nat) (qmR : Nat) (qmv : Nat) (qmk : Nat) (qmb : Nat) (qmt : Nat) (qmr : Nat) (qmB : Nat) (qmO : Nat) (qmK : Nat) (qm_three : Nat) (qm_unread : Nat) (qm_tryRow : Nat) (qm_bestRow : Nat) (qm_steps : Nat) (iA : Int32)   : MW l yX6_seed cX6_seed 3 (some .int) 6 0 0 G cy [(qm, .inr (5, [.ref qms, .ref qmo, .ref qmz, .ref qmR, .ref qmv, .ref qmk, .ref qmb, .ref qmt, .int 0, .ref qmr, .int 0, .ref qmB, .int 0, .ref qmO, .ref qmK, .int 0, .int 0, .int 1, .null, .null, .int 0, .int 0, .int 0, .long 0, .int 0, .ref qm_three, .int 0, .int 0, .int 0, .null, .ref qm_unread, .ref qm_tryRow, .ref qm_bestRow, .ref qm_steps, .int 0]))] sz [.ref qm, .int iA] (Wi G (fun r u => u = [] ∧ ((r = 1)))) := by
  refine enW RX6 (by decide) rfl (Nat.le_of_ble_eq_true rfl) (fun p e s m below meth c ls A hx hb hml hown hts hr hlocks hP hN hl hin hD hA hS => ?_)
  have hin : meth.name = _ := hin
  have hK := hN.1
  have hl : lv_has ls 3 [(0, .ref qm), (1, .int iA)] := hl
  refine lv_aload_n hx hb dX6_seed_0 rfl (lv_at hl 0 rfl) ?_
  refine va_get (D := G) (ci := 5) (v := .int 1) (C := RX6) (T := TX6) (N := 35) hx hb hts iX_X6 hown hK hP 0 rfl rfl 17 (by decide) (hts _ m_t867) (fun _ h9 => h9) rfl dX6_seed_1 ?_
  refine lv_istore_n (lv' := [(2, .int 1), (0, .ref qm), (1, .int iA)]) hx hb dX6_seed_4 rfl hl (by decide) rfl (fun ls hl => ?_)
  refine lv_aload_n hx hb dX6_seed_5 rfl (lv_at hl 1 rfl) ?_
  refine lv_iload_n hx hb dX6_seed_6 rfl (lv_at hl 2 rfl) ?_
  refine va_put (D := G) (ci := 5) (v := .int iA) (ty := .int) (C := RX6) (T := TX6) (N := 35) hx hb hts iX_X6 tyX6 tyX6_ok nmX6 hown hK hP hD hS 0 rfl rfl 17 (by decide) (hts _ m_t867) (fun _ h9 => h9) rfl (by decide +kernel) rfl rfl (Nat.le_of_ble_eq_true rfl) dX6_seed_7 (fun H locs hP hD hS => ?_)
  have hP : va_P G CL [(qm, .inr (5, [.ref qms, .ref qmo, .ref qmz, .ref qmR, .ref qmv, .ref qmk, .ref qmb, .ref qmt, .int 0, .ref qmr, .int 0, .ref qmB, .int 0, .ref qmO, .ref qmK, .int 0, .int 0, .int iA, .null, .null, .int 0, .int 0, .int 0, .long 0, .int 0, .ref qm_three, .int 0, .int 0, .int 0, .null, .ref qm_unread, .ref qm_tryRow, .ref qm_bestRow, .ref qm_steps, .int 0]))] H := hP
  have hD : va_D A [(qm, .inr (5, [.ref qms, .ref qmo, .ref qmz, .ref qmR, .ref qmv, .ref qmk, .ref qmb, .ref qmt, .int 0, .ref qmr, .int 0, .ref qmB, .int 0, .ref qmO, .ref qmK, .int 0, .int 0, .int iA, .null, .null, .int 0, .int 0, .int 0, .long 0, .int 0, .ref qm_three, .int 0, .int 0, .int 0, .null, .ref qm_unread, .ref qm_tryRow, .ref qm_bestRow, .ref qm_steps, .int 0]))] := hD
  refine lv_iload_n hx hb dX6_seed_10 rfl (lv_at hl 0 rfl) ?_
  exact endW (u := []) hx hb hr hlocks rfl va_P0 va_D0 hS ⟨rfl, rfl⟩ dX6_seed_11
set_option maxHeartbeats 4000000 in
set_option maxRecDepth 100000 in
theorem p_X6_back (l : Launch) (G : va_G) (cy : Nat → ClassId) (sz : Nat) (qm : Nat) (qms : Nat) (qmo : Nat) (qmz : Nat) (qmR : Nat) (qmv : Nat) (qmk : Nat) (qmb : Nat) (qmt : Nat) (qmr : Nat) (qmB : Nat) (qmO : Nat) (qmK : Nat) (qm_three : Nat) (qm_unread : Nat) (qm_tryRow : Nat) (qm_bestRow : Nat) (qm_steps : Nat)   : MW l yX6_back cX6_back 1 (some .int) 6 0 0 G cy [(qm, .inr (5, [.ref qms, .ref qmo, .ref qmz, .ref qmR, .ref qmv, .ref qmk, .ref qmb, .ref qmt, .int 0, .ref qmr, .int 0, .ref qmB, .int 0, .ref qmO, .ref qmK, .int 0, .int 0, .int 1, .null, .null, .int 0, .int 0, .int 0, .long 0, .int 0, .ref qm_three, .int 0, .int 0, .int 0, .null, .ref qm_unread, .ref qm_tryRow, .ref qm_bestRow, .ref qm_steps, .int 0])), (qmr, .inl (cy 0, 8, .inl (fun _ => 0)))] sz [.ref qm] (Wi G (fun r u => u = [] ∧ ((r = (-5))))) := by
  refine enW RX6 (by decide) rfl (Nat.le_of_ble_eq_true rfl) (fun p e s m below meth c ls A hx hb hml hown hts hr hlocks hP hN hl hin hD hA hS => ?_)
  have hin : meth.name = _ := hin
  have hK := hN.1
  have hl : lv_has ls 1 [(0, .ref qm)] := hl
  refine lv_aload_n hx hb dX6_back_0 rfl (lv_at hl 0 rfl) ?_
  refine va_get (D := G) (ci := 5) (v := .null) (C := RX6) (T := TX6) (N := 35) hx hb hts iX_X6 hown hK hP 0 rfl rfl 18 (by decide) (hts _ m_t868) (fun _ h9 => h9) rfl dX6_back_1 ?_
  refine lv_ifnonnullN hx hb dX6_back_4 ?_
  refine lv_aload_n hx hb dX6_back_7 rfl (lv_at hl 0 rfl) ?_
  refine lv_bipush (v := (-5)) hx hb dX6_back_8 (by decide) ?_
  refine kWi (wr := []) (rV (As := [.int (-5)]) (rest := []) (b := qm) ⟨hx, hb, hml, hown, hts⟩ (c_X6_refuse5 l G cy (s.heap).size qm (.ref qms) (.ref qmo) (.ref qmz) (.ref qmR) (.ref qmv) (.ref qmk) (.ref qmb) (.ref qmt) (.int 0) qmr (.int 0) (.ref qmB) (.int 0) (.ref qmO) (.ref qmK) (.int 0) (.int 0) (.int 1) .null .null (.int 0) (.int 0) (.int 0) (.long 0) (.int 0) (.ref qm_three) (.int 0) (.int 0) (.int 0) .null (.ref qm_unread) (.ref qm_tryRow) (.ref qm_bestRow) (.ref qm_steps) (.int 0) (fun _ => 0)) L_X6_91 (preWV (q := (RX6, TX6, 35)) hN hP hD [0, 1] rfl (by decide) 0 5 rfl rfl) rfl ⟨Nat.le_of_ble_eq_true rfl, Nat.le_of_ble_eq_true rfl⟩ hl.1 (Nat.le_of_ble_eq_true rfl) dX6_back_10 ⟨Nat.le_of_ble_eq_true rfl, Nat.le_of_ble_eq_true rfl⟩) hP hD hS hA [0, 1] [] rfl rfl (by decide) (by decide) (fun r_1 u_3 H locs h_2 hP hD hS => ?_)
  obtain ⟨rfl, h_2⟩ := h_2
  have hP : va_P G CL [(qm, .inr (5, [.ref qms, .ref qmo, .ref qmz, .ref qmR, .ref qmv, .ref qmk, .ref qmb, .ref qmt, .int 0, .ref qmr, .int 0, .ref qmB, .int 0, .ref qmO, .ref qmK, .int 0, .int 0, .int 1, .null, .null, .int 0, .int 0, .int 0, .long 0, .int 0, .ref qm_three, .int 0, .int 0, .int 0, .null, .ref qm_unread, .ref qm_tryRow, .ref qm_bestRow, .ref qm_steps, .int 0]))] H := hP
  have hD : va_D A [(qm, .inr (5, [.ref qms, .ref qmo, .ref qmz, .ref qmR, .ref qmv, .ref qmk, .ref qmb, .ref qmt, .int 0, .ref qmr, .int 0, .ref qmB, .int 0, .ref qmO, .ref qmK, .int 0, .int 0, .int 1, .null, .null, .int 0, .int 0, .int 0, .long 0, .int 0, .ref qm_three, .int 0, .int 0, .int 0, .null, .ref qm_unread, .ref qm_tryRow, .ref qm_bestRow, .ref qm_steps, .int 0]))] := hD
  subst h_2
  exact endW (u := []) hx hb hr hlocks rfl va_P0 va_D0 hS ⟨rfl, rfl⟩ dX6_back_13
set_option maxHeartbeats 4000000 in
set_option maxRecDepth 100000 in
theorem p_X6_status (l : Launch) (G : va_G) (cy : Nat → ClassId) (sz : Nat) (qm : Nat) (qms : Nat) (qmo : Nat) (qmz : Nat) (qmR : Nat) (qmv : Nat) (qmk : Nat) (qmb : Nat) (qmt : Nat) (qmr : Nat) (qmB : Nat) (qmO : Nat) (qmK : Nat) (qm_three : Nat) (qm_unread : Nat) (qm_tryRow : Nat) (qm_bestRow : Nat) (qm_steps : Nat) (iA : Int32)   : MW l yX6_status cX6_status 4 (some .int) 6 0 0 G cy [(qm, .inr (5, [.ref qms, .ref qmo, .ref qmz, .ref qmR, .ref qmv, .ref qmk, .ref qmb, .ref qmt, .int 0, .ref qmr, .int 0, .ref qmB, .int 0, .ref qmO, .ref qmK, .int 0, .int 0, .int 1, .null, .null, .int 0, .int 0, .int 0, .long 0, .int 0, .ref qm_three, .int 0, .int 0, .int 0, .null, .ref qm_unread, .ref qm_tryRow, .ref qm_bestRow, .ref qm_steps, .int 0])), (qms, .inl (cy 0, 8, .inl (fun _ => 0))), (qmr, .inl (cy 0, 8, .inl (fun _ => 0)))] sz [.ref qm, .int iA] (Wi G (fun r u => u = [] ∧ ((r = (sp_status iA))))) := by
  refine enW RX6 (by decide) rfl (Nat.le_of_ble_eq_true rfl) (fun p e s m below meth c ls A hx hb hml hown hts hr hlocks hP hN hl hin hD hA hS => ?_)
  have hin : meth.name = _ := hin
  have hK := hN.1
  have hl : lv_has ls 4 [(0, .ref qm), (1, .int iA)] := hl
  refine lv_iload_n hx hb dX6_status_0 rfl (lv_at hl 1 rfl) ?_
  rcases sw_0_8 iA with rfl | rfl | rfl | rfl | rfl | rfl | rfl | rfl | rfl | h_1
  · refine lv_tableIn (tgt := 52) (off := 51) hx hb dX6_status_1 (by decide) (by decide) (by decide) (by decide) ?_
    refine lv_aload_n hx hb dX6_status_52 rfl (lv_at hl 0 rfl) ?_
    refine va_get (D := G) (ci := 5) (v := .int 0) (C := RX6) (T := TX6) (N := 35) hx hb hts iX_X6 hown hK hP 0 rfl rfl 10 (by decide) (hts _ m_t860) (fun _ h9 => h9) rfl dX6_status_53 ?_
    exact endW (u := []) hx hb hr hlocks rfl va_P0 va_D0 hS ⟨rfl, (by first | (simp [sp_status, Iv]; done) | (unfold sp_status; decide))⟩ dX6_status_56
  · refine lv_tableIn (tgt := 57) (off := 56) hx hb dX6_status_1 (by decide) (by decide) (by decide) (by decide) ?_
    refine lv_aload_n hx hb dX6_status_57 rfl (lv_at hl 0 rfl) ?_
    refine kRi (rV (As := []) (rest := []) (b := qm) ⟨hx, hb, hml, hown, hts⟩ (c_X6_whiteMany l G cy qm (.ref qms) (.ref qmo) (.ref qmz) (.ref qmR) (.ref qmv) (.ref qmk) (.ref qmb) (.ref qmt) (.int 0) (.ref qmr) (.ref qmB) (.int 0) (.ref qmO) (.ref qmK) (.int 0) (.int 0) (.int 1) .null .null (.int 0) (.int 0) (.int 0) (.long 0) (.int 0) (.ref qm_three) (.int 0) (.int 0) (.int 0) .null (.ref qm_unread) (.ref qm_tryRow) (.ref qm_bestRow) (.ref qm_steps) (.int 0)) L_X6_308 (preRV (q := (RX6, TX6, 35)) hN hP [0] rfl 0 5 rfl rfl) rfl ⟨Nat.le_of_ble_eq_true rfl, Nat.le_of_ble_eq_true rfl⟩ hl.1 (Nat.le_of_ble_eq_true rfl) dX6_status_58 ⟨Nat.le_of_ble_eq_true rfl, Nat.le_of_ble_eq_true rfl⟩) (fun r_2 h_3 => ?_)
    subst h_3
    exact endW (u := []) hx hb hr hlocks rfl va_P0 va_D0 hS ⟨rfl, (by first | (simp [sp_status, Iv]; done) | (unfold sp_status; decide))⟩ dX6_status_61
  · refine lv_tableIn (tgt := 62) (off := 61) hx hb dX6_status_1 (by decide) (by decide) (by decide) (by decide) ?_
    refine lv_aload_n hx hb dX6_status_62 rfl (lv_at hl 0 rfl) ?_
    refine va_get (D := G) (ci := 5) (v := .int 0) (C := RX6) (T := TX6) (N := 35) hx hb hts iX_X6 hown hK hP 0 rfl rfl 12 (by decide) (hts _ m_t862) (fun _ h9 => h9) rfl dX6_status_63 ?_
    exact endW (u := []) hx hb hr hlocks rfl va_P0 va_D0 hS ⟨rfl, (by first | (simp [sp_status, Iv]; done) | (unfold sp_status; decide))⟩ dX6_status_66
  · refine lv_tableIn (tgt := 67) (off := 66) hx hb dX6_status_1 (by decide) (by decide) (by decide) (by decide) ?_
    refine lv_aload_n hx hb dX6_status_67 rfl (lv_at hl 0 rfl) ?_
    refine va_get (D := G) (ci := 5) (v := .int 0) (C := RX6) (T := TX6) (N := 35) hx hb hts iX_X6 hown hK hP 0 rfl rfl 12 (by decide) (hts _ m_t862) (fun _ h9 => h9) rfl dX6_status_68 ?_
    refine lv_aload_n hx hb dX6_status_71 rfl (lv_at hl 0 rfl) ?_
    refine kRi (rV (As := []) (rest := [.int 0]) (b := qm) ⟨hx, hb, hml, hown, hts⟩ (c_X6_thereMany l G cy qm (.ref qms) (.ref qmo) (.ref qmz) (.ref qmR) (.ref qmv) (.ref qmk) (.ref qmb) (.ref qmt) (.int 0) (.ref qmr) (.int 0) (.ref qmB) (.ref qmO) (.ref qmK) (.int 0) (.int 0) (.int 1) .null .null (.int 0) (.int 0) (.int 0) (.long 0) (.int 0) (.ref qm_three) (.int 0) (.int 0) (.int 0) .null (.ref qm_unread) (.ref qm_tryRow) (.ref qm_bestRow) (.ref qm_steps) (.int 0)) L_X6_275 (preRV (q := (RX6, TX6, 35)) hN hP [0] rfl 0 5 rfl rfl) rfl ⟨Nat.le_of_ble_eq_true rfl, Nat.le_of_ble_eq_true rfl⟩ hl.1 (Nat.le_of_ble_eq_true rfl) dX6_status_72 ⟨Nat.le_of_ble_eq_true rfl, Nat.le_of_ble_eq_true rfl⟩) (fun r_4 h_5 => ?_)
    subst h_5
    refine lv_isub hx hb dX6_status_75 ?_
    refine lv_seti (v := 0) (by decide) ?_
    exact endW (u := []) hx hb hr hlocks rfl va_P0 va_D0 hS ⟨rfl, (by first | (simp [sp_status, Iv]; done) | (unfold sp_status; decide))⟩ dX6_status_76
  · refine lv_tableIn (tgt := 77) (off := 76) hx hb dX6_status_1 (by decide) (by decide) (by decide) (by decide) ?_
    refine lv_aload_n hx hb dX6_status_77 rfl (lv_at hl 0 rfl) ?_
    refine va_get (D := G) (ci := 5) (v := .int 0) (C := RX6) (T := TX6) (N := 35) hx hb hts iX_X6 hown hK hP 0 rfl rfl 15 (by decide) (hts _ m_t865) (fun _ h9 => h9) rfl dX6_status_78 ?_
    exact endW (u := []) hx hb hr hlocks rfl va_P0 va_D0 hS ⟨rfl, (by first | (simp [sp_status, Iv]; done) | (unfold sp_status; decide))⟩ dX6_status_81
  · refine lv_tableIn (tgt := 82) (off := 81) hx hb dX6_status_1 (by decide) (by decide) (by decide) (by decide) ?_
    refine lv_aload_n hx hb dX6_status_82 rfl (lv_at hl 0 rfl) ?_
    refine va_get (D := G) (ci := 5) (v := .int 0) (C := RX6) (T := TX6) (N := 35) hx hb hts iX_X6 hown hK hP 0 rfl rfl 16 (by decide) (hts _ m_t866) (fun _ h9 => h9) rfl dX6_status_83 ?_
    exact endW (u := []) hx hb hr hlocks rfl va_P0 va_D0 hS ⟨rfl, (by first | (simp [sp_status, Iv]; done) | (unfold sp_status; decide))⟩ dX6_status_86
  · refine lv_tableIn (tgt := 87) (off := 86) hx hb dX6_status_1 (by decide) (by decide) (by decide) (by decide) ?_
    refine lv_aload_n hx hb dX6_status_87 rfl (lv_at hl 0 rfl) ?_
    refine va_get (D := G) (ci := 5) (v := .int 0) (C := RX6) (T := TX6) (N := 35) hx hb hts iX_X6 hown hK hP 0 rfl rfl 8 (by decide) (hts _ m_t858) (fun _ h9 => h9) rfl dX6_status_88 ?_
    exact endW (u := []) hx hb hr hlocks rfl va_P0 va_D0 hS ⟨rfl, (by first | (simp [sp_status, Iv]; done) | (unfold sp_status; decide))⟩ dX6_status_91
  · refine lv_tableIn (tgt := 92) (off := 91) hx hb dX6_status_1 (by decide) (by decide) (by decide) (by decide) ?_
    refine lv_aload_n hx hb dX6_status_92 rfl (lv_at hl 0 rfl) ?_
    refine va_get (D := G) (ci := 5) (v := .int 1) (C := RX6) (T := TX6) (N := 35) hx hb hts iX_X6 hown hK hP 0 rfl rfl 17 (by decide) (hts _ m_t867) (fun _ h9 => h9) rfl dX6_status_93 ?_
    exact endW (u := []) hx hb hr hlocks rfl va_P0 va_D0 hS ⟨rfl, (by first | (simp [sp_status, Iv]; done) | (unfold sp_status; decide))⟩ dX6_status_96
  · refine lv_tableIn (tgt := 97) (off := 96) hx hb dX6_status_1 (by decide) (by decide) (by decide) (by decide) ?_
    refine lv_iconst (v := 0) hx hb dX6_status_97 (by decide) ?_
    refine lv_istore_n (lv' := [(2, .int 0), (0, .ref qm), (1, .int 8)]) hx hb dX6_status_98 rfl hl (by decide) rfl (fun ls hl => ?_)
    refine lv_iconst (v := 0) hx hb dX6_status_99 (by decide) ?_
    refine lv_istore_n (lv' := [(3, .int 0), (2, .int 0), (0, .ref qm), (1, .int 8)]) hx hb dX6_status_100 rfl hl (by decide) rfl (fun ls hl => ?_)
    refine lv_iload_n hx hb dX6_status_101 rfl (lv_at hl 0 rfl) ?_
    refine lv_bipush (v := 8) hx hb dX6_status_102 (by decide) ?_
    refine lv_icmp_ge (tgt := 130) hx hb dX6_status_104 (by decide) (fun h9 => absurd h9 (by decide)) (fun _ => ?_)
    refine lv_iload_n hx hb dX6_status_107 rfl (lv_at hl 1 rfl) ?_
    refine lv_aload_n hx hb dX6_status_108 rfl (lv_at hl 2 rfl) ?_
    refine va_get (D := G) (ci := 5) (v := .ref qms) (C := RX6) (T := TX6) (N := 35) hx hb hts iX_X6 hown hK hP 0 rfl rfl 0 (by decide) (hts _ m_t850) (fun _ h9 => h9) rfl dX6_status_109 ?_
    refine lv_iload_n hx hb dX6_status_112 rfl (lv_at hl 0 rfl) ?_
    refine va_iald hx hb hK hP 1 0 rfl rfl (in_c rfl) dX6_status_113 ?_
    refine lv_seti (v := 0) (rfl) ?_
    refine lv_if_eq (tgt := 121) hx hb dX6_status_114 (by decide) (fun _ => ?_) (fun h9 => absurd (by decide) h9)
    refine lv_iconst (v := 0) hx hb dX6_status_121 (by decide) ?_
    refine lv_iadd hx hb dX6_status_122 ?_
    refine lv_seti (v := 0) (by decide) ?_
    refine lv_istore_n (lv' := [(2, .int 0), (3, .int 0), (0, .ref qm), (1, .int 8)]) hx hb dX6_status_123 rfl hl (by decide) rfl (fun ls hl => ?_)
    refine lv_iinc (v := 1) (lv' := [(3, .int 1), (2, .int 0), (0, .ref qm), (1, .int 8)]) hx hb dX6_status_124 hl (k := 1) rfl (by decide) (by decide) rfl (fun ls hl => ?_)
    refine lv_goto (tgt := 101) hx hb dX6_status_127 (by decide) ?_
    refine lv_iload_n hx hb dX6_status_101 rfl (lv_at hl 0 rfl) ?_
    refine lv_bipush (v := 8) hx hb dX6_status_102 (by decide) ?_
    refine lv_icmp_ge (tgt := 130) hx hb dX6_status_104 (by decide) (fun h9 => absurd h9 (by decide)) (fun _ => ?_)
    refine lv_iload_n hx hb dX6_status_107 rfl (lv_at hl 1 rfl) ?_
    refine lv_aload_n hx hb dX6_status_108 rfl (lv_at hl 2 rfl) ?_
    refine va_get (D := G) (ci := 5) (v := .ref qms) (C := RX6) (T := TX6) (N := 35) hx hb hts iX_X6 hown hK hP 0 rfl rfl 0 (by decide) (hts _ m_t850) (fun _ h9 => h9) rfl dX6_status_109 ?_
    refine lv_iload_n hx hb dX6_status_112 rfl (lv_at hl 0 rfl) ?_
    refine va_iald hx hb hK hP 1 0 rfl rfl (in_c rfl) dX6_status_113 ?_
    refine lv_seti (v := 0) (rfl) ?_
    refine lv_if_eq (tgt := 121) hx hb dX6_status_114 (by decide) (fun _ => ?_) (fun h9 => absurd (by decide) h9)
    refine lv_iconst (v := 0) hx hb dX6_status_121 (by decide) ?_
    refine lv_iadd hx hb dX6_status_122 ?_
    refine lv_seti (v := 0) (by decide) ?_
    refine lv_istore_n (lv' := [(2, .int 0), (3, .int 1), (0, .ref qm), (1, .int 8)]) hx hb dX6_status_123 rfl hl (by decide) rfl (fun ls hl => ?_)
    refine lv_iinc (v := 2) (lv' := [(3, .int 2), (2, .int 0), (0, .ref qm), (1, .int 8)]) hx hb dX6_status_124 hl (k := 1) rfl (by decide) (by decide) rfl (fun ls hl => ?_)
    refine lv_goto (tgt := 101) hx hb dX6_status_127 (by decide) ?_
    refine lv_iload_n hx hb dX6_status_101 rfl (lv_at hl 0 rfl) ?_
    refine lv_bipush (v := 8) hx hb dX6_status_102 (by decide) ?_
    refine lv_icmp_ge (tgt := 130) hx hb dX6_status_104 (by decide) (fun h9 => absurd h9 (by decide)) (fun _ => ?_)
    refine lv_iload_n hx hb dX6_status_107 rfl (lv_at hl 1 rfl) ?_
    refine lv_aload_n hx hb dX6_status_108 rfl (lv_at hl 2 rfl) ?_
    refine va_get (D := G) (ci := 5) (v := .ref qms) (C := RX6) (T := TX6) (N := 35) hx hb hts iX_X6 hown hK hP 0 rfl rfl 0 (by decide) (hts _ m_t850) (fun _ h9 => h9) rfl dX6_status_109 ?_
    refine lv_iload_n hx hb dX6_status_112 rfl (lv_at hl 0 rfl) ?_
    refine va_iald hx hb hK hP 1 0 rfl rfl (in_c rfl) dX6_status_113 ?_
    refine lv_seti (v := 0) (rfl) ?_
    refine lv_if_eq (tgt := 121) hx hb dX6_status_114 (by decide) (fun _ => ?_) (fun h9 => absurd (by decide) h9)
    refine lv_iconst (v := 0) hx hb dX6_status_121 (by decide) ?_
    refine lv_iadd hx hb dX6_status_122 ?_
    refine lv_seti (v := 0) (by decide) ?_
    refine lv_istore_n (lv' := [(2, .int 0), (3, .int 2), (0, .ref qm), (1, .int 8)]) hx hb dX6_status_123 rfl hl (by decide) rfl (fun ls hl => ?_)
    refine lv_iinc (v := 3) (lv' := [(3, .int 3), (2, .int 0), (0, .ref qm), (1, .int 8)]) hx hb dX6_status_124 hl (k := 1) rfl (by decide) (by decide) rfl (fun ls hl => ?_)
    refine lv_goto (tgt := 101) hx hb dX6_status_127 (by decide) ?_
    refine lv_iload_n hx hb dX6_status_101 rfl (lv_at hl 0 rfl) ?_
    refine lv_bipush (v := 8) hx hb dX6_status_102 (by decide) ?_
    refine lv_icmp_ge (tgt := 130) hx hb dX6_status_104 (by decide) (fun h9 => absurd h9 (by decide)) (fun _ => ?_)
    refine lv_iload_n hx hb dX6_status_107 rfl (lv_at hl 1 rfl) ?_
    refine lv_aload_n hx hb dX6_status_108 rfl (lv_at hl 2 rfl) ?_
    refine va_get (D := G) (ci := 5) (v := .ref qms) (C := RX6) (T := TX6) (N := 35) hx hb hts iX_X6 hown hK hP 0 rfl rfl 0 (by decide) (hts _ m_t850) (fun _ h9 => h9) rfl dX6_status_109 ?_
    refine lv_iload_n hx hb dX6_status_112 rfl (lv_at hl 0 rfl) ?_
    refine va_iald hx hb hK hP 1 0 rfl rfl (in_c rfl) dX6_status_113 ?_
    refine lv_seti (v := 0) (rfl) ?_
    refine lv_if_eq (tgt := 121) hx hb dX6_status_114 (by decide) (fun _ => ?_) (fun h9 => absurd (by decide) h9)
    refine lv_iconst (v := 0) hx hb dX6_status_121 (by decide) ?_
    refine lv_iadd hx hb dX6_status_122 ?_
    refine lv_seti (v := 0) (by decide) ?_
    refine lv_istore_n (lv' := [(2, .int 0), (3, .int 3), (0, .ref qm), (1, .int 8)]) hx hb dX6_status_123 rfl hl (by decide) rfl (fun ls hl => ?_)
    refine lv_iinc (v := 4) (lv' := [(3, .int 4), (2, .int 0), (0, .ref qm), (1, .int 8)]) hx hb dX6_status_124 hl (k := 1) rfl (by decide) (by decide) rfl (fun ls hl => ?_)
    refine lv_goto (tgt := 101) hx hb dX6_status_127 (by decide) ?_
    refine lv_iload_n hx hb dX6_status_101 rfl (lv_at hl 0 rfl) ?_
    refine lv_bipush (v := 8) hx hb dX6_status_102 (by decide) ?_
    refine lv_icmp_ge (tgt := 130) hx hb dX6_status_104 (by decide) (fun h9 => absurd h9 (by decide)) (fun _ => ?_)
    refine lv_iload_n hx hb dX6_status_107 rfl (lv_at hl 1 rfl) ?_
    refine lv_aload_n hx hb dX6_status_108 rfl (lv_at hl 2 rfl) ?_
    refine va_get (D := G) (ci := 5) (v := .ref qms) (C := RX6) (T := TX6) (N := 35) hx hb hts iX_X6 hown hK hP 0 rfl rfl 0 (by decide) (hts _ m_t850) (fun _ h9 => h9) rfl dX6_status_109 ?_
    refine lv_iload_n hx hb dX6_status_112 rfl (lv_at hl 0 rfl) ?_
    refine va_iald hx hb hK hP 1 0 rfl rfl (in_c rfl) dX6_status_113 ?_
    refine lv_seti (v := 0) (rfl) ?_
    refine lv_if_eq (tgt := 121) hx hb dX6_status_114 (by decide) (fun _ => ?_) (fun h9 => absurd (by decide) h9)
    refine lv_iconst (v := 0) hx hb dX6_status_121 (by decide) ?_
    refine lv_iadd hx hb dX6_status_122 ?_
    refine lv_seti (v := 0) (by decide) ?_
    refine lv_istore_n (lv' := [(2, .int 0), (3, .int 4), (0, .ref qm), (1, .int 8)]) hx hb dX6_status_123 rfl hl (by decide) rfl (fun ls hl => ?_)
    refine lv_iinc (v := 5) (lv' := [(3, .int 5), (2, .int 0), (0, .ref qm), (1, .int 8)]) hx hb dX6_status_124 hl (k := 1) rfl (by decide) (by decide) rfl (fun ls hl => ?_)
    refine lv_goto (tgt := 101) hx hb dX6_status_127 (by decide) ?_
    refine lv_iload_n hx hb dX6_status_101 rfl (lv_at hl 0 rfl) ?_
    refine lv_bipush (v := 8) hx hb dX6_status_102 (by decide) ?_
    refine lv_icmp_ge (tgt := 130) hx hb dX6_status_104 (by decide) (fun h9 => absurd h9 (by decide)) (fun _ => ?_)
    refine lv_iload_n hx hb dX6_status_107 rfl (lv_at hl 1 rfl) ?_
    refine lv_aload_n hx hb dX6_status_108 rfl (lv_at hl 2 rfl) ?_
    refine va_get (D := G) (ci := 5) (v := .ref qms) (C := RX6) (T := TX6) (N := 35) hx hb hts iX_X6 hown hK hP 0 rfl rfl 0 (by decide) (hts _ m_t850) (fun _ h9 => h9) rfl dX6_status_109 ?_
    refine lv_iload_n hx hb dX6_status_112 rfl (lv_at hl 0 rfl) ?_
    refine va_iald hx hb hK hP 1 0 rfl rfl (in_c rfl) dX6_status_113 ?_
    refine lv_seti (v := 0) (rfl) ?_
    refine lv_if_eq (tgt := 121) hx hb dX6_status_114 (by decide) (fun _ => ?_) (fun h9 => absurd (by decide) h9)
    refine lv_iconst (v := 0) hx hb dX6_status_121 (by decide) ?_
    refine lv_iadd hx hb dX6_status_122 ?_
    refine lv_seti (v := 0) (by decide) ?_
    refine lv_istore_n (lv' := [(2, .int 0), (3, .int 5), (0, .ref qm), (1, .int 8)]) hx hb dX6_status_123 rfl hl (by decide) rfl (fun ls hl => ?_)
    refine lv_iinc (v := 6) (lv' := [(3, .int 6), (2, .int 0), (0, .ref qm), (1, .int 8)]) hx hb dX6_status_124 hl (k := 1) rfl (by decide) (by decide) rfl (fun ls hl => ?_)
    refine lv_goto (tgt := 101) hx hb dX6_status_127 (by decide) ?_
    refine lv_iload_n hx hb dX6_status_101 rfl (lv_at hl 0 rfl) ?_
    refine lv_bipush (v := 8) hx hb dX6_status_102 (by decide) ?_
    refine lv_icmp_ge (tgt := 130) hx hb dX6_status_104 (by decide) (fun h9 => absurd h9 (by decide)) (fun _ => ?_)
    refine lv_iload_n hx hb dX6_status_107 rfl (lv_at hl 1 rfl) ?_
    refine lv_aload_n hx hb dX6_status_108 rfl (lv_at hl 2 rfl) ?_
    refine va_get (D := G) (ci := 5) (v := .ref qms) (C := RX6) (T := TX6) (N := 35) hx hb hts iX_X6 hown hK hP 0 rfl rfl 0 (by decide) (hts _ m_t850) (fun _ h9 => h9) rfl dX6_status_109 ?_
    refine lv_iload_n hx hb dX6_status_112 rfl (lv_at hl 0 rfl) ?_
    refine va_iald hx hb hK hP 1 0 rfl rfl (in_c rfl) dX6_status_113 ?_
    refine lv_seti (v := 0) (rfl) ?_
    refine lv_if_eq (tgt := 121) hx hb dX6_status_114 (by decide) (fun _ => ?_) (fun h9 => absurd (by decide) h9)
    refine lv_iconst (v := 0) hx hb dX6_status_121 (by decide) ?_
    refine lv_iadd hx hb dX6_status_122 ?_
    refine lv_seti (v := 0) (by decide) ?_
    refine lv_istore_n (lv' := [(2, .int 0), (3, .int 6), (0, .ref qm), (1, .int 8)]) hx hb dX6_status_123 rfl hl (by decide) rfl (fun ls hl => ?_)
    refine lv_iinc (v := 7) (lv' := [(3, .int 7), (2, .int 0), (0, .ref qm), (1, .int 8)]) hx hb dX6_status_124 hl (k := 1) rfl (by decide) (by decide) rfl (fun ls hl => ?_)
    refine lv_goto (tgt := 101) hx hb dX6_status_127 (by decide) ?_
    refine lv_iload_n hx hb dX6_status_101 rfl (lv_at hl 0 rfl) ?_
    refine lv_bipush (v := 8) hx hb dX6_status_102 (by decide) ?_
    refine lv_icmp_ge (tgt := 130) hx hb dX6_status_104 (by decide) (fun h9 => absurd h9 (by decide)) (fun _ => ?_)
    refine lv_iload_n hx hb dX6_status_107 rfl (lv_at hl 1 rfl) ?_
    refine lv_aload_n hx hb dX6_status_108 rfl (lv_at hl 2 rfl) ?_
    refine va_get (D := G) (ci := 5) (v := .ref qms) (C := RX6) (T := TX6) (N := 35) hx hb hts iX_X6 hown hK hP 0 rfl rfl 0 (by decide) (hts _ m_t850) (fun _ h9 => h9) rfl dX6_status_109 ?_
    refine lv_iload_n hx hb dX6_status_112 rfl (lv_at hl 0 rfl) ?_
    refine va_iald hx hb hK hP 1 0 rfl rfl (in_c rfl) dX6_status_113 ?_
    refine lv_seti (v := 0) (rfl) ?_
    refine lv_if_eq (tgt := 121) hx hb dX6_status_114 (by decide) (fun _ => ?_) (fun h9 => absurd (by decide) h9)
    refine lv_iconst (v := 0) hx hb dX6_status_121 (by decide) ?_
    refine lv_iadd hx hb dX6_status_122 ?_
    refine lv_seti (v := 0) (by decide) ?_
    refine lv_istore_n (lv' := [(2, .int 0), (3, .int 7), (0, .ref qm), (1, .int 8)]) hx hb dX6_status_123 rfl hl (by decide) rfl (fun ls hl => ?_)
    refine lv_iinc (v := 8) (lv' := [(3, .int 8), (2, .int 0), (0, .ref qm), (1, .int 8)]) hx hb dX6_status_124 hl (k := 1) rfl (by decide) (by decide) rfl (fun ls hl => ?_)
    refine lv_goto (tgt := 101) hx hb dX6_status_127 (by decide) ?_
    refine lv_iload_n hx hb dX6_status_101 rfl (lv_at hl 0 rfl) ?_
    refine lv_bipush (v := 8) hx hb dX6_status_102 (by decide) ?_
    refine lv_icmp_ge (tgt := 130) hx hb dX6_status_104 (by decide) (fun _ => ?_) (fun h9 => absurd (by decide) h9)
    refine lv_iload_n hx hb dX6_status_130 rfl (lv_at hl 1 rfl) ?_
    exact endW (u := []) hx hb hr hlocks rfl va_P0 va_D0 hS ⟨rfl, (by first | (simp [sp_status, Iv]; done) | (unfold sp_status; decide))⟩ dX6_status_131
  · refine lv_tableOut (tgt := 132) hx hb dX6_status_1 h_1 (by decide) ?_
    refine lv_iload_n hx hb dX6_status_132 rfl (lv_at hl 1 rfl) ?_
    refine lv_i2l (v := iA.toInt64) hx hb dX6_status_133 rfl ?_
    refine lv_ldc2 hx hb hown (hts _ m_t1390) dX6_status_134 ?_
    refine lv_ldc2 hx hb hown (hts _ m_t1391) dX6_status_137 ?_
    refine kRi (rS (As := [.long iA.toInt64, .long 12, .long 16]) (rest := []) ⟨hx, hb, hml, hown, hts⟩ (c_X6_in l G cy iA.toInt64 12 16) L_X6_74 (preRS hN hP [] rfl) rfl ⟨Nat.le_of_ble_eq_true rfl, Nat.le_of_ble_eq_true rfl⟩ hl.1 (Nat.le_of_ble_eq_true rfl) dX6_status_140 ⟨Nat.le_of_ble_eq_true rfl, Nat.le_of_ble_eq_true rfl⟩) (fun r_23 h_24 => ?_)
    rcases h_24 with ⟨rfl, h_25⟩ | ⟨rfl, h_25⟩
    · refine lv_if_eq (tgt := 158) hx hb dX6_status_143 (by decide) (fun h9 => absurd h9 (by decide)) (fun _ => ?_)
      refine lv_aload_n hx hb dX6_status_146 rfl (lv_at hl 0 rfl) ?_
      refine va_get (D := G) (ci := 5) (v := .ref qmr) (C := RX6) (T := TX6) (N := 35) hx hb hts iX_X6 hown hK hP 0 rfl rfl 9 (by decide) (hts _ m_t859) (fun _ h9 => h9) rfl dX6_status_147 ?_
      refine lv_iload_n hx hb dX6_status_150 rfl (lv_at hl 1 rfl) ?_
      refine lv_bipush (v := 10) hx hb dX6_status_151 (by decide) ?_
      refine lv_isub hx hb dX6_status_153 ?_
      refine va_iald hx hb hK hP 2 0 rfl rfl (st_in8 h_25) dX6_status_154 ?_
      refine lv_seti (v := 0) rfl ?_
      refine lv_goto (tgt := 159) hx hb dX6_status_155 (by decide) ?_
      exact endW (u := []) hx hb hr hlocks rfl va_P0 va_D0 hS ⟨rfl, (by first | (simp [sp_status, Iv, h_1, h_25, sw_no7 h_1, sw_noIn h_1, st_no7 h_25]; done) | (unfold sp_status; decide))⟩ dX6_status_159
    · refine lv_if_eq (tgt := 158) hx hb dX6_status_143 (by decide) (fun _ => ?_) (fun h9 => absurd (by decide) h9)
      refine lv_iconst (v := (-1)) hx hb dX6_status_158 (by decide) ?_
      exact endW (u := []) hx hb hr hlocks rfl va_P0 va_D0 hS ⟨rfl, (by first | (simp [sp_status, Iv, h_1, h_25, sw_no7 h_1, sw_noIn h_1]; done) | (unfold sp_status; decide))⟩ dX6_status_159
set_option maxHeartbeats 4000000 in
set_option maxRecDepth 100000 in
theorem p_X6_left (l : Launch) (G : va_G) (cy : Nat → ClassId) (sz : Nat) (qm : Nat) (qms : Nat) (qmo : Nat) (qmz : Nat) (qmR : Nat) (qmv : Nat) (qmk : Nat) (qmb : Nat) (qmt : Nat) (qmr : Nat) (qmB : Nat) (qmO : Nat) (qmK : Nat) (qm_three : Nat) (qm_unread : Nat) (qm_tryRow : Nat) (qm_bestRow : Nat) (qm_steps : Nat) (iA : Int32) (iB : Int32) (iC : Int32)   : MW l yX6_left cX6_left 4 (some .int) 6 0 0 G cy [(qm, .inr (5, [.ref qms, .ref qmo, .ref qmz, .ref qmR, .ref qmv, .ref qmk, .ref qmb, .ref qmt, .int 0, .ref qmr, .int 0, .ref qmB, .int 0, .ref qmO, .ref qmK, .int 0, .int 0, .int 1, .null, .null, .int 0, .int 0, .int 0, .long 0, .int 0, .ref qm_three, .int 0, .int 0, .int 0, .null, .ref qm_unread, .ref qm_tryRow, .ref qm_bestRow, .ref qm_steps, .int 0])), (qmr, .inl (cy 0, 8, .inl (fun _ => 0)))] sz [.ref qm, .int iA, .int iB, .int iC] (Wi G (fun r u => u = [] ∧ ((r = (sp_left iA iB iC))))) := by
  refine enW RX6 (by decide) rfl (Nat.le_of_ble_eq_true rfl) (fun p e s m below meth c ls A hx hb hml hown hts hr hlocks hP hN hl hin hD hA hS => ?_)
  have hin : meth.name = _ := hin
  have hK := hN.1
  have hl : lv_has ls 4 [(0, .ref qm), (1, .int iA), (2, .int iB), (3, .int iC)] := hl
  refine lv_iload_n hx hb dX6_left_0 rfl (lv_at hl 1 rfl) ?_
  refine lv_i2l (v := iA.toInt64) hx hb dX6_left_1 rfl ?_
  refine lv_lconst (v := 0) hx hb dX6_left_2 (by decide) ?_
  refine lv_ldc2 hx hb hown (hts _ m_t1199) dX6_left_3 ?_
  refine kRi (rS (As := [.long iA.toInt64, .long 0, .long 1000]) (rest := []) ⟨hx, hb, hml, hown, hts⟩ (c_X6_in l G cy iA.toInt64 0 1000) L_X6_74 (preRS hN hP [] rfl) rfl ⟨Nat.le_of_ble_eq_true rfl, Nat.le_of_ble_eq_true rfl⟩ hl.1 (Nat.le_of_ble_eq_true rfl) dX6_left_6 ⟨Nat.le_of_ble_eq_true rfl, Nat.le_of_ble_eq_true rfl⟩) (fun r_1 h_2 => ?_)
  rcases h_2 with ⟨rfl, h_3⟩ | ⟨rfl, h_3⟩
  · refine lv_if_eq (tgt := 45) hx hb dX6_left_9 (by decide) (fun h9 => absurd h9 (by decide)) (fun _ => ?_)
    refine lv_iload_n hx hb dX6_left_12 rfl (lv_at hl 2 rfl) ?_
    refine lv_i2l (v := iB.toInt64) hx hb dX6_left_13 rfl ?_
    refine lv_lconst (v := 0) hx hb dX6_left_14 (by decide) ?_
    refine lv_ldc2 hx hb hown (hts _ m_t1103) dX6_left_15 ?_
    refine kRi (rS (As := [.long iB.toInt64, .long 0, .long 10]) (rest := []) ⟨hx, hb, hml, hown, hts⟩ (c_X6_in l G cy iB.toInt64 0 10) L_X6_74 (preRS hN hP [] rfl) rfl ⟨Nat.le_of_ble_eq_true rfl, Nat.le_of_ble_eq_true rfl⟩ hl.1 (Nat.le_of_ble_eq_true rfl) dX6_left_18 ⟨Nat.le_of_ble_eq_true rfl, Nat.le_of_ble_eq_true rfl⟩) (fun r_5 h_6 => ?_)
    rcases h_6 with ⟨rfl, h_7⟩ | ⟨rfl, h_7⟩
    · refine lv_if_eq (tgt := 45) hx hb dX6_left_21 (by decide) (fun h9 => absurd h9 (by decide)) (fun _ => ?_)
      refine lv_iload_n hx hb dX6_left_24 rfl (lv_at hl 3 rfl) ?_
      refine lv_i2l (v := iC.toInt64) hx hb dX6_left_25 rfl ?_
      refine lv_lconst (v := 0) hx hb dX6_left_26 (by decide) ?_
      refine lv_ldc2 hx hb hown (hts _ m_t998) dX6_left_27 ?_
      refine kRi (rS (As := [.long iC.toInt64, .long 0, .long 99]) (rest := []) ⟨hx, hb, hml, hown, hts⟩ (c_X6_in l G cy iC.toInt64 0 99) L_X6_74 (preRS hN hP [] rfl) rfl ⟨Nat.le_of_ble_eq_true rfl, Nat.le_of_ble_eq_true rfl⟩ hl.1 (Nat.le_of_ble_eq_true rfl) dX6_left_30 ⟨Nat.le_of_ble_eq_true rfl, Nat.le_of_ble_eq_true rfl⟩) (fun r_9 h_10 => ?_)
      rcases h_10 with ⟨rfl, h_11⟩ | ⟨rfl, h_11⟩
      · refine lv_if_eq (tgt := 45) hx hb dX6_left_33 (by decide) (fun h9 => absurd h9 (by decide)) (fun _ => ?_)
        obtain ⟨k_13, hk_14, rfl⟩ := nI_of99 h_11
        refine lv_iload_n hx hb dX6_left_36 rfl (lv_at hl 1 rfl) ?_
        refine lv_iload_n hx hb dX6_left_37 rfl (lv_at hl 2 rfl) ?_
        refine lv_iload_n hx hb dX6_left_38 rfl (lv_at hl 3 rfl) ?_
        refine kRi (rS (As := [.int iA, .int iB, .int (nI k_13)]) (rest := []) ⟨hx, hb, hml, hown, hts⟩ (c_X6_leftOf l G cy iA iB k_13 (by omega)) L_X6_332 (preRS hN hP [] rfl) rfl ⟨Nat.le_of_ble_eq_true rfl, Nat.le_of_ble_eq_true rfl⟩ hl.1 (Nat.le_of_ble_eq_true rfl) dX6_left_39 ⟨Nat.le_of_ble_eq_true rfl, Nat.le_of_ble_eq_true rfl⟩) (fun r_15 h_16 => ?_)
        subst h_16
        refine lv_goto (tgt := 51) hx hb dX6_left_42 (by decide) ?_
        exact endW (u := []) hx hb hr hlocks rfl va_P0 va_D0 hS ⟨rfl, (by rw [sp_left, if_pos ⟨h_3, h_7, h_11⟩, nI_clamp (by omega)])⟩ dX6_left_51
      · refine lv_if_eq (tgt := 45) hx hb dX6_left_33 (by decide) (fun _ => ?_) (fun h9 => absurd (by decide) h9)
        refine lv_aload_n hx hb dX6_left_45 rfl (lv_at hl 0 rfl) ?_
        refine lv_bipush (v := (-2)) hx hb dX6_left_46 (by decide) ?_
        refine kWi (wr := []) (rV (As := [.int (-2)]) (rest := []) (b := qm) ⟨hx, hb, hml, hown, hts⟩ (c_X6_refuse2 l G cy (s.heap).size qm (.ref qms) (.ref qmo) (.ref qmz) (.ref qmR) (.ref qmv) (.ref qmk) (.ref qmb) (.ref qmt) (.int 0) qmr (.int 0) (.ref qmB) (.int 0) (.ref qmO) (.ref qmK) (.int 0) (.int 0) (.int 1) .null .null (.int 0) (.int 0) (.int 0) (.long 0) (.int 0) (.ref qm_three) (.int 0) (.int 0) (.int 0) .null (.ref qm_unread) (.ref qm_tryRow) (.ref qm_bestRow) (.ref qm_steps) (.int 0) (fun _ => 0)) L_X6_91 (preWV (q := (RX6, TX6, 35)) hN hP hD [0, 1] rfl (by decide) 0 5 rfl rfl) rfl ⟨Nat.le_of_ble_eq_true rfl, Nat.le_of_ble_eq_true rfl⟩ hl.1 (Nat.le_of_ble_eq_true rfl) dX6_left_48 ⟨Nat.le_of_ble_eq_true rfl, Nat.le_of_ble_eq_true rfl⟩) hP hD hS hA [0, 1] [] rfl rfl (by decide) (by decide) (fun r_18 u_20 H locs h_19 hP hD hS => ?_)
        obtain ⟨rfl, h_19⟩ := h_19
        have hP : va_P G CL [(qm, .inr (5, [.ref qms, .ref qmo, .ref qmz, .ref qmR, .ref qmv, .ref qmk, .ref qmb, .ref qmt, .int 0, .ref qmr, .int 0, .ref qmB, .int 0, .ref qmO, .ref qmK, .int 0, .int 0, .int 1, .null, .null, .int 0, .int 0, .int 0, .long 0, .int 0, .ref qm_three, .int 0, .int 0, .int 0, .null, .ref qm_unread, .ref qm_tryRow, .ref qm_bestRow, .ref qm_steps, .int 0]))] H := hP
        have hD : va_D A [(qm, .inr (5, [.ref qms, .ref qmo, .ref qmz, .ref qmR, .ref qmv, .ref qmk, .ref qmb, .ref qmt, .int 0, .ref qmr, .int 0, .ref qmB, .int 0, .ref qmO, .ref qmK, .int 0, .int 0, .int 1, .null, .null, .int 0, .int 0, .int 0, .long 0, .int 0, .ref qm_three, .int 0, .int 0, .int 0, .null, .ref qm_unread, .ref qm_tryRow, .ref qm_bestRow, .ref qm_steps, .int 0]))] := hD
        subst h_19
        exact endW (u := []) hx hb hr hlocks rfl va_P0 va_D0 hS ⟨rfl, (by simp [sp_left, Iv, h_3, h_7, h_11])⟩ dX6_left_51
    · refine lv_if_eq (tgt := 45) hx hb dX6_left_21 (by decide) (fun _ => ?_) (fun h9 => absurd (by decide) h9)
      refine lv_aload_n hx hb dX6_left_45 rfl (lv_at hl 0 rfl) ?_
      refine lv_bipush (v := (-2)) hx hb dX6_left_46 (by decide) ?_
      refine kWi (wr := []) (rV (As := [.int (-2)]) (rest := []) (b := qm) ⟨hx, hb, hml, hown, hts⟩ (c_X6_refuse2 l G cy (s.heap).size qm (.ref qms) (.ref qmo) (.ref qmz) (.ref qmR) (.ref qmv) (.ref qmk) (.ref qmb) (.ref qmt) (.int 0) qmr (.int 0) (.ref qmB) (.int 0) (.ref qmO) (.ref qmK) (.int 0) (.int 0) (.int 1) .null .null (.int 0) (.int 0) (.int 0) (.long 0) (.int 0) (.ref qm_three) (.int 0) (.int 0) (.int 0) .null (.ref qm_unread) (.ref qm_tryRow) (.ref qm_bestRow) (.ref qm_steps) (.int 0) (fun _ => 0)) L_X6_91 (preWV (q := (RX6, TX6, 35)) hN hP hD [0, 1] rfl (by decide) 0 5 rfl rfl) rfl ⟨Nat.le_of_ble_eq_true rfl, Nat.le_of_ble_eq_true rfl⟩ hl.1 (Nat.le_of_ble_eq_true rfl) dX6_left_48 ⟨Nat.le_of_ble_eq_true rfl, Nat.le_of_ble_eq_true rfl⟩) hP hD hS hA [0, 1] [] rfl rfl (by decide) (by decide) (fun r_22 u_24 H locs h_23 hP hD hS => ?_)
      obtain ⟨rfl, h_23⟩ := h_23
      have hP : va_P G CL [(qm, .inr (5, [.ref qms, .ref qmo, .ref qmz, .ref qmR, .ref qmv, .ref qmk, .ref qmb, .ref qmt, .int 0, .ref qmr, .int 0, .ref qmB, .int 0, .ref qmO, .ref qmK, .int 0, .int 0, .int 1, .null, .null, .int 0, .int 0, .int 0, .long 0, .int 0, .ref qm_three, .int 0, .int 0, .int 0, .null, .ref qm_unread, .ref qm_tryRow, .ref qm_bestRow, .ref qm_steps, .int 0]))] H := hP
      have hD : va_D A [(qm, .inr (5, [.ref qms, .ref qmo, .ref qmz, .ref qmR, .ref qmv, .ref qmk, .ref qmb, .ref qmt, .int 0, .ref qmr, .int 0, .ref qmB, .int 0, .ref qmO, .ref qmK, .int 0, .int 0, .int 1, .null, .null, .int 0, .int 0, .int 0, .long 0, .int 0, .ref qm_three, .int 0, .int 0, .int 0, .null, .ref qm_unread, .ref qm_tryRow, .ref qm_bestRow, .ref qm_steps, .int 0]))] := hD
      subst h_23
      exact endW (u := []) hx hb hr hlocks rfl va_P0 va_D0 hS ⟨rfl, (by simp [sp_left, Iv, h_3, h_7])⟩ dX6_left_51
  · refine lv_if_eq (tgt := 45) hx hb dX6_left_9 (by decide) (fun _ => ?_) (fun h9 => absurd (by decide) h9)
    refine lv_aload_n hx hb dX6_left_45 rfl (lv_at hl 0 rfl) ?_
    refine lv_bipush (v := (-2)) hx hb dX6_left_46 (by decide) ?_
    refine kWi (wr := []) (rV (As := [.int (-2)]) (rest := []) (b := qm) ⟨hx, hb, hml, hown, hts⟩ (c_X6_refuse2 l G cy (s.heap).size qm (.ref qms) (.ref qmo) (.ref qmz) (.ref qmR) (.ref qmv) (.ref qmk) (.ref qmb) (.ref qmt) (.int 0) qmr (.int 0) (.ref qmB) (.int 0) (.ref qmO) (.ref qmK) (.int 0) (.int 0) (.int 1) .null .null (.int 0) (.int 0) (.int 0) (.long 0) (.int 0) (.ref qm_three) (.int 0) (.int 0) (.int 0) .null (.ref qm_unread) (.ref qm_tryRow) (.ref qm_bestRow) (.ref qm_steps) (.int 0) (fun _ => 0)) L_X6_91 (preWV (q := (RX6, TX6, 35)) hN hP hD [0, 1] rfl (by decide) 0 5 rfl rfl) rfl ⟨Nat.le_of_ble_eq_true rfl, Nat.le_of_ble_eq_true rfl⟩ hl.1 (Nat.le_of_ble_eq_true rfl) dX6_left_48 ⟨Nat.le_of_ble_eq_true rfl, Nat.le_of_ble_eq_true rfl⟩) hP hD hS hA [0, 1] [] rfl rfl (by decide) (by decide) (fun r_26 u_28 H locs h_27 hP hD hS => ?_)
    obtain ⟨rfl, h_27⟩ := h_27
    have hP : va_P G CL [(qm, .inr (5, [.ref qms, .ref qmo, .ref qmz, .ref qmR, .ref qmv, .ref qmk, .ref qmb, .ref qmt, .int 0, .ref qmr, .int 0, .ref qmB, .int 0, .ref qmO, .ref qmK, .int 0, .int 0, .int 1, .null, .null, .int 0, .int 0, .int 0, .long 0, .int 0, .ref qm_three, .int 0, .int 0, .int 0, .null, .ref qm_unread, .ref qm_tryRow, .ref qm_bestRow, .ref qm_steps, .int 0]))] H := hP
    have hD : va_D A [(qm, .inr (5, [.ref qms, .ref qmo, .ref qmz, .ref qmR, .ref qmv, .ref qmk, .ref qmb, .ref qmt, .int 0, .ref qmr, .int 0, .ref qmB, .int 0, .ref qmO, .ref qmK, .int 0, .int 0, .int 1, .null, .null, .int 0, .int 0, .int 0, .long 0, .int 0, .ref qm_three, .int 0, .int 0, .int 0, .null, .ref qm_unread, .ref qm_tryRow, .ref qm_bestRow, .ref qm_steps, .int 0]))] := hD
    subst h_27
    exact endW (u := []) hx hb hr hlocks rfl va_P0 va_D0 hS ⟨rfl, (by simp [sp_left, Iv, h_3])⟩ dX6_left_51
set_option maxHeartbeats 4000000 in
set_option maxRecDepth 100000 in
theorem p_X6_longest (l : Launch) (G : va_G) (cy : Nat → ClassId) (sz : Nat) (qm : Nat) (qms : Nat) (qmo : Nat) (qmz : Nat) (qmR : Nat) (qmv : Nat) (qmk : Nat) (qmb : Nat) (qmt : Nat) (qmr : Nat) (qmB : Nat) (qmO : Nat) (qmK : Nat) (qm_three : Nat) (qm_unread : Nat) (qm_tryRow : Nat) (qm_bestRow : Nat) (qm_steps : Nat) (iA : Int32) (iB : Int32) (iC : Int32)   : MW l yX6_longest cX6_longest 5 (some .int) 6 0 0 G cy [(qm, .inr (5, [.ref qms, .ref qmo, .ref qmz, .ref qmR, .ref qmv, .ref qmk, .ref qmb, .ref qmt, .int 0, .ref qmr, .int 0, .ref qmB, .int 0, .ref qmO, .ref qmK, .int 0, .int 0, .int 1, .null, .null, .int 0, .int 0, .int 0, .long 0, .int 0, .ref qm_three, .int 0, .int 0, .int 0, .null, .ref qm_unread, .ref qm_tryRow, .ref qm_bestRow, .ref qm_steps, .int 0])), (qmr, .inl (cy 0, 8, .inl (fun _ => 0)))] sz [.ref qm, .int iA, .int iB, .int iC] (Wi G (fun r u => u = [] ∧ ((r = (sp_longest iA iB iC))))) := by
  refine enW RX6 (by decide) rfl (Nat.le_of_ble_eq_true rfl) (fun p e s m below meth c ls A hx hb hml hown hts hr hlocks hP hN hl hin hD hA hS => ?_)
  have hin : meth.name = _ := hin
  have hK := hN.1
  have hl : lv_has ls 5 [(0, .ref qm), (1, .int iA), (2, .int iB), (3, .int iC)] := hl
  refine lv_iload_n hx hb dX6_longest_0 rfl (lv_at hl 1 rfl) ?_
  refine lv_i2l (v := iA.toInt64) hx hb dX6_longest_1 rfl ?_
  refine lv_lconst (v := 0) hx hb dX6_longest_2 (by decide) ?_
  refine lv_ldc2 hx hb hown (hts _ m_t1199) dX6_longest_3 ?_
  refine kRi (rS (As := [.long iA.toInt64, .long 0, .long 1000]) (rest := []) ⟨hx, hb, hml, hown, hts⟩ (c_X6_in l G cy iA.toInt64 0 1000) L_X6_74 (preRS hN hP [] rfl) rfl ⟨Nat.le_of_ble_eq_true rfl, Nat.le_of_ble_eq_true rfl⟩ hl.1 (Nat.le_of_ble_eq_true rfl) dX6_longest_6 ⟨Nat.le_of_ble_eq_true rfl, Nat.le_of_ble_eq_true rfl⟩) (fun r_1 h_2 => ?_)
  rcases h_2 with ⟨rfl, h_3⟩ | ⟨rfl, h_3⟩
  · refine lv_if_eq (tgt := 36) hx hb dX6_longest_9 (by decide) (fun h9 => absurd h9 (by decide)) (fun _ => ?_)
    refine lv_iload_n hx hb dX6_longest_12 rfl (lv_at hl 2 rfl) ?_
    refine lv_i2l (v := iB.toInt64) hx hb dX6_longest_13 rfl ?_
    refine lv_lconst (v := 0) hx hb dX6_longest_14 (by decide) ?_
    refine lv_ldc2 hx hb hown (hts _ m_t1103) dX6_longest_15 ?_
    refine kRi (rS (As := [.long iB.toInt64, .long 0, .long 10]) (rest := []) ⟨hx, hb, hml, hown, hts⟩ (c_X6_in l G cy iB.toInt64 0 10) L_X6_74 (preRS hN hP [] rfl) rfl ⟨Nat.le_of_ble_eq_true rfl, Nat.le_of_ble_eq_true rfl⟩ hl.1 (Nat.le_of_ble_eq_true rfl) dX6_longest_18 ⟨Nat.le_of_ble_eq_true rfl, Nat.le_of_ble_eq_true rfl⟩) (fun r_5 h_6 => ?_)
    rcases h_6 with ⟨rfl, h_7⟩ | ⟨rfl, h_7⟩
    · refine lv_if_eq (tgt := 36) hx hb dX6_longest_21 (by decide) (fun h9 => absurd h9 (by decide)) (fun _ => ?_)
      refine lv_iload_n hx hb dX6_longest_24 rfl (lv_at hl 3 rfl) ?_
      refine lv_i2l (v := iC.toInt64) hx hb dX6_longest_25 rfl ?_
      refine lv_lconst (v := 1) hx hb dX6_longest_26 (by decide) ?_
      refine lv_ldc2 hx hb hown (hts _ m_t1199) dX6_longest_27 ?_
      refine kRi (rS (As := [.long iC.toInt64, .long 1, .long 1000]) (rest := []) ⟨hx, hb, hml, hown, hts⟩ (c_X6_in l G cy iC.toInt64 1 1000) L_X6_74 (preRS hN hP [] rfl) rfl ⟨Nat.le_of_ble_eq_true rfl, Nat.le_of_ble_eq_true rfl⟩ hl.1 (Nat.le_of_ble_eq_true rfl) dX6_longest_30 ⟨Nat.le_of_ble_eq_true rfl, Nat.le_of_ble_eq_true rfl⟩) (fun r_9 h_10 => ?_)
      rcases h_10 with ⟨rfl, h_11⟩ | ⟨rfl, h_11⟩
      · refine lv_if_ne (tgt := 43) hx hb dX6_longest_33 (by decide) (fun _ => ?_) (fun h9 => absurd h9 (by decide))
        refine lv_iconst (v := (-1)) hx hb dX6_longest_43 (by decide) ?_
        refine lv_istore (lv' := [(4, .int (-1)), (0, .ref qm), (1, .int iA), (2, .int iB), (3, .int iC)]) hx hb dX6_longest_44 hl (by decide) rfl (fun ls hl => ?_)
        have lp_13 : ∀ (n_14 : Nat) (j_16 : Nat) (xN_17 : Int32), 100 - j_16 < n_14 → xN_17 = nI j_16 - 1 → lgst iB iC (100 - j_16) xN_17 (lft iB j_16 iA) = lgst iB iC 100 (-1) iA → j_16 ≤ 100 → ∀ (H : Heap) (locs : List Loc) (ls : Array Slot), va_P G CL [(qm, .inr (5, [.ref qms, .ref qmo, .ref qmz, .ref qmR, .ref qmv, .ref qmk, .ref qmb, .ref qmt, .int 0, .ref qmr, .int 0, .ref qmB, .int 0, .ref qmO, .ref qmK, .int 0, .int 0, .int 1, .null, .null, .int 0, .int 0, .int 0, .long 0, .int 0, .ref qm_three, .int 0, .int 0, .int 0, .null, .ref qm_unread, .ref qm_tryRow, .ref qm_bestRow, .ref qm_steps, .int 0])), (qmr, .inl (cy 0, 8, .inl (fun _ => 0)))] H → va_D A [(qm, .inr (5, [.ref qms, .ref qmo, .ref qmz, .ref qmR, .ref qmv, .ref qmk, .ref qmb, .ref qmt, .int 0, .ref qmr, .int 0, .ref qmB, .int 0, .ref qmO, .ref qmK, .int 0, .int 0, .int 1, .null, .null, .int 0, .int 0, .int 0, .long 0, .int 0, .ref qm_three, .int 0, .int 0, .int 0, .null, .ref qm_unread, .ref qm_tryRow, .ref qm_bestRow, .ref qm_steps, .int 0])), (qmr, .inl (cy 0, 8, .inl (fun _ => 0)))] → va_S A s.heap H locs → lv_has ls 5 [(4, .int xN_17), (0, .ref qm), (1, .int iA), (2, .int iB), (3, .int iC)] → W p l e (Rm 6 0 0) s m (List.toArray (α := Value) [.ref qm, .int iA, .int iB, .int iC]) below meth c H locs 0 0 (MQ below ((Wi G (fun r u => u = [] ∧ ((r = (sp_longest iA iB iC))))) A) (List.toArray (α := Value) [.ref qm, .int iA, .int iB, .int iC]) s 0 0 A) (F0 m 46 ls []) := by
          intro n_14
          induction n_14 with
          | zero => intro j_16 xN_17 hm9; exact absurd hm9 (Nat.not_lt_zero _)
          | succ n_14 ih_15 =>
            intro j_16 xN_17 hm_21 hxN_18 hT_19 hj_20 H locs ls hP hD hS hl
            refine lv_iload hx hb dX6_longest_46 (lv_at hl 0 rfl) ?_
            refine lv_bipush (v := 99) hx hb dX6_longest_48 (by decide) ?_
            refine lv_icmp_ge (tgt := 72) hx hb dX6_longest_50 (by decide) (fun c_22 => ?_) (fun c_22 => ?_)
            · refine lv_iload hx hb dX6_longest_72 (lv_at hl 0 rfl) ?_
              exact endW (u := []) hx hb hr hlocks rfl va_P0 va_D0 hS ⟨rfl, (by rw [sp_longest, if_pos ⟨h_3, h_7, h_11⟩, ← hT_19, m1_ge hxN_18 hj_20 c_22]; rfl)⟩ dX6_longest_74
            · have hlt_23 : j_16 < 100 := m1_lt hxN_18 hj_20 c_22
              refine lv_iload_n hx hb dX6_longest_53 rfl (lv_at hl 2 rfl) ?_
              refine lv_iload_n hx hb dX6_longest_54 rfl (lv_at hl 3 rfl) ?_
              refine lv_iload hx hb dX6_longest_55 (lv_at hl 0 rfl) ?_
              refine lv_iconst (v := 1) hx hb dX6_longest_57 (by decide) ?_
              refine lv_iadd hx hb dX6_longest_58 ?_
              refine lv_seti (v := nI j_16) (by rw [hxN_18]; exact m1_nI' _) ?_
              refine kRi (rS (As := [.int iA, .int iB, .int (nI j_16)]) (rest := []) ⟨hx, hb, hml, hown, hts⟩ (c_X6_leftOf l G cy iA iB j_16 (by omega)) L_X6_332 (preRS hN hP [] rfl) rfl ⟨Nat.le_of_ble_eq_true rfl, Nat.le_of_ble_eq_true rfl⟩ hl.1 (Nat.le_of_ble_eq_true rfl) dX6_longest_59 ⟨Nat.le_of_ble_eq_true rfl, Nat.le_of_ble_eq_true rfl⟩) (fun r_24 h_25 => ?_)
              subst h_25
              refine lv_iload_n hx hb dX6_longest_62 rfl (lv_at hl 4 rfl) ?_
              refine lv_icmp_lt (tgt := 72) hx hb dX6_longest_63 (by decide) (fun c_26 => ?_) (fun c_26 => ?_)
              · refine lv_iload hx hb dX6_longest_72 (lv_at hl 0 rfl) ?_
                exact endW (u := []) hx hb hr hlocks rfl va_P0 va_D0 hS ⟨rfl, (by rw [sp_longest, if_pos ⟨h_3, h_7, h_11⟩, ← hT_19, lg_stop0 c_26])⟩ dX6_longest_74
              · refine lv_iinc (v := xN_17 + 1) (lv' := [(4, .int (xN_17 + 1)), (0, .ref qm), (1, .int iA), (2, .int iB), (3, .int iC)]) hx hb dX6_longest_66 hl (k := 0) rfl (rfl) (by decide) rfl (fun ls hl => ?_)
                refine lv_goto (tgt := 46) hx hb dX6_longest_69 (by decide) ?_
                exact ih_15 (j_16 + 1) (xN_17 + 1) (by omega) (by rw [hxN_18]; exact m1_nI _) (by rw [← hT_19, show 100 - j_16 = 100 - (j_16 + 1) + 1 by omega, lg_go c_26]; rfl) (by omega) _ _ _ hP hD hS (lv_sub hl [0, 1, 2, 3, 4] rfl)
        exact lp_13 ((100 - 0) + 1) 0 (-1) (Nat.lt_succ_self _) (by decide) rfl (Nat.zero_le _) _ _ ls hP hD hS (lv_sub hl [0, 1, 2, 3, 4] rfl)
      · refine lv_if_ne (tgt := 43) hx hb dX6_longest_33 (by decide) (fun h9 => absurd (by decide) h9) (fun _ => ?_)
        refine lv_aload_n hx hb dX6_longest_36 rfl (lv_at hl 0 rfl) ?_
        refine lv_bipush (v := (-2)) hx hb dX6_longest_37 (by decide) ?_
        refine kWi (wr := []) (rV (As := [.int (-2)]) (rest := []) (b := qm) ⟨hx, hb, hml, hown, hts⟩ (c_X6_refuse2 l G cy (s.heap).size qm (.ref qms) (.ref qmo) (.ref qmz) (.ref qmR) (.ref qmv) (.ref qmk) (.ref qmb) (.ref qmt) (.int 0) qmr (.int 0) (.ref qmB) (.int 0) (.ref qmO) (.ref qmK) (.int 0) (.int 0) (.int 1) .null .null (.int 0) (.int 0) (.int 0) (.long 0) (.int 0) (.ref qm_three) (.int 0) (.int 0) (.int 0) .null (.ref qm_unread) (.ref qm_tryRow) (.ref qm_bestRow) (.ref qm_steps) (.int 0) (fun _ => 0)) L_X6_91 (preWV (q := (RX6, TX6, 35)) hN hP hD [0, 1] rfl (by decide) 0 5 rfl rfl) rfl ⟨Nat.le_of_ble_eq_true rfl, Nat.le_of_ble_eq_true rfl⟩ hl.1 (Nat.le_of_ble_eq_true rfl) dX6_longest_39 ⟨Nat.le_of_ble_eq_true rfl, Nat.le_of_ble_eq_true rfl⟩) hP hD hS hA [0, 1] [] rfl rfl (by decide) (by decide) (fun r_28 u_30 H locs h_29 hP hD hS => ?_)
        obtain ⟨rfl, h_29⟩ := h_29
        have hP : va_P G CL [(qm, .inr (5, [.ref qms, .ref qmo, .ref qmz, .ref qmR, .ref qmv, .ref qmk, .ref qmb, .ref qmt, .int 0, .ref qmr, .int 0, .ref qmB, .int 0, .ref qmO, .ref qmK, .int 0, .int 0, .int 1, .null, .null, .int 0, .int 0, .int 0, .long 0, .int 0, .ref qm_three, .int 0, .int 0, .int 0, .null, .ref qm_unread, .ref qm_tryRow, .ref qm_bestRow, .ref qm_steps, .int 0]))] H := hP
        have hD : va_D A [(qm, .inr (5, [.ref qms, .ref qmo, .ref qmz, .ref qmR, .ref qmv, .ref qmk, .ref qmb, .ref qmt, .int 0, .ref qmr, .int 0, .ref qmB, .int 0, .ref qmO, .ref qmK, .int 0, .int 0, .int 1, .null, .null, .int 0, .int 0, .int 0, .long 0, .int 0, .ref qm_three, .int 0, .int 0, .int 0, .null, .ref qm_unread, .ref qm_tryRow, .ref qm_bestRow, .ref qm_steps, .int 0]))] := hD
        subst h_29
        exact endW (u := []) hx hb hr hlocks rfl va_P0 va_D0 hS ⟨rfl, (by simp [sp_longest, Iv, h_3, h_7, h_11])⟩ dX6_longest_42
    · refine lv_if_eq (tgt := 36) hx hb dX6_longest_21 (by decide) (fun _ => ?_) (fun h9 => absurd (by decide) h9)
      refine lv_aload_n hx hb dX6_longest_36 rfl (lv_at hl 0 rfl) ?_
      refine lv_bipush (v := (-2)) hx hb dX6_longest_37 (by decide) ?_
      refine kWi (wr := []) (rV (As := [.int (-2)]) (rest := []) (b := qm) ⟨hx, hb, hml, hown, hts⟩ (c_X6_refuse2 l G cy (s.heap).size qm (.ref qms) (.ref qmo) (.ref qmz) (.ref qmR) (.ref qmv) (.ref qmk) (.ref qmb) (.ref qmt) (.int 0) qmr (.int 0) (.ref qmB) (.int 0) (.ref qmO) (.ref qmK) (.int 0) (.int 0) (.int 1) .null .null (.int 0) (.int 0) (.int 0) (.long 0) (.int 0) (.ref qm_three) (.int 0) (.int 0) (.int 0) .null (.ref qm_unread) (.ref qm_tryRow) (.ref qm_bestRow) (.ref qm_steps) (.int 0) (fun _ => 0)) L_X6_91 (preWV (q := (RX6, TX6, 35)) hN hP hD [0, 1] rfl (by decide) 0 5 rfl rfl) rfl ⟨Nat.le_of_ble_eq_true rfl, Nat.le_of_ble_eq_true rfl⟩ hl.1 (Nat.le_of_ble_eq_true rfl) dX6_longest_39 ⟨Nat.le_of_ble_eq_true rfl, Nat.le_of_ble_eq_true rfl⟩) hP hD hS hA [0, 1] [] rfl rfl (by decide) (by decide) (fun r_32 u_34 H locs h_33 hP hD hS => ?_)
      obtain ⟨rfl, h_33⟩ := h_33
      have hP : va_P G CL [(qm, .inr (5, [.ref qms, .ref qmo, .ref qmz, .ref qmR, .ref qmv, .ref qmk, .ref qmb, .ref qmt, .int 0, .ref qmr, .int 0, .ref qmB, .int 0, .ref qmO, .ref qmK, .int 0, .int 0, .int 1, .null, .null, .int 0, .int 0, .int 0, .long 0, .int 0, .ref qm_three, .int 0, .int 0, .int 0, .null, .ref qm_unread, .ref qm_tryRow, .ref qm_bestRow, .ref qm_steps, .int 0]))] H := hP
      have hD : va_D A [(qm, .inr (5, [.ref qms, .ref qmo, .ref qmz, .ref qmR, .ref qmv, .ref qmk, .ref qmb, .ref qmt, .int 0, .ref qmr, .int 0, .ref qmB, .int 0, .ref qmO, .ref qmK, .int 0, .int 0, .int 1, .null, .null, .int 0, .int 0, .int 0, .long 0, .int 0, .ref qm_three, .int 0, .int 0, .int 0, .null, .ref qm_unread, .ref qm_tryRow, .ref qm_bestRow, .ref qm_steps, .int 0]))] := hD
      subst h_33
      exact endW (u := []) hx hb hr hlocks rfl va_P0 va_D0 hS ⟨rfl, (by simp [sp_longest, Iv, h_3, h_7])⟩ dX6_longest_42
  · refine lv_if_eq (tgt := 36) hx hb dX6_longest_9 (by decide) (fun _ => ?_) (fun h9 => absurd (by decide) h9)
    refine lv_aload_n hx hb dX6_longest_36 rfl (lv_at hl 0 rfl) ?_
    refine lv_bipush (v := (-2)) hx hb dX6_longest_37 (by decide) ?_
    refine kWi (wr := []) (rV (As := [.int (-2)]) (rest := []) (b := qm) ⟨hx, hb, hml, hown, hts⟩ (c_X6_refuse2 l G cy (s.heap).size qm (.ref qms) (.ref qmo) (.ref qmz) (.ref qmR) (.ref qmv) (.ref qmk) (.ref qmb) (.ref qmt) (.int 0) qmr (.int 0) (.ref qmB) (.int 0) (.ref qmO) (.ref qmK) (.int 0) (.int 0) (.int 1) .null .null (.int 0) (.int 0) (.int 0) (.long 0) (.int 0) (.ref qm_three) (.int 0) (.int 0) (.int 0) .null (.ref qm_unread) (.ref qm_tryRow) (.ref qm_bestRow) (.ref qm_steps) (.int 0) (fun _ => 0)) L_X6_91 (preWV (q := (RX6, TX6, 35)) hN hP hD [0, 1] rfl (by decide) 0 5 rfl rfl) rfl ⟨Nat.le_of_ble_eq_true rfl, Nat.le_of_ble_eq_true rfl⟩ hl.1 (Nat.le_of_ble_eq_true rfl) dX6_longest_39 ⟨Nat.le_of_ble_eq_true rfl, Nat.le_of_ble_eq_true rfl⟩) hP hD hS hA [0, 1] [] rfl rfl (by decide) (by decide) (fun r_36 u_38 H locs h_37 hP hD hS => ?_)
    obtain ⟨rfl, h_37⟩ := h_37
    have hP : va_P G CL [(qm, .inr (5, [.ref qms, .ref qmo, .ref qmz, .ref qmR, .ref qmv, .ref qmk, .ref qmb, .ref qmt, .int 0, .ref qmr, .int 0, .ref qmB, .int 0, .ref qmO, .ref qmK, .int 0, .int 0, .int 1, .null, .null, .int 0, .int 0, .int 0, .long 0, .int 0, .ref qm_three, .int 0, .int 0, .int 0, .null, .ref qm_unread, .ref qm_tryRow, .ref qm_bestRow, .ref qm_steps, .int 0]))] H := hP
    have hD : va_D A [(qm, .inr (5, [.ref qms, .ref qmo, .ref qmz, .ref qmR, .ref qmv, .ref qmk, .ref qmb, .ref qmt, .int 0, .ref qmr, .int 0, .ref qmB, .int 0, .ref qmO, .ref qmK, .int 0, .int 0, .int 1, .null, .null, .int 0, .int 0, .int 0, .long 0, .int 0, .ref qm_three, .int 0, .int 0, .int 0, .null, .ref qm_unread, .ref qm_tryRow, .ref qm_bestRow, .ref qm_steps, .int 0]))] := hD
    subst h_37
    exact endW (u := []) hx hb hr hlocks rfl va_P0 va_D0 hS ⟨rfl, (by simp [sp_longest, Iv, h_3])⟩ dX6_longest_42
