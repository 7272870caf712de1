theorem dX5_aloud_0 : decode cX5_aloud 0 = .ok (.iload_n 3, 1) := by decide +kernel
theorem dX5_aloud_1 : decode cX5_aloud 1 = .ok (.aload_n 0, 1) := by decide +kernel
theorem dX5_aloud_2 : decode cX5_aloud 2 = .ok (.getfield 10, 3) := by decide +kernel
theorem dX5_aloud_5 : decode cX5_aloud 5 = .ok (.getfield 141, 3) := by decide +kernel
theorem dX5_aloud_8 : decode cX5_aloud 8 = .ok (.invokestatic 131, 3) := by decide +kernel
theorem dX5_aloud_11 : decode cX5_aloud 11 = .ok (.ifCond .eq 12, 3) := by decide +kernel
theorem dX5_aloud_14 : decode cX5_aloud 14 = .ok (.aload_n 0, 1) := by decide +kernel
theorem dX5_aloud_15 : decode cX5_aloud 15 = .ok (.iload_n 1, 1) := by decide +kernel
theorem dX5_aloud_16 : decode cX5_aloud 16 = .ok (.iload_n 2, 1) := by decide +kernel
theorem dX5_aloud_17 : decode cX5_aloud 17 = .ok (.invokevirtual 224, 3) := by decide +kernel
theorem dX5_aloud_20 : decode cX5_aloud 20 = .ok (.goto 5, 3) := by decide +kernel
theorem dX5_aloud_23 : decode cX5_aloud 23 = .ok (.bipush (-2), 2) := by decide +kernel
theorem dX5_aloud_25 : decode cX5_aloud 25 = .ok (.istore 4, 2) := by decide +kernel
theorem dX5_aloud_27 : decode cX5_aloud 27 = .ok (.iload 4, 2) := by decide +kernel
theorem dX5_aloud_29 : decode cX5_aloud 29 = .ok (.ifCond .eq 10, 3) := by decide +kernel
theorem dX5_aloud_32 : decode cX5_aloud 32 = .ok (.aload_n 0, 1) := by decide +kernel
theorem dX5_aloud_33 : decode cX5_aloud 33 = .ok (.iload 4, 2) := by decide +kernel
theorem dX5_aloud_35 : decode cX5_aloud 35 = .ok (.invokevirtual 56, 3) := by decide +kernel
theorem dX5_aloud_38 : decode cX5_aloud 38 = .ok (.ireturn, 1) := by decide +kernel
theorem dX5_back_0 : decode cX5_back 0 = .ok (.aload_n 0, 1) := by decide +kernel
theorem dX5_back_1 : decode cX5_back 1 = .ok (.getfield 344, 3) := by decide +kernel
theorem dX5_back_4 : decode cX5_back 4 = .ok (.ifCond .ne 10, 3) := by decide +kernel
theorem dX5_back_7 : decode cX5_back 7 = .ok (.aload_n 0, 1) := by decide +kernel
theorem dX5_back_8 : decode cX5_back 8 = .ok (.bipush (-5), 2) := by decide +kernel
theorem dX5_back_10 : decode cX5_back 10 = .ok (.invokevirtual 56, 3) := by decide +kernel
theorem dX5_back_13 : decode cX5_back 13 = .ok (.ireturn, 1) := by decide +kernel
theorem dX5_bear_0 : decode cX5_bear 0 = .ok (.iload_n 1, 1) := by decide +kernel
theorem dX5_bear_1 : decode cX5_bear 1 = .ok (.i2l, 1) := by decide +kernel
theorem dX5_bear_2 : decode cX5_bear 2 = .ok (.lconst 1, 1) := by decide +kernel
theorem dX5_bear_3 : decode cX5_bear 3 = .ok (.ldc2_w 216, 3) := by decide +kernel
theorem dX5_bear_6 : decode cX5_bear 6 = .ok (.invokestatic 50, 3) := by decide +kernel
theorem dX5_bear_9 : decode cX5_bear 9 = .ok (.ifCond .ne 10, 3) := by decide +kernel
theorem dX5_bear_12 : decode cX5_bear 12 = .ok (.aload_n 0, 1) := by decide +kernel
theorem dX5_bear_13 : decode cX5_bear 13 = .ok (.bipush (-2), 2) := by decide +kernel
theorem dX5_bear_15 : decode cX5_bear 15 = .ok (.invokevirtual 56, 3) := by decide +kernel
theorem dX5_bear_18 : decode cX5_bear 18 = .ok (.ireturn, 1) := by decide +kernel
theorem dX5_bear_19 : decode cX5_bear 19 = .ok (.aload_n 0, 1) := by decide +kernel
theorem dX5_bear_20 : decode cX5_bear 20 = .ok (.getfield 10, 3) := by decide +kernel
theorem dX5_bear_23 : decode cX5_bear 23 = .ok (.invokevirtual 269, 3) := by decide +kernel
theorem dX5_bear_26 : decode cX5_bear 26 = .ok (.istore_n 2, 1) := by decide +kernel
theorem dX5_bear_27 : decode cX5_bear 27 = .ok (.aload_n 0, 1) := by decide +kernel
theorem dX5_bear_28 : decode cX5_bear 28 = .ok (.getfield 10, 3) := by decide +kernel
theorem dX5_bear_31 : decode cX5_bear 31 = .ok (.iload_n 2, 1) := by decide +kernel
theorem dX5_bear_32 : decode cX5_bear 32 = .ok (.iload_n 1, 1) := by decide +kernel
theorem dX5_bear_33 : decode cX5_bear 33 = .ok (.invokevirtual 303, 3) := by decide +kernel
theorem dX5_bear_36 : decode cX5_bear 36 = .ok (.istore_n 3, 1) := by decide +kernel
theorem dX5_bear_37 : decode cX5_bear 37 = .ok (.iload_n 2, 1) := by decide +kernel
theorem dX5_bear_38 : decode cX5_bear 38 = .ok (.istore 4, 2) := by decide +kernel
theorem dX5_bear_40 : decode cX5_bear 40 = .ok (.iconst 0, 1) := by decide +kernel
theorem dX5_bear_41 : decode cX5_bear 41 = .ok (.istore 5, 2) := by decide +kernel
theorem dX5_bear_43 : decode cX5_bear 43 = .ok (.iload 5, 2) := by decide +kernel
theorem dX5_bear_45 : decode cX5_bear 45 = .ok (.iload_n 2, 1) := by decide +kernel
theorem dX5_bear_46 : decode cX5_bear 46 = .ok (.if_icmp .ge 61, 3) := by decide +kernel
theorem dX5_bear_107 : decode cX5_bear 107 = .ok (.iload 4, 2) := by decide +kernel
theorem dX5_bear_109 : decode cX5_bear 109 = .ok (.ireturn, 1) := by decide +kernel
theorem dX5_ends_0 : decode cX5_ends 0 = .ok (.aload_n 0, 1) := by decide +kernel
theorem dX5_ends_1 : decode cX5_ends 1 = .ok (.dup, 1) := by decide +kernel
theorem dX5_ends_2 : decode cX5_ends 2 = .ok (.getfield 335, 3) := by decide +kernel
theorem dX5_ends_5 : decode cX5_ends 5 = .ok (.iconst 1, 1) := by decide +kernel
theorem dX5_ends_6 : decode cX5_ends 6 = .ok (.iadd, 1) := by decide +kernel
theorem dX5_ends_7 : decode cX5_ends 7 = .ok (.putfield 335, 3) := by decide +kernel
theorem dX5_ends_10 : decode cX5_ends 10 = .ok (.aload_n 0, 1) := by decide +kernel
theorem dX5_ends_11 : decode cX5_ends 11 = .ok (.getfield 10, 3) := by decide +kernel
theorem dX5_ends_14 : decode cX5_ends 14 = .ok (.invokevirtual 332, 3) := by decide +kernel
theorem dX5_ends_17 : decode cX5_ends 17 = .ok (.ireturn, 1) := by decide +kernel
theorem dX5_gains_0 : decode cX5_gains 0 = .ok (.iload_n 2, 1) := by decide +kernel
theorem dX5_gains_1 : decode cX5_gains 1 = .ok (.i2l, 1) := by decide +kernel
theorem dX5_gains_2 : decode cX5_gains 2 = .ok (.lconst 1, 1) := by decide +kernel
theorem dX5_gains_3 : decode cX5_gains 3 = .ok (.ldc2_w 250, 3) := by decide +kernel
theorem dX5_gains_6 : decode cX5_gains 6 = .ok (.invokestatic 50, 3) := by decide +kernel
theorem dX5_gains_9 : decode cX5_gains 9 = .ok (.ifCond .eq 11, 3) := by decide +kernel
theorem dX5_gains_12 : decode cX5_gains 12 = .ok (.aload_n 0, 1) := by decide +kernel
theorem dX5_gains_13 : decode cX5_gains 13 = .ok (.iload_n 1, 1) := by decide +kernel
theorem dX5_gains_14 : decode cX5_gains 14 = .ok (.invokevirtual 100, 3) := by decide +kernel
theorem dX5_gains_17 : decode cX5_gains 17 = .ok (.goto 5, 3) := by decide +kernel
theorem dX5_gains_20 : decode cX5_gains 20 = .ok (.bipush (-2), 2) := by decide +kernel
theorem dX5_gains_22 : decode cX5_gains 22 = .ok (.istore_n 3, 1) := by decide +kernel
theorem dX5_gains_23 : decode cX5_gains 23 = .ok (.iload_n 3, 1) := by decide +kernel
theorem dX5_gains_24 : decode cX5_gains 24 = .ok (.ifCond .eq 13, 3) := by decide +kernel
theorem dX5_gains_27 : decode cX5_gains 27 = .ok (.aload_n 0, 1) := by decide +kernel
theorem dX5_gains_28 : decode cX5_gains 28 = .ok (.iload_n 3, 1) := by decide +kernel
theorem dX5_gains_29 : decode cX5_gains 29 = .ok (.invokevirtual 56, 3) := by decide +kernel
theorem dX5_gains_32 : decode cX5_gains 32 = .ok (.ldc_w 286, 3) := by decide +kernel
theorem dX5_gains_35 : decode cX5_gains 35 = .ok (.isub, 1) := by decide +kernel
theorem dX5_gains_36 : decode cX5_gains 36 = .ok (.ireturn, 1) := by decide +kernel
theorem dX5_hangs_0 : decode cX5_hangs 0 = .ok (.aload_n 0, 1) := by decide +kernel
theorem dX5_hangs_1 : decode cX5_hangs 1 = .ok (.getfield 10, 3) := by decide +kernel
theorem dX5_hangs_4 : decode cX5_hangs 4 = .ok (.invokevirtual 269, 3) := by decide +kernel
theorem dX5_hangs_7 : decode cX5_hangs 7 = .ok (.istore_n 1, 1) := by decide +kernel
theorem dX5_hangs_8 : decode cX5_hangs 8 = .ok (.iconst (-1), 1) := by decide +kernel
theorem dX5_hangs_9 : decode cX5_hangs 9 = .ok (.istore_n 2, 1) := by decide +kernel
theorem dX5_hangs_10 : decode cX5_hangs 10 = .ok (.iconst 0, 1) := by decide +kernel
theorem dX5_hangs_11 : decode cX5_hangs 11 = .ok (.istore_n 3, 1) := by decide +kernel
theorem dX5_hangs_12 : decode cX5_hangs 12 = .ok (.iconst 0, 1) := by decide +kernel
theorem dX5_hangs_13 : decode cX5_hangs 13 = .ok (.istore 4, 2) := by decide +kernel
theorem dX5_hangs_15 : decode cX5_hangs 15 = .ok (.iload 4, 2) := by decide +kernel
theorem dX5_hangs_17 : decode cX5_hangs 17 = .ok (.aload_n 0, 1) := by decide +kernel
theorem dX5_hangs_18 : decode cX5_hangs 18 = .ok (.getfield 10, 3) := by decide +kernel
theorem dX5_hangs_21 : decode cX5_hangs 21 = .ok (.getfield 141, 3) := by decide +kernel
theorem dX5_hangs_24 : decode cX5_hangs 24 = .ok (.if_icmp .ge 52, 3) := by decide +kernel
theorem dX5_hangs_76 : decode cX5_hangs 76 = .ok (.iload_n 2, 1) := by decide +kernel
theorem dX5_hangs_77 : decode cX5_hangs 77 = .ok (.iconst (-1), 1) := by decide +kernel
theorem dX5_hangs_78 : decode cX5_hangs 78 = .ok (.if_icmp .ne 12, 3) := by decide +kernel
theorem dX5_hangs_81 : decode cX5_hangs 81 = .ok (.aload_n 0, 1) := by decide +kernel
theorem dX5_hangs_82 : decode cX5_hangs 82 = .ok (.bipush (-5), 2) := by decide +kernel
theorem dX5_hangs_84 : decode cX5_hangs 84 = .ok (.invokevirtual 56, 3) := by decide +kernel
theorem dX5_hangs_87 : decode cX5_hangs 87 = .ok (.goto 4, 3) := by decide +kernel
theorem dX5_hangs_91 : decode cX5_hangs 91 = .ok (.ireturn, 1) := by decide +kernel
theorem dX5_head_0 : decode cX5_head 0 = .ok (.iload_n 1, 1) := by decide +kernel
theorem dX5_head_1 : decode cX5_head 1 = .ok (.i2l, 1) := by decide +kernel
theorem dX5_head_2 : decode cX5_head 2 = .ok (.lconst 1, 1) := by decide +kernel
theorem dX5_head_3 : decode cX5_head 3 = .ok (.ldc2_w 250, 3) := by decide +kernel
theorem dX5_head_6 : decode cX5_head 6 = .ok (.invokestatic 50, 3) := by decide +kernel
theorem dX5_head_9 : decode cX5_head 9 = .ok (.ifCond .ne 10, 3) := by decide +kernel
theorem dX5_head_12 : decode cX5_head 12 = .ok (.aload_n 0, 1) := by decide +kernel
theorem dX5_head_13 : decode cX5_head 13 = .ok (.bipush (-2), 2) := by decide +kernel
theorem dX5_head_15 : decode cX5_head 15 = .ok (.invokevirtual 56, 3) := by decide +kernel
theorem dX5_head_18 : decode cX5_head 18 = .ok (.ireturn, 1) := by decide +kernel
theorem dX5_head_19 : decode cX5_head 19 = .ok (.iconst (-1), 1) := by decide +kernel
theorem dX5_head_20 : decode cX5_head 20 = .ok (.istore_n 2, 1) := by decide +kernel
theorem dX5_head_21 : decode cX5_head 21 = .ok (.iconst 0, 1) := by decide +kernel
theorem dX5_head_22 : decode cX5_head 22 = .ok (.istore_n 3, 1) := by decide +kernel
theorem dX5_head_23 : decode cX5_head 23 = .ok (.iconst 0, 1) := by decide +kernel
theorem dX5_head_24 : decode cX5_head 24 = .ok (.istore 4, 2) := by decide +kernel
theorem dX5_head_26 : decode cX5_head 26 = .ok (.iload 4, 2) := by decide +kernel
theorem dX5_head_28 : decode cX5_head 28 = .ok (.bipush 8, 2) := by decide +kernel
theorem dX5_head_30 : decode cX5_head 30 = .ok (.if_icmp .ge 75, 3) := by decide +kernel
theorem dX5_head_33 : decode cX5_head 33 = .ok (.aload_n 0, 1) := by decide +kernel
theorem dX5_head_34 : decode cX5_head 34 = .ok (.iload 4, 2) := by decide +kernel
theorem dX5_head_36 : decode cX5_head 36 = .ok (.invokevirtual 100, 3) := by decide +kernel
theorem dX5_head_39 : decode cX5_head 39 = .ok (.ifCond .ne 60, 3) := by decide +kernel
theorem dX5_head_99 : decode cX5_head 99 = .ok (.iinc 4 1, 3) := by decide +kernel
theorem dX5_head_102 : decode cX5_head 102 = .ok (.goto (-76), 3) := by decide +kernel
theorem dX5_head_105 : decode cX5_head 105 = .ok (.iload_n 2, 1) := by decide +kernel
theorem dX5_head_106 : decode cX5_head 106 = .ok (.iconst (-1), 1) := by decide +kernel
theorem dX5_head_107 : decode cX5_head 107 = .ok (.if_icmp .ne 12, 3) := by decide +kernel
theorem dX5_head_110 : decode cX5_head 110 = .ok (.aload_n 0, 1) := by decide +kernel
theorem dX5_head_111 : decode cX5_head 111 = .ok (.bipush (-5), 2) := by decide +kernel
theorem dX5_head_113 : decode cX5_head 113 = .ok (.invokevirtual 56, 3) := by decide +kernel
theorem dX5_head_116 : decode cX5_head 116 = .ok (.goto 4, 3) := by decide +kernel
theorem dX5_head_120 : decode cX5_head 120 = .ok (.ireturn, 1) := by decide +kernel
theorem dX5_image_0 : decode cX5_image 0 = .ok (.aload_n 0, 1) := by decide +kernel
theorem dX5_image_1 : decode cX5_image 1 = .ok (.getfield 16, 3) := by decide +kernel
theorem dX5_image_4 : decode cX5_image 4 = .ok (.aload_n 0, 1) := by decide +kernel
theorem dX5_image_5 : decode cX5_image 5 = .ok (.getfield 10, 3) := by decide +kernel
theorem dX5_image_8 : decode cX5_image 8 = .ok (.invokevirtual 164, 3) := by decide +kernel
theorem dX5_image_11 : decode cX5_image 11 = .ok (.aload_n 0, 1) := by decide +kernel
theorem dX5_image_12 : decode cX5_image 12 = .ok (.iconst 1, 1) := by decide +kernel
theorem dX5_image_13 : decode cX5_image 13 = .ok (.putfield 344, 3) := by decide +kernel
theorem dX5_image_16 : decode cX5_image 16 = .ok (.iconst 1, 1) := by decide +kernel
theorem dX5_image_17 : decode cX5_image 17 = .ok (.ireturn, 1) := by decide +kernel
theorem dX5_judge_0 : decode cX5_judge 0 = .ok (.aload_n 0, 1) := by decide +kernel
theorem dX5_judge_1 : decode cX5_judge 1 = .ok (.iload_n 1, 1) := by decide +kernel
theorem dX5_judge_2 : decode cX5_judge 2 = .ok (.iload_n 2, 1) := by decide +kernel
theorem dX5_judge_3 : decode cX5_judge 3 = .ok (.invokevirtual 321, 3) := by decide +kernel
theorem dX5_judge_6 : decode cX5_judge 6 = .ok (.istore_n 3, 1) := by decide +kernel
theorem dX5_judge_7 : decode cX5_judge 7 = .ok (.iload_n 3, 1) := by decide +kernel
theorem dX5_judge_8 : decode cX5_judge 8 = .ok (.ifCond .ne 12, 3) := by decide +kernel
theorem dX5_judge_20 : decode cX5_judge 20 = .ok (.aload_n 0, 1) := by decide +kernel
theorem dX5_judge_21 : decode cX5_judge 21 = .ok (.iload_n 3, 1) := by decide +kernel
theorem dX5_judge_22 : decode cX5_judge 22 = .ok (.invokevirtual 56, 3) := by decide +kernel
theorem dX5_judge_25 : decode cX5_judge 25 = .ok (.ireturn, 1) := by decide +kernel
theorem dX5_keeping_0 : decode cX5_keeping 0 = .ok (.aload_n 0, 1) := by decide +kernel
theorem dX5_keeping_1 : decode cX5_keeping 1 = .ok (.getfield 10, 3) := by decide +kernel
theorem dX5_keeping_4 : decode cX5_keeping 4 = .ok (.iload_n 1, 1) := by decide +kernel
theorem dX5_keeping_5 : decode cX5_keeping 5 = .ok (.invokevirtual 168, 3) := by decide +kernel
theorem dX5_keeping_8 : decode cX5_keeping 8 = .ok (.ifCond .eq 17, 3) := by decide +kernel
theorem dX5_keeping_25 : decode cX5_keeping 25 = .ok (.aload_n 0, 1) := by decide +kernel
theorem dX5_keeping_26 : decode cX5_keeping 26 = .ok (.bipush (-2), 2) := by decide +kernel
theorem dX5_keeping_28 : decode cX5_keeping 28 = .ok (.invokevirtual 56, 3) := by decide +kernel
theorem dX5_keeping_31 : decode cX5_keeping 31 = .ok (.ldc_w 286, 3) := by decide +kernel
theorem dX5_keeping_34 : decode cX5_keeping 34 = .ok (.isub, 1) := by decide +kernel
theorem dX5_keeping_35 : decode cX5_keeping 35 = .ok (.ireturn, 1) := by decide +kernel
theorem dX5_lost_0 : decode cX5_lost 0 = .ok (.iload_n 1, 1) := by decide +kernel
theorem dX5_lost_1 : decode cX5_lost 1 = .ok (.i2l, 1) := by decide +kernel
theorem dX5_lost_2 : decode cX5_lost 2 = .ok (.lconst 1, 1) := by decide +kernel
theorem dX5_lost_3 : decode cX5_lost 3 = .ok (.ldc2_w 216, 3) := by decide +kernel
theorem dX5_lost_6 : decode cX5_lost 6 = .ok (.invokestatic 50, 3) := by decide +kernel
theorem dX5_lost_9 : decode cX5_lost 9 = .ok (.ifCond .eq 34, 3) := by decide +kernel
theorem dX5_lost_12 : decode cX5_lost 12 = .ok (.aload_n 0, 1) := by decide +kernel
theorem dX5_lost_13 : decode cX5_lost 13 = .ok (.getfield 10, 3) := by decide +kernel
theorem dX5_lost_16 : decode cX5_lost 16 = .ok (.getfield 127, 3) := by decide +kernel
theorem dX5_lost_19 : decode cX5_lost 19 = .ok (.invokestatic 186, 3) := by decide +kernel
theorem dX5_lost_22 : decode cX5_lost 22 = .ok (.aload_n 0, 1) := by decide +kernel
theorem dX5_lost_23 : decode cX5_lost 23 = .ok (.getfield 10, 3) := by decide +kernel
theorem dX5_lost_26 : decode cX5_lost 26 = .ok (.aload_n 0, 1) := by decide +kernel
theorem dX5_lost_27 : decode cX5_lost 27 = .ok (.getfield 10, 3) := by decide +kernel
theorem dX5_lost_30 : decode cX5_lost 30 = .ok (.invokevirtual 269, 3) := by decide +kernel
theorem dX5_lost_33 : decode cX5_lost 33 = .ok (.iload_n 1, 1) := by decide +kernel
theorem dX5_lost_34 : decode cX5_lost 34 = .ok (.invokevirtual 303, 3) := by decide +kernel
theorem dX5_lost_37 : decode cX5_lost 37 = .ok (.iconst (-1), 1) := by decide +kernel
theorem dX5_lost_38 : decode cX5_lost 38 = .ok (.ixor, 1) := by decide +kernel
theorem dX5_lost_39 : decode cX5_lost 39 = .ok (.iand, 1) := by decide +kernel
theorem dX5_lost_40 : decode cX5_lost 40 = .ok (.goto 9, 3) := by decide +kernel
theorem dX5_lost_43 : decode cX5_lost 43 = .ok (.aload_n 0, 1) := by decide +kernel
theorem dX5_lost_44 : decode cX5_lost 44 = .ok (.bipush (-2), 2) := by decide +kernel
theorem dX5_lost_46 : decode cX5_lost 46 = .ok (.invokevirtual 56, 3) := by decide +kernel
theorem dX5_lost_49 : decode cX5_lost 49 = .ok (.ireturn, 1) := by decide +kernel
theorem dX5_needs_0 : decode cX5_needs 0 = .ok (.aload_n 0, 1) := by decide +kernel
theorem dX5_needs_1 : decode cX5_needs 1 = .ok (.getfield 10, 3) := by decide +kernel
theorem dX5_needs_4 : decode cX5_needs 4 = .ok (.iload_n 1, 1) := by decide +kernel
theorem dX5_needs_5 : decode cX5_needs 5 = .ok (.invokevirtual 168, 3) := by decide +kernel
theorem dX5_needs_8 : decode cX5_needs 8 = .ok (.ifCond .ne 10, 3) := by decide +kernel
theorem dX5_needs_11 : decode cX5_needs 11 = .ok (.aload_n 0, 1) := by decide +kernel
theorem dX5_needs_12 : decode cX5_needs 12 = .ok (.bipush (-2), 2) := by decide +kernel
theorem dX5_needs_14 : decode cX5_needs 14 = .ok (.invokevirtual 56, 3) := by decide +kernel
theorem dX5_needs_17 : decode cX5_needs 17 = .ok (.ireturn, 1) := by decide +kernel
theorem dX5_next_0 : decode cX5_next 0 = .ok (.iconst (-1), 1) := by decide +kernel
theorem dX5_next_1 : decode cX5_next 1 = .ok (.istore_n 1, 1) := by decide +kernel
theorem dX5_next_2 : decode cX5_next 2 = .ok (.iconst 0, 1) := by decide +kernel
theorem dX5_next_3 : decode cX5_next 3 = .ok (.istore_n 2, 1) := by decide +kernel
theorem dX5_next_4 : decode cX5_next 4 = .ok (.iconst 0, 1) := by decide +kernel
theorem dX5_next_5 : decode cX5_next 5 = .ok (.istore_n 3, 1) := by decide +kernel
theorem dX5_next_6 : decode cX5_next 6 = .ok (.iload_n 3, 1) := by decide +kernel
theorem dX5_next_7 : decode cX5_next 7 = .ok (.aload_n 0, 1) := by decide +kernel
theorem dX5_next_8 : decode cX5_next 8 = .ok (.getfield 10, 3) := by decide +kernel
theorem dX5_next_11 : decode cX5_next 11 = .ok (.getfield 127, 3) := by decide +kernel
theorem dX5_next_14 : decode cX5_next 14 = .ok (.if_icmp .ge 48, 3) := by decide +kernel
theorem dX5_next_62 : decode cX5_next 62 = .ok (.iload_n 1, 1) := by decide +kernel
theorem dX5_next_63 : decode cX5_next 63 = .ok (.ireturn, 1) := by decide +kernel
theorem dX5_order_0 : decode cX5_order 0 = .ok (.aload_n 0, 1) := by decide +kernel
theorem dX5_order_1 : decode cX5_order 1 = .ok (.getfield 10, 3) := by decide +kernel
theorem dX5_order_4 : decode cX5_order 4 = .ok (.getfield 127, 3) := by decide +kernel
theorem dX5_order_7 : decode cX5_order 7 = .ok (.aload_n 0, 1) := by decide +kernel
theorem dX5_order_8 : decode cX5_order 8 = .ok (.getfield 10, 3) := by decide +kernel
theorem dX5_order_11 : decode cX5_order 11 = .ok (.getfield 180, 3) := by decide +kernel
theorem dX5_order_14 : decode cX5_order 14 = .ok (.invokestatic 264, 3) := by decide +kernel
theorem dX5_order_17 : decode cX5_order 17 = .ok (.isub, 1) := by decide +kernel
theorem dX5_order_18 : decode cX5_order 18 = .ok (.istore_n 3, 1) := by decide +kernel
theorem dX5_order_19 : decode cX5_order 19 = .ok (.aload_n 0, 1) := by decide +kernel
theorem dX5_order_20 : decode cX5_order 20 = .ok (.getfield 10, 3) := by decide +kernel
theorem dX5_order_23 : decode cX5_order 23 = .ok (.iload_n 1, 1) := by decide +kernel
theorem dX5_order_24 : decode cX5_order 24 = .ok (.invokevirtual 192, 3) := by decide +kernel
theorem dX5_order_27 : decode cX5_order 27 = .ok (.ifCond .eq 18, 3) := by decide +kernel
theorem dX5_order_45 : decode cX5_order 45 = .ok (.aload_n 0, 1) := by decide +kernel
theorem dX5_order_46 : decode cX5_order 46 = .ok (.bipush (-2), 2) := by decide +kernel
theorem dX5_order_48 : decode cX5_order 48 = .ok (.invokevirtual 56, 3) := by decide +kernel
theorem dX5_order_51 : decode cX5_order 51 = .ok (.ireturn, 1) := by decide +kernel
theorem dX5_read_0 : decode cX5_read 0 = .ok (.aload_n 0, 1) := by decide +kernel
theorem dX5_read_1 : decode cX5_read 1 = .ok (.iload_n 1, 1) := by decide +kernel
theorem dX5_read_2 : decode cX5_read 2 = .ok (.iload_n 2, 1) := by decide +kernel
theorem dX5_read_3 : decode cX5_read 3 = .ok (.invokevirtual 224, 3) := by decide +kernel
theorem dX5_read_6 : decode cX5_read 6 = .ok (.istore_n 3, 1) := by decide +kernel
theorem dX5_read_7 : decode cX5_read 7 = .ok (.iload_n 3, 1) := by decide +kernel
theorem dX5_read_8 : decode cX5_read 8 = .ok (.ifCond .eq 9, 3) := by decide +kernel
theorem dX5_read_11 : decode cX5_read 11 = .ok (.aload_n 0, 1) := by decide +kernel
theorem dX5_read_12 : decode cX5_read 12 = .ok (.iload_n 3, 1) := by decide +kernel
theorem dX5_read_13 : decode cX5_read 13 = .ok (.invokevirtual 56, 3) := by decide +kernel
theorem dX5_read_16 : decode cX5_read 16 = .ok (.ireturn, 1) := by decide +kernel
theorem dX5_reader_0 : decode cX5_reader 0 = .ok (.aload_n 0, 1) := by decide +kernel
theorem dX5_reader_1 : decode cX5_reader 1 = .ok (.getfield 10, 3) := by decide +kernel
theorem dX5_reader_4 : decode cX5_reader 4 = .ok (.iload_n 1, 1) := by decide +kernel
theorem dX5_reader_5 : decode cX5_reader 5 = .ok (.invokevirtual 168, 3) := by decide +kernel
theorem dX5_reader_8 : decode cX5_reader 8 = .ok (.ifCond .ne 10, 3) := by decide +kernel
theorem dX5_reader_11 : decode cX5_reader 11 = .ok (.aload_n 0, 1) := by decide +kernel
theorem dX5_reader_12 : decode cX5_reader 12 = .ok (.bipush (-2), 2) := by decide +kernel
theorem dX5_reader_14 : decode cX5_reader 14 = .ok (.invokevirtual 56, 3) := by decide +kernel
theorem dX5_reader_17 : decode cX5_reader 17 = .ok (.ireturn, 1) := by decide +kernel
theorem dX5_run_0 : decode cX5_run 0 = .ok (.iload_n 2, 1) := by decide +kernel
theorem dX5_run_1 : decode cX5_run 1 = .ok (.i2l, 1) := by decide +kernel
theorem dX5_run_2 : decode cX5_run 2 = .ok (.lconst 1, 1) := by decide +kernel
theorem dX5_run_3 : decode cX5_run 3 = .ok (.ldc2_w 250, 3) := by decide +kernel
theorem dX5_run_6 : decode cX5_run 6 = .ok (.invokestatic 50, 3) := by decide +kernel
theorem dX5_run_9 : decode cX5_run 9 = .ok (.ifCond .eq 23, 3) := by decide +kernel
theorem dX5_run_12 : decode cX5_run 12 = .ok (.iload_n 3, 1) := by decide +kernel
theorem dX5_run_13 : decode cX5_run 13 = .ok (.i2l, 1) := by decide +kernel
theorem dX5_run_14 : decode cX5_run 14 = .ok (.lconst 0, 1) := by decide +kernel
theorem dX5_run_15 : decode cX5_run 15 = .ok (.ldc2_w 252, 3) := by decide +kernel
theorem dX5_run_18 : decode cX5_run 18 = .ok (.invokestatic 50, 3) := by decide +kernel
theorem dX5_run_21 : decode cX5_run 21 = .ok (.ifCond .eq 11, 3) := by decide +kernel
theorem dX5_run_24 : decode cX5_run 24 = .ok (.aload_n 0, 1) := by decide +kernel
theorem dX5_run_25 : decode cX5_run 25 = .ok (.iload_n 1, 1) := by decide +kernel
theorem dX5_run_26 : decode cX5_run 26 = .ok (.invokevirtual 100, 3) := by decide +kernel
theorem dX5_run_29 : decode cX5_run 29 = .ok (.goto 5, 3) := by decide +kernel
theorem dX5_run_32 : decode cX5_run 32 = .ok (.bipush (-2), 2) := by decide +kernel
theorem dX5_run_34 : decode cX5_run 34 = .ok (.istore 4, 2) := by decide +kernel
theorem dX5_run_36 : decode cX5_run 36 = .ok (.iload 4, 2) := by decide +kernel
theorem dX5_run_38 : decode cX5_run 38 = .ok (.ifCond .eq 10, 3) := by decide +kernel
theorem dX5_run_41 : decode cX5_run 41 = .ok (.aload_n 0, 1) := by decide +kernel
theorem dX5_run_42 : decode cX5_run 42 = .ok (.iload 4, 2) := by decide +kernel
theorem dX5_run_44 : decode cX5_run 44 = .ok (.invokevirtual 56, 3) := by decide +kernel
theorem dX5_run_47 : decode cX5_run 47 = .ok (.ireturn, 1) := by decide +kernel
theorem dX5_seed_0 : decode cX5_seed 0 = .ok (.aload_n 0, 1) := by decide +kernel
theorem dX5_seed_1 : decode cX5_seed 1 = .ok (.getfield 10, 3) := by decide +kernel
theorem dX5_seed_4 : decode cX5_seed 4 = .ok (.getfield 341, 3) := by decide +kernel
theorem dX5_seed_7 : decode cX5_seed 7 = .ok (.istore_n 2, 1) := by decide +kernel
theorem dX5_seed_8 : decode cX5_seed 8 = .ok (.aload_n 0, 1) := by decide +kernel
theorem dX5_seed_9 : decode cX5_seed 9 = .ok (.getfield 10, 3) := by decide +kernel
theorem dX5_seed_12 : decode cX5_seed 12 = .ok (.iload_n 1, 1) := by decide +kernel
theorem dX5_seed_13 : decode cX5_seed 13 = .ok (.putfield 341, 3) := by decide +kernel
theorem dX5_seed_16 : decode cX5_seed 16 = .ok (.iload_n 2, 1) := by decide +kernel
theorem dX5_seed_17 : decode cX5_seed 17 = .ok (.ireturn, 1) := by decide +kernel
theorem dX5_status_0 : decode cX5_status 0 = .ok (.iload_n 1, 1) := by decide +kernel
theorem dX5_status_1 : decode cX5_status 1 = .ok (.i2l, 1) := by decide +kernel
theorem dX5_status_2 : decode cX5_status 2 = .ok (.ldc2_w 348, 3) := by decide +kernel
theorem dX5_status_5 : decode cX5_status 5 = .ok (.ldc2_w 350, 3) := by decide +kernel
theorem dX5_status_8 : decode cX5_status 8 = .ok (.invokestatic 50, 3) := by decide +kernel
theorem dX5_status_11 : decode cX5_status 11 = .ok (.ifCond .eq 13, 3) := by decide +kernel
theorem dX5_status_14 : decode cX5_status 14 = .ok (.aload_n 0, 1) := by decide +kernel
theorem dX5_status_15 : decode cX5_status 15 = .ok (.getfield 40, 3) := by decide +kernel
theorem dX5_status_18 : decode cX5_status 18 = .ok (.iload_n 1, 1) := by decide +kernel
theorem dX5_status_19 : decode cX5_status 19 = .ok (.bipush 12, 2) := by decide +kernel
theorem dX5_status_21 : decode cX5_status 21 = .ok (.isub, 1) := by decide +kernel
theorem dX5_status_22 : decode cX5_status 22 = .ok (.iaload, 1) := by decide +kernel
theorem dX5_status_23 : decode cX5_status 23 = .ok (.ireturn, 1) := by decide +kernel
theorem dX5_status_24 : decode cX5_status 24 = .ok (.iload_n 1, 1) := by decide +kernel
theorem dX5_status_25 : decode cX5_status 25 = .ok (.tableswitch 123 0 8 #[51, 59, 70, 78, 89, 94, 99, 107, 115], 51) := by decide +kernel
theorem dX5_status_76 : decode cX5_status 76 = .ok (.aload_n 0, 1) := by decide +kernel
theorem dX5_status_77 : decode cX5_status 77 = .ok (.getfield 10, 3) := by decide +kernel
theorem dX5_status_80 : decode cX5_status 80 = .ok (.getfield 127, 3) := by decide +kernel
theorem dX5_status_83 : decode cX5_status 83 = .ok (.ireturn, 1) := by decide +kernel
theorem dX5_status_84 : decode cX5_status 84 = .ok (.aload_n 0, 1) := by decide +kernel
theorem dX5_status_85 : decode cX5_status 85 = .ok (.getfield 10, 3) := by decide +kernel
theorem dX5_status_88 : decode cX5_status 88 = .ok (.getfield 180, 3) := by decide +kernel
theorem dX5_status_91 : decode cX5_status 91 = .ok (.invokestatic 264, 3) := by decide +kernel
theorem dX5_status_94 : decode cX5_status 94 = .ok (.ireturn, 1) := by decide +kernel
theorem dX5_status_95 : decode cX5_status 95 = .ok (.aload_n 0, 1) := by decide +kernel
theorem dX5_status_96 : decode cX5_status 96 = .ok (.getfield 10, 3) := by decide +kernel
theorem dX5_status_99 : decode cX5_status 99 = .ok (.getfield 141, 3) := by decide +kernel
theorem dX5_status_102 : decode cX5_status 102 = .ok (.ireturn, 1) := by decide +kernel
theorem dX5_status_103 : decode cX5_status 103 = .ok (.aload_n 0, 1) := by decide +kernel
theorem dX5_status_104 : decode cX5_status 104 = .ok (.getfield 10, 3) := by decide +kernel
theorem dX5_status_107 : decode cX5_status 107 = .ok (.getfield 207, 3) := by decide +kernel
theorem dX5_status_110 : decode cX5_status 110 = .ok (.invokestatic 264, 3) := by decide +kernel
theorem dX5_status_113 : decode cX5_status 113 = .ok (.ireturn, 1) := by decide +kernel
theorem dX5_status_114 : decode cX5_status 114 = .ok (.aload_n 0, 1) := by decide +kernel
theorem dX5_status_115 : decode cX5_status 115 = .ok (.getfield 335, 3) := by decide +kernel
theorem dX5_status_118 : decode cX5_status 118 = .ok (.ireturn, 1) := by decide +kernel
theorem dX5_status_119 : decode cX5_status 119 = .ok (.aload_n 0, 1) := by decide +kernel
theorem dX5_status_120 : decode cX5_status 120 = .ok (.getfield 338, 3) := by decide +kernel
theorem dX5_status_123 : decode cX5_status 123 = .ok (.ireturn, 1) := by decide +kernel
theorem dX5_status_124 : decode cX5_status 124 = .ok (.aload_n 0, 1) := by decide +kernel
theorem dX5_status_125 : decode cX5_status 125 = .ok (.getfield 36, 3) := by decide +kernel
theorem dX5_status_128 : decode cX5_status 128 = .ok (.getfield 148, 3) := by decide +kernel
theorem dX5_status_131 : decode cX5_status 131 = .ok (.ireturn, 1) := by decide +kernel
theorem dX5_status_132 : decode cX5_status 132 = .ok (.aload_n 0, 1) := by decide +kernel
theorem dX5_status_133 : decode cX5_status 133 = .ok (.getfield 10, 3) := by decide +kernel
theorem dX5_status_136 : decode cX5_status 136 = .ok (.getfield 341, 3) := by decide +kernel
theorem dX5_status_139 : decode cX5_status 139 = .ok (.ireturn, 1) := by decide +kernel
theorem dX5_status_140 : decode cX5_status 140 = .ok (.aload_n 0, 1) := by decide +kernel
theorem dX5_status_141 : decode cX5_status 141 = .ok (.getfield 29, 3) := by decide +kernel
theorem dX5_status_144 : decode cX5_status 144 = .ok (.invokevirtual 352, 3) := by decide +kernel
theorem dX5_status_147 : decode cX5_status 147 = .ok (.ireturn, 1) := by decide +kernel
theorem dX5_status_148 : decode cX5_status 148 = .ok (.iconst (-1), 1) := by decide +kernel
theorem dX5_status_149 : decode cX5_status 149 = .ok (.ireturn, 1) := by decide +kernel
theorem dX5_teach_0 : decode cX5_teach 0 = .ok (.aload_n 0, 1) := by decide +kernel
theorem dX5_teach_1 : decode cX5_teach 1 = .ok (.iload_n 1, 1) := by decide +kernel
theorem dX5_teach_2 : decode cX5_teach 2 = .ok (.iload_n 2, 1) := by decide +kernel
theorem dX5_teach_3 : decode cX5_teach 3 = .ok (.invokevirtual 210, 3) := by decide +kernel
theorem dX5_teach_6 : decode cX5_teach 6 = .ok (.ifCond .ne 10, 3) := by decide +kernel
theorem dX5_teach_9 : decode cX5_teach 9 = .ok (.aload_n 0, 1) := by decide +kernel
theorem dX5_teach_10 : decode cX5_teach 10 = .ok (.bipush (-2), 2) := by decide +kernel
theorem dX5_teach_12 : decode cX5_teach 12 = .ok (.invokevirtual 56, 3) := by decide +kernel
theorem dX5_teach_15 : decode cX5_teach 15 = .ok (.ireturn, 1) := by decide +kernel
theorem dX5_tell_0 : decode cX5_tell 0 = .ok (.aload_n 0, 1) := by decide +kernel
theorem dX5_tell_1 : decode cX5_tell 1 = .ok (.iload_n 1, 1) := by decide +kernel
theorem dX5_tell_2 : decode cX5_tell 2 = .ok (.iload_n 3, 1) := by decide +kernel
theorem dX5_tell_3 : decode cX5_tell 3 = .ok (.invokevirtual 210, 3) := by decide +kernel
theorem dX5_tell_6 : decode cX5_tell 6 = .ok (.ifCond .eq 19, 3) := by decide +kernel
theorem dX5_tell_25 : decode cX5_tell 25 = .ok (.aload_n 0, 1) := by decide +kernel
theorem dX5_tell_26 : decode cX5_tell 26 = .ok (.bipush (-2), 2) := by decide +kernel
theorem dX5_tell_28 : decode cX5_tell 28 = .ok (.invokevirtual 56, 3) := by decide +kernel
theorem dX5_tell_31 : decode cX5_tell 31 = .ok (.ireturn, 1) := by decide +kernel
theorem dX5_told_0 : decode cX5_told 0 = .ok (.aload_n 0, 1) := by decide +kernel
theorem dX5_told_1 : decode cX5_told 1 = .ok (.iload_n 1, 1) := by decide +kernel
theorem dX5_told_2 : decode cX5_told 2 = .ok (.iload_n 2, 1) := by decide +kernel
theorem dX5_told_3 : decode cX5_told 3 = .ok (.invokevirtual 321, 3) := by decide +kernel
theorem dX5_told_6 : decode cX5_told 6 = .ok (.istore_n 3, 1) := by decide +kernel
theorem dX5_told_7 : decode cX5_told 7 = .ok (.iload_n 3, 1) := by decide +kernel
theorem dX5_told_8 : decode cX5_told 8 = .ok (.ifCond .ne 16, 3) := by decide +kernel
theorem dX5_told_24 : decode cX5_told 24 = .ok (.iload_n 3, 1) := by decide +kernel
theorem dX5_told_25 : decode cX5_told 25 = .ok (.ifCond .ne 16, 3) := by decide +kernel
theorem dX5_told_41 : decode cX5_told 41 = .ok (.aload_n 0, 1) := by decide +kernel
theorem dX5_told_42 : decode cX5_told 42 = .ok (.iload_n 3, 1) := by decide +kernel
theorem dX5_told_43 : decode cX5_told 43 = .ok (.invokevirtual 56, 3) := by decide +kernel
theorem dX5_told_46 : decode cX5_told 46 = .ok (.ireturn, 1) := by decide +kernel
theorem dX5_two_0 : decode cX5_two 0 = .ok (.aload_n 0, 1) := by decide +kernel
theorem dX5_two_1 : decode cX5_two 1 = .ok (.getfield 10, 3) := by decide +kernel
theorem dX5_two_4 : decode cX5_two 4 = .ok (.iload_n 1, 1) := by decide +kernel
theorem dX5_two_5 : decode cX5_two 5 = .ok (.invokevirtual 192, 3) := by decide +kernel
theorem dX5_two_8 : decode cX5_two 8 = .ok (.ifCond .eq 14, 3) := by decide +kernel
theorem dX5_two_22 : decode cX5_two 22 = .ok (.aload_n 0, 1) := by decide +kernel
theorem dX5_two_23 : decode cX5_two 23 = .ok (.bipush (-2), 2) := by decide +kernel
theorem dX5_two_25 : decode cX5_two 25 = .ok (.invokevirtual 56, 3) := by decide +kernel
theorem dX5_two_28 : decode cX5_two 28 = .ok (.ireturn, 1) := by decide +kernel
theorem dX5_value_0 : decode cX5_value 0 = .ok (.aload_n 0, 1) := by decide +kernel
theorem dX5_value_1 : decode cX5_value 1 = .ok (.getfield 10, 3) := by decide +kernel
theorem dX5_value_4 : decode cX5_value 4 = .ok (.invokevirtual 123, 3) := by decide +kernel
theorem dX5_value_7 : decode cX5_value 7 = .ok (.ireturn, 1) := by decide +kernel
theorem dX5_who_0 : decode cX5_who 0 = .ok (.aload_n 0, 1) := by decide +kernel
theorem dX5_who_1 : decode cX5_who 1 = .ok (.getfield 10, 3) := by decide +kernel
theorem dX5_who_4 : decode cX5_who 4 = .ok (.iload_n 1, 1) := by decide +kernel
theorem dX5_who_5 : decode cX5_who 5 = .ok (.invokevirtual 168, 3) := by decide +kernel
theorem dX5_who_8 : decode cX5_who 8 = .ok (.ifCond .eq 15, 3) := by decide +kernel
theorem dX5_who_23 : decode cX5_who 23 = .ok (.aload_n 0, 1) := by decide +kernel
theorem dX5_who_24 : decode cX5_who 24 = .ok (.bipush (-2), 2) := by decide +kernel
theorem dX5_who_26 : decode cX5_who 26 = .ok (.invokevirtual 56, 3) := by decide +kernel
theorem dX5_who_29 : decode cX5_who 29 = .ok (.ireturn, 1) := by decide +kernel
theorem dX5_write_0 : decode cX5_write 0 = .ok (.aload_n 0, 1) := by decide +kernel
theorem dX5_write_1 : decode cX5_write 1 = .ok (.iload_n 1, 1) := by decide +kernel
theorem dX5_write_2 : decode cX5_write 2 = .ok (.iload_n 2, 1) := by decide +kernel
theorem dX5_write_3 : decode cX5_write 3 = .ok (.invokevirtual 210, 3) := by decide +kernel
theorem dX5_write_6 : decode cX5_write 6 = .ok (.ifCond .ne 10, 3) := by decide +kernel
theorem dX5_write_9 : decode cX5_write 9 = .ok (.aload_n 0, 1) := by decide +kernel
theorem dX5_write_10 : decode cX5_write 10 = .ok (.bipush (-2), 2) := by decide +kernel
theorem dX5_write_12 : decode cX5_write 12 = .ok (.invokevirtual 56, 3) := by decide +kernel
theorem dX5_write_15 : decode cX5_write 15 = .ok (.ireturn, 1) := by decide +kernel
theorem dX5_years_0 : decode cX5_years 0 = .ok (.iload_n 2, 1) := by decide +kernel
theorem dX5_years_1 : decode cX5_years 1 = .ok (.i2l, 1) := by decide +kernel
theorem dX5_years_2 : decode cX5_years 2 = .ok (.lconst 1, 1) := by decide +kernel
theorem dX5_years_3 : decode cX5_years 3 = .ok (.ldc2_w 327, 3) := by decide +kernel
theorem dX5_years_6 : decode cX5_years 6 = .ok (.invokestatic 50, 3) := by decide +kernel
theorem dX5_years_9 : decode cX5_years 9 = .ok (.ifCond .eq 11, 3) := by decide +kernel
theorem dX5_years_12 : decode cX5_years 12 = .ok (.aload_n 0, 1) := by decide +kernel
theorem dX5_years_13 : decode cX5_years 13 = .ok (.iload_n 1, 1) := by decide +kernel
theorem dX5_years_14 : decode cX5_years 14 = .ok (.invokevirtual 100, 3) := by decide +kernel
theorem dX5_years_17 : decode cX5_years 17 = .ok (.goto 5, 3) := by decide +kernel
theorem dX5_years_20 : decode cX5_years 20 = .ok (.bipush (-2), 2) := by decide +kernel
theorem dX5_years_22 : decode cX5_years 22 = .ok (.istore_n 3, 1) := by decide +kernel
theorem dX5_years_23 : decode cX5_years 23 = .ok (.iload_n 3, 1) := by decide +kernel
theorem dX5_years_24 : decode cX5_years 24 = .ok (.ifCond .eq 9, 3) := by decide +kernel
theorem dX5_years_27 : decode cX5_years 27 = .ok (.aload_n 0, 1) := by decide +kernel
theorem dX5_years_28 : decode cX5_years 28 = .ok (.iload_n 3, 1) := by decide +kernel
theorem dX5_years_29 : decode cX5_years 29 = .ok (.invokevirtual 56, 3) := by decide +kernel
theorem dX5_years_32 : decode cX5_years 32 = .ok (.ireturn, 1) := by decide +kernel
theorem dX5_youngest_0 : decode cX5_youngest 0 = .ok (.aload_n 0, 1) := by decide +kernel
theorem dX5_youngest_1 : decode cX5_youngest 1 = .ok (.getfield 10, 3) := by decide +kernel
theorem dX5_youngest_4 : decode cX5_youngest 4 = .ok (.iload_n 1, 1) := by decide +kernel
theorem dX5_youngest_5 : decode cX5_youngest 5 = .ok (.invokevirtual 192, 3) := by decide +kernel
theorem dX5_youngest_8 : decode cX5_youngest 8 = .ok (.ifCond .eq 14, 3) := by decide +kernel
theorem dX5_youngest_22 : decode cX5_youngest 22 = .ok (.aload_n 0, 1) := by decide +kernel
theorem dX5_youngest_23 : decode cX5_youngest 23 = .ok (.bipush (-2), 2) := by decide +kernel
theorem dX5_youngest_25 : decode cX5_youngest 25 = .ok (.invokevirtual 56, 3) := by decide +kernel
theorem dX5_youngest_28 : decode cX5_youngest 28 = .ok (.ireturn, 1) := by decide +kernel
set_option maxHeartbeats 4000000 in
set_option maxRecDepth 100000 in
theorem p_X5_read (l : Launch) (G : va_G) (cy : Nat → ClassId) (sz : Nat) (qx : Nat) (qt : Nat) (qk : Nat) (qp : Nat) (qs : Nat) (qa : Nat) (qr : Nat) (qtw : Nat) (qtn : Nat) (qtg : Nat) (qta : Nat) (qtr : Nat) (qtm : Nat) (qtt : Nat) (qts : Nat) (iA : Int32) (iB : Int32)   : MW l yX5_read cX5_read 4 (some .int) 6 0 0 G cy [(qx, .inr (4, [.ref qt, .ref qk, .ref qp, .ref qs, .ref qa, .ref qr, .int 0, .int 0, .int 0])), (qr, .inl (cy 0, 5, .inl (fun _ => 0))), (qt, .inr (3, [.int 0, .int 0, .int 0, .int 0, .int 1, .ref qtw, .ref qtn, .ref qtg, .ref qta, .ref qtr, .ref qtm, .ref qtt, .ref qts]))] sz [.ref qx, .int iA, .int iB] (Wi G (fun r u => u = [] ∧ ((r = (-2))))) := by
  refine enW RX5 (by decide) rfl (Nat.le_of_ble_eq_true rfl) (fun p e s m below meth c ls A hx hb hml hown hts hr hlocks hP hN hl hin hD hA hS => ?_)
  have hin : meth.name = _ := hin
  have hK := hN.1
  have hl : lv_has ls 4 [(0, .ref qx), (1, .int iA), (2, .int iB)] := hl
  refine lv_aload_n hx hb dX5_read_0 rfl (lv_at hl 0 rfl) ?_
  refine lv_iload_n hx hb dX5_read_1 rfl (lv_at hl 1 rfl) ?_
  refine lv_iload_n hx hb dX5_read_2 rfl (lv_at hl 2 rfl) ?_
  refine kRi (rV (As := [.int iA, .int iB]) (rest := []) (b := qx) ⟨hx, hb, hml, hown, hts⟩ (c_X5_readFit l G cy qx qt (.ref qk) (.ref qp) (.ref qs) (.ref qa) (.ref qr) (.int 0) (.int 0) (.int 0) qtw qtn qtg qta qtr qtm qtt qts iA iB) L_X5_224 (preRV (q := (RX5, TX5, 9)) hN hP [0, 2] rfl 0 4 rfl rfl) rfl ⟨Nat.le_of_ble_eq_true rfl, Nat.le_of_ble_eq_true rfl⟩ hl.1 (Nat.le_of_ble_eq_true rfl) dX5_read_3 ⟨Nat.le_of_ble_eq_true rfl, Nat.le_of_ble_eq_true rfl⟩) (fun r_1 h_2 => ?_)
  subst h_2
  refine lv_istore_n (lv' := [(3, .int (-2)), (0, .ref qx), (1, .int iA), (2, .int iB)]) hx hb dX5_read_6 rfl hl (by decide) rfl (fun ls hl => ?_)
  refine lv_iload_n hx hb dX5_read_7 rfl (lv_at hl 0 rfl) ?_
  refine lv_if_eq (tgt := 17) hx hb dX5_read_8 (by decide) (fun h9 => absurd h9 (by decide)) (fun _ => ?_)
  refine lv_aload_n hx hb dX5_read_11 rfl (lv_at hl 1 rfl) ?_
  refine lv_iload_n hx hb dX5_read_12 rfl (lv_at hl 0 rfl) ?_
  refine kWi (wr := [(qt, .inr (3, [.int 0, .int 0, .int 0, .int 0, .int 1, .ref qtw, .ref qtn, .ref qtg, .ref qta, .ref qtr, .ref qtm, .ref qtt, .ref qts]))]) (rV (As := [.int (-2)]) (rest := []) (b := qx) ⟨hx, hb, hml, hown, hts⟩ (c_X5_refuse2 l G cy (s.heap).size qx (.ref qt) (.ref qk) (.ref qp) (.ref qs) (.ref qa) qr (.int 0) (.int 0) (.int 0) (fun _ => 0)) L_X5_56 (preWV (q := (RX5, TX5, 9)) hN hP hD [0, 1] rfl (by decide) 0 4 rfl rfl) rfl ⟨Nat.le_of_ble_eq_true rfl, Nat.le_of_ble_eq_true rfl⟩ hl.1 (Nat.le_of_ble_eq_true rfl) dX5_read_13 ⟨Nat.le_of_ble_eq_true rfl, Nat.le_of_ble_eq_true rfl⟩) hP hD hS hA [0, 1] [2] rfl rfl (by decide) (by decide) (fun r_4 u_6 H locs h_5 hP hD hS => ?_)
  obtain ⟨rfl, h_5⟩ := h_5
  have hP : va_P G CL [(qt, .inr (3, [.int 0, .int 0, .int 0, .int 0, .int 1, .ref qtw, .ref qtn, .ref qtg, .ref qta, .ref qtr, .ref qtm, .ref qtt, .ref qts])), (qx, .inr (4, [.ref qt, .ref qk, .ref qp, .ref qs, .ref qa, .ref qr, .int 0, .int 0, .int 0]))] H := hP
  have hD : va_D A [(qt, .inr (3, [.int 0, .int 0, .int 0, .int 0, .int 1, .ref qtw, .ref qtn, .ref qtg, .ref qta, .ref qtr, .ref qtm, .ref qtt, .ref qts])), (qx, .inr (4, [.ref qt, .ref qk, .ref qp, .ref qs, .ref qa, .ref qr, .int 0, .int 0, .int 0]))] := hD
  subst h_5
  exact endW (u := []) hx hb hr hlocks rfl va_P0 va_D0 hS ⟨rfl, rfl⟩ dX5_read_16
set_option maxHeartbeats 4000000 in
set_option maxRecDepth 100000 in
theorem p_X5_aloud (l : Launch) (G : va_G) (cy : Nat → ClassId) (sz : Nat) (qx : Nat) (qt : Nat) (qk : Nat) (qp : Nat) (qs : Nat) (qa : Nat) (qr : Nat) (qtw : Nat) (qtn : Nat) (qtg : Nat) (qta : Nat) (qtr : Nat) (qtm : Nat) (qtt : Nat) (qts : Nat) (iA : Int32) (iB : Int32) (iC : Int32)   : MW l yX5_aloud cX5_aloud 5 (some .int) 6 0 0 G cy [(qx, .inr (4, [.ref qt, .ref qk, .ref qp, .ref qs, .ref qa, .ref qr, .int 0, .int 0, .int 0])), (qr, .inl (cy 0, 5, .inl (fun _ => 0))), (qt, .inr (3, [.int 0, .int 0, .int 0, .int 0, .int 1, .ref qtw, .ref qtn, .ref qtg, .ref qta, .ref qtr, .ref qtm, .ref qtt, .ref qts]))] sz [.ref qx, .int iA, .int iB, .int iC] (Wi G (fun r u => u = [] ∧ ((r = (-2))))) := by
  refine enW RX5 (by decide) rfl (Nat.le_of_ble_eq_true rfl) (fun p e s m below meth c ls A hx hb hml hown hts hr hlocks hP hN hl hin hD hA hS => ?_)
  have hin : meth.name = _ := hin
  have hK := hN.1
  have hl : lv_has ls 5 [(0, .ref qx), (1, .int iA), (2, .int iB), (3, .int iC)] := hl
  refine lv_iload_n hx hb dX5_aloud_0 rfl (lv_at hl 3 rfl) ?_
  refine lv_aload_n hx hb dX5_aloud_1 rfl (lv_at hl 0 rfl) ?_
  refine va_get (D := G) (ci := 4) (v := .ref qt) (C := RX5) (T := TX5) (N := 9) hx hb hts iX_X5 hown hK hP 0 rfl rfl 0 (by decide) (hts _ m_t174) (fun _ h9 => h9) rfl dX5_aloud_2 ?_
  refine va_getN (D := G) (ci := 3) (v := .int 0) (C := RX4) (T := TX4) (N := 13) hx hb hts iX_X4 hown hK hP 2 rfl rfl 1 (by decide) (va_Nw.use rfl (hN.2.1 (RX5, 141, "EachBookOnce$Town", "people", "I") (List.mem_of_getElem? (i := 7) rfl))) (fun _ h9 => h9) rfl dX5_aloud_5 ?_
  refine kRi (rS (As := [.int iC, .int 0]) (rest := []) ⟨hx, hb, hml, hown, hts⟩ (c_X5_isSetOf0 l G cy iC) L_X5_131 (preRS hN hP [] rfl) rfl ⟨Nat.le_of_ble_eq_true rfl, Nat.le_of_ble_eq_true rfl⟩ hl.1 (Nat.le_of_ble_eq_true rfl) dX5_aloud_8 ⟨Nat.le_of_ble_eq_true rfl, Nat.le_of_ble_eq_true rfl⟩) (fun r_1 h_2 => ?_)
  rcases h_2 with ⟨rfl, h_3⟩ | ⟨rfl, h_3⟩
  · refine lv_if_eq (tgt := 23) hx hb dX5_aloud_11 (by decide) (fun h9 => absurd h9 (by decide)) (fun _ => ?_)
    refine lv_aload_n hx hb dX5_aloud_14 rfl (lv_at hl 0 rfl) ?_
    refine lv_iload_n hx hb dX5_aloud_15 rfl (lv_at hl 1 rfl) ?_
    refine lv_iload_n hx hb dX5_aloud_16 rfl (lv_at hl 2 rfl) ?_
    refine kRi (rV (As := [.int iA, .int iB]) (rest := []) (b := qx) ⟨hx, hb, hml, hown, hts⟩ (c_X5_readFit l G cy qx qt (.ref qk) (.ref qp) (.ref qs) (.ref qa) (.ref qr) (.int 0) (.int 0) (.int 0) qtw qtn qtg qta qtr qtm qtt qts iA iB) L_X5_224 (preRV (q := (RX5, TX5, 9)) hN hP [0, 2] rfl 0 4 rfl rfl) rfl ⟨Nat.le_of_ble_eq_true rfl, Nat.le_of_ble_eq_true rfl⟩ hl.1 (Nat.le_of_ble_eq_true rfl) dX5_aloud_17 ⟨Nat.le_of_ble_eq_true rfl, Nat.le_of_ble_eq_true rfl⟩) (fun r_5 h_6 => ?_)
    subst h_6
    refine lv_goto (tgt := 25) hx hb dX5_aloud_20 (by decide) ?_
    refine lv_istore (lv' := [(4, .int (-2)), (0, .ref qx), (1, .int iA), (2, .int iB), (3, .int iC)]) hx hb dX5_aloud_25 hl (by decide) rfl (fun ls hl => ?_)
    refine lv_iload hx hb dX5_aloud_27 (lv_at hl 0 rfl) ?_
    refine lv_if_eq (tgt := 39) hx hb dX5_aloud_29 (by decide) (fun h9 => absurd h9 (by decide)) (fun _ => ?_)
    refine lv_aload_n hx hb dX5_aloud_32 rfl (lv_at hl 1 rfl) ?_
    refine lv_iload hx hb dX5_aloud_33 (lv_at hl 0 rfl) ?_
    refine kWi (wr := [(qt, .inr (3, [.int 0, .int 0, .int 0, .int 0, .int 1, .ref qtw, .ref qtn, .ref qtg, .ref qta, .ref qtr, .ref qtm, .ref qtt, .ref qts]))]) (rV (As := [.int (-2)]) (rest := []) (b := qx) ⟨hx, hb, hml, hown, hts⟩ (c_X5_refuse2 l G cy (s.heap).size qx (.ref qt) (.ref qk) (.ref qp) (.ref qs) (.ref qa) qr (.int 0) (.int 0) (.int 0) (fun _ => 0)) L_X5_56 (preWV (q := (RX5, TX5, 9)) hN hP hD [0, 1] rfl (by decide) 0 4 rfl rfl) rfl ⟨Nat.le_of_ble_eq_true rfl, Nat.le_of_ble_eq_true rfl⟩ hl.1 (Nat.le_of_ble_eq_true rfl) dX5_aloud_35 ⟨Nat.le_of_ble_eq_true rfl, Nat.le_of_ble_eq_true rfl⟩) hP hD hS hA [0, 1] [2] rfl rfl (by decide) (by decide) (fun r_8 u_10 H locs h_9 hP hD hS => ?_)
    obtain ⟨rfl, h_9⟩ := h_9
    have hP : va_P G CL [(qt, .inr (3, [.int 0, .int 0, .int 0, .int 0, .int 1, .ref qtw, .ref qtn, .ref qtg, .ref qta, .ref qtr, .ref qtm, .ref qtt, .ref qts])), (qx, .inr (4, [.ref qt, .ref qk, .ref qp, .ref qs, .ref qa, .ref qr, .int 0, .int 0, .int 0]))] H := hP
    have hD : va_D A [(qt, .inr (3, [.int 0, .int 0, .int 0, .int 0, .int 1, .ref qtw, .ref qtn, .ref qtg, .ref qta, .ref qtr, .ref qtm, .ref qtt, .ref qts])), (qx, .inr (4, [.ref qt, .ref qk, .ref qp, .ref qs, .ref qa, .ref qr, .int 0, .int 0, .int 0]))] := hD
    subst h_9
    exact endW (u := []) hx hb hr hlocks rfl va_P0 va_D0 hS ⟨rfl, rfl⟩ dX5_aloud_38
  · refine lv_if_eq (tgt := 23) hx hb dX5_aloud_11 (by decide) (fun _ => ?_) (fun h9 => absurd (by decide) h9)
    refine lv_bipush (v := (-2)) hx hb dX5_aloud_23 (by decide) ?_
    refine lv_istore (lv' := [(4, .int (-2)), (0, .ref qx), (1, .int iA), (2, .int iB), (3, .int iC)]) hx hb dX5_aloud_25 hl (by decide) rfl (fun ls hl => ?_)
    refine lv_iload hx hb dX5_aloud_27 (lv_at hl 0 rfl) ?_
    refine lv_if_eq (tgt := 39) hx hb dX5_aloud_29 (by decide) (fun h9 => absurd h9 (by decide)) (fun _ => ?_)
    refine lv_aload_n hx hb dX5_aloud_32 rfl (lv_at hl 1 rfl) ?_
    refine lv_iload hx hb dX5_aloud_33 (lv_at hl 0 rfl) ?_
    refine kWi (wr := [(qt, .inr (3, [.int 0, .int 0, .int 0, .int 0, .int 1, .ref qtw, .ref qtn, .ref qtg, .ref qta, .ref qtr, .ref qtm, .ref qtt, .ref qts]))]) (rV (As := [.int (-2)]) (rest := []) (b := qx) ⟨hx, hb, hml, hown, hts⟩ (c_X5_refuse2 l G cy (s.heap).size qx (.ref qt) (.ref qk) (.ref qp) (.ref qs) (.ref qa) qr (.int 0) (.int 0) (.int 0) (fun _ => 0)) L_X5_56 (preWV (q := (RX5, TX5, 9)) hN hP hD [0, 1] rfl (by decide) 0 4 rfl rfl) rfl ⟨Nat.le_of_ble_eq_true rfl, Nat.le_of_ble_eq_true rfl⟩ hl.1 (Nat.le_of_ble_eq_true rfl) dX5_aloud_35 ⟨Nat.le_of_ble_eq_true rfl, Nat.le_of_ble_eq_true rfl⟩) hP hD hS hA [0, 1] [2] rfl rfl (by decide) (by decide) (fun r_13 u_15 H locs h_14 hP hD hS => ?_)
    obtain ⟨rfl, h_14⟩ := h_14
    have hP : va_P G CL [(qt, .inr (3, [.int 0, .int 0, .int 0, .int 0, .int 1, .ref qtw, .ref qtn, .ref qtg, .ref qta, .ref qtr, .ref qtm, .ref qtt, .ref qts])), (qx, .inr (4, [.ref qt, .ref qk, .ref qp, .ref qs, .ref qa, .ref qr, .int 0, .int 0, .int 0]))] H := hP
    have hD : va_D A [(qt, .inr (3, [.int 0, .int 0, .int 0, .int 0, .int 1, .ref qtw, .ref qtn, .ref qtg, .ref qta, .ref qtr, .ref qtm, .ref qtt, .ref qts])), (qx, .inr (4, [.ref qt, .ref qk, .ref qp, .ref qs, .ref qa, .ref qr, .int 0, .int 0, .int 0]))] := hD
    subst h_14
    exact endW (u := []) hx hb hr hlocks rfl va_P0 va_D0 hS ⟨rfl, rfl⟩ dX5_aloud_38
set_option maxHeartbeats 4000000 in
set_option maxRecDepth 100000 in
theorem p_X5_tell (l : Launch) (G : va_G) (cy : Nat → ClassId) (sz : Nat) (qx : Nat) (qt : Nat) (qk : Nat) (qp : Nat) (qs : Nat) (qa : Nat) (qr : Nat) (qtw : Nat) (qtn : Nat) (qtg : Nat) (qta : Nat) (qtr : Nat) (qtm : Nat) (qtt : Nat) (qts : Nat) (iA : Int32) (iB : Int32) (iC : Int32)   : MW l yX5_tell cX5_tell 5 (some .int) 6 0 0 G cy [(qx, .inr (4, [.ref qt, .ref qk, .ref qp, .ref qs, .ref qa, .ref qr, .int 0, .int 0, .int 0])), (qr, .inl (cy 0, 5, .inl (fun _ => 0))), (qt, .inr (3, [.int 0, .int 0, .int 0, .int 0, .int 1, .ref qtw, .ref qtn, .ref qtg, .ref qta, .ref qtr, .ref qtm, .ref qtt, .ref qts]))] sz [.ref qx, .int iA, .int iB, .int iC] (Wi G (fun r u => u = [] ∧ ((r = (-2))))) := by
  refine enW RX5 (by decide) rfl (Nat.le_of_ble_eq_true rfl) (fun p e s m below meth c ls A hx hb hml hown hts hr hlocks hP hN hl hin hD hA hS => ?_)
  have hin : meth.name = _ := hin
  have hK := hN.1
  have hl : lv_has ls 5 [(0, .ref qx), (1, .int iA), (2, .int iB), (3, .int iC)] := hl
  refine lv_aload_n hx hb dX5_tell_0 rfl (lv_at hl 0 rfl) ?_
  refine lv_iload_n hx hb dX5_tell_1 rfl (lv_at hl 1 rfl) ?_
  refine lv_iload_n hx hb dX5_tell_2 rfl (lv_at hl 3 rfl) ?_
  refine kRi (rV (As := [.int iA, .int iC]) (rest := []) (b := qx) ⟨hx, hb, hml, hown, hts⟩ (c_X5_isPair l G cy qx qt (.ref qk) (.ref qp) (.ref qs) (.ref qa) (.ref qr) (.int 0) (.int 0) (.int 0) qtw qtn qtg qta qtr qtm qtt qts iA iC) L_X5_210 (preRV (q := (RX5, TX5, 9)) hN hP [0, 2] rfl 0 4 rfl rfl) rfl ⟨Nat.le_of_ble_eq_true rfl, Nat.le_of_ble_eq_true rfl⟩ hl.1 (Nat.le_of_ble_eq_true rfl) dX5_tell_3 ⟨Nat.le_of_ble_eq_true rfl, Nat.le_of_ble_eq_true rfl⟩) (fun r_1 h_2 => ?_)
  subst h_2
  refine lv_if_eq (tgt := 25) hx hb dX5_tell_6 (by decide) (fun _ => ?_) (fun h9 => absurd (by decide) h9)
  refine lv_aload_n hx hb dX5_tell_25 rfl (lv_at hl 0 rfl) ?_
  refine lv_bipush (v := (-2)) hx hb dX5_tell_26 (by decide) ?_
  refine kWi (wr := [(qt, .inr (3, [.int 0, .int 0, .int 0, .int 0, .int 1, .ref qtw, .ref qtn, .ref qtg, .ref qta, .ref qtr, .ref qtm, .ref qtt, .ref qts]))]) (rV (As := [.int (-2)]) (rest := []) (b := qx) ⟨hx, hb, hml, hown, hts⟩ (c_X5_refuse2 l G cy (s.heap).size qx (.ref qt) (.ref qk) (.ref qp) (.ref qs) (.ref qa) qr (.int 0) (.int 0) (.int 0) (fun _ => 0)) L_X5_56 (preWV (q := (RX5, TX5, 9)) hN hP hD [0, 1] rfl (by decide) 0 4 rfl rfl) rfl ⟨Nat.le_of_ble_eq_true rfl, Nat.le_of_ble_eq_true rfl⟩ hl.1 (Nat.le_of_ble_eq_true rfl) dX5_tell_28 ⟨Nat.le_of_ble_eq_true rfl, Nat.le_of_ble_eq_true rfl⟩) hP hD hS hA [0, 1] [2] rfl rfl (by decide) (by decide) (fun r_4 u_6 H locs h_5 hP hD hS => ?_)
  obtain ⟨rfl, h_5⟩ := h_5
  have hP : va_P G CL [(qt, .inr (3, [.int 0, .int 0, .int 0, .int 0, .int 1, .ref qtw, .ref qtn, .ref qtg, .ref qta, .ref qtr, .ref qtm, .ref qtt, .ref qts])), (qx, .inr (4, [.ref qt, .ref qk, .ref qp, .ref qs, .ref qa, .ref qr, .int 0, .int 0, .int 0]))] H := hP
  have hD : va_D A [(qt, .inr (3, [.int 0, .int 0, .int 0, .int 0, .int 1, .ref qtw, .ref qtn, .ref qtg, .ref qta, .ref qtr, .ref qtm, .ref qtt, .ref qts])), (qx, .inr (4, [.ref qt, .ref qk, .ref qp, .ref qs, .ref qa, .ref qr, .int 0, .int 0, .int 0]))] := hD
  subst h_5
  exact endW (u := []) hx hb hr hlocks rfl va_P0 va_D0 hS ⟨rfl, rfl⟩ dX5_tell_31
set_option maxHeartbeats 4000000 in
set_option maxRecDepth 100000 in
theorem p_X5_write (l : Launch) (G : va_G) (cy : Nat → ClassId) (sz : Nat) (qx : Nat) (qt : Nat) (qk : Nat) (qp : Nat) (qs : Nat) (qa : Nat) (qr : Nat) (qtw : Nat) (qtn : Nat) (qtg : Nat) (qta : Nat) (qtr : Nat) (qtm : Nat) (qtt : Nat) (qts : Nat) (iA : Int32) (iB : Int32)   : MW l yX5_write cX5_write 3 (some .int) 6 0 0 G cy [(qx, .inr (4, [.ref qt, .ref qk, .ref qp, .ref qs, .ref qa, .ref qr, .int 0, .int 0, .int 0])), (qr, .inl (cy 0, 5, .inl (fun _ => 0))), (qt, .inr (3, [.int 0, .int 0, .int 0, .int 0, .int 1, .ref qtw, .ref qtn, .ref qtg, .ref qta, .ref qtr, .ref qtm, .ref qtt, .ref qts]))] sz [.ref qx, .int iA, .int iB] (Wi G (fun r u => u = [] ∧ ((r = (-2))))) := by
  refine enW RX5 (by decide) rfl (Nat.le_of_ble_eq_true rfl) (fun p e s m below meth c ls A hx hb hml hown hts hr hlocks hP hN hl hin hD hA hS => ?_)
  have hin : meth.name = _ := hin
  have hK := hN.1
  have hl : lv_has ls 3 [(0, .ref qx), (1, .int iA), (2, .int iB)] := hl
  refine lv_aload_n hx hb dX5_write_0 rfl (lv_at hl 0 rfl) ?_
  refine lv_iload_n hx hb dX5_write_1 rfl (lv_at hl 1 rfl) ?_
  refine lv_iload_n hx hb dX5_write_2 rfl (lv_at hl 2 rfl) ?_
  refine kRi (rV (As := [.int iA, .int iB]) (rest := []) (b := qx) ⟨hx, hb, hml, hown, hts⟩ (c_X5_isPair l G cy qx qt (.ref qk) (.ref qp) (.ref qs) (.ref qa) (.ref qr) (.int 0) (.int 0) (.int 0) qtw qtn qtg qta qtr qtm qtt qts iA iB) L_X5_210 (preRV (q := (RX5, TX5, 9)) hN hP [0, 2] rfl 0 4 rfl rfl) rfl ⟨Nat.le_of_ble_eq_true rfl, Nat.le_of_ble_eq_true rfl⟩ hl.1 (Nat.le_of_ble_eq_true rfl) dX5_write_3 ⟨Nat.le_of_ble_eq_true rfl, Nat.le_of_ble_eq_true rfl⟩) (fun r_1 h_2 => ?_)
  subst h_2
  refine lv_if_ne (tgt := 16) hx hb dX5_write_6 (by decide) (fun h9 => absurd (by decide) h9) (fun _ => ?_)
  refine lv_aload_n hx hb dX5_write_9 rfl (lv_at hl 0 rfl) ?_
  refine lv_bipush (v := (-2)) hx hb dX5_write_10 (by decide) ?_
  refine kWi (wr := [(qt, .inr (3, [.int 0, .int 0, .int 0, .int 0, .int 1, .ref qtw, .ref qtn, .ref qtg, .ref qta, .ref qtr, .ref qtm, .ref qtt, .ref qts]))]) (rV (As := [.int (-2)]) (rest := []) (b := qx) ⟨hx, hb, hml, hown, hts⟩ (c_X5_refuse2 l G cy (s.heap).size qx (.ref qt) (.ref qk) (.ref qp) (.ref qs) (.ref qa) qr (.int 0) (.int 0) (.int 0) (fun _ => 0)) L_X5_56 (preWV (q := (RX5, TX5, 9)) hN hP hD [0, 1] rfl (by decide) 0 4 rfl rfl) rfl ⟨Nat.le_of_ble_eq_true rfl, Nat.le_of_ble_eq_true rfl⟩ hl.1 (Nat.le_of_ble_eq_true rfl) dX5_write_12 ⟨Nat.le_of_ble_eq_true rfl, Nat.le_of_ble_eq_true rfl⟩) hP hD hS hA [0, 1] [2] rfl rfl (by decide) (by decide) (fun r_4 u_6 H locs h_5 hP hD hS => ?_)
  obtain ⟨rfl, h_5⟩ := h_5
  have hP : va_P G CL [(qt, .inr (3, [.int 0, .int 0, .int 0, .int 0, .int 1, .ref qtw, .ref qtn, .ref qtg, .ref qta, .ref qtr, .ref qtm, .ref qtt, .ref qts])), (qx, .inr (4, [.ref qt, .ref qk, .ref qp, .ref qs, .ref qa, .ref qr, .int 0, .int 0, .int 0]))] H := hP
  have hD : va_D A [(qt, .inr (3, [.int 0, .int 0, .int 0, .int 0, .int 1, .ref qtw, .ref qtn, .ref qtg, .ref qta, .ref qtr, .ref qtm, .ref qtt, .ref qts])), (qx, .inr (4, [.ref qt, .ref qk, .ref qp, .ref qs, .ref qa, .ref qr, .int 0, .int 0, .int 0]))] := hD
  subst h_5
  exact endW (u := []) hx hb hr hlocks rfl va_P0 va_D0 hS ⟨rfl, rfl⟩ dX5_write_15
set_option maxHeartbeats 4000000 in
set_option maxRecDepth 100000 in
theorem p_X5_reader (l : Launch) (G : va_G) (cy : Nat → ClassId) (sz : Nat) (qx : Nat) (qt : Nat) (qk : Nat) (qp : Nat) (qs : Nat) (qa : Nat) (qr : Nat) (qtw : Nat) (qtn : Nat) (qtg : Nat) (qta : Nat) (qtr : Nat) (qtm : Nat) (qtt : Nat) (qts : Nat) (iA : Int32)   : MW l yX5_reader cX5_reader 2 (some .int) 6 0 0 G cy [(qx, .inr (4, [.ref qt, .ref qk, .ref qp, .ref qs, .ref qa, .ref qr, .int 0, .int 0, .int 0])), (qr, .inl (cy 0, 5, .inl (fun _ => 0))), (qt, .inr (3, [.int 0, .int 0, .int 0, .int 0, .int 1, .ref qtw, .ref qtn, .ref qtg, .ref qta, .ref qtr, .ref qtm, .ref qtt, .ref qts]))] sz [.ref qx, .int iA] (Wi G (fun r u => u = [] ∧ ((r = (-2))))) := by
  refine enW RX5 (by decide) rfl (Nat.le_of_ble_eq_true rfl) (fun p e s m below meth c ls A hx hb hml hown hts hr hlocks hP hN hl hin hD hA hS => ?_)
  have hin : meth.name = _ := hin
  have hK := hN.1
  have hl : lv_has ls 2 [(0, .ref qx), (1, .int iA)] := hl
  refine lv_aload_n hx hb dX5_reader_0 rfl (lv_at hl 0 rfl) ?_
  refine va_get (D := G) (ci := 4) (v := .ref qt) (C := RX5) (T := TX5) (N := 9) hx hb hts iX_X5 hown hK hP 0 rfl rfl 0 (by decide) (hts _ m_t174) (fun _ h9 => h9) rfl dX5_reader_1 ?_
  refine lv_iload_n hx hb dX5_reader_4 rfl (lv_at hl 1 rfl) ?_
  refine kRi (rV (As := [.int iA]) (rest := []) (b := qt) ⟨hx, hb, hml, hown, hts⟩ (c_X4_isBook l G cy qt (.int 0) (.int 0) (.int 0) (.int 1) (.ref qtw) (.ref qtn) (.ref qtg) (.ref qta) (.ref qtr) (.ref qtm) (.ref qtt) (.ref qts) iA) L_X5_168 (preRV (q := (RX4, TX4, 13)) hN hP [2] rfl 2 3 rfl rfl) rfl ⟨Nat.le_of_ble_eq_true rfl, Nat.le_of_ble_eq_true rfl⟩ hl.1 (Nat.le_of_ble_eq_true rfl) dX5_reader_5 ⟨Nat.le_of_ble_eq_true rfl, Nat.le_of_ble_eq_true rfl⟩) (fun r_1 h_2 => ?_)
  subst h_2
  refine lv_if_ne (tgt := 18) hx hb dX5_reader_8 (by decide) (fun h9 => absurd (by decide) h9) (fun _ => ?_)
  refine lv_aload_n hx hb dX5_reader_11 rfl (lv_at hl 0 rfl) ?_
  refine lv_bipush (v := (-2)) hx hb dX5_reader_12 (by decide) ?_
  refine kWi (wr := [(qt, .inr (3, [.int 0, .int 0, .int 0, .int 0, .int 1, .ref qtw, .ref qtn, .ref qtg, .ref qta, .ref qtr, .ref qtm, .ref qtt, .ref qts]))]) (rV (As := [.int (-2)]) (rest := []) (b := qx) ⟨hx, hb, hml, hown, hts⟩ (c_X5_refuse2 l G cy (s.heap).size qx (.ref qt) (.ref qk) (.ref qp) (.ref qs) (.ref qa) qr (.int 0) (.int 0) (.int 0) (fun _ => 0)) L_X5_56 (preWV (q := (RX5, TX5, 9)) hN hP hD [0, 1] rfl (by decide) 0 4 rfl rfl) rfl ⟨Nat.le_of_ble_eq_true rfl, Nat.le_of_ble_eq_true rfl⟩ hl.1 (Nat.le_of_ble_eq_true rfl) dX5_reader_14 ⟨Nat.le_of_ble_eq_true rfl, Nat.le_of_ble_eq_true rfl⟩) hP hD hS hA [0, 1] [2] rfl rfl (by decide) (by decide) (fun r_4 u_6 H locs h_5 hP hD hS => ?_)
  obtain ⟨rfl, h_5⟩ := h_5
  have hP : va_P G CL [(qt, .inr (3, [.int 0, .int 0, .int 0, .int 0, .int 1, .ref qtw, .ref qtn, .ref qtg, .ref qta, .ref qtr, .ref qtm, .ref qtt, .ref qts])), (qx, .inr (4, [.ref qt, .ref qk, .ref qp, .ref qs, .ref qa, .ref qr, .int 0, .int 0, .int 0]))] H := hP
  have hD : va_D A [(qt, .inr (3, [.int 0, .int 0, .int 0, .int 0, .int 1, .ref qtw, .ref qtn, .ref qtg, .ref qta, .ref qtr, .ref qtm, .ref qtt, .ref qts])), (qx, .inr (4, [.ref qt, .ref qk, .ref qp, .ref qs, .ref qa, .ref qr, .int 0, .int 0, .int 0]))] := hD
  subst h_5
  exact endW (u := []) hx hb hr hlocks rfl va_P0 va_D0 hS ⟨rfl, rfl⟩ dX5_reader_17
set_option maxHeartbeats 4000000 in
set_option maxRecDepth 100000 in
theorem p_X5_who (l : Launch) (G : va_G) (cy : Nat → ClassId) (sz : Nat) (qx : Nat) (qt : Nat) (qk : Nat) (qp : Nat) (qs : Nat) (qa : Nat) (qr : Nat) (qtw : Nat) (qtn : Nat) (qtg : Nat) (qta : Nat) (qtr : Nat) (qtm : Nat) (qtt : Nat) (qts : Nat) (iA : Int32) (iB : Int32)   : MW l yX5_who cX5_who 3 (some .int) 6 0 0 G cy [(qx, .inr (4, [.ref qt, .ref qk, .ref qp, .ref qs, .ref qa, .ref qr, .int 0, .int 0, .int 0])), (qr, .inl (cy 0, 5, .inl (fun _ => 0))), (qt, .inr (3, [.int 0, .int 0, .int 0, .int 0, .int 1, .ref qtw, .ref qtn, .ref qtg, .ref qta, .ref qtr, .ref qtm, .ref qtt, .ref qts]))] sz [.ref qx, .int iA, .int iB] (Wi G (fun r u => u = [] ∧ ((r = (-2))))) := by
  refine enW RX5 (by decide) rfl (Nat.le_of_ble_eq_true rfl) (fun p e s m below meth c ls A hx hb hml hown hts hr hlocks hP hN hl hin hD hA hS => ?_)
  have hin : meth.name = _ := hin
  have hK := hN.1
  have hl : lv_has ls 3 [(0, .ref qx), (1, .int iA), (2, .int iB)] := hl
  refine lv_aload_n hx hb dX5_who_0 rfl (lv_at hl 0 rfl) ?_
  refine va_get (D := G) (ci := 4) (v := .ref qt) (C := RX5) (T := TX5) (N := 9) hx hb hts iX_X5 hown hK hP 0 rfl rfl 0 (by decide) (hts _ m_t174) (fun _ h9 => h9) rfl dX5_who_1 ?_
  refine lv_iload_n hx hb dX5_who_4 rfl (lv_at hl 1 rfl) ?_
  refine kRi (rV (As := [.int iA]) (rest := []) (b := qt) ⟨hx, hb, hml, hown, hts⟩ (c_X4_isBook l G cy qt (.int 0) (.int 0) (.int 0) (.int 1) (.ref qtw) (.ref qtn) (.ref qtg) (.ref qta) (.ref qtr) (.ref qtm) (.ref qtt) (.ref qts) iA) L_X5_168 (preRV (q := (RX4, TX4, 13)) hN hP [2] rfl 2 3 rfl rfl) rfl ⟨Nat.le_of_ble_eq_true rfl, Nat.le_of_ble_eq_true rfl⟩ hl.1 (Nat.le_of_ble_eq_true rfl) dX5_who_5 ⟨Nat.le_of_ble_eq_true rfl, Nat.le_of_ble_eq_true rfl⟩) (fun r_1 h_2 => ?_)
  subst h_2
  refine lv_if_eq (tgt := 23) hx hb dX5_who_8 (by decide) (fun _ => ?_) (fun h9 => absurd (by decide) h9)
  refine lv_aload_n hx hb dX5_who_23 rfl (lv_at hl 0 rfl) ?_
  refine lv_bipush (v := (-2)) hx hb dX5_who_24 (by decide) ?_
  refine kWi (wr := [(qt, .inr (3, [.int 0, .int 0, .int 0, .int 0, .int 1, .ref qtw, .ref qtn, .ref qtg, .ref qta, .ref qtr, .ref qtm, .ref qtt, .ref qts]))]) (rV (As := [.int (-2)]) (rest := []) (b := qx) ⟨hx, hb, hml, hown, hts⟩ (c_X5_refuse2 l G cy (s.heap).size qx (.ref qt) (.ref qk) (.ref qp) (.ref qs) (.ref qa) qr (.int 0) (.int 0) (.int 0) (fun _ => 0)) L_X5_56 (preWV (q := (RX5, TX5, 9)) hN hP hD [0, 1] rfl (by decide) 0 4 rfl rfl) rfl ⟨Nat.le_of_ble_eq_true rfl, Nat.le_of_ble_eq_true rfl⟩ hl.1 (Nat.le_of_ble_eq_true rfl) dX5_who_26 ⟨Nat.le_of_ble_eq_true rfl, Nat.le_of_ble_eq_true rfl⟩) hP hD hS hA [0, 1] [2] rfl rfl (by decide) (by decide) (fun r_4 u_6 H locs h_5 hP hD hS => ?_)
  obtain ⟨rfl, h_5⟩ := h_5
  have hP : va_P G CL [(qt, .inr (3, [.int 0, .int 0, .int 0, .int 0, .int 1, .ref qtw, .ref qtn, .ref qtg, .ref qta, .ref qtr, .ref qtm, .ref qtt, .ref qts])), (qx, .inr (4, [.ref qt, .ref qk, .ref qp, .ref qs, .ref qa, .ref qr, .int 0, .int 0, .int 0]))] H := hP
  have hD : va_D A [(qt, .inr (3, [.int 0, .int 0, .int 0, .int 0, .int 1, .ref qtw, .ref qtn, .ref qtg, .ref qta, .ref qtr, .ref qtm, .ref qtt, .ref qts])), (qx, .inr (4, [.ref qt, .ref qk, .ref qp, .ref qs, .ref qa, .ref qr, .int 0, .int 0, .int 0]))] := hD
  subst h_5
  exact endW (u := []) hx hb hr hlocks rfl va_P0 va_D0 hS ⟨rfl, rfl⟩ dX5_who_29
set_option maxHeartbeats 4000000 in
set_option maxRecDepth 100000 in
theorem p_X5_youngest (l : Launch) (G : va_G) (cy : Nat → ClassId) (sz : Nat) (qx : Nat) (qt : Nat) (qk : Nat) (qp : Nat) (qs : Nat) (qa : Nat) (qr : Nat) (qtw : Nat) (qtn : Nat) (qtg : Nat) (qta : Nat) (qtr : Nat) (qtm : Nat) (qtt : Nat) (qts : Nat) (iA : Int32)   : MW l yX5_youngest cX5_youngest 2 (some .int) 6 0 0 G cy [(qx, .inr (4, [.ref qt, .ref qk, .ref qp, .ref qs, .ref qa, .ref qr, .int 0, .int 0, .int 0])), (qr, .inl (cy 0, 5, .inl (fun _ => 0))), (qt, .inr (3, [.int 0, .int 0, .int 0, .int 0, .int 1, .ref qtw, .ref qtn, .ref qtg, .ref qta, .ref qtr, .ref qtm, .ref qtt, .ref qts]))] sz [.ref qx, .int iA] (Wi G (fun r u => u = [] ∧ ((r = (-2))))) := by
  refine enW RX5 (by decide) rfl (Nat.le_of_ble_eq_true rfl) (fun p e s m below meth c ls A hx hb hml hown hts hr hlocks hP hN hl hin hD hA hS => ?_)
  have hin : meth.name = _ := hin
  have hK := hN.1
  have hl : lv_has ls 2 [(0, .ref qx), (1, .int iA)] := hl
  refine lv_aload_n hx hb dX5_youngest_0 rfl (lv_at hl 0 rfl) ?_
  refine va_get (D := G) (ci := 4) (v := .ref qt) (C := RX5) (T := TX5) (N := 9) hx hb hts iX_X5 hown hK hP 0 rfl rfl 0 (by decide) (hts _ m_t174) (fun _ h9 => h9) rfl dX5_youngest_1 ?_
  refine lv_iload_n hx hb dX5_youngest_4 rfl (lv_at hl 1 rfl) ?_
  refine kRi (rV (As := [.int iA]) (rest := []) (b := qt) ⟨hx, hb, hml, hown, hts⟩ (c_X4_isOne l G cy qt (.int 0) (.int 0) (.int 0) (.int 1) (.ref qtw) (.ref qtn) (.ref qtg) (.ref qta) (.ref qtr) (.ref qtm) (.ref qtt) (.ref qts) iA) L_X5_192 (preRV (q := (RX4, TX4, 13)) hN hP [2] rfl 2 3 rfl rfl) rfl ⟨Nat.le_of_ble_eq_true rfl, Nat.le_of_ble_eq_true rfl⟩ hl.1 (Nat.le_of_ble_eq_true rfl) dX5_youngest_5 ⟨Nat.le_of_ble_eq_true rfl, Nat.le_of_ble_eq_true rfl⟩) (fun r_1 h_2 => ?_)
  subst h_2
  refine lv_if_eq (tgt := 22) hx hb dX5_youngest_8 (by decide) (fun _ => ?_) (fun h9 => absurd (by decide) h9)
  refine lv_aload_n hx hb dX5_youngest_22 rfl (lv_at hl 0 rfl) ?_
  refine lv_bipush (v := (-2)) hx hb dX5_youngest_23 (by decide) ?_
  refine kWi (wr := [(qt, .inr (3, [.int 0, .int 0, .int 0, .int 0, .int 1, .ref qtw, .ref qtn, .ref qtg, .ref qta, .ref qtr, .ref qtm, .ref qtt, .ref qts]))]) (rV (As := [.int (-2)]) (rest := []) (b := qx) ⟨hx, hb, hml, hown, hts⟩ (c_X5_refuse2 l G cy (s.heap).size qx (.ref qt) (.ref qk) (.ref qp) (.ref qs) (.ref qa) qr (.int 0) (.int 0) (.int 0) (fun _ => 0)) L_X5_56 (preWV (q := (RX5, TX5, 9)) hN hP hD [0, 1] rfl (by decide) 0 4 rfl rfl) rfl ⟨Nat.le_of_ble_eq_true rfl, Nat.le_of_ble_eq_true rfl⟩ hl.1 (Nat.le_of_ble_eq_true rfl) dX5_youngest_25 ⟨Nat.le_of_ble_eq_true rfl, Nat.le_of_ble_eq_true rfl⟩) hP hD hS hA [0, 1] [2] rfl rfl (by decide) (by decide) (fun r_4 u_6 H locs h_5 hP hD hS => ?_)
  obtain ⟨rfl, h_5⟩ := h_5
  have hP : va_P G CL [(qt, .inr (3, [.int 0, .int 0, .int 0, .int 0, .int 1, .ref qtw, .ref qtn, .ref qtg, .ref qta, .ref qtr, .ref qtm, .ref qtt, .ref qts])), (qx, .inr (4, [.ref qt, .ref qk, .ref qp, .ref qs, .ref qa, .ref qr, .int 0, .int 0, .int 0]))] H := hP
  have hD : va_D A [(qt, .inr (3, [.int 0, .int 0, .int 0, .int 0, .int 1, .ref qtw, .ref qtn, .ref qtg, .ref qta, .ref qtr, .ref qtm, .ref qtt, .ref qts])), (qx, .inr (4, [.ref qt, .ref qk, .ref qp, .ref qs, .ref qa, .ref qr, .int 0, .int 0, .int 0]))] := hD
  subst h_5
  exact endW (u := []) hx hb hr hlocks rfl va_P0 va_D0 hS ⟨rfl, rfl⟩ dX5_youngest_28
set_option maxHeartbeats 4000000 in
set_option maxRecDepth 100000 in
theorem p_X5_teach (l : Launch) (G : va_G) (cy : Nat → ClassId) (sz : Nat) (qx : Nat) (qt : Nat) (qk : Nat) (qp : Nat) (qs : Nat) (qa : Nat) (qr : Nat) (qtw : Nat) (qtn : Nat) (qtg : Nat) (qta : Nat) (qtr : Nat) (qtm : Nat) (qtt : Nat) (qts : Nat) (iA : Int32) (iB : Int32)   : MW l yX5_teach cX5_teach 7 (some .int) 6 0 0 G cy [(qx, .inr (4, [.ref qt, .ref qk, .ref qp, .ref qs, .ref qa, .ref qr, .int 0, .int 0, .int 0])), (qr, .inl (cy 0, 5, .inl (fun _ => 0))), (qt, .inr (3, [.int 0, .int 0, .int 0, .int 0, .int 1, .ref qtw, .ref qtn, .ref qtg, .ref qta, .ref qtr, .ref qtm, .ref qtt, .ref qts]))] sz [.ref qx, .int iA, .int iB] (Wi G (fun r u => u = [] ∧ ((r = (-2))))) := by
  refine enW RX5 (by decide) rfl (Nat.le_of_ble_eq_true rfl) (fun p e s m below meth c ls A hx hb hml hown hts hr hlocks hP hN hl hin hD hA hS => ?_)
  have hin : meth.name = _ := hin
  have hK := hN.1
  have hl : lv_has ls 7 [(0, .ref qx), (1, .int iA), (2, .int iB)] := hl
  refine lv_aload_n hx hb dX5_teach_0 rfl (lv_at hl 0 rfl) ?_
  refine lv_iload_n hx hb dX5_teach_1 rfl (lv_at hl 1 rfl) ?_
  refine lv_iload_n hx hb dX5_teach_2 rfl (lv_at hl 2 rfl) ?_
  refine kRi (rV (As := [.int iA, .int iB]) (rest := []) (b := qx) ⟨hx, hb, hml, hown, hts⟩ (c_X5_isPair l G cy qx qt (.ref qk) (.ref qp) (.ref qs) (.ref qa) (.ref qr) (.int 0) (.int 0) (.int 0) qtw qtn qtg qta qtr qtm qtt qts iA iB) L_X5_210 (preRV (q := (RX5, TX5, 9)) hN hP [0, 2] rfl 0 4 rfl rfl) rfl ⟨Nat.le_of_ble_eq_true rfl, Nat.le_of_ble_eq_true rfl⟩ hl.1 (Nat.le_of_ble_eq_true rfl) dX5_teach_3 ⟨Nat.le_of_ble_eq_true rfl, Nat.le_of_ble_eq_true rfl⟩) (fun r_1 h_2 => ?_)
  subst h_2
  refine lv_if_ne (tgt := 16) hx hb dX5_teach_6 (by decide) (fun h9 => absurd (by decide) h9) (fun _ => ?_)
  refine lv_aload_n hx hb dX5_teach_9 rfl (lv_at hl 0 rfl) ?_
  refine lv_bipush (v := (-2)) hx hb dX5_teach_10 (by decide) ?_
  refine kWi (wr := [(qt, .inr (3, [.int 0, .int 0, .int 0, .int 0, .int 1, .ref qtw, .ref qtn, .ref qtg, .ref qta, .ref qtr, .ref qtm, .ref qtt, .ref qts]))]) (rV (As := [.int (-2)]) (rest := []) (b := qx) ⟨hx, hb, hml, hown, hts⟩ (c_X5_refuse2 l G cy (s.heap).size qx (.ref qt) (.ref qk) (.ref qp) (.ref qs) (.ref qa) qr (.int 0) (.int 0) (.int 0) (fun _ => 0)) L_X5_56 (preWV (q := (RX5, TX5, 9)) hN hP hD [0, 1] rfl (by decide) 0 4 rfl rfl) rfl ⟨Nat.le_of_ble_eq_true rfl, Nat.le_of_ble_eq_true rfl⟩ hl.1 (Nat.le_of_ble_eq_true rfl) dX5_teach_12 ⟨Nat.le_of_ble_eq_true rfl, Nat.le_of_ble_eq_true rfl⟩) hP hD hS hA [0, 1] [2] rfl rfl (by decide) (by decide) (fun r_4 u_6 H locs h_5 hP hD hS => ?_)
  obtain ⟨rfl, h_5⟩ := h_5
  have hP : va_P G CL [(qt, .inr (3, [.int 0, .int 0, .int 0, .int 0, .int 1, .ref qtw, .ref qtn, .ref qtg, .ref qta, .ref qtr, .ref qtm, .ref qtt, .ref qts])), (qx, .inr (4, [.ref qt, .ref qk, .ref qp, .ref qs, .ref qa, .ref qr, .int 0, .int 0, .int 0]))] H := hP
  have hD : va_D A [(qt, .inr (3, [.int 0, .int 0, .int 0, .int 0, .int 1, .ref qtw, .ref qtn, .ref qtg, .ref qta, .ref qtr, .ref qtm, .ref qtt, .ref qts])), (qx, .inr (4, [.ref qt, .ref qk, .ref qp, .ref qs, .ref qa, .ref qr, .int 0, .int 0, .int 0]))] := hD
  subst h_5
  exact endW (u := []) hx hb hr hlocks rfl va_P0 va_D0 hS ⟨rfl, rfl⟩ dX5_teach_15
set_option maxHeartbeats 4000000 in
set_option maxRecDepth 100000 in
theorem p_X5_two (l : Launch) (G : va_G) (cy : Nat → ClassId) (sz : Nat) (qx : Nat) (qt : Nat) (qk : Nat) (qp : Nat) (qs : Nat) (qa : Nat) (qr : Nat) (qtw : Nat) (qtn : Nat) (qtg : Nat) (qta : Nat) (qtr : Nat) (qtm : Nat) (qtt : Nat) (qts : Nat) (iA : Int32) (iB : Int32)   : MW l yX5_two cX5_two 3 (some .int) 6 0 0 G cy [(qx, .inr (4, [.ref qt, .ref qk, .ref qp, .ref qs, .ref qa, .ref qr, .int 0, .int 0, .int 0])), (qr, .inl (cy 0, 5, .inl (fun _ => 0))), (qt, .inr (3, [.int 0, .int 0, .int 0, .int 0, .int 1, .ref qtw, .ref qtn, .ref qtg, .ref qta, .ref qtr, .ref qtm, .ref qtt, .ref qts]))] sz [.ref qx, .int iA, .int iB] (Wi G (fun r u => u = [] ∧ ((r = (-2))))) := by
  refine enW RX5 (by decide) rfl (Nat.le_of_ble_eq_true rfl) (fun p e s m below meth c ls A hx hb hml hown hts hr hlocks hP hN hl hin hD hA hS => ?_)
  have hin : meth.name = _ := hin
  have hK := hN.1
  have hl : lv_has ls 3 [(0, .ref qx), (1, .int iA), (2, .int iB)] := hl
  refine lv_aload_n hx hb dX5_two_0 rfl (lv_at hl 0 rfl) ?_
  refine va_get (D := G) (ci := 4) (v := .ref qt) (C := RX5) (T := TX5) (N := 9) hx hb hts iX_X5 hown hK hP 0 rfl rfl 0 (by decide) (hts _ m_t174) (fun _ h9 => h9) rfl dX5_two_1 ?_
  refine lv_iload_n hx hb dX5_two_4 rfl (lv_at hl 1 rfl) ?_
  refine kRi (rV (As := [.int iA]) (rest := []) (b := qt) ⟨hx, hb, hml, hown, hts⟩ (c_X4_isOne l G cy qt (.int 0) (.int 0) (.int 0) (.int 1) (.ref qtw) (.ref qtn) (.ref qtg) (.ref qta) (.ref qtr) (.ref qtm) (.ref qtt) (.ref qts) iA) L_X5_192 (preRV (q := (RX4, TX4, 13)) hN hP [2] rfl 2 3 rfl rfl) rfl ⟨Nat.le_of_ble_eq_true rfl, Nat.le_of_ble_eq_true rfl⟩ hl.1 (Nat.le_of_ble_eq_true rfl) dX5_two_5 ⟨Nat.le_of_ble_eq_true rfl, Nat.le_of_ble_eq_true rfl⟩) (fun r_1 h_2 => ?_)
  subst h_2
  refine lv_if_eq (tgt := 22) hx hb dX5_two_8 (by decide) (fun _ => ?_) (fun h9 => absurd (by decide) h9)
  refine lv_aload_n hx hb dX5_two_22 rfl (lv_at hl 0 rfl) ?_
  refine lv_bipush (v := (-2)) hx hb dX5_two_23 (by decide) ?_
  refine kWi (wr := [(qt, .inr (3, [.int 0, .int 0, .int 0, .int 0, .int 1, .ref qtw, .ref qtn, .ref qtg, .ref qta, .ref qtr, .ref qtm, .ref qtt, .ref qts]))]) (rV (As := [.int (-2)]) (rest := []) (b := qx) ⟨hx, hb, hml, hown, hts⟩ (c_X5_refuse2 l G cy (s.heap).size qx (.ref qt) (.ref qk) (.ref qp) (.ref qs) (.ref qa) qr (.int 0) (.int 0) (.int 0) (fun _ => 0)) L_X5_56 (preWV (q := (RX5, TX5, 9)) hN hP hD [0, 1] rfl (by decide) 0 4 rfl rfl) rfl ⟨Nat.le_of_ble_eq_true rfl, Nat.le_of_ble_eq_true rfl⟩ hl.1 (Nat.le_of_ble_eq_true rfl) dX5_two_25 ⟨Nat.le_of_ble_eq_true rfl, Nat.le_of_ble_eq_true rfl⟩) hP hD hS hA [0, 1] [2] rfl rfl (by decide) (by decide) (fun r_4 u_6 H locs h_5 hP hD hS => ?_)
  obtain ⟨rfl, h_5⟩ := h_5
  have hP : va_P G CL [(qt, .inr (3, [.int 0, .int 0, .int 0, .int 0, .int 1, .ref qtw, .ref qtn, .ref qtg, .ref qta, .ref qtr, .ref qtm, .ref qtt, .ref qts])), (qx, .inr (4, [.ref qt, .ref qk, .ref qp, .ref qs, .ref qa, .ref qr, .int 0, .int 0, .int 0]))] H := hP
  have hD : va_D A [(qt, .inr (3, [.int 0, .int 0, .int 0, .int 0, .int 1, .ref qtw, .ref qtn, .ref qtg, .ref qta, .ref qtr, .ref qtm, .ref qtt, .ref qts])), (qx, .inr (4, [.ref qt, .ref qk, .ref qp, .ref qs, .ref qa, .ref qr, .int 0, .int 0, .int 0]))] := hD
  subst h_5
  exact endW (u := []) hx hb hr hlocks rfl va_P0 va_D0 hS ⟨rfl, rfl⟩ dX5_two_28
set_option maxHeartbeats 4000000 in
set_option maxRecDepth 100000 in
theorem p_X5_needs (l : Launch) (G : va_G) (cy : Nat → ClassId) (sz : Nat) (qx : Nat) (qt : Nat) (qk : Nat) (qp : Nat) (qs : Nat) (qa : Nat) (qr : Nat) (qtw : Nat) (qtn : Nat) (qtg : Nat) (qta : Nat) (qtr : Nat) (qtm : Nat) (qtt : Nat) (qts : Nat) (iA : Int32) (iB : Int32)   : MW l yX5_needs cX5_needs 3 (some .int) 6 0 0 G cy [(qx, .inr (4, [.ref qt, .ref qk, .ref qp, .ref qs, .ref qa, .ref qr, .int 0, .int 0, .int 0])), (qr, .inl (cy 0, 5, .inl (fun _ => 0))), (qt, .inr (3, [.int 0, .int 0, .int 0, .int 0, .int 1, .ref qtw, .ref qtn, .ref qtg, .ref qta, .ref qtr, .ref qtm, .ref qtt, .ref qts]))] sz [.ref qx, .int iA, .int iB] (Wi G (fun r u => u = [] ∧ ((r = (-2))))) := by
  refine enW RX5 (by decide) rfl (Nat.le_of_ble_eq_true rfl) (fun p e s m below meth c ls A hx hb hml hown hts hr hlocks hP hN hl hin hD hA hS => ?_)
  have hin : meth.name = _ := hin
  have hK := hN.1
  have hl : lv_has ls 3 [(0, .ref qx), (1, .int iA), (2, .int iB)] := hl
  refine lv_aload_n hx hb dX5_needs_0 rfl (lv_at hl 0 rfl) ?_
  refine va_get (D := G) (ci := 4) (v := .ref qt) (C := RX5) (T := TX5) (N := 9) hx hb hts iX_X5 hown hK hP 0 rfl rfl 0 (by decide) (hts _ m_t174) (fun _ h9 => h9) rfl dX5_needs_1 ?_
  refine lv_iload_n hx hb dX5_needs_4 rfl (lv_at hl 1 rfl) ?_
  refine kRi (rV (As := [.int iA]) (rest := []) (b := qt) ⟨hx, hb, hml, hown, hts⟩ (c_X4_isBook l G cy qt (.int 0) (.int 0) (.int 0) (.int 1) (.ref qtw) (.ref qtn) (.ref qtg) (.ref qta) (.ref qtr) (.ref qtm) (.ref qtt) (.ref qts) iA) L_X5_168 (preRV (q := (RX4, TX4, 13)) hN hP [2] rfl 2 3 rfl rfl) rfl ⟨Nat.le_of_ble_eq_true rfl, Nat.le_of_ble_eq_true rfl⟩ hl.1 (Nat.le_of_ble_eq_true rfl) dX5_needs_5 ⟨Nat.le_of_ble_eq_true rfl, Nat.le_of_ble_eq_true rfl⟩) (fun r_1 h_2 => ?_)
  subst h_2
  refine lv_if_ne (tgt := 18) hx hb dX5_needs_8 (by decide) (fun h9 => absurd (by decide) h9) (fun _ => ?_)
  refine lv_aload_n hx hb dX5_needs_11 rfl (lv_at hl 0 rfl) ?_
  refine lv_bipush (v := (-2)) hx hb dX5_needs_12 (by decide) ?_
  refine kWi (wr := [(qt, .inr (3, [.int 0, .int 0, .int 0, .int 0, .int 1, .ref qtw, .ref qtn, .ref qtg, .ref qta, .ref qtr, .ref qtm, .ref qtt, .ref qts]))]) (rV (As := [.int (-2)]) (rest := []) (b := qx) ⟨hx, hb, hml, hown, hts⟩ (c_X5_refuse2 l G cy (s.heap).size qx (.ref qt) (.ref qk) (.ref qp) (.ref qs) (.ref qa) qr (.int 0) (.int 0) (.int 0) (fun _ => 0)) L_X5_56 (preWV (q := (RX5, TX5, 9)) hN hP hD [0, 1] rfl (by decide) 0 4 rfl rfl) rfl ⟨Nat.le_of_ble_eq_true rfl, Nat.le_of_ble_eq_true rfl⟩ hl.1 (Nat.le_of_ble_eq_true rfl) dX5_needs_14 ⟨Nat.le_of_ble_eq_true rfl, Nat.le_of_ble_eq_true rfl⟩) hP hD hS hA [0, 1] [2] rfl rfl (by decide) (by decide) (fun r_4 u_6 H locs h_5 hP hD hS => ?_)
  obtain ⟨rfl, h_5⟩ := h_5
  have hP : va_P G CL [(qt, .inr (3, [.int 0, .int 0, .int 0, .int 0, .int 1, .ref qtw, .ref qtn, .ref qtg, .ref qta, .ref qtr, .ref qtm, .ref qtt, .ref qts])), (qx, .inr (4, [.ref qt, .ref qk, .ref qp, .ref qs, .ref qa, .ref qr, .int 0, .int 0, .int 0]))] H := hP
  have hD : va_D A [(qt, .inr (3, [.int 0, .int 0, .int 0, .int 0, .int 1, .ref qtw, .ref qtn, .ref qtg, .ref qta, .ref qtr, .ref qtm, .ref qtt, .ref qts])), (qx, .inr (4, [.ref qt, .ref qk, .ref qp, .ref qs, .ref qa, .ref qr, .int 0, .int 0, .int 0]))] := hD
  subst h_5
  exact endW (u := []) hx hb hr hlocks rfl va_P0 va_D0 hS ⟨rfl, rfl⟩ dX5_needs_17
set_option maxHeartbeats 4000000 in
set_option maxRecDepth 100000 in
theorem p_X5_value (l : Launch) (G : va_G) (cy : Nat → ClassId) (qx : Nat) (qt : Nat) (qk : Nat) (qp : Nat) (qs : Nat) (qa : Nat) (qr : Nat) (qtw : Nat) (qtn : Nat) (qtg : Nat) (qta : Nat) (qtr : Nat) (qtm : Nat) (qtt : Nat) (qts : Nat)   : MR l yX5_value cX5_value 1 (some .int) 6 G cy [(qx, .inr (4, [.ref qt, .ref qk, .ref qp, .ref qs, .ref qa, .ref qr, .int 0, .int 0, .int 0])), (qt, .inr (3, [.int 0, .int 0, .int 0, .int 0, .int 1, .ref qtw, .ref qtn, .ref qtg, .ref qta, .ref qtr, .ref qtm, .ref qtt, .ref qts]))] [.ref qx] (vp_Si (fun r => (r = 0))) := by
  refine enR RX5 (by decide) rfl (Nat.le_of_ble_eq_true rfl) (fun p e s m below meth c ls hx hb hml hown hts hr hlocks hP hN hl => ?_)
  have hK := hN.1
  have hl : lv_has ls 1 [(0, .ref qx)] := hl
  refine lv_aload_n hx hb dX5_value_0 rfl (lv_at hl 0 rfl) ?_
  refine va_get (D := G) (ci := 4) (v := .ref qt) (C := RX5) (T := TX5) (N := 9) hx hb hts iX_X5 hown hK hP 0 rfl rfl 0 (by decide) (hts _ m_t174) (fun _ h9 => h9) rfl dX5_value_1 ?_
  refine kRi (rV (As := []) (rest := []) (b := qt) ⟨hx, hb, hml, hown, hts⟩ (c_X4_worthNow l G cy qt (.int 0) (.int 1) (.ref qtw) (.ref qtn) (.ref qtg) (.ref qta) (.ref qtr) (.ref qtm) (.ref qtt) (.ref qts)) L_X5_123 (preRV (q := (RX4, TX4, 13)) hN hP [1] rfl 1 3 rfl rfl) rfl ⟨Nat.le_of_ble_eq_true rfl, Nat.le_of_ble_eq_true rfl⟩ hl.1 (Nat.le_of_ble_eq_true rfl) dX5_value_4 ⟨Nat.le_of_ble_eq_true rfl, Nat.le_of_ble_eq_true rfl⟩) (fun r_1 h_2 => ?_)
  subst h_2
  exact endR hx hb hr hlocks rfl rfl dX5_value_7
set_option maxHeartbeats 4000000 in
set_option maxRecDepth 100000 in
theorem p_X5_run (l : Launch) (G : va_G) (cy : Nat → ClassId) (sz : Nat) (qx : Nat) (qt : Nat) (qk : Nat) (qp : Nat) (qs : Nat) (qa : Nat) (qr : Nat) (qsh : Nat) (qss : Nat) (qsa : Nat) (qse : Nat) (fH : Nat → Int32) (iA : Int32) (iB : Int32) (iC : Int32)  (hH : ∀ i, i < 8 → fH i = -1) : MW l yX5_run cX5_run 6 (some .int) 6 0 0 G cy [(qx, .inr (4, [.ref qt, .ref qk, .ref qp, .ref qs, .ref qa, .ref qr, .int 0, .int 0, .int 0])), (qr, .inl (cy 0, 5, .inl (fun _ => 0))), (qs, .inr (1, [.ref qsh, .ref qss, .ref qsa, .ref qse])), (qsh, .inl (cy 0, 8, .inl fH))] sz [.ref qx, .int iA, .int iB, .int iC] (Wi G (fun r u => u = [] ∧ ((r = (sp_run iA iB iC))))) := by
  refine enW RX5 (by decide) rfl (Nat.le_of_ble_eq_true rfl) (fun p e s m below meth c ls A hx hb hml hown hts hr hlocks hP hN hl hin hD hA hS => ?_)
  have hin : meth.name = _ := hin
  have hK := hN.1
  have hl : lv_has ls 6 [(0, .ref qx), (1, .int iA), (2, .int iB), (3, .int iC)] := hl
  refine lv_iload_n hx hb dX5_run_0 rfl (lv_at hl 2 rfl) ?_
  refine lv_i2l (v := iB.toInt64) hx hb dX5_run_1 rfl ?_
  refine lv_lconst (v := 1) hx hb dX5_run_2 (by decide) ?_
  refine lv_ldc2 hx hb hown (hts _ m_t644) dX5_run_3 ?_
  refine kRi (rS (As := [.long iB.toInt64, .long 1, .long 60]) (rest := []) ⟨hx, hb, hml, hown, hts⟩ (c_X5_within l G cy iB.toInt64 1 60) L_X5_50 (preRS hN hP [] rfl) rfl ⟨Nat.le_of_ble_eq_true rfl, Nat.le_of_ble_eq_true rfl⟩ hl.1 (Nat.le_of_ble_eq_true rfl) dX5_run_6 ⟨Nat.le_of_ble_eq_true rfl, Nat.le_of_ble_eq_true rfl⟩) (fun r_1 h_2 => ?_)
  rcases h_2 with ⟨rfl, h_3⟩ | ⟨rfl, h_3⟩
  · refine lv_if_eq (tgt := 32) hx hb dX5_run_9 (by decide) (fun h9 => absurd h9 (by decide)) (fun _ => ?_)
    refine lv_iload_n hx hb dX5_run_12 rfl (lv_at hl 3 rfl) ?_
    refine lv_i2l (v := iC.toInt64) hx hb dX5_run_13 rfl ?_
    refine lv_lconst (v := 0) hx hb dX5_run_14 (by decide) ?_
    refine lv_ldc2 hx hb hown (hts _ m_t645) dX5_run_15 ?_
    refine kRi (rS (As := [.long iC.toInt64, .long 0, .long 3]) (rest := []) ⟨hx, hb, hml, hown, hts⟩ (c_X5_within l G cy iC.toInt64 0 3) L_X5_50 (preRS hN hP [] rfl) rfl ⟨Nat.le_of_ble_eq_true rfl, Nat.le_of_ble_eq_true rfl⟩ hl.1 (Nat.le_of_ble_eq_true rfl) dX5_run_18 ⟨Nat.le_of_ble_eq_true rfl, Nat.le_of_ble_eq_true rfl⟩) (fun r_5 h_6 => ?_)
    rcases h_6 with ⟨rfl, h_7⟩ | ⟨rfl, h_7⟩
    · refine lv_if_eq (tgt := 32) hx hb dX5_run_21 (by decide) (fun h9 => absurd h9 (by decide)) (fun _ => ?_)
      refine lv_aload_n hx hb dX5_run_24 rfl (lv_at hl 0 rfl) ?_
      refine lv_iload_n hx hb dX5_run_25 rfl (lv_at hl 1 rfl) ?_
      refine kRi (rV (As := [.int iA]) (rest := []) (b := qx) ⟨hx, hb, hml, hown, hts⟩ (c_X5_ruleFit l G cy qx (.ref qt) (.ref qk) (.ref qp) qs (.ref qa) (.ref qr) (.int 0) (.int 0) (.int 0) qsh qss qsa qse fH iA hH) L_X5_100 (preRV (q := (RX5, TX5, 9)) hN hP [0, 2, 3] rfl 0 4 rfl rfl) rfl ⟨Nat.le_of_ble_eq_true rfl, Nat.le_of_ble_eq_true rfl⟩ hl.1 (Nat.le_of_ble_eq_true rfl) dX5_run_26 ⟨Nat.le_of_ble_eq_true rfl, Nat.le_of_ble_eq_true rfl⟩) (fun r_9 h_10 => ?_)
      rcases h_10 with ⟨rfl, h_11⟩ | ⟨rfl, h_11⟩
      · refine lv_goto (tgt := 34) hx hb dX5_run_29 (by decide) ?_
        refine lv_istore (lv' := [(4, .int (-2)), (0, .ref qx), (1, .int iA), (2, .int iB), (3, .int iC)]) hx hb dX5_run_34 hl (by decide) rfl (fun ls hl => ?_)
        refine lv_iload hx hb dX5_run_36 (lv_at hl 0 rfl) ?_
        refine lv_if_eq (tgt := 48) hx hb dX5_run_38 (by decide) (fun h9 => absurd h9 (by decide)) (fun _ => ?_)
        refine lv_aload_n hx hb dX5_run_41 rfl (lv_at hl 1 rfl) ?_
        refine lv_iload hx hb dX5_run_42 (lv_at hl 0 rfl) ?_
        refine kWi (wr := [(qs, .inr (1, [.ref qsh, .ref qss, .ref qsa, .ref qse])), (qsh, .inl (cy 0, 8, .inl fH))]) (rV (As := [.int (-2)]) (rest := []) (b := qx) ⟨hx, hb, hml, hown, hts⟩ (c_X5_refuse2 l G cy (s.heap).size qx (.ref qt) (.ref qk) (.ref qp) (.ref qs) (.ref qa) qr (.int 0) (.int 0) (.int 0) (fun _ => 0)) L_X5_56 (preWV (q := (RX5, TX5, 9)) hN hP hD [0, 1] rfl (by decide) 0 4 rfl rfl) rfl ⟨Nat.le_of_ble_eq_true rfl, Nat.le_of_ble_eq_true rfl⟩ hl.1 (Nat.le_of_ble_eq_true rfl) dX5_run_44 ⟨Nat.le_of_ble_eq_true rfl, Nat.le_of_ble_eq_true rfl⟩) hP hD hS hA [0, 1] [2, 3] rfl rfl (by decide) (by decide) (fun r_13 u_15 H locs h_14 hP hD hS => ?_)
        obtain ⟨rfl, h_14⟩ := h_14
        have hP : va_P G CL [(qs, .inr (1, [.ref qsh, .ref qss, .ref qsa, .ref qse])), (qsh, .inl (cy 0, 8, .inl fH)), (qx, .inr (4, [.ref qt, .ref qk, .ref qp, .ref qs, .ref qa, .ref qr, .int 0, .int 0, .int 0]))] H := hP
        have hD : va_D A [(qs, .inr (1, [.ref qsh, .ref qss, .ref qsa, .ref qse])), (qsh, .inl (cy 0, 8, .inl fH)), (qx, .inr (4, [.ref qt, .ref qk, .ref qp, .ref qs, .ref qa, .ref qr, .int 0, .int 0, .int 0]))] := hD
        subst h_14
        exact endW (u := []) hx hb hr hlocks rfl va_P0 va_D0 hS ⟨rfl, (by first | (simp [sp_run, Iv, hH, h_3, h_7, h_11]; done) | (unfold sp_run; decide))⟩ dX5_run_47
      · refine lv_goto (tgt := 34) hx hb dX5_run_29 (by decide) ?_
        refine lv_istore (lv' := [(4, .int (-4)), (0, .ref qx), (1, .int iA), (2, .int iB), (3, .int iC)]) hx hb dX5_run_34 hl (by decide) rfl (fun ls hl => ?_)
        refine lv_iload hx hb dX5_run_36 (lv_at hl 0 rfl) ?_
        refine lv_if_eq (tgt := 48) hx hb dX5_run_38 (by decide) (fun h9 => absurd h9 (by decide)) (fun _ => ?_)
        refine lv_aload_n hx hb dX5_run_41 rfl (lv_at hl 1 rfl) ?_
        refine lv_iload hx hb dX5_run_42 (lv_at hl 0 rfl) ?_
        refine kWi (wr := [(qs, .inr (1, [.ref qsh, .ref qss, .ref qsa, .ref qse])), (qsh, .inl (cy 0, 8, .inl fH))]) (rV (As := [.int (-4)]) (rest := []) (b := qx) ⟨hx, hb, hml, hown, hts⟩ (c_X5_refuse4 l G cy (s.heap).size qx (.ref qt) (.ref qk) (.ref qp) (.ref qs) (.ref qa) qr (.int 0) (.int 0) (.int 0) (fun _ => 0)) L_X5_56 (preWV (q := (RX5, TX5, 9)) hN hP hD [0, 1] rfl (by decide) 0 4 rfl rfl) rfl ⟨Nat.le_of_ble_eq_true rfl, Nat.le_of_ble_eq_true rfl⟩ hl.1 (Nat.le_of_ble_eq_true rfl) dX5_run_44 ⟨Nat.le_of_ble_eq_true rfl, Nat.le_of_ble_eq_true rfl⟩) hP hD hS hA [0, 1] [2, 3] rfl rfl (by decide) (by decide) (fun r_17 u_19 H locs h_18 hP hD hS => ?_)
        obtain ⟨rfl, h_18⟩ := h_18
        have hP : va_P G CL [(qs, .inr (1, [.ref qsh, .ref qss, .ref qsa, .ref qse])), (qsh, .inl (cy 0, 8, .inl fH)), (qx, .inr (4, [.ref qt, .ref qk, .ref qp, .ref qs, .ref qa, .ref qr, .int 0, .int 0, .int 0]))] H := hP
        have hD : va_D A [(qs, .inr (1, [.ref qsh, .ref qss, .ref qsa, .ref qse])), (qsh, .inl (cy 0, 8, .inl fH)), (qx, .inr (4, [.ref qt, .ref qk, .ref qp, .ref qs, .ref qa, .ref qr, .int 0, .int 0, .int 0]))] := hD
        subst h_18
        exact endW (u := []) hx hb hr hlocks rfl va_P0 va_D0 hS ⟨rfl, (by first | (simp [sp_run, Iv, hH, h_3, h_7, h_11]; done) | (unfold sp_run; decide))⟩ dX5_run_47
    · refine lv_if_eq (tgt := 32) hx hb dX5_run_21 (by decide) (fun _ => ?_) (fun h9 => absurd (by decide) h9)
      refine lv_bipush (v := (-2)) hx hb dX5_run_32 (by decide) ?_
      refine lv_istore (lv' := [(4, .int (-2)), (0, .ref qx), (1, .int iA), (2, .int iB), (3, .int iC)]) hx hb dX5_run_34 hl (by decide) rfl (fun ls hl => ?_)
      refine lv_iload hx hb dX5_run_36 (lv_at hl 0 rfl) ?_
      refine lv_if_eq (tgt := 48) hx hb dX5_run_38 (by decide) (fun h9 => absurd h9 (by decide)) (fun _ => ?_)
      refine lv_aload_n hx hb dX5_run_41 rfl (lv_at hl 1 rfl) ?_
      refine lv_iload hx hb dX5_run_42 (lv_at hl 0 rfl) ?_
      refine kWi (wr := [(qs, .inr (1, [.ref qsh, .ref qss, .ref qsa, .ref qse])), (qsh, .inl (cy 0, 8, .inl fH))]) (rV (As := [.int (-2)]) (rest := []) (b := qx) ⟨hx, hb, hml, hown, hts⟩ (c_X5_refuse2 l G cy (s.heap).size qx (.ref qt) (.ref qk) (.ref qp) (.ref qs) (.ref qa) qr (.int 0) (.int 0) (.int 0) (fun _ => 0)) L_X5_56 (preWV (q := (RX5, TX5, 9)) hN hP hD [0, 1] rfl (by decide) 0 4 rfl rfl) rfl ⟨Nat.le_of_ble_eq_true rfl, Nat.le_of_ble_eq_true rfl⟩ hl.1 (Nat.le_of_ble_eq_true rfl) dX5_run_44 ⟨Nat.le_of_ble_eq_true rfl, Nat.le_of_ble_eq_true rfl⟩) hP hD hS hA [0, 1] [2, 3] rfl rfl (by decide) (by decide) (fun r_22 u_24 H locs h_23 hP hD hS => ?_)
      obtain ⟨rfl, h_23⟩ := h_23
      have hP : va_P G CL [(qs, .inr (1, [.ref qsh, .ref qss, .ref qsa, .ref qse])), (qsh, .inl (cy 0, 8, .inl fH)), (qx, .inr (4, [.ref qt, .ref qk, .ref qp, .ref qs, .ref qa, .ref qr, .int 0, .int 0, .int 0]))] H := hP
      have hD : va_D A [(qs, .inr (1, [.ref qsh, .ref qss, .ref qsa, .ref qse])), (qsh, .inl (cy 0, 8, .inl fH)), (qx, .inr (4, [.ref qt, .ref qk, .ref qp, .ref qs, .ref qa, .ref qr, .int 0, .int 0, .int 0]))] := hD
      subst h_23
      exact endW (u := []) hx hb hr hlocks rfl va_P0 va_D0 hS ⟨rfl, (by first | (simp [sp_run, Iv, hH, h_3, h_7]; done) | (unfold sp_run; decide))⟩ dX5_run_47
  · refine lv_if_eq (tgt := 32) hx hb dX5_run_9 (by decide) (fun _ => ?_) (fun h9 => absurd (by decide) h9)
    refine lv_bipush (v := (-2)) hx hb dX5_run_32 (by decide) ?_
    refine lv_istore (lv' := [(4, .int (-2)), (0, .ref qx), (1, .int iA), (2, .int iB), (3, .int iC)]) hx hb dX5_run_34 hl (by decide) rfl (fun ls hl => ?_)
    refine lv_iload hx hb dX5_run_36 (lv_at hl 0 rfl) ?_
    refine lv_if_eq (tgt := 48) hx hb dX5_run_38 (by decide) (fun h9 => absurd h9 (by decide)) (fun _ => ?_)
    refine lv_aload_n hx hb dX5_run_41 rfl (lv_at hl 1 rfl) ?_
    refine lv_iload hx hb dX5_run_42 (lv_at hl 0 rfl) ?_
    refine kWi (wr := [(qs, .inr (1, [.ref qsh, .ref qss, .ref qsa, .ref qse])), (qsh, .inl (cy 0, 8, .inl fH))]) (rV (As := [.int (-2)]) (rest := []) (b := qx) ⟨hx, hb, hml, hown, hts⟩ (c_X5_refuse2 l G cy (s.heap).size qx (.ref qt) (.ref qk) (.ref qp) (.ref qs) (.ref qa) qr (.int 0) (.int 0) (.int 0) (fun _ => 0)) L_X5_56 (preWV (q := (RX5, TX5, 9)) hN hP hD [0, 1] rfl (by decide) 0 4 rfl rfl) rfl ⟨Nat.le_of_ble_eq_true rfl, Nat.le_of_ble_eq_true rfl⟩ hl.1 (Nat.le_of_ble_eq_true rfl) dX5_run_44 ⟨Nat.le_of_ble_eq_true rfl, Nat.le_of_ble_eq_true rfl⟩) hP hD hS hA [0, 1] [2, 3] rfl rfl (by decide) (by decide) (fun r_27 u_29 H locs h_28 hP hD hS => ?_)
    obtain ⟨rfl, h_28⟩ := h_28
    have hP : va_P G CL [(qs, .inr (1, [.ref qsh, .ref qss, .ref qsa, .ref qse])), (qsh, .inl (cy 0, 8, .inl fH)), (qx, .inr (4, [.ref qt, .ref qk, .ref qp, .ref qs, .ref qa, .ref qr, .int 0, .int 0, .int 0]))] H := hP
    have hD : va_D A [(qs, .inr (1, [.ref qsh, .ref qss, .ref qsa, .ref qse])), (qsh, .inl (cy 0, 8, .inl fH)), (qx, .inr (4, [.ref qt, .ref qk, .ref qp, .ref qs, .ref qa, .ref qr, .int 0, .int 0, .int 0]))] := hD
    subst h_28
    exact endW (u := []) hx hb hr hlocks rfl va_P0 va_D0 hS ⟨rfl, (by first | (simp [sp_run, Iv, hH, h_3]; done) | (unfold sp_run; decide))⟩ dX5_run_47
set_option maxHeartbeats 4000000 in
set_option maxRecDepth 100000 in
theorem p_X5_head (l : Launch) (G : va_G) (cy : Nat → ClassId) (sz : Nat) (qx : Nat) (qt : Nat) (qk : Nat) (qp : Nat) (qs : Nat) (qa : Nat) (qr : Nat) (qsh : Nat) (qss : Nat) (qsa : Nat) (qse : Nat) (fH : Nat → Int32) (iA : Int32)  (hH : ∀ i, i < 8 → fH i = -1) : MW l yX5_head cX5_head 6 (some .int) 6 0 0 G cy [(qx, .inr (4, [.ref qt, .ref qk, .ref qp, .ref qs, .ref qa, .ref qr, .int 0, .int 0, .int 0])), (qr, .inl (cy 0, 5, .inl (fun _ => 0))), (qs, .inr (1, [.ref qsh, .ref qss, .ref qsa, .ref qse])), (qsh, .inl (cy 0, 8, .inl fH))] sz [.ref qx, .int iA] (Wi G (fun r u => u = [] ∧ ((r = (sp_head iA))))) := by
  refine enW RX5 (by decide) rfl (Nat.le_of_ble_eq_true rfl) (fun p e s m below meth c ls A hx hb hml hown hts hr hlocks hP hN hl hin hD hA hS => ?_)
  have hin : meth.name = _ := hin
  have hK := hN.1
  have hl : lv_has ls 6 [(0, .ref qx), (1, .int iA)] := hl
  refine lv_iload_n hx hb dX5_head_0 rfl (lv_at hl 1 rfl) ?_
  refine lv_i2l (v := iA.toInt64) hx hb dX5_head_1 rfl ?_
  refine lv_lconst (v := 1) hx hb dX5_head_2 (by decide) ?_
  refine lv_ldc2 hx hb hown (hts _ m_t644) dX5_head_3 ?_
  refine kRi (rS (As := [.long iA.toInt64, .long 1, .long 60]) (rest := []) ⟨hx, hb, hml, hown, hts⟩ (c_X5_within l G cy iA.toInt64 1 60) L_X5_50 (preRS hN hP [] rfl) rfl ⟨Nat.le_of_ble_eq_true rfl, Nat.le_of_ble_eq_true rfl⟩ hl.1 (Nat.le_of_ble_eq_true rfl) dX5_head_6 ⟨Nat.le_of_ble_eq_true rfl, Nat.le_of_ble_eq_true rfl⟩) (fun r_1 h_2 => ?_)
  rcases h_2 with ⟨rfl, h_3⟩ | ⟨rfl, h_3⟩
  · refine lv_if_ne (tgt := 19) hx hb dX5_head_9 (by decide) (fun _ => ?_) (fun h9 => absurd h9 (by decide))
    refine lv_iconst (v := (-1)) hx hb dX5_head_19 (by decide) ?_
    refine lv_istore_n (lv' := [(2, .int (-1)), (0, .ref qx), (1, .int iA)]) hx hb dX5_head_20 rfl hl (by decide) rfl (fun ls hl => ?_)
    refine lv_iconst (v := 0) hx hb dX5_head_21 (by decide) ?_
    refine lv_istore_n (lv' := [(3, .int 0), (2, .int (-1)), (0, .ref qx), (1, .int iA)]) hx hb dX5_head_22 rfl hl (by decide) rfl (fun ls hl => ?_)
    refine lv_iconst (v := 0) hx hb dX5_head_23 (by decide) ?_
    refine lv_istore (lv' := [(4, .int 0), (3, .int 0), (2, .int (-1)), (0, .ref qx), (1, .int iA)]) hx hb dX5_head_24 hl (by decide) rfl (fun ls hl => ?_)
    refine lv_iload hx hb dX5_head_26 (lv_at hl 0 rfl) ?_
    refine lv_bipush (v := 8) hx hb dX5_head_28 (by decide) ?_
    refine lv_icmp_ge (tgt := 105) hx hb dX5_head_30 (by decide) (fun h9 => absurd h9 (by decide)) (fun _ => ?_)
    refine lv_aload_n hx hb dX5_head_33 rfl (lv_at hl 3 rfl) ?_
    refine lv_iload hx hb dX5_head_34 (lv_at hl 0 rfl) ?_
    refine kRi (rV (As := [.int 0]) (rest := []) (b := qx) ⟨hx, hb, hml, hown, hts⟩ (c_X5_ruleFit l G cy qx (.ref qt) (.ref qk) (.ref qp) qs (.ref qa) (.ref qr) (.int 0) (.int 0) (.int 0) qsh qss qsa qse fH 0 hH) L_X5_100 (preRV (q := (RX5, TX5, 9)) hN hP [0, 2, 3] rfl 0 4 rfl rfl) rfl ⟨Nat.le_of_ble_eq_true rfl, Nat.le_of_ble_eq_true rfl⟩ hl.1 (Nat.le_of_ble_eq_true rfl) dX5_head_36 ⟨Nat.le_of_ble_eq_true rfl, Nat.le_of_ble_eq_true rfl⟩) (fun r_6 h_7 => ?_)
    rcases h_7 with ⟨rfl, h_8⟩ | ⟨rfl, h_8⟩
    · exact absurd (by decide) h_8
    · refine lv_if_ne (tgt := 99) hx hb dX5_head_39 (by decide) (fun _ => ?_) (fun h9 => absurd h9 (by decide))
      refine lv_iinc (v := 1) (lv' := [(4, .int 1), (3, .int 0), (2, .int (-1)), (0, .ref qx), (1, .int iA)]) hx hb dX5_head_99 hl (k := 0) rfl (by decide) (by decide) rfl (fun ls hl => ?_)
      refine lv_goto (tgt := 26) hx hb dX5_head_102 (by decide) ?_
      refine lv_iload hx hb dX5_head_26 (lv_at hl 0 rfl) ?_
      refine lv_bipush (v := 8) hx hb dX5_head_28 (by decide) ?_
      refine lv_icmp_ge (tgt := 105) hx hb dX5_head_30 (by decide) (fun h9 => absurd h9 (by decide)) (fun _ => ?_)
      refine lv_aload_n hx hb dX5_head_33 rfl (lv_at hl 3 rfl) ?_
      refine lv_iload hx hb dX5_head_34 (lv_at hl 0 rfl) ?_
      refine kRi (rV (As := [.int 1]) (rest := []) (b := qx) ⟨hx, hb, hml, hown, hts⟩ (c_X5_ruleFit l G cy qx (.ref qt) (.ref qk) (.ref qp) qs (.ref qa) (.ref qr) (.int 0) (.int 0) (.int 0) qsh qss qsa qse fH 1 hH) L_X5_100 (preRV (q := (RX5, TX5, 9)) hN hP [0, 2, 3] rfl 0 4 rfl rfl) rfl ⟨Nat.le_of_ble_eq_true rfl, Nat.le_of_ble_eq_true rfl⟩ hl.1 (Nat.le_of_ble_eq_true rfl) dX5_head_36 ⟨Nat.le_of_ble_eq_true rfl, Nat.le_of_ble_eq_true rfl⟩) (fun r_11 h_12 => ?_)
      rcases h_12 with ⟨rfl, h_13⟩ | ⟨rfl, h_13⟩
      · exact absurd (by decide) h_13
      · refine lv_if_ne (tgt := 99) hx hb dX5_head_39 (by decide) (fun _ => ?_) (fun h9 => absurd h9 (by decide))
        refine lv_iinc (v := 2) (lv' := [(4, .int 2), (3, .int 0), (2, .int (-1)), (0, .ref qx), (1, .int iA)]) hx hb dX5_head_99 hl (k := 0) rfl (by decide) (by decide) rfl (fun ls hl => ?_)
        refine lv_goto (tgt := 26) hx hb dX5_head_102 (by decide) ?_
        refine lv_iload hx hb dX5_head_26 (lv_at hl 0 rfl) ?_
        refine lv_bipush (v := 8) hx hb dX5_head_28 (by decide) ?_
        refine lv_icmp_ge (tgt := 105) hx hb dX5_head_30 (by decide) (fun h9 => absurd h9 (by decide)) (fun _ => ?_)
        refine lv_aload_n hx hb dX5_head_33 rfl (lv_at hl 3 rfl) ?_
        refine lv_iload hx hb dX5_head_34 (lv_at hl 0 rfl) ?_
        refine kRi (rV (As := [.int 2]) (rest := []) (b := qx) ⟨hx, hb, hml, hown, hts⟩ (c_X5_ruleFit l G cy qx (.ref qt) (.ref qk) (.ref qp) qs (.ref qa) (.ref qr) (.int 0) (.int 0) (.int 0) qsh qss qsa qse fH 2 hH) L_X5_100 (preRV (q := (RX5, TX5, 9)) hN hP [0, 2, 3] rfl 0 4 rfl rfl) rfl ⟨Nat.le_of_ble_eq_true rfl, Nat.le_of_ble_eq_true rfl⟩ hl.1 (Nat.le_of_ble_eq_true rfl) dX5_head_36 ⟨Nat.le_of_ble_eq_true rfl, Nat.le_of_ble_eq_true rfl⟩) (fun r_16 h_17 => ?_)
        rcases h_17 with ⟨rfl, h_18⟩ | ⟨rfl, h_18⟩
        · exact absurd (by decide) h_18
        · refine lv_if_ne (tgt := 99) hx hb dX5_head_39 (by decide) (fun _ => ?_) (fun h9 => absurd h9 (by decide))
          refine lv_iinc (v := 3) (lv' := [(4, .int 3), (3, .int 0), (2, .int (-1)), (0, .ref qx), (1, .int iA)]) hx hb dX5_head_99 hl (k := 0) rfl (by decide) (by decide) rfl (fun ls hl => ?_)
          refine lv_goto (tgt := 26) hx hb dX5_head_102 (by decide) ?_
          refine lv_iload hx hb dX5_head_26 (lv_at hl 0 rfl) ?_
          refine lv_bipush (v := 8) hx hb dX5_head_28 (by decide) ?_
          refine lv_icmp_ge (tgt := 105) hx hb dX5_head_30 (by decide) (fun h9 => absurd h9 (by decide)) (fun _ => ?_)
          refine lv_aload_n hx hb dX5_head_33 rfl (lv_at hl 3 rfl) ?_
          refine lv_iload hx hb dX5_head_34 (lv_at hl 0 rfl) ?_
          refine kRi (rV (As := [.int 3]) (rest := []) (b := qx) ⟨hx, hb, hml, hown, hts⟩ (c_X5_ruleFit l G cy qx (.ref qt) (.ref qk) (.ref qp) qs (.ref qa) (.ref qr) (.int 0) (.int 0) (.int 0) qsh qss qsa qse fH 3 hH) L_X5_100 (preRV (q := (RX5, TX5, 9)) hN hP [0, 2, 3] rfl 0 4 rfl rfl) rfl ⟨Nat.le_of_ble_eq_true rfl, Nat.le_of_ble_eq_true rfl⟩ hl.1 (Nat.le_of_ble_eq_true rfl) dX5_head_36 ⟨Nat.le_of_ble_eq_true rfl, Nat.le_of_ble_eq_true rfl⟩) (fun r_21 h_22 => ?_)
          rcases h_22 with ⟨rfl, h_23⟩ | ⟨rfl, h_23⟩
          · exact absurd (by decide) h_23
          · refine lv_if_ne (tgt := 99) hx hb dX5_head_39 (by decide) (fun _ => ?_) (fun h9 => absurd h9 (by decide))
            refine lv_iinc (v := 4) (lv' := [(4, .int 4), (3, .int 0), (2, .int (-1)), (0, .ref qx), (1, .int iA)]) hx hb dX5_head_99 hl (k := 0) rfl (by decide) (by decide) rfl (fun ls hl => ?_)
            refine lv_goto (tgt := 26) hx hb dX5_head_102 (by decide) ?_
            refine lv_iload hx hb dX5_head_26 (lv_at hl 0 rfl) ?_
            refine lv_bipush (v := 8) hx hb dX5_head_28 (by decide) ?_
            refine lv_icmp_ge (tgt := 105) hx hb dX5_head_30 (by decide) (fun h9 => absurd h9 (by decide)) (fun _ => ?_)
            refine lv_aload_n hx hb dX5_head_33 rfl (lv_at hl 3 rfl) ?_
            refine lv_iload hx hb dX5_head_34 (lv_at hl 0 rfl) ?_
            refine kRi (rV (As := [.int 4]) (rest := []) (b := qx) ⟨hx, hb, hml, hown, hts⟩ (c_X5_ruleFit l G cy qx (.ref qt) (.ref qk) (.ref qp) qs (.ref qa) (.ref qr) (.int 0) (.int 0) (.int 0) qsh qss qsa qse fH 4 hH) L_X5_100 (preRV (q := (RX5, TX5, 9)) hN hP [0, 2, 3] rfl 0 4 rfl rfl) rfl ⟨Nat.le_of_ble_eq_true rfl, Nat.le_of_ble_eq_true rfl⟩ hl.1 (Nat.le_of_ble_eq_true rfl) dX5_head_36 ⟨Nat.le_of_ble_eq_true rfl, Nat.le_of_ble_eq_true rfl⟩) (fun r_26 h_27 => ?_)
            rcases h_27 with ⟨rfl, h_28⟩ | ⟨rfl, h_28⟩
            · exact absurd (by decide) h_28
            · refine lv_if_ne (tgt := 99) hx hb dX5_head_39 (by decide) (fun _ => ?_) (fun h9 => absurd h9 (by decide))
              refine lv_iinc (v := 5) (lv' := [(4, .int 5), (3, .int 0), (2, .int (-1)), (0, .ref qx), (1, .int iA)]) hx hb dX5_head_99 hl (k := 0) rfl (by decide) (by decide) rfl (fun ls hl => ?_)
              refine lv_goto (tgt := 26) hx hb dX5_head_102 (by decide) ?_
              refine lv_iload hx hb dX5_head_26 (lv_at hl 0 rfl) ?_
              refine lv_bipush (v := 8) hx hb dX5_head_28 (by decide) ?_
              refine lv_icmp_ge (tgt := 105) hx hb dX5_head_30 (by decide) (fun h9 => absurd h9 (by decide)) (fun _ => ?_)
              refine lv_aload_n hx hb dX5_head_33 rfl (lv_at hl 3 rfl) ?_
              refine lv_iload hx hb dX5_head_34 (lv_at hl 0 rfl) ?_
              refine kRi (rV (As := [.int 5]) (rest := []) (b := qx) ⟨hx, hb, hml, hown, hts⟩ (c_X5_ruleFit l G cy qx (.ref qt) (.ref qk) (.ref qp) qs (.ref qa) (.ref qr) (.int 0) (.int 0) (.int 0) qsh qss qsa qse fH 5 hH) L_X5_100 (preRV (q := (RX5, TX5, 9)) hN hP [0, 2, 3] rfl 0 4 rfl rfl) rfl ⟨Nat.le_of_ble_eq_true rfl, Nat.le_of_ble_eq_true rfl⟩ hl.1 (Nat.le_of_ble_eq_true rfl) dX5_head_36 ⟨Nat.le_of_ble_eq_true rfl, Nat.le_of_ble_eq_true rfl⟩) (fun r_31 h_32 => ?_)
              rcases h_32 with ⟨rfl, h_33⟩ | ⟨rfl, h_33⟩
              · exact absurd (by decide) h_33
              · refine lv_if_ne (tgt := 99) hx hb dX5_head_39 (by decide) (fun _ => ?_) (fun h9 => absurd h9 (by decide))
                refine lv_iinc (v := 6) (lv' := [(4, .int 6), (3, .int 0), (2, .int (-1)), (0, .ref qx), (1, .int iA)]) hx hb dX5_head_99 hl (k := 0) rfl (by decide) (by decide) rfl (fun ls hl => ?_)
                refine lv_goto (tgt := 26) hx hb dX5_head_102 (by decide) ?_
                refine lv_iload hx hb dX5_head_26 (lv_at hl 0 rfl) ?_
                refine lv_bipush (v := 8) hx hb dX5_head_28 (by decide) ?_
                refine lv_icmp_ge (tgt := 105) hx hb dX5_head_30 (by decide) (fun h9 => absurd h9 (by decide)) (fun _ => ?_)
                refine lv_aload_n hx hb dX5_head_33 rfl (lv_at hl 3 rfl) ?_
                refine lv_iload hx hb dX5_head_34 (lv_at hl 0 rfl) ?_
                refine kRi (rV (As := [.int 6]) (rest := []) (b := qx) ⟨hx, hb, hml, hown, hts⟩ (c_X5_ruleFit l G cy qx (.ref qt) (.ref qk) (.ref qp) qs (.ref qa) (.ref qr) (.int 0) (.int 0) (.int 0) qsh qss qsa qse fH 6 hH) L_X5_100 (preRV (q := (RX5, TX5, 9)) hN hP [0, 2, 3] rfl 0 4 rfl rfl) rfl ⟨Nat.le_of_ble_eq_true rfl, Nat.le_of_ble_eq_true rfl⟩ hl.1 (Nat.le_of_ble_eq_true rfl) dX5_head_36 ⟨Nat.le_of_ble_eq_true rfl, Nat.le_of_ble_eq_true rfl⟩) (fun r_36 h_37 => ?_)
                rcases h_37 with ⟨rfl, h_38⟩ | ⟨rfl, h_38⟩
                · exact absurd (by decide) h_38
                · refine lv_if_ne (tgt := 99) hx hb dX5_head_39 (by decide) (fun _ => ?_) (fun h9 => absurd h9 (by decide))
                  refine lv_iinc (v := 7) (lv' := [(4, .int 7), (3, .int 0), (2, .int (-1)), (0, .ref qx), (1, .int iA)]) hx hb dX5_head_99 hl (k := 0) rfl (by decide) (by decide) rfl (fun ls hl => ?_)
                  refine lv_goto (tgt := 26) hx hb dX5_head_102 (by decide) ?_
                  refine lv_iload hx hb dX5_head_26 (lv_at hl 0 rfl) ?_
                  refine lv_bipush (v := 8) hx hb dX5_head_28 (by decide) ?_
                  refine lv_icmp_ge (tgt := 105) hx hb dX5_head_30 (by decide) (fun h9 => absurd h9 (by decide)) (fun _ => ?_)
                  refine lv_aload_n hx hb dX5_head_33 rfl (lv_at hl 3 rfl) ?_
                  refine lv_iload hx hb dX5_head_34 (lv_at hl 0 rfl) ?_
                  refine kRi (rV (As := [.int 7]) (rest := []) (b := qx) ⟨hx, hb, hml, hown, hts⟩ (c_X5_ruleFit l G cy qx (.ref qt) (.ref qk) (.ref qp) qs (.ref qa) (.ref qr) (.int 0) (.int 0) (.int 0) qsh qss qsa qse fH 7 hH) L_X5_100 (preRV (q := (RX5, TX5, 9)) hN hP [0, 2, 3] rfl 0 4 rfl rfl) rfl ⟨Nat.le_of_ble_eq_true rfl, Nat.le_of_ble_eq_true rfl⟩ hl.1 (Nat.le_of_ble_eq_true rfl) dX5_head_36 ⟨Nat.le_of_ble_eq_true rfl, Nat.le_of_ble_eq_true rfl⟩) (fun r_41 h_42 => ?_)
                  rcases h_42 with ⟨rfl, h_43⟩ | ⟨rfl, h_43⟩
                  · exact absurd (by decide) h_43
                  · refine lv_if_ne (tgt := 99) hx hb dX5_head_39 (by decide) (fun _ => ?_) (fun h9 => absurd h9 (by decide))
                    refine lv_iinc (v := 8) (lv' := [(4, .int 8), (3, .int 0), (2, .int (-1)), (0, .ref qx), (1, .int iA)]) hx hb dX5_head_99 hl (k := 0) rfl (by decide) (by decide) rfl (fun ls hl => ?_)
                    refine lv_goto (tgt := 26) hx hb dX5_head_102 (by decide) ?_
                    refine lv_iload hx hb dX5_head_26 (lv_at hl 0 rfl) ?_
                    refine lv_bipush (v := 8) hx hb dX5_head_28 (by decide) ?_
                    refine lv_icmp_ge (tgt := 105) hx hb dX5_head_30 (by decide) (fun _ => ?_) (fun h9 => absurd (by decide) h9)
                    refine lv_iload_n hx hb dX5_head_105 rfl (lv_at hl 2 rfl) ?_
                    refine lv_iconst (v := (-1)) hx hb dX5_head_106 (by decide) ?_
                    refine lv_icmp_ne (tgt := 119) hx hb dX5_head_107 (by decide) (fun h9 => absurd (by decide) h9) (fun _ => ?_)
                    refine lv_aload_n hx hb dX5_head_110 rfl (lv_at hl 3 rfl) ?_
                    refine lv_bipush (v := (-5)) hx hb dX5_head_111 (by decide) ?_
                    refine kWi (wr := [(qs, .inr (1, [.ref qsh, .ref qss, .ref qsa, .ref qse])), (qsh, .inl (cy 0, 8, .inl fH))]) (rV (As := [.int (-5)]) (rest := []) (b := qx) ⟨hx, hb, hml, hown, hts⟩ (c_X5_refuse5 l G cy (s.heap).size qx (.ref qt) (.ref qk) (.ref qp) (.ref qs) (.ref qa) qr (.int 0) (.int 0) (.int 0) (fun _ => 0)) L_X5_56 (preWV (q := (RX5, TX5, 9)) hN hP hD [0, 1] rfl (by decide) 0 4 rfl rfl) rfl ⟨Nat.le_of_ble_eq_true rfl, Nat.le_of_ble_eq_true rfl⟩ hl.1 (Nat.le_of_ble_eq_true rfl) dX5_head_113 ⟨Nat.le_of_ble_eq_true rfl, Nat.le_of_ble_eq_true rfl⟩) hP hD hS hA [0, 1] [2, 3] rfl rfl (by decide) (by decide) (fun r_47 u_49 H locs h_48 hP hD hS => ?_)
                    obtain ⟨rfl, h_48⟩ := h_48
                    have hP : va_P G CL [(qs, .inr (1, [.ref qsh, .ref qss, .ref qsa, .ref qse])), (qsh, .inl (cy 0, 8, .inl fH)), (qx, .inr (4, [.ref qt, .ref qk, .ref qp, .ref qs, .ref qa, .ref qr, .int 0, .int 0, .int 0]))] H := hP
                    have hD : va_D A [(qs, .inr (1, [.ref qsh, .ref qss, .ref qsa, .ref qse])), (qsh, .inl (cy 0, 8, .inl fH)), (qx, .inr (4, [.ref qt, .ref qk, .ref qp, .ref qs, .ref qa, .ref qr, .int 0, .int 0, .int 0]))] := hD
                    subst h_48
                    refine lv_goto (tgt := 120) hx hb dX5_head_116 (by decide) ?_
                    exact endW (u := []) hx hb hr hlocks rfl va_P0 va_D0 hS ⟨rfl, (by first | (simp [sp_head, Iv, hH, h_3, h_8, h_13, h_18, h_23, h_28, h_33, h_38, h_43]; done) | (unfold sp_head; decide))⟩ dX5_head_120
  · refine lv_if_ne (tgt := 19) hx hb dX5_head_9 (by decide) (fun h9 => absurd (by decide) h9) (fun _ => ?_)
    refine lv_aload_n hx hb dX5_head_12 rfl (lv_at hl 0 rfl) ?_
    refine lv_bipush (v := (-2)) hx hb dX5_head_13 (by decide) ?_
    refine kWi (wr := [(qs, .inr (1, [.ref qsh, .ref qss, .ref qsa, .ref qse])), (qsh, .inl (cy 0, 8, .inl fH))]) (rV (As := [.int (-2)]) (rest := []) (b := qx) ⟨hx, hb, hml, hown, hts⟩ (c_X5_refuse2 l G cy (s.heap).size qx (.ref qt) (.ref qk) (.ref qp) (.ref qs) (.ref qa) qr (.int 0) (.int 0) (.int 0) (fun _ => 0)) L_X5_56 (preWV (q := (RX5, TX5, 9)) hN hP hD [0, 1] rfl (by decide) 0 4 rfl rfl) rfl ⟨Nat.le_of_ble_eq_true rfl, Nat.le_of_ble_eq_true rfl⟩ hl.1 (Nat.le_of_ble_eq_true rfl) dX5_head_15 ⟨Nat.le_of_ble_eq_true rfl, Nat.le_of_ble_eq_true rfl⟩) hP hD hS hA [0, 1] [2, 3] rfl rfl (by decide) (by decide) (fun r_51 u_53 H locs h_52 hP hD hS => ?_)
    obtain ⟨rfl, h_52⟩ := h_52
    have hP : va_P G CL [(qs, .inr (1, [.ref qsh, .ref qss, .ref qsa, .ref qse])), (qsh, .inl (cy 0, 8, .inl fH)), (qx, .inr (4, [.ref qt, .ref qk, .ref qp, .ref qs, .ref qa, .ref qr, .int 0, .int 0, .int 0]))] H := hP
    have hD : va_D A [(qs, .inr (1, [.ref qsh, .ref qss, .ref qsa, .ref qse])), (qsh, .inl (cy 0, 8, .inl fH)), (qx, .inr (4, [.ref qt, .ref qk, .ref qp, .ref qs, .ref qa, .ref qr, .int 0, .int 0, .int 0]))] := hD
    subst h_52
    exact endW (u := []) hx hb hr hlocks rfl va_P0 va_D0 hS ⟨rfl, (by first | (simp [sp_head, Iv, hH, h_3]; done) | (unfold sp_head; decide))⟩ dX5_head_18
set_option maxHeartbeats 4000000 in
set_option maxRecDepth 100000 in
theorem p_X5_order (l : Launch) (G : va_G) (cy : Nat → ClassId) (sz : Nat) (qx : Nat) (qt : Nat) (qk : Nat) (qp : Nat) (qs : Nat) (qa : Nat) (qr : Nat) (qtw : Nat) (qtn : Nat) (qtg : Nat) (qta : Nat) (qtr : Nat) (qtm : Nat) (qtt : Nat) (qts : Nat) (iA : Int32) (iB : Int32)   : MW l yX5_order cX5_order 4 (some .int) 6 0 0 G cy [(qx, .inr (4, [.ref qt, .ref qk, .ref qp, .ref qs, .ref qa, .ref qr, .int 0, .int 0, .int 0])), (qr, .inl (cy 0, 5, .inl (fun _ => 0))), (qt, .inr (3, [.int 0, .int 0, .int 0, .int 0, .int 1, .ref qtw, .ref qtn, .ref qtg, .ref qta, .ref qtr, .ref qtm, .ref qtt, .ref qts]))] sz [.ref qx, .int iA, .int iB] (Wi G (fun r u => u = [] ∧ ((r = (-2))))) := by
  refine enW RX5 (by decide) rfl (Nat.le_of_ble_eq_true rfl) (fun p e s m below meth c ls A hx hb hml hown hts hr hlocks hP hN hl hin hD hA hS => ?_)
  have hin : meth.name = _ := hin
  have hK := hN.1
  have hl : lv_has ls 4 [(0, .ref qx), (1, .int iA), (2, .int iB)] := hl
  refine lv_aload_n hx hb dX5_order_0 rfl (lv_at hl 0 rfl) ?_
  refine va_get (D := G) (ci := 4) (v := .ref qt) (C := RX5) (T := TX5) (N := 9) hx hb hts iX_X5 hown hK hP 0 rfl rfl 0 (by decide) (hts _ m_t174) (fun _ h9 => h9) rfl dX5_order_1 ?_
  refine va_getN (D := G) (ci := 3) (v := .int 0) (C := RX4) (T := TX4) (N := 13) hx hb hts iX_X4 hown hK hP 2 rfl rfl 0 (by decide) (va_Nw.use rfl (hN.2.1 (RX5, 127, "EachBookOnce$Town", "books", "I") (List.mem_of_getElem? (i := 3) rfl))) (fun _ h9 => h9) rfl dX5_order_4 ?_
  refine lv_aload_n hx hb dX5_order_7 rfl (lv_at hl 0 rfl) ?_
  refine va_get (D := G) (ci := 4) (v := .ref qt) (C := RX5) (T := TX5) (N := 9) hx hb hts iX_X5 hown hK hP 0 rfl rfl 0 (by decide) (hts _ m_t174) (fun _ h9 => h9) rfl dX5_order_8 ?_
  refine va_getN (D := G) (ci := 3) (v := .int 0) (C := RX4) (T := TX4) (N := 13) hx hb hts iX_X4 hown hK hP 2 rfl rfl 2 (by decide) (va_Nw.use rfl (hN.2.1 (RX5, 180, "EachBookOnce$Town", "white", "I") (List.mem_of_getElem? (i := 10) rfl))) (fun _ h9 => h9) rfl dX5_order_11 ?_
  refine kRi (rS (As := [.int 0]) (rest := [.int 0]) ⟨hx, hb, hml, hown, hts⟩ (c_J6_bitCount l G cy ) L_X5_264 (preRS hN hP [] rfl) rfl ⟨Nat.le_of_ble_eq_true rfl, Nat.le_of_ble_eq_true rfl⟩ hl.1 (Nat.le_of_ble_eq_true rfl) dX5_order_14 ⟨Nat.le_of_ble_eq_true rfl, Nat.le_of_ble_eq_true rfl⟩) (fun r_1 h_2 => ?_)
  subst h_2
  refine lv_isub hx hb dX5_order_17 ?_
  refine lv_seti (v := 0) (by decide) ?_
  refine lv_istore_n (lv' := [(3, .int 0), (0, .ref qx), (1, .int iA), (2, .int iB)]) hx hb dX5_order_18 rfl hl (by decide) rfl (fun ls hl => ?_)
  refine lv_aload_n hx hb dX5_order_19 rfl (lv_at hl 1 rfl) ?_
  refine va_get (D := G) (ci := 4) (v := .ref qt) (C := RX5) (T := TX5) (N := 9) hx hb hts iX_X5 hown hK hP 0 rfl rfl 0 (by decide) (hts _ m_t174) (fun _ h9 => h9) rfl dX5_order_20 ?_
  refine lv_iload_n hx hb dX5_order_23 rfl (lv_at hl 2 rfl) ?_
  refine kRi (rV (As := [.int iA]) (rest := []) (b := qt) ⟨hx, hb, hml, hown, hts⟩ (c_X4_isOne l G cy qt (.int 0) (.int 0) (.int 0) (.int 1) (.ref qtw) (.ref qtn) (.ref qtg) (.ref qta) (.ref qtr) (.ref qtm) (.ref qtt) (.ref qts) iA) L_X5_192 (preRV (q := (RX4, TX4, 13)) hN hP [2] rfl 2 3 rfl rfl) rfl ⟨Nat.le_of_ble_eq_true rfl, Nat.le_of_ble_eq_true rfl⟩ hl.1 (Nat.le_of_ble_eq_true rfl) dX5_order_24 ⟨Nat.le_of_ble_eq_true rfl, Nat.le_of_ble_eq_true rfl⟩) (fun r_3 h_4 => ?_)
  subst h_4
  refine lv_if_eq (tgt := 45) hx hb dX5_order_27 (by decide) (fun _ => ?_) (fun h9 => absurd (by decide) h9)
  refine lv_aload_n hx hb dX5_order_45 rfl (lv_at hl 1 rfl) ?_
  refine lv_bipush (v := (-2)) hx hb dX5_order_46 (by decide) ?_
  refine kWi (wr := [(qt, .inr (3, [.int 0, .int 0, .int 0, .int 0, .int 1, .ref qtw, .ref qtn, .ref qtg, .ref qta, .ref qtr, .ref qtm, .ref qtt, .ref qts]))]) (rV (As := [.int (-2)]) (rest := []) (b := qx) ⟨hx, hb, hml, hown, hts⟩ (c_X5_refuse2 l G cy (s.heap).size qx (.ref qt) (.ref qk) (.ref qp) (.ref qs) (.ref qa) qr (.int 0) (.int 0) (.int 0) (fun _ => 0)) L_X5_56 (preWV (q := (RX5, TX5, 9)) hN hP hD [0, 1] rfl (by decide) 0 4 rfl rfl) rfl ⟨Nat.le_of_ble_eq_true rfl, Nat.le_of_ble_eq_true rfl⟩ hl.1 (Nat.le_of_ble_eq_true rfl) dX5_order_48 ⟨Nat.le_of_ble_eq_true rfl, Nat.le_of_ble_eq_true rfl⟩) hP hD hS hA [0, 1] [2] rfl rfl (by decide) (by decide) (fun r_6 u_8 H locs h_7 hP hD hS => ?_)
  obtain ⟨rfl, h_7⟩ := h_7
  have hP : va_P G CL [(qt, .inr (3, [.int 0, .int 0, .int 0, .int 0, .int 1, .ref qtw, .ref qtn, .ref qtg, .ref qta, .ref qtr, .ref qtm, .ref qtt, .ref qts])), (qx, .inr (4, [.ref qt, .ref qk, .ref qp, .ref qs, .ref qa, .ref qr, .int 0, .int 0, .int 0]))] H := hP
  have hD : va_D A [(qt, .inr (3, [.int 0, .int 0, .int 0, .int 0, .int 1, .ref qtw, .ref qtn, .ref qtg, .ref qta, .ref qtr, .ref qtm, .ref qtt, .ref qts])), (qx, .inr (4, [.ref qt, .ref qk, .ref qp, .ref qs, .ref qa, .ref qr, .int 0, .int 0, .int 0]))] := hD
  subst h_7
  exact endW (u := []) hx hb hr hlocks rfl va_P0 va_D0 hS ⟨rfl, rfl⟩ dX5_order_51
set_option maxHeartbeats 4000000 in
set_option maxRecDepth 100000 in
theorem p_X5_keeping (l : Launch) (G : va_G) (cy : Nat → ClassId) (sz : Nat) (qx : Nat) (qt : Nat) (qk : Nat) (qp : Nat) (qs : Nat) (qa : Nat) (qr : Nat) (qtw : Nat) (qtn : Nat) (qtg : Nat) (qta : Nat) (qtr : Nat) (qtm : Nat) (qtt : Nat) (qts : Nat) (iA : Int32) (iB : Int32)   : MW l yX5_keeping cX5_keeping 4 (some .int) 6 0 0 G cy [(qx, .inr (4, [.ref qt, .ref qk, .ref qp, .ref qs, .ref qa, .ref qr, .int 0, .int 0, .int 0])), (qr, .inl (cy 0, 5, .inl (fun _ => 0))), (qt, .inr (3, [.int 0, .int 0, .int 0, .int 0, .int 1, .ref qtw, .ref qtn, .ref qtg, .ref qta, .ref qtr, .ref qtm, .ref qtt, .ref qts]))] sz [.ref qx, .int iA, .int iB] (Wi G (fun r u => u = [] ∧ ((r = (-1000002))))) := by
  refine enW RX5 (by decide) rfl (Nat.le_of_ble_eq_true rfl) (fun p e s m below meth c ls A hx hb hml hown hts hr hlocks hP hN hl hin hD hA hS => ?_)
  have hin : meth.name = _ := hin
  have hK := hN.1
  have hl : lv_has ls 4 [(0, .ref qx), (1, .int iA), (2, .int iB)] := hl
  refine lv_aload_n hx hb dX5_keeping_0 rfl (lv_at hl 0 rfl) ?_
  refine va_get (D := G) (ci := 4) (v := .ref qt) (C := RX5) (T := TX5) (N := 9) hx hb hts iX_X5 hown hK hP 0 rfl rfl 0 (by decide) (hts _ m_t174) (fun _ h9 => h9) rfl dX5_keeping_1 ?_
  refine lv_iload_n hx hb dX5_keeping_4 rfl (lv_at hl 1 rfl) ?_
  refine kRi (rV (As := [.int iA]) (rest := []) (b := qt) ⟨hx, hb, hml, hown, hts⟩ (c_X4_isBook l G cy qt (.int 0) (.int 0) (.int 0) (.int 1) (.ref qtw) (.ref qtn) (.ref qtg) (.ref qta) (.ref qtr) (.ref qtm) (.ref qtt) (.ref qts) iA) L_X5_168 (preRV (q := (RX4, TX4, 13)) hN hP [2] rfl 2 3 rfl rfl) rfl ⟨Nat.le_of_ble_eq_true rfl, Nat.le_of_ble_eq_true rfl⟩ hl.1 (Nat.le_of_ble_eq_true rfl) dX5_keeping_5 ⟨Nat.le_of_ble_eq_true rfl, Nat.le_of_ble_eq_true rfl⟩) (fun r_1 h_2 => ?_)
  subst h_2
  refine lv_if_eq (tgt := 25) hx hb dX5_keeping_8 (by decide) (fun _ => ?_) (fun h9 => absurd (by decide) h9)
  refine lv_aload_n hx hb dX5_keeping_25 rfl (lv_at hl 0 rfl) ?_
  refine lv_bipush (v := (-2)) hx hb dX5_keeping_26 (by decide) ?_
  refine kWi (wr := [(qt, .inr (3, [.int 0, .int 0, .int 0, .int 0, .int 1, .ref qtw, .ref qtn, .ref qtg, .ref qta, .ref qtr, .ref qtm, .ref qtt, .ref qts]))]) (rV (As := [.int (-2)]) (rest := []) (b := qx) ⟨hx, hb, hml, hown, hts⟩ (c_X5_refuse2 l G cy (s.heap).size qx (.ref qt) (.ref qk) (.ref qp) (.ref qs) (.ref qa) qr (.int 0) (.int 0) (.int 0) (fun _ => 0)) L_X5_56 (preWV (q := (RX5, TX5, 9)) hN hP hD [0, 1] rfl (by decide) 0 4 rfl rfl) rfl ⟨Nat.le_of_ble_eq_true rfl, Nat.le_of_ble_eq_true rfl⟩ hl.1 (Nat.le_of_ble_eq_true rfl) dX5_keeping_28 ⟨Nat.le_of_ble_eq_true rfl, Nat.le_of_ble_eq_true rfl⟩) hP hD hS hA [0, 1] [2] rfl rfl (by decide) (by decide) (fun r_4 u_6 H locs h_5 hP hD hS => ?_)
  obtain ⟨rfl, h_5⟩ := h_5
  have hP : va_P G CL [(qt, .inr (3, [.int 0, .int 0, .int 0, .int 0, .int 1, .ref qtw, .ref qtn, .ref qtg, .ref qta, .ref qtr, .ref qtm, .ref qtt, .ref qts])), (qx, .inr (4, [.ref qt, .ref qk, .ref qp, .ref qs, .ref qa, .ref qr, .int 0, .int 0, .int 0]))] H := hP
  have hD : va_D A [(qt, .inr (3, [.int 0, .int 0, .int 0, .int 0, .int 1, .ref qtw, .ref qtn, .ref qtg, .ref qta, .ref qtr, .ref qtm, .ref qtt, .ref qts])), (qx, .inr (4, [.ref qt, .ref qk, .ref qp, .ref qs, .ref qa, .ref qr, .int 0, .int 0, .int 0]))] := hD
  subst h_5
  refine lv_ldcw hx hb hown (hts _ m_t705) dX5_keeping_31 ?_
  refine lv_isub hx hb dX5_keeping_34 ?_
  refine lv_seti (v := (-1000002)) (by decide) ?_
  exact endW (u := []) hx hb hr hlocks rfl va_P0 va_D0 hS ⟨rfl, rfl⟩ dX5_keeping_35
set_option maxHeartbeats 4000000 in
set_option maxRecDepth 100000 in
theorem p_X5_hangs (l : Launch) (G : va_G) (cy : Nat → ClassId) (sz : Nat) (qx : Nat) (qt : Nat) (qk : Nat) (qp : Nat) (qs : Nat) (qa : Nat) (qr : Nat) (qtw : Nat) (qtn : Nat) (qtg : Nat) (qta : Nat) (qtr : Nat) (qtm : Nat) (qtt : Nat) (qts : Nat)   : MW l yX5_hangs cX5_hangs 6 (some .int) 6 0 0 G cy [(qx, .inr (4, [.ref qt, .ref qk, .ref qp, .ref qs, .ref qa, .ref qr, .int 0, .int 0, .int 0])), (qr, .inl (cy 0, 5, .inl (fun _ => 0))), (qt, .inr (3, [.int 0, .int 0, .int 0, .int 0, .int 1, .ref qtw, .ref qtn, .ref qtg, .ref qta, .ref qtr, .ref qtm, .ref qtt, .ref qts]))] sz [.ref qx] (Wi G (fun r u => u = [] ∧ ((r = (-5))))) := by
  refine enW RX5 (by decide) rfl (Nat.le_of_ble_eq_true rfl) (fun p e s m below meth c ls A hx hb hml hown hts hr hlocks hP hN hl hin hD hA hS => ?_)
  have hin : meth.name = _ := hin
  have hK := hN.1
  have hl : lv_has ls 6 [(0, .ref qx)] := hl
  refine lv_aload_n hx hb dX5_hangs_0 rfl (lv_at hl 0 rfl) ?_
  refine va_get (D := G) (ci := 4) (v := .ref qt) (C := RX5) (T := TX5) (N := 9) hx hb hts iX_X5 hown hK hP 0 rfl rfl 0 (by decide) (hts _ m_t174) (fun _ h9 => h9) rfl dX5_hangs_1 ?_
  refine kRi (rV (As := []) (rest := []) (b := qt) ⟨hx, hb, hml, hown, hts⟩ (c_X4_setThere l G cy qt (.int 0) (.int 0) (.int 1) (.ref qtw) (.ref qtn) (.ref qtg) (.ref qta) (.ref qtr) (.ref qtm) (.ref qtt) (.ref qts)) L_X5_269 (preRV (q := (RX4, TX4, 13)) hN hP [2] rfl 2 3 rfl rfl) rfl ⟨Nat.le_of_ble_eq_true rfl, Nat.le_of_ble_eq_true rfl⟩ hl.1 (Nat.le_of_ble_eq_true rfl) dX5_hangs_4 ⟨Nat.le_of_ble_eq_true rfl, Nat.le_of_ble_eq_true rfl⟩) (fun r_1 h_2 => ?_)
  subst h_2
  refine lv_istore_n (lv' := [(1, .int 0), (0, .ref qx)]) hx hb dX5_hangs_7 rfl hl (by decide) rfl (fun ls hl => ?_)
  refine lv_iconst (v := (-1)) hx hb dX5_hangs_8 (by decide) ?_
  refine lv_istore_n (lv' := [(2, .int (-1)), (1, .int 0), (0, .ref qx)]) hx hb dX5_hangs_9 rfl hl (by decide) rfl (fun ls hl => ?_)
  refine lv_iconst (v := 0) hx hb dX5_hangs_10 (by decide) ?_
  refine lv_istore_n (lv' := [(3, .int 0), (2, .int (-1)), (1, .int 0), (0, .ref qx)]) hx hb dX5_hangs_11 rfl hl (by decide) rfl (fun ls hl => ?_)
  refine lv_iconst (v := 0) hx hb dX5_hangs_12 (by decide) ?_
  refine lv_istore (lv' := [(4, .int 0), (3, .int 0), (2, .int (-1)), (1, .int 0), (0, .ref qx)]) hx hb dX5_hangs_13 hl (by decide) rfl (fun ls hl => ?_)
  refine lv_iload hx hb dX5_hangs_15 (lv_at hl 0 rfl) ?_
  refine lv_aload_n hx hb dX5_hangs_17 rfl (lv_at hl 4 rfl) ?_
  refine va_get (D := G) (ci := 4) (v := .ref qt) (C := RX5) (T := TX5) (N := 9) hx hb hts iX_X5 hown hK hP 0 rfl rfl 0 (by decide) (hts _ m_t174) (fun _ h9 => h9) rfl dX5_hangs_18 ?_
  refine va_getN (D := G) (ci := 3) (v := .int 0) (C := RX4) (T := TX4) (N := 13) hx hb hts iX_X4 hown hK hP 2 rfl rfl 1 (by decide) (va_Nw.use rfl (hN.2.1 (RX5, 141, "EachBookOnce$Town", "people", "I") (List.mem_of_getElem? (i := 7) rfl))) (fun _ h9 => h9) rfl dX5_hangs_21 ?_
  refine lv_icmp_ge (tgt := 76) hx hb dX5_hangs_24 (by decide) (fun _ => ?_) (fun h9 => absurd (by decide) h9)
  refine lv_iload_n hx hb dX5_hangs_76 rfl (lv_at hl 2 rfl) ?_
  refine lv_iconst (v := (-1)) hx hb dX5_hangs_77 (by decide) ?_
  refine lv_icmp_ne (tgt := 90) hx hb dX5_hangs_78 (by decide) (fun h9 => absurd (by decide) h9) (fun _ => ?_)
  refine lv_aload_n hx hb dX5_hangs_81 rfl (lv_at hl 4 rfl) ?_
  refine lv_bipush (v := (-5)) hx hb dX5_hangs_82 (by decide) ?_
  refine kWi (wr := [(qt, .inr (3, [.int 0, .int 0, .int 0, .int 0, .int 1, .ref qtw, .ref qtn, .ref qtg, .ref qta, .ref qtr, .ref qtm, .ref qtt, .ref qts]))]) (rV (As := [.int (-5)]) (rest := []) (b := qx) ⟨hx, hb, hml, hown, hts⟩ (c_X5_refuse5 l G cy (s.heap).size qx (.ref qt) (.ref qk) (.ref qp) (.ref qs) (.ref qa) qr (.int 0) (.int 0) (.int 0) (fun _ => 0)) L_X5_56 (preWV (q := (RX5, TX5, 9)) hN hP hD [0, 1] rfl (by decide) 0 4 rfl rfl) rfl ⟨Nat.le_of_ble_eq_true rfl, Nat.le_of_ble_eq_true rfl⟩ hl.1 (Nat.le_of_ble_eq_true rfl) dX5_hangs_84 ⟨Nat.le_of_ble_eq_true rfl, Nat.le_of_ble_eq_true rfl⟩) hP hD hS hA [0, 1] [2] rfl rfl (by decide) (by decide) (fun r_5 u_7 H locs h_6 hP hD hS => ?_)
  obtain ⟨rfl, h_6⟩ := h_6
  have hP : va_P G CL [(qt, .inr (3, [.int 0, .int 0, .int 0, .int 0, .int 1, .ref qtw, .ref qtn, .ref qtg, .ref qta, .ref qtr, .ref qtm, .ref qtt, .ref qts])), (qx, .inr (4, [.ref qt, .ref qk, .ref qp, .ref qs, .ref qa, .ref qr, .int 0, .int 0, .int 0]))] H := hP
  have hD : va_D A [(qt, .inr (3, [.int 0, .int 0, .int 0, .int 0, .int 1, .ref qtw, .ref qtn, .ref qtg, .ref qta, .ref qtr, .ref qtm, .ref qtt, .ref qts])), (qx, .inr (4, [.ref qt, .ref qk, .ref qp, .ref qs, .ref qa, .ref qr, .int 0, .int 0, .int 0]))] := hD
  subst h_6
  refine lv_goto (tgt := 91) hx hb dX5_hangs_87 (by decide) ?_
  exact endW (u := []) hx hb hr hlocks rfl va_P0 va_D0 hS ⟨rfl, rfl⟩ dX5_hangs_91
set_option maxHeartbeats 4000000 in
set_option maxRecDepth 100000 in
theorem p_X5_lost (l : Launch) (G : va_G) (cy : Nat → ClassId) (sz : Nat) (qx : Nat) (qt : Nat) (qk : Nat) (qp : Nat) (qs : Nat) (qa : Nat) (qr : Nat) (qtw : Nat) (qtn : Nat) (qtg : Nat) (qta : Nat) (qtr : Nat) (qtm : Nat) (qtt : Nat) (qts : Nat) (iA : Int32)   : MW l yX5_lost cX5_lost 2 (some .int) 6 0 0 G cy [(qx, .inr (4, [.ref qt, .ref qk, .ref qp, .ref qs, .ref qa, .ref qr, .int 0, .int 0, .int 0])), (qr, .inl (cy 0, 5, .inl (fun _ => 0))), (qt, .inr (3, [.int 0, .int 0, .int 0, .int 0, .int 1, .ref qtw, .ref qtn, .ref qtg, .ref qta, .ref qtr, .ref qtm, .ref qtt, .ref qts]))] sz [.ref qx, .int iA] (Wi G (fun r u => u = [] ∧ ((r = (sp_lost iA))))) := by
  refine enW RX5 (by decide) rfl (Nat.le_of_ble_eq_true rfl) (fun p e s m below meth c ls A hx hb hml hown hts hr hlocks hP hN hl hin hD hA hS => ?_)
  have hin : meth.name = _ := hin
  have hK := hN.1
  have hl : lv_has ls 2 [(0, .ref qx), (1, .int iA)] := hl
  refine lv_iload_n hx hb dX5_lost_0 rfl (lv_at hl 1 rfl) ?_
  refine lv_i2l (v := iA.toInt64) hx hb dX5_lost_1 rfl ?_
  refine lv_lconst (v := 1) hx hb dX5_lost_2 (by decide) ?_
  refine lv_ldc2 hx hb hown (hts _ m_t591) dX5_lost_3 ?_
  refine kRi (rS (As := [.long iA.toInt64, .long 1, .long 1000]) (rest := []) ⟨hx, hb, hml, hown, hts⟩ (c_X5_within l G cy iA.toInt64 1 1000) L_X5_50 (preRS hN hP [] rfl) rfl ⟨Nat.le_of_ble_eq_true rfl, Nat.le_of_ble_eq_true rfl⟩ hl.1 (Nat.le_of_ble_eq_true rfl) dX5_lost_6 ⟨Nat.le_of_ble_eq_true rfl, Nat.le_of_ble_eq_true rfl⟩) (fun r_1 h_2 => ?_)
  rcases h_2 with ⟨rfl, h_3⟩ | ⟨rfl, h_3⟩
  · refine lv_if_eq (tgt := 43) hx hb dX5_lost_9 (by decide) (fun h9 => absurd h9 (by decide)) (fun _ => ?_)
    refine lv_aload_n hx hb dX5_lost_12 rfl (lv_at hl 0 rfl) ?_
    refine va_get (D := G) (ci := 4) (v := .ref qt) (C := RX5) (T := TX5) (N := 9) hx hb hts iX_X5 hown hK hP 0 rfl rfl 0 (by decide) (hts _ m_t174) (fun _ h9 => h9) rfl dX5_lost_13 ?_
    refine va_getN (D := G) (ci := 3) (v := .int 0) (C := RX4) (T := TX4) (N := 13) hx hb hts iX_X4 hown hK hP 2 rfl rfl 0 (by decide) (va_Nw.use rfl (hN.2.1 (RX5, 127, "EachBookOnce$Town", "books", "I") (List.mem_of_getElem? (i := 3) rfl))) (fun _ h9 => h9) rfl dX5_lost_16 ?_
    refine kRi (rS (As := [.int 0]) (rest := []) ⟨hx, hb, hml, hown, hts⟩ (c_X5_setOfAll0 l G cy ) L_X5_186 (preRS hN hP [] rfl) rfl ⟨Nat.le_of_ble_eq_true rfl, Nat.le_of_ble_eq_true rfl⟩ hl.1 (Nat.le_of_ble_eq_true rfl) dX5_lost_19 ⟨Nat.le_of_ble_eq_true rfl, Nat.le_of_ble_eq_true rfl⟩) (fun r_5 h_6 => ?_)
    subst h_6
    refine lv_aload_n hx hb dX5_lost_22 rfl (lv_at hl 0 rfl) ?_
    refine va_get (D := G) (ci := 4) (v := .ref qt) (C := RX5) (T := TX5) (N := 9) hx hb hts iX_X5 hown hK hP 0 rfl rfl 0 (by decide) (hts _ m_t174) (fun _ h9 => h9) rfl dX5_lost_23 ?_
    refine lv_aload_n hx hb dX5_lost_26 rfl (lv_at hl 0 rfl) ?_
    refine va_get (D := G) (ci := 4) (v := .ref qt) (C := RX5) (T := TX5) (N := 9) hx hb hts iX_X5 hown hK hP 0 rfl rfl 0 (by decide) (hts _ m_t174) (fun _ h9 => h9) rfl dX5_lost_27 ?_
    refine kRi (rV (As := []) (rest := [.ref qt, .int 0]) (b := qt) ⟨hx, hb, hml, hown, hts⟩ (c_X4_setThere l G cy qt (.int 0) (.int 0) (.int 1) (.ref qtw) (.ref qtn) (.ref qtg) (.ref qta) (.ref qtr) (.ref qtm) (.ref qtt) (.ref qts)) L_X5_269 (preRV (q := (RX4, TX4, 13)) hN hP [2] rfl 2 3 rfl rfl) rfl ⟨Nat.le_of_ble_eq_true rfl, Nat.le_of_ble_eq_true rfl⟩ hl.1 (Nat.le_of_ble_eq_true rfl) dX5_lost_30 ⟨Nat.le_of_ble_eq_true rfl, Nat.le_of_ble_eq_true rfl⟩) (fun r_7 h_8 => ?_)
    subst h_8
    refine lv_iload_n hx hb dX5_lost_33 rfl (lv_at hl 1 rfl) ?_
    refine kRi (rV (As := [.int 0, .int iA]) (rest := [.int 0]) (b := qt) ⟨hx, hb, hml, hown, hts⟩ (c_X4_booksKnown l G cy qt (.int 0) (.int 0) (.int 0) (.int 1) (.ref qtw) (.ref qtn) (.ref qtg) (.ref qta) (.ref qtr) (.ref qtm) (.ref qtt) (.ref qts) 0 iA) L_X5_303 (preRV (q := (RX4, TX4, 13)) hN hP [2] rfl 2 3 rfl rfl) rfl ⟨Nat.le_of_ble_eq_true rfl, Nat.le_of_ble_eq_true rfl⟩ hl.1 (Nat.le_of_ble_eq_true rfl) dX5_lost_34 ⟨Nat.le_of_ble_eq_true rfl, Nat.le_of_ble_eq_true rfl⟩) (fun r_9 h_10 => ?_)
    subst h_10
    refine lv_iconst (v := (-1)) hx hb dX5_lost_37 (by decide) ?_
    refine lv_ixor hx hb dX5_lost_38 ?_
    refine lv_seti (v := (-1)) (by decide) ?_
    refine lv_iand hx hb dX5_lost_39 ?_
    refine lv_seti (v := 0) (by decide) ?_
    refine lv_goto (tgt := 49) hx hb dX5_lost_40 (by decide) ?_
    exact endW (u := []) hx hb hr hlocks rfl va_P0 va_D0 hS ⟨rfl, (by first | (simp [sp_lost, Iv, h_3]; done) | (unfold sp_lost; decide))⟩ dX5_lost_49
  · refine lv_if_eq (tgt := 43) hx hb dX5_lost_9 (by decide) (fun _ => ?_) (fun h9 => absurd (by decide) h9)
    refine lv_aload_n hx hb dX5_lost_43 rfl (lv_at hl 0 rfl) ?_
    refine lv_bipush (v := (-2)) hx hb dX5_lost_44 (by decide) ?_
    refine kWi (wr := [(qt, .inr (3, [.int 0, .int 0, .int 0, .int 0, .int 1, .ref qtw, .ref qtn, .ref qtg, .ref qta, .ref qtr, .ref qtm, .ref qtt, .ref qts]))]) (rV (As := [.int (-2)]) (rest := []) (b := qx) ⟨hx, hb, hml, hown, hts⟩ (c_X5_refuse2 l G cy (s.heap).size qx (.ref qt) (.ref qk) (.ref qp) (.ref qs) (.ref qa) qr (.int 0) (.int 0) (.int 0) (fun _ => 0)) L_X5_56 (preWV (q := (RX5, TX5, 9)) hN hP hD [0, 1] rfl (by decide) 0 4 rfl rfl) rfl ⟨Nat.le_of_ble_eq_true rfl, Nat.le_of_ble_eq_true rfl⟩ hl.1 (Nat.le_of_ble_eq_true rfl) dX5_lost_46 ⟨Nat.le_of_ble_eq_true rfl, Nat.le_of_ble_eq_true rfl⟩) hP hD hS hA [0, 1] [2] rfl rfl (by decide) (by decide) (fun r_12 u_14 H locs h_13 hP hD hS => ?_)
    obtain ⟨rfl, h_13⟩ := h_13
    have hP : va_P G CL [(qt, .inr (3, [.int 0, .int 0, .int 0, .int 0, .int 1, .ref qtw, .ref qtn, .ref qtg, .ref qta, .ref qtr, .ref qtm, .ref qtt, .ref qts])), (qx, .inr (4, [.ref qt, .ref qk, .ref qp, .ref qs, .ref qa, .ref qr, .int 0, .int 0, .int 0]))] H := hP
    have hD : va_D A [(qt, .inr (3, [.int 0, .int 0, .int 0, .int 0, .int 1, .ref qtw, .ref qtn, .ref qtg, .ref qta, .ref qtr, .ref qtm, .ref qtt, .ref qts])), (qx, .inr (4, [.ref qt, .ref qk, .ref qp, .ref qs, .ref qa, .ref qr, .int 0, .int 0, .int 0]))] := hD
    subst h_13
    exact endW (u := []) hx hb hr hlocks rfl va_P0 va_D0 hS ⟨rfl, (by first | (simp [sp_lost, Iv, h_3]; done) | (unfold sp_lost; decide))⟩ dX5_lost_49
set_option maxHeartbeats 4000000 in
set_option maxRecDepth 100000 in
theorem p_X5_bear (l : Launch) (G : va_G) (cy : Nat → ClassId) (sz : Nat) (qx : Nat) (qt : Nat) (qk : Nat) (qp : Nat) (qs : Nat) (qa : Nat) (qr : Nat) (qtw : Nat) (qtn : Nat) (qtg : Nat) (qta : Nat) (qtr : Nat) (qtm : Nat) (qtt : Nat) (qts : Nat) (iA : Int32)   : MW l yX5_bear cX5_bear 7 (some .int) 6 0 0 G cy [(qx, .inr (4, [.ref qt, .ref qk, .ref qp, .ref qs, .ref qa, .ref qr, .int 0, .int 0, .int 0])), (qr, .inl (cy 0, 5, .inl (fun _ => 0))), (qt, .inr (3, [.int 0, .int 0, .int 0, .int 0, .int 1, .ref qtw, .ref qtn, .ref qtg, .ref qta, .ref qtr, .ref qtm, .ref qtt, .ref qts]))] sz [.ref qx, .int iA] (Wi G (fun r u => u = [] ∧ ((r = (sp_lost iA))))) := by
  refine enW RX5 (by decide) rfl (Nat.le_of_ble_eq_true rfl) (fun p e s m below meth c ls A hx hb hml hown hts hr hlocks hP hN hl hin hD hA hS => ?_)
  have hin : meth.name = _ := hin
  have hK := hN.1
  have hl : lv_has ls 7 [(0, .ref qx), (1, .int iA)] := hl
  refine lv_iload_n hx hb dX5_bear_0 rfl (lv_at hl 1 rfl) ?_
  refine lv_i2l (v := iA.toInt64) hx hb dX5_bear_1 rfl ?_
  refine lv_lconst (v := 1) hx hb dX5_bear_2 (by decide) ?_
  refine lv_ldc2 hx hb hown (hts _ m_t591) dX5_bear_3 ?_
  refine kRi (rS (As := [.long iA.toInt64, .long 1, .long 1000]) (rest := []) ⟨hx, hb, hml, hown, hts⟩ (c_X5_within l G cy iA.toInt64 1 1000) L_X5_50 (preRS hN hP [] rfl) rfl ⟨Nat.le_of_ble_eq_true rfl, Nat.le_of_ble_eq_true rfl⟩ hl.1 (Nat.le_of_ble_eq_true rfl) dX5_bear_6 ⟨Nat.le_of_ble_eq_true rfl, Nat.le_of_ble_eq_true rfl⟩) (fun r_1 h_2 => ?_)
  rcases h_2 with ⟨rfl, h_3⟩ | ⟨rfl, h_3⟩
  · refine lv_if_ne (tgt := 19) hx hb dX5_bear_9 (by decide) (fun _ => ?_) (fun h9 => absurd h9 (by decide))
    refine lv_aload_n hx hb dX5_bear_19 rfl (lv_at hl 0 rfl) ?_
    refine va_get (D := G) (ci := 4) (v := .ref qt) (C := RX5) (T := TX5) (N := 9) hx hb hts iX_X5 hown hK hP 0 rfl rfl 0 (by decide) (hts _ m_t174) (fun _ h9 => h9) rfl dX5_bear_20 ?_
    refine kRi (rV (As := []) (rest := []) (b := qt) ⟨hx, hb, hml, hown, hts⟩ (c_X4_setThere l G cy qt (.int 0) (.int 0) (.int 1) (.ref qtw) (.ref qtn) (.ref qtg) (.ref qta) (.ref qtr) (.ref qtm) (.ref qtt) (.ref qts)) L_X5_269 (preRV (q := (RX4, TX4, 13)) hN hP [2] rfl 2 3 rfl rfl) rfl ⟨Nat.le_of_ble_eq_true rfl, Nat.le_of_ble_eq_true rfl⟩ hl.1 (Nat.le_of_ble_eq_true rfl) dX5_bear_23 ⟨Nat.le_of_ble_eq_true rfl, Nat.le_of_ble_eq_true rfl⟩) (fun r_5 h_6 => ?_)
    subst h_6
    refine lv_istore_n (lv' := [(2, .int 0), (0, .ref qx), (1, .int iA)]) hx hb dX5_bear_26 rfl hl (by decide) rfl (fun ls hl => ?_)
    refine lv_aload_n hx hb dX5_bear_27 rfl (lv_at hl 1 rfl) ?_
    refine va_get (D := G) (ci := 4) (v := .ref qt) (C := RX5) (T := TX5) (N := 9) hx hb hts iX_X5 hown hK hP 0 rfl rfl 0 (by decide) (hts _ m_t174) (fun _ h9 => h9) rfl dX5_bear_28 ?_
    refine lv_iload_n hx hb dX5_bear_31 rfl (lv_at hl 0 rfl) ?_
    refine lv_iload_n hx hb dX5_bear_32 rfl (lv_at hl 2 rfl) ?_
    refine kRi (rV (As := [.int 0, .int iA]) (rest := []) (b := qt) ⟨hx, hb, hml, hown, hts⟩ (c_X4_booksKnown l G cy qt (.int 0) (.int 0) (.int 0) (.int 1) (.ref qtw) (.ref qtn) (.ref qtg) (.ref qta) (.ref qtr) (.ref qtm) (.ref qtt) (.ref qts) 0 iA) L_X5_303 (preRV (q := (RX4, TX4, 13)) hN hP [2] rfl 2 3 rfl rfl) rfl ⟨Nat.le_of_ble_eq_true rfl, Nat.le_of_ble_eq_true rfl⟩ hl.1 (Nat.le_of_ble_eq_true rfl) dX5_bear_33 ⟨Nat.le_of_ble_eq_true rfl, Nat.le_of_ble_eq_true rfl⟩) (fun r_7 h_8 => ?_)
    subst h_8
    refine lv_istore_n (lv' := [(3, .int 0), (2, .int 0), (0, .ref qx), (1, .int iA)]) hx hb dX5_bear_36 rfl hl (by decide) rfl (fun ls hl => ?_)
    refine lv_iload_n hx hb dX5_bear_37 rfl (lv_at hl 1 rfl) ?_
    refine lv_istore (lv' := [(4, .int 0), (3, .int 0), (2, .int 0), (0, .ref qx), (1, .int iA)]) hx hb dX5_bear_38 hl (by decide) rfl (fun ls hl => ?_)
    refine lv_iconst (v := 0) hx hb dX5_bear_40 (by decide) ?_
    refine lv_istore (lv' := [(5, .int 0), (4, .int 0), (3, .int 0), (2, .int 0), (0, .ref qx), (1, .int iA)]) hx hb dX5_bear_41 hl (by decide) rfl (fun ls hl => ?_)
    refine lv_iload hx hb dX5_bear_43 (lv_at hl 0 rfl) ?_
    refine lv_iload_n hx hb dX5_bear_45 rfl (lv_at hl 3 rfl) ?_
    refine lv_icmp_ge (tgt := 107) hx hb dX5_bear_46 (by decide) (fun _ => ?_) (fun h9 => absurd (by decide) h9)
    refine lv_iload hx hb dX5_bear_107 (lv_at hl 1 rfl) ?_
    exact endW (u := []) hx hb hr hlocks rfl va_P0 va_D0 hS ⟨rfl, (by first | (simp [sp_lost, Iv, h_3]; done) | (unfold sp_lost; decide))⟩ dX5_bear_109
  · refine lv_if_ne (tgt := 19) hx hb dX5_bear_9 (by decide) (fun h9 => absurd (by decide) h9) (fun _ => ?_)
    refine lv_aload_n hx hb dX5_bear_12 rfl (lv_at hl 0 rfl) ?_
    refine lv_bipush (v := (-2)) hx hb dX5_bear_13 (by decide) ?_
    refine kWi (wr := [(qt, .inr (3, [.int 0, .int 0, .int 0, .int 0, .int 1, .ref qtw, .ref qtn, .ref qtg, .ref qta, .ref qtr, .ref qtm, .ref qtt, .ref qts]))]) (rV (As := [.int (-2)]) (rest := []) (b := qx) ⟨hx, hb, hml, hown, hts⟩ (c_X5_refuse2 l G cy (s.heap).size qx (.ref qt) (.ref qk) (.ref qp) (.ref qs) (.ref qa) qr (.int 0) (.int 0) (.int 0) (fun _ => 0)) L_X5_56 (preWV (q := (RX5, TX5, 9)) hN hP hD [0, 1] rfl (by decide) 0 4 rfl rfl) rfl ⟨Nat.le_of_ble_eq_true rfl, Nat.le_of_ble_eq_true rfl⟩ hl.1 (Nat.le_of_ble_eq_true rfl) dX5_bear_15 ⟨Nat.le_of_ble_eq_true rfl, Nat.le_of_ble_eq_true rfl⟩) hP hD hS hA [0, 1] [2] rfl rfl (by decide) (by decide) (fun r_11 u_13 H locs h_12 hP hD hS => ?_)
    obtain ⟨rfl, h_12⟩ := h_12
    have hP : va_P G CL [(qt, .inr (3, [.int 0, .int 0, .int 0, .int 0, .int 1, .ref qtw, .ref qtn, .ref qtg, .ref qta, .ref qtr, .ref qtm, .ref qtt, .ref qts])), (qx, .inr (4, [.ref qt, .ref qk, .ref qp, .ref qs, .ref qa, .ref qr, .int 0, .int 0, .int 0]))] H := hP
    have hD : va_D A [(qt, .inr (3, [.int 0, .int 0, .int 0, .int 0, .int 1, .ref qtw, .ref qtn, .ref qtg, .ref qta, .ref qtr, .ref qtm, .ref qtt, .ref qts])), (qx, .inr (4, [.ref qt, .ref qk, .ref qp, .ref qs, .ref qa, .ref qr, .int 0, .int 0, .int 0]))] := hD
    subst h_12
    exact endW (u := []) hx hb hr hlocks rfl va_P0 va_D0 hS ⟨rfl, (by first | (simp [sp_lost, Iv, h_3]; done) | (unfold sp_lost; decide))⟩ dX5_bear_18
set_option maxHeartbeats 4000000 in
set_option maxRecDepth 100000 in
theorem p_X5_next (l : Launch) (G : va_G) (cy : Nat → ClassId) (qx : Nat) (qt : Nat) (qk : Nat) (qp : Nat) (qs : Nat) (qa : Nat) (qr : Nat) (qtw : Nat) (qtn : Nat) (qtg : Nat) (qta : Nat) (qtr : Nat) (qtm : Nat) (qtt : Nat) (qts : Nat)   : MR l yX5_next cX5_next 5 (some .int) 6 G cy [(qx, .inr (4, [.ref qt, .ref qk, .ref qp, .ref qs, .ref qa, .ref qr, .int 0, .int 0, .int 0])), (qt, .inr (3, [.int 0, .int 0, .int 0, .int 0, .int 1, .ref qtw, .ref qtn, .ref qtg, .ref qta, .ref qtr, .ref qtm, .ref qtt, .ref qts]))] [.ref qx] (vp_Si (fun r => (r = (-1)))) := by
  refine enR RX5 (by decide) rfl (Nat.le_of_ble_eq_true rfl) (fun p e s m below meth c ls hx hb hml hown hts hr hlocks hP hN hl => ?_)
  have hK := hN.1
  have hl : lv_has ls 5 [(0, .ref qx)] := hl
  refine lv_iconst (v := (-1)) hx hb dX5_next_0 (by decide) ?_
  refine lv_istore_n (lv' := [(1, .int (-1)), (0, .ref qx)]) hx hb dX5_next_1 rfl hl (by decide) rfl (fun ls hl => ?_)
  refine lv_iconst (v := 0) hx hb dX5_next_2 (by decide) ?_
  refine lv_istore_n (lv' := [(2, .int 0), (1, .int (-1)), (0, .ref qx)]) hx hb dX5_next_3 rfl hl (by decide) rfl (fun ls hl => ?_)
  refine lv_iconst (v := 0) hx hb dX5_next_4 (by decide) ?_
  refine lv_istore_n (lv' := [(3, .int 0), (2, .int 0), (1, .int (-1)), (0, .ref qx)]) hx hb dX5_next_5 rfl hl (by decide) rfl (fun ls hl => ?_)
  refine lv_iload_n hx hb dX5_next_6 rfl (lv_at hl 0 rfl) ?_
  refine lv_aload_n hx hb dX5_next_7 rfl (lv_at hl 3 rfl) ?_
  refine va_get (D := G) (ci := 4) (v := .ref qt) (C := RX5) (T := TX5) (N := 9) hx hb hts iX_X5 hown hK hP 0 rfl rfl 0 (by decide) (hts _ m_t174) (fun _ h9 => h9) rfl dX5_next_8 ?_
  refine va_getN (D := G) (ci := 3) (v := .int 0) (C := RX4) (T := TX4) (N := 13) hx hb hts iX_X4 hown hK hP 1 rfl rfl 0 (by decide) (va_Nw.use rfl (hN.2.1 (RX5, 127, "EachBookOnce$Town", "books", "I") (List.mem_of_getElem? (i := 3) rfl))) (fun _ h9 => h9) rfl dX5_next_11 ?_
  refine lv_icmp_ge (tgt := 62) hx hb dX5_next_14 (by decide) (fun _ => ?_) (fun h9 => absurd (by decide) h9)
  refine lv_iload_n hx hb dX5_next_62 rfl (lv_at hl 2 rfl) ?_
  exact endR hx hb hr hlocks rfl rfl dX5_next_63
set_option maxHeartbeats 4000000 in
set_option maxRecDepth 100000 in
theorem p_X5_gains (l : Launch) (G : va_G) (cy : Nat → ClassId) (sz : Nat) (qx : Nat) (qt : Nat) (qk : Nat) (qp : Nat) (qs : Nat) (qa : Nat) (qr : Nat) (qsh : Nat) (qss : Nat) (qsa : Nat) (qse : Nat) (fH : Nat → Int32) (iA : Int32) (iB : Int32)  (hH : ∀ i, i < 8 → fH i = -1) : MW l yX5_gains cX5_gains 5 (some .int) 6 0 0 G cy [(qx, .inr (4, [.ref qt, .ref qk, .ref qp, .ref qs, .ref qa, .ref qr, .int 0, .int 0, .int 0])), (qr, .inl (cy 0, 5, .inl (fun _ => 0))), (qs, .inr (1, [.ref qsh, .ref qss, .ref qsa, .ref qse])), (qsh, .inl (cy 0, 8, .inl fH))] sz [.ref qx, .int iA, .int iB] (Wi G (fun r u => u = [] ∧ ((r = (sp_gains iA iB))))) := by
  refine enW RX5 (by decide) rfl (Nat.le_of_ble_eq_true rfl) (fun p e s m below meth c ls A hx hb hml hown hts hr hlocks hP hN hl hin hD hA hS => ?_)
  have hin : meth.name = _ := hin
  have hK := hN.1
  have hl : lv_has ls 5 [(0, .ref qx), (1, .int iA), (2, .int iB)] := hl
  refine lv_iload_n hx hb dX5_gains_0 rfl (lv_at hl 2 rfl) ?_
  refine lv_i2l (v := iB.toInt64) hx hb dX5_gains_1 rfl ?_
  refine lv_lconst (v := 1) hx hb dX5_gains_2 (by decide) ?_
  refine lv_ldc2 hx hb hown (hts _ m_t644) dX5_gains_3 ?_
  refine kRi (rS (As := [.long iB.toInt64, .long 1, .long 60]) (rest := []) ⟨hx, hb, hml, hown, hts⟩ (c_X5_within l G cy iB.toInt64 1 60) L_X5_50 (preRS hN hP [] rfl) rfl ⟨Nat.le_of_ble_eq_true rfl, Nat.le_of_ble_eq_true rfl⟩ hl.1 (Nat.le_of_ble_eq_true rfl) dX5_gains_6 ⟨Nat.le_of_ble_eq_true rfl, Nat.le_of_ble_eq_true rfl⟩) (fun r_1 h_2 => ?_)
  rcases h_2 with ⟨rfl, h_3⟩ | ⟨rfl, h_3⟩
  · refine lv_if_eq (tgt := 20) hx hb dX5_gains_9 (by decide) (fun h9 => absurd h9 (by decide)) (fun _ => ?_)
    refine lv_aload_n hx hb dX5_gains_12 rfl (lv_at hl 0 rfl) ?_
    refine lv_iload_n hx hb dX5_gains_13 rfl (lv_at hl 1 rfl) ?_
    refine kRi (rV (As := [.int iA]) (rest := []) (b := qx) ⟨hx, hb, hml, hown, hts⟩ (c_X5_ruleFit l G cy qx (.ref qt) (.ref qk) (.ref qp) qs (.ref qa) (.ref qr) (.int 0) (.int 0) (.int 0) qsh qss qsa qse fH iA hH) L_X5_100 (preRV (q := (RX5, TX5, 9)) hN hP [0, 2, 3] rfl 0 4 rfl rfl) rfl ⟨Nat.le_of_ble_eq_true rfl, Nat.le_of_ble_eq_true rfl⟩ hl.1 (Nat.le_of_ble_eq_true rfl) dX5_gains_14 ⟨Nat.le_of_ble_eq_true rfl, Nat.le_of_ble_eq_true rfl⟩) (fun r_5 h_6 => ?_)
    rcases h_6 with ⟨rfl, h_7⟩ | ⟨rfl, h_7⟩
    · refine lv_goto (tgt := 22) hx hb dX5_gains_17 (by decide) ?_
      refine lv_istore_n (lv' := [(3, .int (-2)), (0, .ref qx), (1, .int iA), (2, .int iB)]) hx hb dX5_gains_22 rfl hl (by decide) rfl (fun ls hl => ?_)
      refine lv_iload_n hx hb dX5_gains_23 rfl (lv_at hl 0 rfl) ?_
      refine lv_if_eq (tgt := 37) hx hb dX5_gains_24 (by decide) (fun h9 => absurd h9 (by decide)) (fun _ => ?_)
      refine lv_aload_n hx hb dX5_gains_27 rfl (lv_at hl 1 rfl) ?_
      refine lv_iload_n hx hb dX5_gains_28 rfl (lv_at hl 0 rfl) ?_
      refine kWi (wr := [(qs, .inr (1, [.ref qsh, .ref qss, .ref qsa, .ref qse])), (qsh, .inl (cy 0, 8, .inl fH))]) (rV (As := [.int (-2)]) (rest := []) (b := qx) ⟨hx, hb, hml, hown, hts⟩ (c_X5_refuse2 l G cy (s.heap).size qx (.ref qt) (.ref qk) (.ref qp) (.ref qs) (.ref qa) qr (.int 0) (.int 0) (.int 0) (fun _ => 0)) L_X5_56 (preWV (q := (RX5, TX5, 9)) hN hP hD [0, 1] rfl (by decide) 0 4 rfl rfl) rfl ⟨Nat.le_of_ble_eq_true rfl, Nat.le_of_ble_eq_true rfl⟩ hl.1 (Nat.le_of_ble_eq_true rfl) dX5_gains_29 ⟨Nat.le_of_ble_eq_true rfl, Nat.le_of_ble_eq_true rfl⟩) hP hD hS hA [0, 1] [2, 3] rfl rfl (by decide) (by decide) (fun r_9 u_11 H locs h_10 hP hD hS => ?_)
      obtain ⟨rfl, h_10⟩ := h_10
      have hP : va_P G CL [(qs, .inr (1, [.ref qsh, .ref qss, .ref qsa, .ref qse])), (qsh, .inl (cy 0, 8, .inl fH)), (qx, .inr (4, [.ref qt, .ref qk, .ref qp, .ref qs, .ref qa, .ref qr, .int 0, .int 0, .int 0]))] H := hP
      have hD : va_D A [(qs, .inr (1, [.ref qsh, .ref qss, .ref qsa, .ref qse])), (qsh, .inl (cy 0, 8, .inl fH)), (qx, .inr (4, [.ref qt, .ref qk, .ref qp, .ref qs, .ref qa, .ref qr, .int 0, .int 0, .int 0]))] := hD
      subst h_10
      refine lv_ldcw hx hb hown (hts _ m_t705) dX5_gains_32 ?_
      refine lv_isub hx hb dX5_gains_35 ?_
      refine lv_seti (v := (-1000002)) (by decide) ?_
      exact endW (u := []) hx hb hr hlocks rfl va_P0 va_D0 hS ⟨rfl, (by first | (simp [sp_gains, Iv, hH, h_3, h_7]; done) | (unfold sp_gains; decide))⟩ dX5_gains_36
    · refine lv_goto (tgt := 22) hx hb dX5_gains_17 (by decide) ?_
      refine lv_istore_n (lv' := [(3, .int (-4)), (0, .ref qx), (1, .int iA), (2, .int iB)]) hx hb dX5_gains_22 rfl hl (by decide) rfl (fun ls hl => ?_)
      refine lv_iload_n hx hb dX5_gains_23 rfl (lv_at hl 0 rfl) ?_
      refine lv_if_eq (tgt := 37) hx hb dX5_gains_24 (by decide) (fun h9 => absurd h9 (by decide)) (fun _ => ?_)
      refine lv_aload_n hx hb dX5_gains_27 rfl (lv_at hl 1 rfl) ?_
      refine lv_iload_n hx hb dX5_gains_28 rfl (lv_at hl 0 rfl) ?_
      refine kWi (wr := [(qs, .inr (1, [.ref qsh, .ref qss, .ref qsa, .ref qse])), (qsh, .inl (cy 0, 8, .inl fH))]) (rV (As := [.int (-4)]) (rest := []) (b := qx) ⟨hx, hb, hml, hown, hts⟩ (c_X5_refuse4 l G cy (s.heap).size qx (.ref qt) (.ref qk) (.ref qp) (.ref qs) (.ref qa) qr (.int 0) (.int 0) (.int 0) (fun _ => 0)) L_X5_56 (preWV (q := (RX5, TX5, 9)) hN hP hD [0, 1] rfl (by decide) 0 4 rfl rfl) rfl ⟨Nat.le_of_ble_eq_true rfl, Nat.le_of_ble_eq_true rfl⟩ hl.1 (Nat.le_of_ble_eq_true rfl) dX5_gains_29 ⟨Nat.le_of_ble_eq_true rfl, Nat.le_of_ble_eq_true rfl⟩) hP hD hS hA [0, 1] [2, 3] rfl rfl (by decide) (by decide) (fun r_13 u_15 H locs h_14 hP hD hS => ?_)
      obtain ⟨rfl, h_14⟩ := h_14
      have hP : va_P G CL [(qs, .inr (1, [.ref qsh, .ref qss, .ref qsa, .ref qse])), (qsh, .inl (cy 0, 8, .inl fH)), (qx, .inr (4, [.ref qt, .ref qk, .ref qp, .ref qs, .ref qa, .ref qr, .int 0, .int 0, .int 0]))] H := hP
      have hD : va_D A [(qs, .inr (1, [.ref qsh, .ref qss, .ref qsa, .ref qse])), (qsh, .inl (cy 0, 8, .inl fH)), (qx, .inr (4, [.ref qt, .ref qk, .ref qp, .ref qs, .ref qa, .ref qr, .int 0, .int 0, .int 0]))] := hD
      subst h_14
      refine lv_ldcw hx hb hown (hts _ m_t705) dX5_gains_32 ?_
      refine lv_isub hx hb dX5_gains_35 ?_
      refine lv_seti (v := (-1000004)) (by decide) ?_
      exact endW (u := []) hx hb hr hlocks rfl va_P0 va_D0 hS ⟨rfl, (by first | (simp [sp_gains, Iv, hH, h_3, h_7]; done) | (unfold sp_gains; decide))⟩ dX5_gains_36
  · refine lv_if_eq (tgt := 20) hx hb dX5_gains_9 (by decide) (fun _ => ?_) (fun h9 => absurd (by decide) h9)
    refine lv_bipush (v := (-2)) hx hb dX5_gains_20 (by decide) ?_
    refine lv_istore_n (lv' := [(3, .int (-2)), (0, .ref qx), (1, .int iA), (2, .int iB)]) hx hb dX5_gains_22 rfl hl (by decide) rfl (fun ls hl => ?_)
    refine lv_iload_n hx hb dX5_gains_23 rfl (lv_at hl 0 rfl) ?_
    refine lv_if_eq (tgt := 37) hx hb dX5_gains_24 (by decide) (fun h9 => absurd h9 (by decide)) (fun _ => ?_)
    refine lv_aload_n hx hb dX5_gains_27 rfl (lv_at hl 1 rfl) ?_
    refine lv_iload_n hx hb dX5_gains_28 rfl (lv_at hl 0 rfl) ?_
    refine kWi (wr := [(qs, .inr (1, [.ref qsh, .ref qss, .ref qsa, .ref qse])), (qsh, .inl (cy 0, 8, .inl fH))]) (rV (As := [.int (-2)]) (rest := []) (b := qx) ⟨hx, hb, hml, hown, hts⟩ (c_X5_refuse2 l G cy (s.heap).size qx (.ref qt) (.ref qk) (.ref qp) (.ref qs) (.ref qa) qr (.int 0) (.int 0) (.int 0) (fun _ => 0)) L_X5_56 (preWV (q := (RX5, TX5, 9)) hN hP hD [0, 1] rfl (by decide) 0 4 rfl rfl) rfl ⟨Nat.le_of_ble_eq_true rfl, Nat.le_of_ble_eq_true rfl⟩ hl.1 (Nat.le_of_ble_eq_true rfl) dX5_gains_29 ⟨Nat.le_of_ble_eq_true rfl, Nat.le_of_ble_eq_true rfl⟩) hP hD hS hA [0, 1] [2, 3] rfl rfl (by decide) (by decide) (fun r_18 u_20 H locs h_19 hP hD hS => ?_)
    obtain ⟨rfl, h_19⟩ := h_19
    have hP : va_P G CL [(qs, .inr (1, [.ref qsh, .ref qss, .ref qsa, .ref qse])), (qsh, .inl (cy 0, 8, .inl fH)), (qx, .inr (4, [.ref qt, .ref qk, .ref qp, .ref qs, .ref qa, .ref qr, .int 0, .int 0, .int 0]))] H := hP
    have hD : va_D A [(qs, .inr (1, [.ref qsh, .ref qss, .ref qsa, .ref qse])), (qsh, .inl (cy 0, 8, .inl fH)), (qx, .inr (4, [.ref qt, .ref qk, .ref qp, .ref qs, .ref qa, .ref qr, .int 0, .int 0, .int 0]))] := hD
    subst h_19
    refine lv_ldcw hx hb hown (hts _ m_t705) dX5_gains_32 ?_
    refine lv_isub hx hb dX5_gains_35 ?_
    refine lv_seti (v := (-1000002)) (by decide) ?_
    exact endW (u := []) hx hb hr hlocks rfl va_P0 va_D0 hS ⟨rfl, (by first | (simp [sp_gains, Iv, hH, h_3]; done) | (unfold sp_gains; decide))⟩ dX5_gains_36
set_option maxHeartbeats 4000000 in
set_option maxRecDepth 100000 in
theorem p_X5_judge (l : Launch) (G : va_G) (cy : Nat → ClassId) (sz : Nat) (qx : Nat) (qt : Nat) (qk : Nat) (qp : Nat) (qs : Nat) (qa : Nat) (qr : Nat) (qsh : Nat) (qss : Nat) (qsa : Nat) (qse : Nat) (fH : Nat → Int32) (iA : Int32) (iB : Int32)  (hH : ∀ i, i < 8 → fH i = -1) : MW l yX5_judge cX5_judge 4 (some .int) 6 0 0 G cy [(qx, .inr (4, [.ref qt, .ref qk, .ref qp, .ref qs, .ref qa, .ref qr, .int 0, .int 0, .int 0])), (qr, .inl (cy 0, 5, .inl (fun _ => 0))), (qs, .inr (1, [.ref qsh, .ref qss, .ref qsa, .ref qse])), (qsh, .inl (cy 0, 8, .inl fH))] sz [.ref qx, .int iA, .int iB] (Wi G (fun r u => u = [] ∧ ((r = (sp_judge iA iB))))) := by
  refine enW RX5 (by decide) rfl (Nat.le_of_ble_eq_true rfl) (fun p e s m below meth c ls A hx hb hml hown hts hr hlocks hP hN hl hin hD hA hS => ?_)
  have hin : meth.name = _ := hin
  have hK := hN.1
  have hl : lv_has ls 4 [(0, .ref qx), (1, .int iA), (2, .int iB)] := hl
  refine lv_aload_n hx hb dX5_judge_0 rfl (lv_at hl 0 rfl) ?_
  refine lv_iload_n hx hb dX5_judge_1 rfl (lv_at hl 1 rfl) ?_
  refine lv_iload_n hx hb dX5_judge_2 rfl (lv_at hl 2 rfl) ?_
  refine kRi (rV (As := [.int iA, .int iB]) (rest := []) (b := qx) ⟨hx, hb, hml, hown, hts⟩ (c_X5_toldFit l G cy qx (.ref qt) (.ref qk) (.ref qp) qs (.ref qa) (.ref qr) (.int 0) (.int 0) (.int 0) qsh qss qsa qse fH iA iB hH) L_X5_321 (preRV (q := (RX5, TX5, 9)) hN hP [0, 2, 3] rfl 0 4 rfl rfl) rfl ⟨Nat.le_of_ble_eq_true rfl, Nat.le_of_ble_eq_true rfl⟩ hl.1 (Nat.le_of_ble_eq_true rfl) dX5_judge_3 ⟨Nat.le_of_ble_eq_true rfl, Nat.le_of_ble_eq_true rfl⟩) (fun r_1 h_2 => ?_)
  rcases h_2 with ⟨rfl, h_3⟩ | ⟨rfl, h_3⟩
  · refine lv_istore_n (lv' := [(3, .int (-2)), (0, .ref qx), (1, .int iA), (2, .int iB)]) hx hb dX5_judge_6 rfl hl (by decide) rfl (fun ls hl => ?_)
    refine lv_iload_n hx hb dX5_judge_7 rfl (lv_at hl 0 rfl) ?_
    refine lv_if_ne (tgt := 20) hx hb dX5_judge_8 (by decide) (fun _ => ?_) (fun h9 => absurd h9 (by decide))
    refine lv_aload_n hx hb dX5_judge_20 rfl (lv_at hl 1 rfl) ?_
    refine lv_iload_n hx hb dX5_judge_21 rfl (lv_at hl 0 rfl) ?_
    refine kWi (wr := [(qs, .inr (1, [.ref qsh, .ref qss, .ref qsa, .ref qse])), (qsh, .inl (cy 0, 8, .inl fH))]) (rV (As := [.int (-2)]) (rest := []) (b := qx) ⟨hx, hb, hml, hown, hts⟩ (c_X5_refuse2 l G cy (s.heap).size qx (.ref qt) (.ref qk) (.ref qp) (.ref qs) (.ref qa) qr (.int 0) (.int 0) (.int 0) (fun _ => 0)) L_X5_56 (preWV (q := (RX5, TX5, 9)) hN hP hD [0, 1] rfl (by decide) 0 4 rfl rfl) rfl ⟨Nat.le_of_ble_eq_true rfl, Nat.le_of_ble_eq_true rfl⟩ hl.1 (Nat.le_of_ble_eq_true rfl) dX5_judge_22 ⟨Nat.le_of_ble_eq_true rfl, Nat.le_of_ble_eq_true rfl⟩) hP hD hS hA [0, 1] [2, 3] rfl rfl (by decide) (by decide) (fun r_5 u_7 H locs h_6 hP hD hS => ?_)
    obtain ⟨rfl, h_6⟩ := h_6
    have hP : va_P G CL [(qs, .inr (1, [.ref qsh, .ref qss, .ref qsa, .ref qse])), (qsh, .inl (cy 0, 8, .inl fH)), (qx, .inr (4, [.ref qt, .ref qk, .ref qp, .ref qs, .ref qa, .ref qr, .int 0, .int 0, .int 0]))] H := hP
    have hD : va_D A [(qs, .inr (1, [.ref qsh, .ref qss, .ref qsa, .ref qse])), (qsh, .inl (cy 0, 8, .inl fH)), (qx, .inr (4, [.ref qt, .ref qk, .ref qp, .ref qs, .ref qa, .ref qr, .int 0, .int 0, .int 0]))] := hD
    subst h_6
    exact endW (u := []) hx hb hr hlocks rfl va_P0 va_D0 hS ⟨rfl, (by first | (simp [sp_judge, Iv, hH, h_3]; done) | (unfold sp_judge; decide))⟩ dX5_judge_25
  · refine lv_istore_n (lv' := [(3, .int (-4)), (0, .ref qx), (1, .int iA), (2, .int iB)]) hx hb dX5_judge_6 rfl hl (by decide) rfl (fun ls hl => ?_)
    refine lv_iload_n hx hb dX5_judge_7 rfl (lv_at hl 0 rfl) ?_
    refine lv_if_ne (tgt := 20) hx hb dX5_judge_8 (by decide) (fun _ => ?_) (fun h9 => absurd h9 (by decide))
    refine lv_aload_n hx hb dX5_judge_20 rfl (lv_at hl 1 rfl) ?_
    refine lv_iload_n hx hb dX5_judge_21 rfl (lv_at hl 0 rfl) ?_
    refine kWi (wr := [(qs, .inr (1, [.ref qsh, .ref qss, .ref qsa, .ref qse])), (qsh, .inl (cy 0, 8, .inl fH))]) (rV (As := [.int (-4)]) (rest := []) (b := qx) ⟨hx, hb, hml, hown, hts⟩ (c_X5_refuse4 l G cy (s.heap).size qx (.ref qt) (.ref qk) (.ref qp) (.ref qs) (.ref qa) qr (.int 0) (.int 0) (.int 0) (fun _ => 0)) L_X5_56 (preWV (q := (RX5, TX5, 9)) hN hP hD [0, 1] rfl (by decide) 0 4 rfl rfl) rfl ⟨Nat.le_of_ble_eq_true rfl, Nat.le_of_ble_eq_true rfl⟩ hl.1 (Nat.le_of_ble_eq_true rfl) dX5_judge_22 ⟨Nat.le_of_ble_eq_true rfl, Nat.le_of_ble_eq_true rfl⟩) hP hD hS hA [0, 1] [2, 3] rfl rfl (by decide) (by decide) (fun r_9 u_11 H locs h_10 hP hD hS => ?_)
    obtain ⟨rfl, h_10⟩ := h_10
    have hP : va_P G CL [(qs, .inr (1, [.ref qsh, .ref qss, .ref qsa, .ref qse])), (qsh, .inl (cy 0, 8, .inl fH)), (qx, .inr (4, [.ref qt, .ref qk, .ref qp, .ref qs, .ref qa, .ref qr, .int 0, .int 0, .int 0]))] H := hP
    have hD : va_D A [(qs, .inr (1, [.ref qsh, .ref qss, .ref qsa, .ref qse])), (qsh, .inl (cy 0, 8, .inl fH)), (qx, .inr (4, [.ref qt, .ref qk, .ref qp, .ref qs, .ref qa, .ref qr, .int 0, .int 0, .int 0]))] := hD
    subst h_10
    exact endW (u := []) hx hb hr hlocks rfl va_P0 va_D0 hS ⟨rfl, (by first | (simp [sp_judge, Iv, hH, h_3]; done) | (unfold sp_judge; decide))⟩ dX5_judge_25
set_option maxHeartbeats 4000000 in
set_option maxRecDepth 100000 in
theorem p_X5_told (l : Launch) (G : va_G) (cy : Nat → ClassId) (sz : Nat) (qx : Nat) (qt : Nat) (qk : Nat) (qp : Nat) (qs : Nat) (qa : Nat) (qr : Nat) (qsh : Nat) (qss : Nat) (qsa : Nat) (qse : Nat) (fH : Nat → Int32) (iA : Int32) (iB : Int32)  (hH : ∀ i, i < 8 → fH i = -1) : MW l yX5_told cX5_told 4 (some .int) 6 0 0 G cy [(qx, .inr (4, [.ref qt, .ref qk, .ref qp, .ref qs, .ref qa, .ref qr, .int 0, .int 0, .int 0])), (qr, .inl (cy 0, 5, .inl (fun _ => 0))), (qs, .inr (1, [.ref qsh, .ref qss, .ref qsa, .ref qse])), (qsh, .inl (cy 0, 8, .inl fH))] sz [.ref qx, .int iA, .int iB] (Wi G (fun r u => u = [] ∧ ((r = (sp_judge iA iB))))) := by
  refine enW RX5 (by decide) rfl (Nat.le_of_ble_eq_true rfl) (fun p e s m below meth c ls A hx hb hml hown hts hr hlocks hP hN hl hin hD hA hS => ?_)
  have hin : meth.name = _ := hin
  have hK := hN.1
  have hl : lv_has ls 4 [(0, .ref qx), (1, .int iA), (2, .int iB)] := hl
  refine lv_aload_n hx hb dX5_told_0 rfl (lv_at hl 0 rfl) ?_
  refine lv_iload_n hx hb dX5_told_1 rfl (lv_at hl 1 rfl) ?_
  refine lv_iload_n hx hb dX5_told_2 rfl (lv_at hl 2 rfl) ?_
  refine kRi (rV (As := [.int iA, .int iB]) (rest := []) (b := qx) ⟨hx, hb, hml, hown, hts⟩ (c_X5_toldFit l G cy qx (.ref qt) (.ref qk) (.ref qp) qs (.ref qa) (.ref qr) (.int 0) (.int 0) (.int 0) qsh qss qsa qse fH iA iB hH) L_X5_321 (preRV (q := (RX5, TX5, 9)) hN hP [0, 2, 3] rfl 0 4 rfl rfl) rfl ⟨Nat.le_of_ble_eq_true rfl, Nat.le_of_ble_eq_true rfl⟩ hl.1 (Nat.le_of_ble_eq_true rfl) dX5_told_3 ⟨Nat.le_of_ble_eq_true rfl, Nat.le_of_ble_eq_true rfl⟩) (fun r_1 h_2 => ?_)
  rcases h_2 with ⟨rfl, h_3⟩ | ⟨rfl, h_3⟩
  · refine lv_istore_n (lv' := [(3, .int (-2)), (0, .ref qx), (1, .int iA), (2, .int iB)]) hx hb dX5_told_6 rfl hl (by decide) rfl (fun ls hl => ?_)
    refine lv_iload_n hx hb dX5_told_7 rfl (lv_at hl 0 rfl) ?_
    refine lv_if_ne (tgt := 24) hx hb dX5_told_8 (by decide) (fun _ => ?_) (fun h9 => absurd h9 (by decide))
    refine lv_iload_n hx hb dX5_told_24 rfl (lv_at hl 0 rfl) ?_
    refine lv_if_ne (tgt := 41) hx hb dX5_told_25 (by decide) (fun _ => ?_) (fun h9 => absurd h9 (by decide))
    refine lv_aload_n hx hb dX5_told_41 rfl (lv_at hl 1 rfl) ?_
    refine lv_iload_n hx hb dX5_told_42 rfl (lv_at hl 0 rfl) ?_
    refine kWi (wr := [(qs, .inr (1, [.ref qsh, .ref qss, .ref qsa, .ref qse])), (qsh, .inl (cy 0, 8, .inl fH))]) (rV (As := [.int (-2)]) (rest := []) (b := qx) ⟨hx, hb, hml, hown, hts⟩ (c_X5_refuse2 l G cy (s.heap).size qx (.ref qt) (.ref qk) (.ref qp) (.ref qs) (.ref qa) qr (.int 0) (.int 0) (.int 0) (fun _ => 0)) L_X5_56 (preWV (q := (RX5, TX5, 9)) hN hP hD [0, 1] rfl (by decide) 0 4 rfl rfl) rfl ⟨Nat.le_of_ble_eq_true rfl, Nat.le_of_ble_eq_true rfl⟩ hl.1 (Nat.le_of_ble_eq_true rfl) dX5_told_43 ⟨Nat.le_of_ble_eq_true rfl, Nat.le_of_ble_eq_true rfl⟩) hP hD hS hA [0, 1] [2, 3] rfl rfl (by decide) (by decide) (fun r_6 u_8 H locs h_7 hP hD hS => ?_)
    obtain ⟨rfl, h_7⟩ := h_7
    have hP : va_P G CL [(qs, .inr (1, [.ref qsh, .ref qss, .ref qsa, .ref qse])), (qsh, .inl (cy 0, 8, .inl fH)), (qx, .inr (4, [.ref qt, .ref qk, .ref qp, .ref qs, .ref qa, .ref qr, .int 0, .int 0, .int 0]))] H := hP
    have hD : va_D A [(qs, .inr (1, [.ref qsh, .ref qss, .ref qsa, .ref qse])), (qsh, .inl (cy 0, 8, .inl fH)), (qx, .inr (4, [.ref qt, .ref qk, .ref qp, .ref qs, .ref qa, .ref qr, .int 0, .int 0, .int 0]))] := hD
    subst h_7
    exact endW (u := []) hx hb hr hlocks rfl va_P0 va_D0 hS ⟨rfl, (by first | (simp [sp_judge, Iv, hH, h_3]; done) | (unfold sp_judge; decide))⟩ dX5_told_46
  · refine lv_istore_n (lv' := [(3, .int (-4)), (0, .ref qx), (1, .int iA), (2, .int iB)]) hx hb dX5_told_6 rfl hl (by decide) rfl (fun ls hl => ?_)
    refine lv_iload_n hx hb dX5_told_7 rfl (lv_at hl 0 rfl) ?_
    refine lv_if_ne (tgt := 24) hx hb dX5_told_8 (by decide) (fun _ => ?_) (fun h9 => absurd h9 (by decide))
    refine lv_iload_n hx hb dX5_told_24 rfl (lv_at hl 0 rfl) ?_
    refine lv_if_ne (tgt := 41) hx hb dX5_told_25 (by decide) (fun _ => ?_) (fun h9 => absurd h9 (by decide))
    refine lv_aload_n hx hb dX5_told_41 rfl (lv_at hl 1 rfl) ?_
    refine lv_iload_n hx hb dX5_told_42 rfl (lv_at hl 0 rfl) ?_
    refine kWi (wr := [(qs, .inr (1, [.ref qsh, .ref qss, .ref qsa, .ref qse])), (qsh, .inl (cy 0, 8, .inl fH))]) (rV (As := [.int (-4)]) (rest := []) (b := qx) ⟨hx, hb, hml, hown, hts⟩ (c_X5_refuse4 l G cy (s.heap).size qx (.ref qt) (.ref qk) (.ref qp) (.ref qs) (.ref qa) qr (.int 0) (.int 0) (.int 0) (fun _ => 0)) L_X5_56 (preWV (q := (RX5, TX5, 9)) hN hP hD [0, 1] rfl (by decide) 0 4 rfl rfl) rfl ⟨Nat.le_of_ble_eq_true rfl, Nat.le_of_ble_eq_true rfl⟩ hl.1 (Nat.le_of_ble_eq_true rfl) dX5_told_43 ⟨Nat.le_of_ble_eq_true rfl, Nat.le_of_ble_eq_true rfl⟩) hP hD hS hA [0, 1] [2, 3] rfl rfl (by decide) (by decide) (fun r_11 u_13 H locs h_12 hP hD hS => ?_)
    obtain ⟨rfl, h_12⟩ := h_12
    have hP : va_P G CL [(qs, .inr (1, [.ref qsh, .ref qss, .ref qsa, .ref qse])), (qsh, .inl (cy 0, 8, .inl fH)), (qx, .inr (4, [.ref qt, .ref qk, .ref qp, .ref qs, .ref qa, .ref qr, .int 0, .int 0, .int 0]))] H := hP
    have hD : va_D A [(qs, .inr (1, [.ref qsh, .ref qss, .ref qsa, .ref qse])), (qsh, .inl (cy 0, 8, .inl fH)), (qx, .inr (4, [.ref qt, .ref qk, .ref qp, .ref qs, .ref qa, .ref qr, .int 0, .int 0, .int 0]))] := hD
    subst h_12
    exact endW (u := []) hx hb hr hlocks rfl va_P0 va_D0 hS ⟨rfl, (by first | (simp [sp_judge, Iv, hH, h_3]; done) | (unfold sp_judge; decide))⟩ dX5_told_46
set_option maxHeartbeats 4000000 in
set_option maxRecDepth 100000 in
theorem p_X5_years (l : Launch) (G : va_G) (cy : Nat → ClassId) (sz : Nat) (qx : Nat) (qt : Nat) (qk : Nat) (qp : Nat) (qs : Nat) (qa : Nat) (qr : Nat) (qsh : Nat) (qss : Nat) (qsa : Nat) (qse : Nat) (fH : Nat → Int32) (iA : Int32) (iB : Int32)  (hH : ∀ i, i < 8 → fH i = -1) : MW l yX5_years cX5_years 6 (some .int) 6 0 0 G cy [(qx, .inr (4, [.ref qt, .ref qk, .ref qp, .ref qs, .ref qa, .ref qr, .int 0, .int 0, .int 0])), (qr, .inl (cy 0, 5, .inl (fun _ => 0))), (qs, .inr (1, [.ref qsh, .ref qss, .ref qsa, .ref qse])), (qsh, .inl (cy 0, 8, .inl fH))] sz [.ref qx, .int iA, .int iB] (Wi G (fun r u => u = [] ∧ ((r = (sp_years iA iB))))) := by
  refine enW RX5 (by decide) rfl (Nat.le_of_ble_eq_true rfl) (fun p e s m below meth c ls A hx hb hml hown hts hr hlocks hP hN hl hin hD hA hS => ?_)
  have hin : meth.name = _ := hin
  have hK := hN.1
  have hl : lv_has ls 6 [(0, .ref qx), (1, .int iA), (2, .int iB)] := hl
  refine lv_iload_n hx hb dX5_years_0 rfl (lv_at hl 2 rfl) ?_
  refine lv_i2l (v := iB.toInt64) hx hb dX5_years_1 rfl ?_
  refine lv_lconst (v := 1) hx hb dX5_years_2 (by decide) ?_
  refine lv_ldc2 hx hb hown (hts _ m_t788) dX5_years_3 ?_
  refine kRi (rS (As := [.long iB.toInt64, .long 1, .long 20]) (rest := []) ⟨hx, hb, hml, hown, hts⟩ (c_X5_within l G cy iB.toInt64 1 20) L_X5_50 (preRS hN hP [] rfl) rfl ⟨Nat.le_of_ble_eq_true rfl, Nat.le_of_ble_eq_true rfl⟩ hl.1 (Nat.le_of_ble_eq_true rfl) dX5_years_6 ⟨Nat.le_of_ble_eq_true rfl, Nat.le_of_ble_eq_true rfl⟩) (fun r_1 h_2 => ?_)
  rcases h_2 with ⟨rfl, h_3⟩ | ⟨rfl, h_3⟩
  · refine lv_if_eq (tgt := 20) hx hb dX5_years_9 (by decide) (fun h9 => absurd h9 (by decide)) (fun _ => ?_)
    refine lv_aload_n hx hb dX5_years_12 rfl (lv_at hl 0 rfl) ?_
    refine lv_iload_n hx hb dX5_years_13 rfl (lv_at hl 1 rfl) ?_
    refine kRi (rV (As := [.int iA]) (rest := []) (b := qx) ⟨hx, hb, hml, hown, hts⟩ (c_X5_ruleFit l G cy qx (.ref qt) (.ref qk) (.ref qp) qs (.ref qa) (.ref qr) (.int 0) (.int 0) (.int 0) qsh qss qsa qse fH iA hH) L_X5_100 (preRV (q := (RX5, TX5, 9)) hN hP [0, 2, 3] rfl 0 4 rfl rfl) rfl ⟨Nat.le_of_ble_eq_true rfl, Nat.le_of_ble_eq_true rfl⟩ hl.1 (Nat.le_of_ble_eq_true rfl) dX5_years_14 ⟨Nat.le_of_ble_eq_true rfl, Nat.le_of_ble_eq_true rfl⟩) (fun r_5 h_6 => ?_)
    rcases h_6 with ⟨rfl, h_7⟩ | ⟨rfl, h_7⟩
    · refine lv_goto (tgt := 22) hx hb dX5_years_17 (by decide) ?_
      refine lv_istore_n (lv' := [(3, .int (-2)), (0, .ref qx), (1, .int iA), (2, .int iB)]) hx hb dX5_years_22 rfl hl (by decide) rfl (fun ls hl => ?_)
      refine lv_iload_n hx hb dX5_years_23 rfl (lv_at hl 0 rfl) ?_
      refine lv_if_eq (tgt := 33) hx hb dX5_years_24 (by decide) (fun h9 => absurd h9 (by decide)) (fun _ => ?_)
      refine lv_aload_n hx hb dX5_years_27 rfl (lv_at hl 1 rfl) ?_
      refine lv_iload_n hx hb dX5_years_28 rfl (lv_at hl 0 rfl) ?_
      refine kWi (wr := [(qs, .inr (1, [.ref qsh, .ref qss, .ref qsa, .ref qse])), (qsh, .inl (cy 0, 8, .inl fH))]) (rV (As := [.int (-2)]) (rest := []) (b := qx) ⟨hx, hb, hml, hown, hts⟩ (c_X5_refuse2 l G cy (s.heap).size qx (.ref qt) (.ref qk) (.ref qp) (.ref qs) (.ref qa) qr (.int 0) (.int 0) (.int 0) (fun _ => 0)) L_X5_56 (preWV (q := (RX5, TX5, 9)) hN hP hD [0, 1] rfl (by decide) 0 4 rfl rfl) rfl ⟨Nat.le_of_ble_eq_true rfl, Nat.le_of_ble_eq_true rfl⟩ hl.1 (Nat.le_of_ble_eq_true rfl) dX5_years_29 ⟨Nat.le_of_ble_eq_true rfl, Nat.le_of_ble_eq_true rfl⟩) hP hD hS hA [0, 1] [2, 3] rfl rfl (by decide) (by decide) (fun r_9 u_11 H locs h_10 hP hD hS => ?_)
      obtain ⟨rfl, h_10⟩ := h_10
      have hP : va_P G CL [(qs, .inr (1, [.ref qsh, .ref qss, .ref qsa, .ref qse])), (qsh, .inl (cy 0, 8, .inl fH)), (qx, .inr (4, [.ref qt, .ref qk, .ref qp, .ref qs, .ref qa, .ref qr, .int 0, .int 0, .int 0]))] H := hP
      have hD : va_D A [(qs, .inr (1, [.ref qsh, .ref qss, .ref qsa, .ref qse])), (qsh, .inl (cy 0, 8, .inl fH)), (qx, .inr (4, [.ref qt, .ref qk, .ref qp, .ref qs, .ref qa, .ref qr, .int 0, .int 0, .int 0]))] := hD
      subst h_10
      exact endW (u := []) hx hb hr hlocks rfl va_P0 va_D0 hS ⟨rfl, (by first | (simp [sp_years, Iv, hH, h_3, h_7]; done) | (unfold sp_years; decide))⟩ dX5_years_32
    · refine lv_goto (tgt := 22) hx hb dX5_years_17 (by decide) ?_
      refine lv_istore_n (lv' := [(3, .int (-4)), (0, .ref qx), (1, .int iA), (2, .int iB)]) hx hb dX5_years_22 rfl hl (by decide) rfl (fun ls hl => ?_)
      refine lv_iload_n hx hb dX5_years_23 rfl (lv_at hl 0 rfl) ?_
      refine lv_if_eq (tgt := 33) hx hb dX5_years_24 (by decide) (fun h9 => absurd h9 (by decide)) (fun _ => ?_)
      refine lv_aload_n hx hb dX5_years_27 rfl (lv_at hl 1 rfl) ?_
      refine lv_iload_n hx hb dX5_years_28 rfl (lv_at hl 0 rfl) ?_
      refine kWi (wr := [(qs, .inr (1, [.ref qsh, .ref qss, .ref qsa, .ref qse])), (qsh, .inl (cy 0, 8, .inl fH))]) (rV (As := [.int (-4)]) (rest := []) (b := qx) ⟨hx, hb, hml, hown, hts⟩ (c_X5_refuse4 l G cy (s.heap).size qx (.ref qt) (.ref qk) (.ref qp) (.ref qs) (.ref qa) qr (.int 0) (.int 0) (.int 0) (fun _ => 0)) L_X5_56 (preWV (q := (RX5, TX5, 9)) hN hP hD [0, 1] rfl (by decide) 0 4 rfl rfl) rfl ⟨Nat.le_of_ble_eq_true rfl, Nat.le_of_ble_eq_true rfl⟩ hl.1 (Nat.le_of_ble_eq_true rfl) dX5_years_29 ⟨Nat.le_of_ble_eq_true rfl, Nat.le_of_ble_eq_true rfl⟩) hP hD hS hA [0, 1] [2, 3] rfl rfl (by decide) (by decide) (fun r_13 u_15 H locs h_14 hP hD hS => ?_)
      obtain ⟨rfl, h_14⟩ := h_14
      have hP : va_P G CL [(qs, .inr (1, [.ref qsh, .ref qss, .ref qsa, .ref qse])), (qsh, .inl (cy 0, 8, .inl fH)), (qx, .inr (4, [.ref qt, .ref qk, .ref qp, .ref qs, .ref qa, .ref qr, .int 0, .int 0, .int 0]))] H := hP
      have hD : va_D A [(qs, .inr (1, [.ref qsh, .ref qss, .ref qsa, .ref qse])), (qsh, .inl (cy 0, 8, .inl fH)), (qx, .inr (4, [.ref qt, .ref qk, .ref qp, .ref qs, .ref qa, .ref qr, .int 0, .int 0, .int 0]))] := hD
      subst h_14
      exact endW (u := []) hx hb hr hlocks rfl va_P0 va_D0 hS ⟨rfl, (by first | (simp [sp_years, Iv, hH, h_3, h_7]; done) | (unfold sp_years; decide))⟩ dX5_years_32
  · refine lv_if_eq (tgt := 20) hx hb dX5_years_9 (by decide) (fun _ => ?_) (fun h9 => absurd (by decide) h9)
    refine lv_bipush (v := (-2)) hx hb dX5_years_20 (by decide) ?_
    refine lv_istore_n (lv' := [(3, .int (-2)), (0, .ref qx), (1, .int iA), (2, .int iB)]) hx hb dX5_years_22 rfl hl (by decide) rfl (fun ls hl => ?_)
    refine lv_iload_n hx hb dX5_years_23 rfl (lv_at hl 0 rfl) ?_
    refine lv_if_eq (tgt := 33) hx hb dX5_years_24 (by decide) (fun h9 => absurd h9 (by decide)) (fun _ => ?_)
    refine lv_aload_n hx hb dX5_years_27 rfl (lv_at hl 1 rfl) ?_
    refine lv_iload_n hx hb dX5_years_28 rfl (lv_at hl 0 rfl) ?_
    refine kWi (wr := [(qs, .inr (1, [.ref qsh, .ref qss, .ref qsa, .ref qse])), (qsh, .inl (cy 0, 8, .inl fH))]) (rV (As := [.int (-2)]) (rest := []) (b := qx) ⟨hx, hb, hml, hown, hts⟩ (c_X5_refuse2 l G cy (s.heap).size qx (.ref qt) (.ref qk) (.ref qp) (.ref qs) (.ref qa) qr (.int 0) (.int 0) (.int 0) (fun _ => 0)) L_X5_56 (preWV (q := (RX5, TX5, 9)) hN hP hD [0, 1] rfl (by decide) 0 4 rfl rfl) rfl ⟨Nat.le_of_ble_eq_true rfl, Nat.le_of_ble_eq_true rfl⟩ hl.1 (Nat.le_of_ble_eq_true rfl) dX5_years_29 ⟨Nat.le_of_ble_eq_true rfl, Nat.le_of_ble_eq_true rfl⟩) hP hD hS hA [0, 1] [2, 3] rfl rfl (by decide) (by decide) (fun r_18 u_20 H locs h_19 hP hD hS => ?_)
    obtain ⟨rfl, h_19⟩ := h_19
    have hP : va_P G CL [(qs, .inr (1, [.ref qsh, .ref qss, .ref qsa, .ref qse])), (qsh, .inl (cy 0, 8, .inl fH)), (qx, .inr (4, [.ref qt, .ref qk, .ref qp, .ref qs, .ref qa, .ref qr, .int 0, .int 0, .int 0]))] H := hP
    have hD : va_D A [(qs, .inr (1, [.ref qsh, .ref qss, .ref qsa, .ref qse])), (qsh, .inl (cy 0, 8, .inl fH)), (qx, .inr (4, [.ref qt, .ref qk, .ref qp, .ref qs, .ref qa, .ref qr, .int 0, .int 0, .int 0]))] := hD
    subst h_19
    exact endW (u := []) hx hb hr hlocks rfl va_P0 va_D0 hS ⟨rfl, (by first | (simp [sp_years, Iv, hH, h_3]; done) | (unfold sp_years; decide))⟩ dX5_years_32
set_option maxHeartbeats 4000000 in
set_option maxRecDepth 100000 in
theorem p_X5_ends (l : Launch) (G : va_G) (cy : Nat → ClassId) (sz : Nat) (qx : Nat) (qt : Nat) (qk : Nat) (qp : Nat) (qs : Nat) (qa : Nat) (qr : Nat) (qtw : Nat) (qtn : Nat) (qtg : Nat) (qta : Nat) (qtr : Nat) (qtm : Nat) (qtt : Nat) (qts : Nat)   : MW l yX5_ends cX5_ends 1 (some .int) 6 0 0 G cy [(qx, .inr (4, [.ref qt, .ref qk, .ref qp, .ref qs, .ref qa, .ref qr, .int 0, .int 0, .int 0])), (qt, .inr (3, [.int 0, .int 0, .int 0, .int 0, .int 1, .ref qtw, .ref qtn, .ref qtg, .ref qta, .ref qtr, .ref qtm, .ref qtt, .ref qts]))] sz [.ref qx] (Wi G (fun r u => u = [] ∧ ((r = 0)))) := by
  refine enW RX5 (by decide) rfl (Nat.le_of_ble_eq_true rfl) (fun p e s m below meth c ls A hx hb hml hown hts hr hlocks hP hN hl hin hD hA hS => ?_)
  have hin : meth.name = _ := hin
  have hK := hN.1
  have hl : lv_has ls 1 [(0, .ref qx)] := hl
  refine lv_aload_n hx hb dX5_ends_0 rfl (lv_at hl 0 rfl) ?_
  refine lv_dup hx hb dX5_ends_1 rfl ?_
  refine va_get (D := G) (ci := 4) (v := .int 0) (C := RX5) (T := TX5) (N := 9) hx hb hts iX_X5 hown hK hP 0 rfl rfl 7 (by decide) (hts _ m_t181) (fun _ h9 => h9) rfl dX5_ends_2 ?_
  refine lv_iconst (v := 1) hx hb dX5_ends_5 (by decide) ?_
  refine lv_iadd hx hb dX5_ends_6 ?_
  refine lv_seti (v := 1) (by decide) ?_
  refine va_put (D := G) (ci := 4) (v := .int 1) (ty := .int) (C := RX5) (T := TX5) (N := 9) hx hb hts iX_X5 tyX5 tyX5_ok nmX5 hown hK hP hD hS 0 rfl rfl 7 (by decide) (hts _ m_t181) (fun _ h9 => h9) rfl (by decide +kernel) rfl rfl (Nat.le_of_ble_eq_true rfl) dX5_ends_7 (fun H locs hP hD hS => ?_)
  have hP : va_P G CL [(qx, .inr (4, [.ref qt, .ref qk, .ref qp, .ref qs, .ref qa, .ref qr, .int 0, .int 1, .int 0])), (qt, .inr (3, [.int 0, .int 0, .int 0, .int 0, .int 1, .ref qtw, .ref qtn, .ref qtg, .ref qta, .ref qtr, .ref qtm, .ref qtt, .ref qts]))] H := hP
  have hD : va_D A [(qx, .inr (4, [.ref qt, .ref qk, .ref qp, .ref qs, .ref qa, .ref qr, .int 0, .int 1, .int 0])), (qt, .inr (3, [.int 0, .int 0, .int 0, .int 0, .int 1, .ref qtw, .ref qtn, .ref qtg, .ref qta, .ref qtr, .ref qtm, .ref qtt, .ref qts]))] := hD
  refine lv_aload_n hx hb dX5_ends_10 rfl (lv_at hl 0 rfl) ?_
  refine va_get (D := G) (ci := 4) (v := .ref qt) (C := RX5) (T := TX5) (N := 9) hx hb hts iX_X5 hown hK hP 0 rfl rfl 0 (by decide) (hts _ m_t174) (fun _ h9 => h9) rfl dX5_ends_11 ?_
  refine kRi (rV (As := []) (rest := []) (b := qt) ⟨hx, hb, hml, hown, hts⟩ (c_X4_endYear l G cy qt (.int 0) (.int 0) (.int 1) (.ref qtw) (.ref qtn) (.ref qtg) (.ref qta) (.ref qtr) (.ref qtm) (.ref qtt) (.ref qts)) L_X5_332 (preRV (q := (RX4, TX4, 13)) hN hP [1] rfl 1 3 rfl rfl) rfl ⟨Nat.le_of_ble_eq_true rfl, Nat.le_of_ble_eq_true rfl⟩ hl.1 (Nat.le_of_ble_eq_true rfl) dX5_ends_14 ⟨Nat.le_of_ble_eq_true rfl, Nat.le_of_ble_eq_true rfl⟩) (fun r_1 h_2 => ?_)
  subst h_2
  exact endW (u := []) hx hb hr hlocks rfl va_P0 va_D0 hS ⟨rfl, rfl⟩ dX5_ends_17
set_option maxHeartbeats 4000000 in
set_option maxRecDepth 100000 in
theorem p_X5_seed (l : Launch) (G : va_G) (cy : Nat → ClassId) (sz : Nat) (qx : Nat) (qt : Nat) (qk : Nat) (qp : Nat) (qs : Nat) (qa : Nat) (qr : Nat) (qtw : Nat) (qtn : Nat) (qtg : Nat) (qta : Nat) (qtr : Nat) (qtm : Nat) (qtt : Nat) (qts : Nat) (iA : Int32)   : MW l yX5_seed cX5_seed 3 (some .int) 6 0 0 G cy [(qx, .inr (4, [.ref qt, .ref qk, .ref qp, .ref qs, .ref qa, .ref qr, .int 0, .int 0, .int 0])), (qt, .inr (3, [.int 0, .int 0, .int 0, .int 0, .int 1, .ref qtw, .ref qtn, .ref qtg, .ref qta, .ref qtr, .ref qtm, .ref qtt, .ref qts]))] sz [.ref qx, .int iA] (Wi G (fun r u => u = [] ∧ ((r = 1)))) := by
  refine enW RX5 (by decide) rfl (Nat.le_of_ble_eq_true rfl) (fun p e s m below meth c ls A hx hb hml hown hts hr hlocks hP hN hl hin hD hA hS => ?_)
  have hin : meth.name = _ := hin
  have hK := hN.1
  have hl : lv_has ls 3 [(0, .ref qx), (1, .int iA)] := hl
  refine lv_aload_n hx hb dX5_seed_0 rfl (lv_at hl 0 rfl) ?_
  refine va_get (D := G) (ci := 4) (v := .ref qt) (C := RX5) (T := TX5) (N := 9) hx hb hts iX_X5 hown hK hP 0 rfl rfl 0 (by decide) (hts _ m_t174) (fun _ h9 => h9) rfl dX5_seed_1 ?_
  refine va_getN (D := G) (ci := 3) (v := .int 1) (C := RX4) (T := TX4) (N := 13) hx hb hts iX_X4 hown hK hP 1 rfl rfl 4 (by decide) (va_Nw.use rfl (hN.2.1 (RX5, 341, "EachBookOnce$Town", "luck", "I") (List.mem_of_getElem? (i := 13) rfl))) (fun _ h9 => h9) rfl dX5_seed_4 ?_
  refine lv_istore_n (lv' := [(2, .int 1), (0, .ref qx), (1, .int iA)]) hx hb dX5_seed_7 rfl hl (by decide) rfl (fun ls hl => ?_)
  refine lv_aload_n hx hb dX5_seed_8 rfl (lv_at hl 1 rfl) ?_
  refine va_get (D := G) (ci := 4) (v := .ref qt) (C := RX5) (T := TX5) (N := 9) hx hb hts iX_X5 hown hK hP 0 rfl rfl 0 (by decide) (hts _ m_t174) (fun _ h9 => h9) rfl dX5_seed_9 ?_
  refine lv_iload_n hx hb dX5_seed_12 rfl (lv_at hl 2 rfl) ?_
  refine va_putN (D := G) (ci := 3) (v := .int iA) (ty := .int) (C := RX4) (T := TX4) (N := 13) hx hb hts iX_X4 tyX4 tyX4_ok nmX4 hown hK hP hD hS 1 rfl rfl 4 (by decide) (va_Nw.use rfl (hN.2.1 (RX5, 341, "EachBookOnce$Town", "luck", "I") (List.mem_of_getElem? (i := 13) rfl))) (fun _ h9 => h9) rfl (by decide +kernel) rfl rfl (Nat.le_of_ble_eq_true rfl) dX5_seed_13 (fun H locs hP hD hS => ?_)
  have hP : va_P G CL [(qx, .inr (4, [.ref qt, .ref qk, .ref qp, .ref qs, .ref qa, .ref qr, .int 0, .int 0, .int 0])), (qt, .inr (3, [.int 0, .int 0, .int 0, .int 0, .int iA, .ref qtw, .ref qtn, .ref qtg, .ref qta, .ref qtr, .ref qtm, .ref qtt, .ref qts]))] H := hP
  have hD : va_D A [(qx, .inr (4, [.ref qt, .ref qk, .ref qp, .ref qs, .ref qa, .ref qr, .int 0, .int 0, .int 0])), (qt, .inr (3, [.int 0, .int 0, .int 0, .int 0, .int iA, .ref qtw, .ref qtn, .ref qtg, .ref qta, .ref qtr, .ref qtm, .ref qtt, .ref qts]))] := hD
  refine lv_iload_n hx hb dX5_seed_16 rfl (lv_at hl 0 rfl) ?_
  exact endW (u := []) hx hb hr hlocks rfl va_P0 va_D0 hS ⟨rfl, rfl⟩ dX5_seed_17
set_option maxHeartbeats 4000000 in
set_option maxRecDepth 100000 in
theorem p_X5_image (l : Launch) (G : va_G) (cy : Nat → ClassId) (sz : Nat) (qx : Nat) (qt : Nat) (qk : Nat) (qp : Nat) (qs : Nat) (qa : Nat) (qr : Nat) (qtw : Nat) (qtn : Nat) (qtg : Nat) (qta : Nat) (qtr : Nat) (qtm : Nat) (qtt : Nat) (qts : Nat) (qkw : Nat) (qkn : Nat) (qkg : Nat) (qka : Nat) (qkr : Nat) (qkm : Nat) (qkt : Nat) (qks : Nat)   : MW l yX5_image cX5_image 1 (some .int) 6 0 0 G cy [(qx, .inr (4, [.ref qt, .ref qk, .ref qp, .ref qs, .ref qa, .ref qr, .int 0, .int 0, .int 0])), (qt, .inr (3, [.int 0, .int 0, .int 0, .int 0, .int 1, .ref qtw, .ref qtn, .ref qtg, .ref qta, .ref qtr, .ref qtm, .ref qtt, .ref qts])), (qtw, .inl (cy 0, 8, .inl (fun _ => 0))), (qtn, .inl (cy 0, 8, .inl (fun _ => 0))), (qtg, .inl (cy 0, 8, .inl (fun _ => 0))), (qta, .inl (cy 0, 8, .inl (fun _ => 0))), (qtr, .inl (cy 0, 8, .inl (fun _ => 0))), (qtm, .inl (cy 0, 8, .inl (fun _ => 0))), (qtt, .inl (cy 0, 8, .inl (fun _ => 0))), (qts, .inl (cy 0, 64, .inl (fun _ => 0))), (qk, .inr (3, [.int 0, .int 0, .int 0, .int 0, .int 1, .ref qkw, .ref qkn, .ref qkg, .ref qka, .ref qkr, .ref qkm, .ref qkt, .ref qks])), (qkw, .inl (cy 0, 8, .inl (fun _ => 0))), (qkn, .inl (cy 0, 8, .inl (fun _ => 0))), (qkg, .inl (cy 0, 8, .inl (fun _ => 0))), (qka, .inl (cy 0, 8, .inl (fun _ => 0))), (qkr, .inl (cy 0, 8, .inl (fun _ => 0))), (qkm, .inl (cy 0, 8, .inl (fun _ => 0))), (qkt, .inl (cy 0, 8, .inl (fun _ => 0))), (qks, .inl (cy 0, 64, .inl (fun _ => 0)))] sz [.ref qx] (Wi G (fun r u => u = [] ∧ ((r = 1)))) := by
  refine enW RX5 (by decide) rfl (Nat.le_of_ble_eq_true rfl) (fun p e s m below meth c ls A hx hb hml hown hts hr hlocks hP hN hl hin hD hA hS => ?_)
  have hin : meth.name = _ := hin
  have hK := hN.1
  have hl : lv_has ls 1 [(0, .ref qx)] := hl
  refine lv_aload_n hx hb dX5_image_0 rfl (lv_at hl 0 rfl) ?_
  refine va_get (D := G) (ci := 4) (v := .ref qk) (C := RX5) (T := TX5) (N := 9) hx hb hts iX_X5 hown hK hP 0 rfl rfl 1 (by decide) (hts _ m_t175) (fun _ h9 => h9) rfl dX5_image_1 ?_
  refine lv_aload_n hx hb dX5_image_4 rfl (lv_at hl 0 rfl) ?_
  refine va_get (D := G) (ci := 4) (v := .ref qt) (C := RX5) (T := TX5) (N := 9) hx hb hts iX_X5 hown hK hP 0 rfl rfl 0 (by decide) (hts _ m_t174) (fun _ h9 => h9) rfl dX5_image_5 ?_
  refine kWv (wr := [(qx, .inr (4, [.ref qt, .ref qk, .ref qp, .ref qs, .ref qa, .ref qr, .int 0, .int 0, .int 0]))]) (rV (As := [.ref qt]) (rest := []) (b := qk) ⟨hx, hb, hml, hown, hts⟩ (c_X4_become l G cy (s.heap).size qk qkw qkn qkg qka qkr qkm qkt qks qt qtw qtn qtg qta qtr qtm qtt qts) L_X5_164 (preWV (q := (RX4, TX4, 13)) hN hP hD [10, 11, 12, 13, 14, 15, 16, 17, 18, 1, 2, 3, 4, 5, 6, 7, 8, 9] rfl (by decide) 10 3 rfl rfl) rfl ⟨Nat.le_of_ble_eq_true rfl, Nat.le_of_ble_eq_true rfl⟩ hl.1 (Nat.le_of_ble_eq_true rfl) dX5_image_8 ⟨Nat.le_of_ble_eq_true rfl, Nat.le_of_ble_eq_true rfl⟩) hP hD hS hA [10, 11, 12, 13, 14, 15, 16, 17, 18, 1, 2, 3, 4, 5, 6, 7, 8, 9] [0] rfl rfl (by decide) (by decide) (fun u_3 H locs h_2 hP hD hS => ?_)
  subst h_2
  have hP : va_P G CL [(qx, .inr (4, [.ref qt, .ref qk, .ref qp, .ref qs, .ref qa, .ref qr, .int 0, .int 0, .int 0]))] H := hP
  have hD : va_D A [(qx, .inr (4, [.ref qt, .ref qk, .ref qp, .ref qs, .ref qa, .ref qr, .int 0, .int 0, .int 0]))] := hD
  refine lv_aload_n hx hb dX5_image_11 rfl (lv_at hl 0 rfl) ?_
  refine lv_iconst (v := 1) hx hb dX5_image_12 (by decide) ?_
  refine va_put (D := G) (ci := 4) (v := .int 1) (ty := .boolean) (C := RX5) (T := TX5) (N := 9) hx hb hts iX_X5 tyX5 tyX5_ok nmX5 hown hK hP hD hS 0 rfl rfl 6 (by decide) (hts _ m_t180) (fun _ h9 => h9) rfl (by decide +kernel) rfl rfl (Nat.le_of_ble_eq_true rfl) dX5_image_13 (fun H locs hP hD hS => ?_)
  have hP : va_P G CL [(qx, .inr (4, [.ref qt, .ref qk, .ref qp, .ref qs, .ref qa, .ref qr, .int 1, .int 0, .int 0]))] H := hP
  have hD : va_D A [(qx, .inr (4, [.ref qt, .ref qk, .ref qp, .ref qs, .ref qa, .ref qr, .int 1, .int 0, .int 0]))] := hD
  refine lv_iconst (v := 1) hx hb dX5_image_16 (by decide) ?_
  exact endW (u := []) hx hb hr hlocks rfl va_P0 va_D0 hS ⟨rfl, rfl⟩ dX5_image_17
set_option maxHeartbeats 4000000 in
set_option maxRecDepth 100000 in
theorem p_X5_back (l : Launch) (G : va_G) (cy : Nat → ClassId) (sz : Nat) (qx : Nat) (qt : Nat) (qk : Nat) (qp : Nat) (qs : Nat) (qa : Nat) (qr : Nat)   : MW l yX5_back cX5_back 1 (some .int) 6 0 0 G cy [(qx, .inr (4, [.ref qt, .ref qk, .ref qp, .ref qs, .ref qa, .ref qr, .int 0, .int 0, .int 0])), (qr, .inl (cy 0, 5, .inl (fun _ => 0)))] sz [.ref qx] (Wi G (fun r u => u = [] ∧ ((r = (-5))))) := by
  refine enW RX5 (by decide) rfl (Nat.le_of_ble_eq_true rfl) (fun p e s m below meth c ls A hx hb hml hown hts hr hlocks hP hN hl hin hD hA hS => ?_)
  have hin : meth.name = _ := hin
  have hK := hN.1
  have hl : lv_has ls 1 [(0, .ref qx)] := hl
  refine lv_aload_n hx hb dX5_back_0 rfl (lv_at hl 0 rfl) ?_
  refine va_get (D := G) (ci := 4) (v := .int 0) (C := RX5) (T := TX5) (N := 9) hx hb hts iX_X5 hown hK hP 0 rfl rfl 6 (by decide) (hts _ m_t180) (fun _ h9 => h9) rfl dX5_back_1 ?_
  refine lv_if_ne (tgt := 14) hx hb dX5_back_4 (by decide) (fun h9 => absurd (by decide) h9) (fun _ => ?_)
  refine lv_aload_n hx hb dX5_back_7 rfl (lv_at hl 0 rfl) ?_
  refine lv_bipush (v := (-5)) hx hb dX5_back_8 (by decide) ?_
  refine kWi (wr := []) (rV (As := [.int (-5)]) (rest := []) (b := qx) ⟨hx, hb, hml, hown, hts⟩ (c_X5_refuse5 l G cy (s.heap).size qx (.ref qt) (.ref qk) (.ref qp) (.ref qs) (.ref qa) qr (.int 0) (.int 0) (.int 0) (fun _ => 0)) L_X5_56 (preWV (q := (RX5, TX5, 9)) hN hP hD [0, 1] rfl (by decide) 0 4 rfl rfl) rfl ⟨Nat.le_of_ble_eq_true rfl, Nat.le_of_ble_eq_true rfl⟩ hl.1 (Nat.le_of_ble_eq_true rfl) dX5_back_10 ⟨Nat.le_of_ble_eq_true rfl, Nat.le_of_ble_eq_true rfl⟩) hP hD hS hA [0, 1] [] rfl rfl (by decide) (by decide) (fun r_2 u_4 H locs h_3 hP hD hS => ?_)
  obtain ⟨rfl, h_3⟩ := h_3
  have hP : va_P G CL [(qx, .inr (4, [.ref qt, .ref qk, .ref qp, .ref qs, .ref qa, .ref qr, .int 0, .int 0, .int 0]))] H := hP
  have hD : va_D A [(qx, .inr (4, [.ref qt, .ref qk, .ref qp, .ref qs, .ref qa, .ref qr, .int 0, .int 0, .int 0]))] := hD
  subst h_3
  exact endW (u := []) hx hb hr hlocks rfl va_P0 va_D0 hS ⟨rfl, rfl⟩ dX5_back_13
set_option maxHeartbeats 4000000 in
set_option maxRecDepth 100000 in
theorem p_X5_status (l : Launch) (G : va_G) (cy : Nat → ClassId) (sz : Nat) (qx : Nat) (qt : Nat) (qk : Nat) (qp : Nat) (qs : Nat) (qa : Nat) (qr : Nat) (qtw : Nat) (qtn : Nat) (qtg : Nat) (qta : Nat) (qtr : Nat) (qtm : Nat) (qtt : Nat) (qts : Nat) (qab : Nat) (qd : Nat) (qsh : Nat) (qss : Nat) (qsa : Nat) (qse : Nat) (fH : Nat → Int32) (iA : Int32)  (hH : ∀ i, i < 8 → fH i = -1) : MW l yX5_status cX5_status 2 (some .int) 6 0 0 G cy [(qx, .inr (4, [.ref qt, .ref qk, .ref qp, .ref qs, .ref qa, .ref qr, .int 0, .int 0, .int 0])), (qr, .inl (cy 0, 5, .inl (fun _ => 0))), (qt, .inr (3, [.int 0, .int 0, .int 0, .int 0, .int 1, .ref qtw, .ref qtn, .ref qtg, .ref qta, .ref qtr, .ref qtm, .ref qtt, .ref qts])), (qa, .inr (2, [.ref qab, .int 0, .int 0, .int 0, .int 0, .int 0, .ref qd])), (qs, .inr (1, [.ref qsh, .ref qss, .ref qsa, .ref qse])), (qsh, .inl (cy 0, 8, .inl fH))] sz [.ref qx, .int iA] (Wi G (fun r u => u = [] ∧ ((r = (sp_status iA))))) := by
  refine enW RX5 (by decide) rfl (Nat.le_of_ble_eq_true rfl) (fun p e s m below meth c ls A hx hb hml hown hts hr hlocks hP hN hl hin hD hA hS => ?_)
  have hin : meth.name = _ := hin
  have hK := hN.1
  have hl : lv_has ls 2 [(0, .ref qx), (1, .int iA)] := hl
  refine lv_iload_n hx hb dX5_status_0 rfl (lv_at hl 1 rfl) ?_
  refine lv_i2l (v := iA.toInt64) hx hb dX5_status_1 rfl ?_
  refine lv_ldc2 hx hb hown (hts _ m_t832) dX5_status_2 ?_
  refine lv_ldc2 hx hb hown (hts _ m_t833) dX5_status_5 ?_
  refine kRi (rS (As := [.long iA.toInt64, .long 12, .long 16]) (rest := []) ⟨hx, hb, hml, hown, hts⟩ (c_X5_within l G cy iA.toInt64 12 16) L_X5_50 (preRS hN hP [] rfl) rfl ⟨Nat.le_of_ble_eq_true rfl, Nat.le_of_ble_eq_true rfl⟩ hl.1 (Nat.le_of_ble_eq_true rfl) dX5_status_8 ⟨Nat.le_of_ble_eq_true rfl, Nat.le_of_ble_eq_true rfl⟩) (fun r_1 h_2 => ?_)
  rcases h_2 with ⟨rfl, h_3⟩ | ⟨rfl, h_3⟩
  · refine lv_if_eq (tgt := 24) hx hb dX5_status_11 (by decide) (fun h9 => absurd h9 (by decide)) (fun _ => ?_)
    refine lv_aload_n hx hb dX5_status_14 rfl (lv_at hl 0 rfl) ?_
    refine va_get (D := G) (ci := 4) (v := .ref qr) (C := RX5) (T := TX5) (N := 9) hx hb hts iX_X5 hown hK hP 0 rfl rfl 5 (by decide) (hts _ m_t179) (fun _ h9 => h9) rfl dX5_status_15 ?_
    refine lv_iload_n hx hb dX5_status_18 rfl (lv_at hl 1 rfl) ?_
    refine lv_bipush (v := 12) hx hb dX5_status_19 (by decide) ?_
    refine lv_isub hx hb dX5_status_21 ?_
    refine va_iald hx hb hK hP 1 0 rfl rfl (st_in5 h_3) dX5_status_22 ?_
    refine lv_seti (v := 0) rfl ?_
    exact endW (u := []) hx hb hr hlocks rfl va_P0 va_D0 hS ⟨rfl, (by first | (simp [sp_status, Iv, h_3, st_no7 h_3]; done) | (unfold sp_status; decide))⟩ dX5_status_23
  · refine lv_if_eq (tgt := 24) hx hb dX5_status_11 (by decide) (fun _ => ?_) (fun h9 => absurd (by decide) h9)
    refine lv_iload_n hx hb dX5_status_24 rfl (lv_at hl 1 rfl) ?_
    rcases sw_0_8 iA with rfl | rfl | rfl | rfl | rfl | rfl | rfl | rfl | rfl | h_6
    · refine lv_tableIn (tgt := 76) (off := 51) hx hb dX5_status_25 (by decide) (by decide) (by decide) (by decide) ?_
      refine lv_aload_n hx hb dX5_status_76 rfl (lv_at hl 0 rfl) ?_
      refine va_get (D := G) (ci := 4) (v := .ref qt) (C := RX5) (T := TX5) (N := 9) hx hb hts iX_X5 hown hK hP 0 rfl rfl 0 (by decide) (hts _ m_t174) (fun _ h9 => h9) rfl dX5_status_77 ?_
      refine va_getN (D := G) (ci := 3) (v := .int 0) (C := RX4) (T := TX4) (N := 13) hx hb hts iX_X4 hown hK hP 2 rfl rfl 0 (by decide) (va_Nw.use rfl (hN.2.1 (RX5, 127, "EachBookOnce$Town", "books", "I") (List.mem_of_getElem? (i := 3) rfl))) (fun _ h9 => h9) rfl dX5_status_80 ?_
      exact endW (u := []) hx hb hr hlocks rfl va_P0 va_D0 hS ⟨rfl, (by first | (simp [sp_status, Iv, h_3]; done) | (unfold sp_status; decide))⟩ dX5_status_83
    · refine lv_tableIn (tgt := 84) (off := 59) hx hb dX5_status_25 (by decide) (by decide) (by decide) (by decide) ?_
      refine lv_aload_n hx hb dX5_status_84 rfl (lv_at hl 0 rfl) ?_
      refine va_get (D := G) (ci := 4) (v := .ref qt) (C := RX5) (T := TX5) (N := 9) hx hb hts iX_X5 hown hK hP 0 rfl rfl 0 (by decide) (hts _ m_t174) (fun _ h9 => h9) rfl dX5_status_85 ?_
      refine va_getN (D := G) (ci := 3) (v := .int 0) (C := RX4) (T := TX4) (N := 13) hx hb hts iX_X4 hown hK hP 2 rfl rfl 2 (by decide) (va_Nw.use rfl (hN.2.1 (RX5, 180, "EachBookOnce$Town", "white", "I") (List.mem_of_getElem? (i := 10) rfl))) (fun _ h9 => h9) rfl dX5_status_88 ?_
      refine kRi (rS (As := [.int 0]) (rest := []) ⟨hx, hb, hml, hown, hts⟩ (c_J6_bitCount l G cy ) L_X5_264 (preRS hN hP [] rfl) rfl ⟨Nat.le_of_ble_eq_true rfl, Nat.le_of_ble_eq_true rfl⟩ hl.1 (Nat.le_of_ble_eq_true rfl) dX5_status_91 ⟨Nat.le_of_ble_eq_true rfl, Nat.le_of_ble_eq_true rfl⟩) (fun r_7 h_8 => ?_)
      subst h_8
      exact endW (u := []) hx hb hr hlocks rfl va_P0 va_D0 hS ⟨rfl, (by first | (simp [sp_status, Iv, h_3]; done) | (unfold sp_status; decide))⟩ dX5_status_94
    · refine lv_tableIn (tgt := 95) (off := 70) hx hb dX5_status_25 (by decide) (by decide) (by decide) (by decide) ?_
      refine lv_aload_n hx hb dX5_status_95 rfl (lv_at hl 0 rfl) ?_
      refine va_get (D := G) (ci := 4) (v := .ref qt) (C := RX5) (T := TX5) (N := 9) hx hb hts iX_X5 hown hK hP 0 rfl rfl 0 (by decide) (hts _ m_t174) (fun _ h9 => h9) rfl dX5_status_96 ?_
      refine va_getN (D := G) (ci := 3) (v := .int 0) (C := RX4) (T := TX4) (N := 13) hx hb hts iX_X4 hown hK hP 2 rfl rfl 1 (by decide) (va_Nw.use rfl (hN.2.1 (RX5, 141, "EachBookOnce$Town", "people", "I") (List.mem_of_getElem? (i := 7) rfl))) (fun _ h9 => h9) rfl dX5_status_99 ?_
      exact endW (u := []) hx hb hr hlocks rfl va_P0 va_D0 hS ⟨rfl, (by first | (simp [sp_status, Iv, h_3]; done) | (unfold sp_status; decide))⟩ dX5_status_102
    · refine lv_tableIn (tgt := 103) (off := 78) hx hb dX5_status_25 (by decide) (by decide) (by decide) (by decide) ?_
      refine lv_aload_n hx hb dX5_status_103 rfl (lv_at hl 0 rfl) ?_
      refine va_get (D := G) (ci := 4) (v := .ref qt) (C := RX5) (T := TX5) (N := 9) hx hb hts iX_X5 hown hK hP 0 rfl rfl 0 (by decide) (hts _ m_t174) (fun _ h9 => h9) rfl dX5_status_104 ?_
      refine va_getN (D := G) (ci := 3) (v := .int 0) (C := RX4) (T := TX4) (N := 13) hx hb hts iX_X4 hown hK hP 2 rfl rfl 3 (by decide) (va_Nw.use rfl (hN.2.1 (RX5, 207, "EachBookOnce$Town", "gone", "I") (List.mem_of_getElem? (i := 12) rfl))) (fun _ h9 => h9) rfl dX5_status_107 ?_
      refine kRi (rS (As := [.int 0]) (rest := []) ⟨hx, hb, hml, hown, hts⟩ (c_J6_bitCount l G cy ) L_X5_264 (preRS hN hP [] rfl) rfl ⟨Nat.le_of_ble_eq_true rfl, Nat.le_of_ble_eq_true rfl⟩ hl.1 (Nat.le_of_ble_eq_true rfl) dX5_status_110 ⟨Nat.le_of_ble_eq_true rfl, Nat.le_of_ble_eq_true rfl⟩) (fun r_9 h_10 => ?_)
      subst h_10
      exact endW (u := []) hx hb hr hlocks rfl va_P0 va_D0 hS ⟨rfl, (by first | (simp [sp_status, Iv, h_3]; done) | (unfold sp_status; decide))⟩ dX5_status_113
    · refine lv_tableIn (tgt := 114) (off := 89) hx hb dX5_status_25 (by decide) (by decide) (by decide) (by decide) ?_
      refine lv_aload_n hx hb dX5_status_114 rfl (lv_at hl 0 rfl) ?_
      refine va_get (D := G) (ci := 4) (v := .int 0) (C := RX5) (T := TX5) (N := 9) hx hb hts iX_X5 hown hK hP 0 rfl rfl 7 (by decide) (hts _ m_t181) (fun _ h9 => h9) rfl dX5_status_115 ?_
      exact endW (u := []) hx hb hr hlocks rfl va_P0 va_D0 hS ⟨rfl, (by first | (simp [sp_status, Iv, h_3]; done) | (unfold sp_status; decide))⟩ dX5_status_118
    · refine lv_tableIn (tgt := 119) (off := 94) hx hb dX5_status_25 (by decide) (by decide) (by decide) (by decide) ?_
      refine lv_aload_n hx hb dX5_status_119 rfl (lv_at hl 0 rfl) ?_
      refine va_get (D := G) (ci := 4) (v := .int 0) (C := RX5) (T := TX5) (N := 9) hx hb hts iX_X5 hown hK hP 0 rfl rfl 8 (by decide) (hts _ m_t182) (fun _ h9 => h9) rfl dX5_status_120 ?_
      exact endW (u := []) hx hb hr hlocks rfl va_P0 va_D0 hS ⟨rfl, (by first | (simp [sp_status, Iv, h_3]; done) | (unfold sp_status; decide))⟩ dX5_status_123
    · refine lv_tableIn (tgt := 124) (off := 99) hx hb dX5_status_25 (by decide) (by decide) (by decide) (by decide) ?_
      refine lv_aload_n hx hb dX5_status_124 rfl (lv_at hl 0 rfl) ?_
      refine va_get (D := G) (ci := 4) (v := .ref qa) (C := RX5) (T := TX5) (N := 9) hx hb hts iX_X5 hown hK hP 0 rfl rfl 4 (by decide) (hts _ m_t178) (fun _ h9 => h9) rfl dX5_status_125 ?_
      refine va_getN (D := G) (ci := 2) (v := .int 0) (C := RX3) (T := TX3) (N := 7) hx hb hts iX_X3 hown hK hP 3 rfl rfl 1 (by decide) (va_Nw.use rfl (hN.2.1 (RX5, 148, "EachBookOnce$Tape", "size", "I") (List.mem_of_getElem? (i := 29) rfl))) (fun _ h9 => h9) rfl dX5_status_128 ?_
      exact endW (u := []) hx hb hr hlocks rfl va_P0 va_D0 hS ⟨rfl, (by first | (simp [sp_status, Iv, h_3]; done) | (unfold sp_status; decide))⟩ dX5_status_131
    · refine lv_tableIn (tgt := 132) (off := 107) hx hb dX5_status_25 (by decide) (by decide) (by decide) (by decide) ?_
      refine lv_aload_n hx hb dX5_status_132 rfl (lv_at hl 0 rfl) ?_
      refine va_get (D := G) (ci := 4) (v := .ref qt) (C := RX5) (T := TX5) (N := 9) hx hb hts iX_X5 hown hK hP 0 rfl rfl 0 (by decide) (hts _ m_t174) (fun _ h9 => h9) rfl dX5_status_133 ?_
      refine va_getN (D := G) (ci := 3) (v := .int 1) (C := RX4) (T := TX4) (N := 13) hx hb hts iX_X4 hown hK hP 2 rfl rfl 4 (by decide) (va_Nw.use rfl (hN.2.1 (RX5, 341, "EachBookOnce$Town", "luck", "I") (List.mem_of_getElem? (i := 13) rfl))) (fun _ h9 => h9) rfl dX5_status_136 ?_
      exact endW (u := []) hx hb hr hlocks rfl va_P0 va_D0 hS ⟨rfl, (by first | (simp [sp_status, Iv, h_3]; done) | (unfold sp_status; decide))⟩ dX5_status_139
    · refine lv_tableIn (tgt := 140) (off := 115) hx hb dX5_status_25 (by decide) (by decide) (by decide) (by decide) ?_
      refine lv_aload_n hx hb dX5_status_140 rfl (lv_at hl 0 rfl) ?_
      refine va_get (D := G) (ci := 4) (v := .ref qs) (C := RX5) (T := TX5) (N := 9) hx hb hts iX_X5 hown hK hP 0 rfl rfl 3 (by decide) (hts _ m_t177) (fun _ h9 => h9) rfl dX5_status_141 ?_
      refine kRi (rV (As := []) (rest := []) (b := qs) ⟨hx, hb, hml, hown, hts⟩ (c_X2_countHolding l G cy qs qsh qss qsa qse fH hH) L_X5_352 (preRV (q := (RX2, TX2, 4)) hN hP [4, 5] rfl 4 1 rfl rfl) rfl ⟨Nat.le_of_ble_eq_true rfl, Nat.le_of_ble_eq_true rfl⟩ hl.1 (Nat.le_of_ble_eq_true rfl) dX5_status_144 ⟨Nat.le_of_ble_eq_true rfl, Nat.le_of_ble_eq_true rfl⟩) (fun r_11 h_12 => ?_)
      subst h_12
      exact endW (u := []) hx hb hr hlocks rfl va_P0 va_D0 hS ⟨rfl, (by first | (simp [sp_status, Iv, h_3]; done) | (unfold sp_status; decide))⟩ dX5_status_147
    · refine lv_tableOut (tgt := 148) hx hb dX5_status_25 h_6 (by decide) ?_
      refine lv_iconst (v := (-1)) hx hb dX5_status_148 (by decide) ?_
      exact endW (u := []) hx hb hr hlocks rfl va_P0 va_D0 hS ⟨rfl, (by first | (simp [sp_status, Iv, h_3, h_6, sw_no7 h_6, sw_noIn h_6]; done) | (unfold sp_status; decide))⟩ dX5_status_149
