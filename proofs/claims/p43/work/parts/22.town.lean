theorem dJ6_bitCount_0f7a4_0 : decode cJ6_bitCount_0f7a4 0 = .ok (.iload_n 0, 1) := by decide +kernel
theorem dJ6_bitCount_0f7a4_1 : decode cJ6_bitCount_0f7a4 1 = .ok (.iload_n 0, 1) := by decide +kernel
theorem dJ6_bitCount_0f7a4_2 : decode cJ6_bitCount_0f7a4 2 = .ok (.iconst 1, 1) := by decide +kernel
theorem dJ6_bitCount_0f7a4_3 : decode cJ6_bitCount_0f7a4 3 = .ok (.iushr, 1) := by decide +kernel
theorem dJ6_bitCount_0f7a4_4 : decode cJ6_bitCount_0f7a4 4 = .ok (.ldc_w 265, 3) := by decide +kernel
theorem dJ6_bitCount_0f7a4_7 : decode cJ6_bitCount_0f7a4 7 = .ok (.iand, 1) := by decide +kernel
theorem dJ6_bitCount_0f7a4_8 : decode cJ6_bitCount_0f7a4 8 = .ok (.isub, 1) := by decide +kernel
theorem dJ6_bitCount_0f7a4_9 : decode cJ6_bitCount_0f7a4 9 = .ok (.istore_n 0, 1) := by decide +kernel
theorem dJ6_bitCount_0f7a4_10 : decode cJ6_bitCount_0f7a4 10 = .ok (.iload_n 0, 1) := by decide +kernel
theorem dJ6_bitCount_0f7a4_11 : decode cJ6_bitCount_0f7a4 11 = .ok (.ldc_w 266, 3) := by decide +kernel
theorem dJ6_bitCount_0f7a4_14 : decode cJ6_bitCount_0f7a4 14 = .ok (.iand, 1) := by decide +kernel
theorem dJ6_bitCount_0f7a4_15 : decode cJ6_bitCount_0f7a4 15 = .ok (.iload_n 0, 1) := by decide +kernel
theorem dJ6_bitCount_0f7a4_16 : decode cJ6_bitCount_0f7a4 16 = .ok (.iconst 2, 1) := by decide +kernel
theorem dJ6_bitCount_0f7a4_17 : decode cJ6_bitCount_0f7a4 17 = .ok (.iushr, 1) := by decide +kernel
theorem dJ6_bitCount_0f7a4_18 : decode cJ6_bitCount_0f7a4 18 = .ok (.ldc_w 266, 3) := by decide +kernel
theorem dJ6_bitCount_0f7a4_21 : decode cJ6_bitCount_0f7a4 21 = .ok (.iand, 1) := by decide +kernel
theorem dJ6_bitCount_0f7a4_22 : decode cJ6_bitCount_0f7a4 22 = .ok (.iadd, 1) := by decide +kernel
theorem dJ6_bitCount_0f7a4_23 : decode cJ6_bitCount_0f7a4 23 = .ok (.istore_n 0, 1) := by decide +kernel
theorem dJ6_bitCount_0f7a4_24 : decode cJ6_bitCount_0f7a4 24 = .ok (.iload_n 0, 1) := by decide +kernel
theorem dJ6_bitCount_0f7a4_25 : decode cJ6_bitCount_0f7a4 25 = .ok (.iload_n 0, 1) := by decide +kernel
theorem dJ6_bitCount_0f7a4_26 : decode cJ6_bitCount_0f7a4 26 = .ok (.iconst 4, 1) := by decide +kernel
theorem dJ6_bitCount_0f7a4_27 : decode cJ6_bitCount_0f7a4 27 = .ok (.iushr, 1) := by decide +kernel
theorem dJ6_bitCount_0f7a4_28 : decode cJ6_bitCount_0f7a4 28 = .ok (.iadd, 1) := by decide +kernel
theorem dJ6_bitCount_0f7a4_29 : decode cJ6_bitCount_0f7a4 29 = .ok (.ldc_w 267, 3) := by decide +kernel
theorem dJ6_bitCount_0f7a4_32 : decode cJ6_bitCount_0f7a4 32 = .ok (.iand, 1) := by decide +kernel
theorem dJ6_bitCount_0f7a4_33 : decode cJ6_bitCount_0f7a4 33 = .ok (.istore_n 0, 1) := by decide +kernel
theorem dJ6_bitCount_0f7a4_34 : decode cJ6_bitCount_0f7a4 34 = .ok (.iload_n 0, 1) := by decide +kernel
theorem dJ6_bitCount_0f7a4_35 : decode cJ6_bitCount_0f7a4 35 = .ok (.iload_n 0, 1) := by decide +kernel
theorem dJ6_bitCount_0f7a4_36 : decode cJ6_bitCount_0f7a4 36 = .ok (.bipush 8, 2) := by decide +kernel
theorem dJ6_bitCount_0f7a4_38 : decode cJ6_bitCount_0f7a4 38 = .ok (.iushr, 1) := by decide +kernel
theorem dJ6_bitCount_0f7a4_39 : decode cJ6_bitCount_0f7a4 39 = .ok (.iadd, 1) := by decide +kernel
theorem dJ6_bitCount_0f7a4_40 : decode cJ6_bitCount_0f7a4 40 = .ok (.istore_n 0, 1) := by decide +kernel
theorem dJ6_bitCount_0f7a4_41 : decode cJ6_bitCount_0f7a4 41 = .ok (.iload_n 0, 1) := by decide +kernel
theorem dJ6_bitCount_0f7a4_42 : decode cJ6_bitCount_0f7a4 42 = .ok (.iload_n 0, 1) := by decide +kernel
theorem dJ6_bitCount_0f7a4_43 : decode cJ6_bitCount_0f7a4 43 = .ok (.bipush 16, 2) := by decide +kernel
theorem dJ6_bitCount_0f7a4_45 : decode cJ6_bitCount_0f7a4 45 = .ok (.iushr, 1) := by decide +kernel
theorem dJ6_bitCount_0f7a4_46 : decode cJ6_bitCount_0f7a4 46 = .ok (.iadd, 1) := by decide +kernel
theorem dJ6_bitCount_0f7a4_47 : decode cJ6_bitCount_0f7a4 47 = .ok (.istore_n 0, 1) := by decide +kernel
theorem dJ6_bitCount_0f7a4_48 : decode cJ6_bitCount_0f7a4 48 = .ok (.iload_n 0, 1) := by decide +kernel
theorem dJ6_bitCount_0f7a4_49 : decode cJ6_bitCount_0f7a4 49 = .ok (.bipush 63, 2) := by decide +kernel
theorem dJ6_bitCount_0f7a4_51 : decode cJ6_bitCount_0f7a4 51 = .ok (.iand, 1) := by decide +kernel
theorem dJ6_bitCount_0f7a4_52 : decode cJ6_bitCount_0f7a4 52 = .ok (.ireturn, 1) := by decide +kernel
theorem dX4_allNeededBy_0 : decode cX4_allNeededBy 0 = .ok (.aload_n 0, 1) := by decide +kernel
theorem dX4_allNeededBy_1 : decode cX4_allNeededBy 1 = .ok (.getfield 19, 3) := by decide +kernel
theorem dX4_allNeededBy_4 : decode cX4_allNeededBy 4 = .ok (.iload_n 1, 1) := by decide +kernel
theorem dX4_allNeededBy_5 : decode cX4_allNeededBy 5 = .ok (.iaload, 1) := by decide +kernel
theorem dX4_allNeededBy_6 : decode cX4_allNeededBy 6 = .ok (.istore_n 2, 1) := by decide +kernel
theorem dX4_allNeededBy_7 : decode cX4_allNeededBy 7 = .ok (.iload_n 1, 1) := by decide +kernel
theorem dX4_allNeededBy_8 : decode cX4_allNeededBy 8 = .ok (.iconst 1, 1) := by decide +kernel
theorem dX4_allNeededBy_9 : decode cX4_allNeededBy 9 = .ok (.isub, 1) := by decide +kernel
theorem dX4_allNeededBy_10 : decode cX4_allNeededBy 10 = .ok (.istore_n 3, 1) := by decide +kernel
theorem dX4_allNeededBy_11 : decode cX4_allNeededBy 11 = .ok (.iload_n 3, 1) := by decide +kernel
theorem dX4_allNeededBy_12 : decode cX4_allNeededBy 12 = .ok (.ifCond .lt 26, 3) := by decide +kernel
theorem dX4_allNeededBy_15 : decode cX4_allNeededBy 15 = .ok (.iload_n 2, 1) := by decide +kernel
theorem dX4_allNeededBy_16 : decode cX4_allNeededBy 16 = .ok (.iload_n 3, 1) := by decide +kernel
theorem dX4_allNeededBy_17 : decode cX4_allNeededBy 17 = .ok (.invokestatic 62, 3) := by decide +kernel
theorem dX4_allNeededBy_20 : decode cX4_allNeededBy 20 = .ok (.ifCond .eq 12, 3) := by decide +kernel
theorem dX4_allNeededBy_23 : decode cX4_allNeededBy 23 = .ok (.iload_n 2, 1) := by decide +kernel
theorem dX4_allNeededBy_24 : decode cX4_allNeededBy 24 = .ok (.aload_n 0, 1) := by decide +kernel
theorem dX4_allNeededBy_25 : decode cX4_allNeededBy 25 = .ok (.getfield 19, 3) := by decide +kernel
theorem dX4_allNeededBy_28 : decode cX4_allNeededBy 28 = .ok (.iload_n 3, 1) := by decide +kernel
theorem dX4_allNeededBy_29 : decode cX4_allNeededBy 29 = .ok (.iaload, 1) := by decide +kernel
theorem dX4_allNeededBy_30 : decode cX4_allNeededBy 30 = .ok (.ior, 1) := by decide +kernel
theorem dX4_allNeededBy_31 : decode cX4_allNeededBy 31 = .ok (.istore_n 2, 1) := by decide +kernel
theorem dX4_allNeededBy_32 : decode cX4_allNeededBy 32 = .ok (.iinc 3 (-1), 3) := by decide +kernel
theorem dX4_allNeededBy_35 : decode cX4_allNeededBy 35 = .ok (.goto (-24), 3) := by decide +kernel
theorem dX4_allNeededBy_38 : decode cX4_allNeededBy 38 = .ok (.iload_n 2, 1) := by decide +kernel
theorem dX4_allNeededBy_39 : decode cX4_allNeededBy 39 = .ok (.ireturn, 1) := by decide +kernel
theorem dX4_allThatNeed_0 : decode cX4_allThatNeed 0 = .ok (.iconst 0, 1) := by decide +kernel
theorem dX4_allThatNeed_1 : decode cX4_allThatNeed 1 = .ok (.istore_n 2, 1) := by decide +kernel
theorem dX4_allThatNeed_2 : decode cX4_allThatNeed 2 = .ok (.iload_n 1, 1) := by decide +kernel
theorem dX4_allThatNeed_3 : decode cX4_allThatNeed 3 = .ok (.iconst 1, 1) := by decide +kernel
theorem dX4_allThatNeed_4 : decode cX4_allThatNeed 4 = .ok (.iadd, 1) := by decide +kernel
theorem dX4_allThatNeed_5 : decode cX4_allThatNeed 5 = .ok (.istore_n 3, 1) := by decide +kernel
theorem dX4_allThatNeed_6 : decode cX4_allThatNeed 6 = .ok (.iload_n 3, 1) := by decide +kernel
theorem dX4_allThatNeed_7 : decode cX4_allThatNeed 7 = .ok (.aload_n 0, 1) := by decide +kernel
theorem dX4_allThatNeed_8 : decode cX4_allThatNeed 8 = .ok (.getfield 40, 3) := by decide +kernel
theorem dX4_allThatNeed_11 : decode cX4_allThatNeed 11 = .ok (.if_icmp .ge 27, 3) := by decide +kernel
theorem dX4_allThatNeed_14 : decode cX4_allThatNeed 14 = .ok (.aload_n 0, 1) := by decide +kernel
theorem dX4_allThatNeed_15 : decode cX4_allThatNeed 15 = .ok (.iload_n 3, 1) := by decide +kernel
theorem dX4_allThatNeed_16 : decode cX4_allThatNeed 16 = .ok (.invokevirtual 108, 3) := by decide +kernel
theorem dX4_allThatNeed_19 : decode cX4_allThatNeed 19 = .ok (.iload_n 1, 1) := by decide +kernel
theorem dX4_allThatNeed_20 : decode cX4_allThatNeed 20 = .ok (.invokestatic 62, 3) := by decide +kernel
theorem dX4_allThatNeed_23 : decode cX4_allThatNeed 23 = .ok (.ifCond .eq 9, 3) := by decide +kernel
theorem dX4_allThatNeed_26 : decode cX4_allThatNeed 26 = .ok (.iload_n 2, 1) := by decide +kernel
theorem dX4_allThatNeed_27 : decode cX4_allThatNeed 27 = .ok (.iconst 1, 1) := by decide +kernel
theorem dX4_allThatNeed_28 : decode cX4_allThatNeed 28 = .ok (.iload_n 3, 1) := by decide +kernel
theorem dX4_allThatNeed_29 : decode cX4_allThatNeed 29 = .ok (.ishl, 1) := by decide +kernel
theorem dX4_allThatNeed_30 : decode cX4_allThatNeed 30 = .ok (.ior, 1) := by decide +kernel
theorem dX4_allThatNeed_31 : decode cX4_allThatNeed 31 = .ok (.istore_n 2, 1) := by decide +kernel
theorem dX4_allThatNeed_32 : decode cX4_allThatNeed 32 = .ok (.iinc 3 1, 3) := by decide +kernel
theorem dX4_allThatNeed_35 : decode cX4_allThatNeed 35 = .ok (.goto (-29), 3) := by decide +kernel
theorem dX4_allThatNeed_38 : decode cX4_allThatNeed 38 = .ok (.iload_n 2, 1) := by decide +kernel
theorem dX4_allThatNeed_39 : decode cX4_allThatNeed 39 = .ok (.ireturn, 1) := by decide +kernel
theorem dX4_drawBelow20_0 : decode cX4_drawBelow20 0 = .ok (.aload_n 0, 1) := by decide +kernel
theorem dX4_drawBelow20_1 : decode cX4_drawBelow20 1 = .ok (.aload_n 0, 1) := by decide +kernel
theorem dX4_drawBelow20_2 : decode cX4_drawBelow20 2 = .ok (.getfield 9, 3) := by decide +kernel
theorem dX4_drawBelow20_5 : decode cX4_drawBelow20 5 = .ok (.ldc 123, 2) := by decide +kernel
theorem dX4_drawBelow20_7 : decode cX4_drawBelow20 7 = .ok (.imul, 1) := by decide +kernel
theorem dX4_drawBelow20_8 : decode cX4_drawBelow20 8 = .ok (.sipush 12345, 3) := by decide +kernel
theorem dX4_drawBelow20_11 : decode cX4_drawBelow20 11 = .ok (.iadd, 1) := by decide +kernel
theorem dX4_drawBelow20_12 : decode cX4_drawBelow20 12 = .ok (.putfield 9, 3) := by decide +kernel
theorem dX4_drawBelow20_15 : decode cX4_drawBelow20 15 = .ok (.aload_n 0, 1) := by decide +kernel
theorem dX4_drawBelow20_16 : decode cX4_drawBelow20 16 = .ok (.getfield 9, 3) := by decide +kernel
theorem dX4_drawBelow20_19 : decode cX4_drawBelow20 19 = .ok (.bipush 16, 2) := by decide +kernel
theorem dX4_drawBelow20_21 : decode cX4_drawBelow20 21 = .ok (.iushr, 1) := by decide +kernel
theorem dX4_drawBelow20_22 : decode cX4_drawBelow20 22 = .ok (.bipush 20, 2) := by decide +kernel
theorem dX4_drawBelow20_24 : decode cX4_drawBelow20 24 = .ok (.irem, 1) := by decide +kernel
theorem dX4_drawBelow20_25 : decode cX4_drawBelow20 25 = .ok (.ireturn, 1) := by decide +kernel
theorem dX4_forget_0 : decode cX4_forget 0 = .ok (.aload_n 0, 1) := by decide +kernel
theorem dX4_forget_1 : decode cX4_forget 1 = .ok (.getfield 49, 3) := by decide +kernel
theorem dX4_forget_4 : decode cX4_forget 4 = .ok (.iload_n 1, 1) := by decide +kernel
theorem dX4_forget_5 : decode cX4_forget 5 = .ok (.invokestatic 62, 3) := by decide +kernel
theorem dX4_forget_8 : decode cX4_forget 8 = .ok (.ifCond .eq 7, 3) := by decide +kernel
theorem dX4_forget_11 : decode cX4_forget 11 = .ok (.iconst 0, 1) := by decide +kernel
theorem dX4_forget_12 : decode cX4_forget 12 = .ok (.goto 12, 3) := by decide +kernel
theorem dX4_forget_15 : decode cX4_forget 15 = .ok (.bipush 90, 2) := by decide +kernel
theorem dX4_forget_17 : decode cX4_forget 17 = .ok (.aload_n 0, 1) := by decide +kernel
theorem dX4_forget_18 : decode cX4_forget 18 = .ok (.getfield 31, 3) := by decide +kernel
theorem dX4_forget_21 : decode cX4_forget 21 = .ok (.iload_n 1, 1) := by decide +kernel
theorem dX4_forget_22 : decode cX4_forget 22 = .ok (.iaload, 1) := by decide +kernel
theorem dX4_forget_23 : decode cX4_forget 23 = .ok (.iadd, 1) := by decide +kernel
theorem dX4_forget_24 : decode cX4_forget 24 = .ok (.istore_n 2, 1) := by decide +kernel
theorem dX4_forget_25 : decode cX4_forget 25 = .ok (.iconst 0, 1) := by decide +kernel
theorem dX4_forget_26 : decode cX4_forget 26 = .ok (.istore_n 3, 1) := by decide +kernel
theorem dX4_forget_27 : decode cX4_forget 27 = .ok (.iload_n 3, 1) := by decide +kernel
theorem dX4_forget_28 : decode cX4_forget 28 = .ok (.aload_n 0, 1) := by decide +kernel
theorem dX4_forget_29 : decode cX4_forget 29 = .ok (.getfield 40, 3) := by decide +kernel
theorem dX4_forget_32 : decode cX4_forget 32 = .ok (.if_icmp .ge 26, 3) := by decide +kernel
theorem dX4_forget_35 : decode cX4_forget 35 = .ok (.aload_n 0, 1) := by decide +kernel
theorem dX4_forget_36 : decode cX4_forget 36 = .ok (.iload_n 1, 1) := by decide +kernel
theorem dX4_forget_37 : decode cX4_forget 37 = .ok (.iload_n 3, 1) := by decide +kernel
theorem dX4_forget_38 : decode cX4_forget 38 = .ok (.aload_n 0, 1) := by decide +kernel
theorem dX4_forget_39 : decode cX4_forget 39 = .ok (.iload_n 1, 1) := by decide +kernel
theorem dX4_forget_40 : decode cX4_forget 40 = .ok (.iload_n 3, 1) := by decide +kernel
theorem dX4_forget_41 : decode cX4_forget 41 = .ok (.invokevirtual 66, 3) := by decide +kernel
theorem dX4_forget_44 : decode cX4_forget 44 = .ok (.iload_n 2, 1) := by decide +kernel
theorem dX4_forget_45 : decode cX4_forget 45 = .ok (.imul, 1) := by decide +kernel
theorem dX4_forget_46 : decode cX4_forget 46 = .ok (.bipush 100, 2) := by decide +kernel
theorem dX4_forget_48 : decode cX4_forget 48 = .ok (.idiv, 1) := by decide +kernel
theorem dX4_forget_49 : decode cX4_forget 49 = .ok (.invokevirtual 94, 3) := by decide +kernel
theorem dX4_forget_52 : decode cX4_forget 52 = .ok (.iinc 3 1, 3) := by decide +kernel
theorem dX4_forget_55 : decode cX4_forget 55 = .ok (.goto (-28), 3) := by decide +kernel
theorem dX4_forget_58 : decode cX4_forget 58 = .ok (.return_, 1) := by decide +kernel
theorem dX4_gainByReading_0 : decode cX4_gainByReading 0 = .ok (.aload_n 0, 1) := by decide +kernel
theorem dX4_gainByReading_1 : decode cX4_gainByReading 1 = .ok (.iload_n 1, 1) := by decide +kernel
theorem dX4_gainByReading_2 : decode cX4_gainByReading 2 = .ok (.invokevirtual 105, 3) := by decide +kernel
theorem dX4_gainByReading_5 : decode cX4_gainByReading 5 = .ok (.istore_n 2, 1) := by decide +kernel
theorem dX4_gainByReading_6 : decode cX4_gainByReading 6 = .ok (.iload_n 2, 1) := by decide +kernel
theorem dX4_gainByReading_7 : decode cX4_gainByReading 7 = .ok (.iconst (-1), 1) := by decide +kernel
theorem dX4_gainByReading_8 : decode cX4_gainByReading 8 = .ok (.if_icmp .ne 7, 3) := by decide +kernel
theorem dX4_gainByReading_11 : decode cX4_gainByReading 11 = .ok (.iconst 0, 1) := by decide +kernel
theorem dX4_gainByReading_12 : decode cX4_gainByReading 12 = .ok (.goto 26, 3) := by decide +kernel
theorem dX4_gainByReading_15 : decode cX4_gainByReading 15 = .ok (.aload_n 0, 1) := by decide +kernel
theorem dX4_gainByReading_16 : decode cX4_gainByReading 16 = .ok (.getfield 15, 3) := by decide +kernel
theorem dX4_gainByReading_19 : decode cX4_gainByReading 19 = .ok (.iload_n 1, 1) := by decide +kernel
theorem dX4_gainByReading_20 : decode cX4_gainByReading 20 = .ok (.iaload, 1) := by decide +kernel
theorem dX4_gainByReading_21 : decode cX4_gainByReading 21 = .ok (.aload_n 0, 1) := by decide +kernel
theorem dX4_gainByReading_22 : decode cX4_gainByReading 22 = .ok (.iload_n 2, 1) := by decide +kernel
theorem dX4_gainByReading_23 : decode cX4_gainByReading 23 = .ok (.iload_n 1, 1) := by decide +kernel
theorem dX4_gainByReading_24 : decode cX4_gainByReading 24 = .ok (.invokevirtual 91, 3) := by decide +kernel
theorem dX4_gainByReading_27 : decode cX4_gainByReading 27 = .ok (.aload_n 0, 1) := by decide +kernel
theorem dX4_gainByReading_28 : decode cX4_gainByReading 28 = .ok (.iload_n 1, 1) := by decide +kernel
theorem dX4_gainByReading_29 : decode cX4_gainByReading 29 = .ok (.aload_n 0, 1) := by decide +kernel
theorem dX4_gainByReading_30 : decode cX4_gainByReading 30 = .ok (.invokevirtual 78, 3) := by decide +kernel
theorem dX4_gainByReading_33 : decode cX4_gainByReading 33 = .ok (.invokevirtual 75, 3) := by decide +kernel
theorem dX4_gainByReading_36 : decode cX4_gainByReading 36 = .ok (.isub, 1) := by decide +kernel
theorem dX4_gainByReading_37 : decode cX4_gainByReading 37 = .ok (.imul, 1) := by decide +kernel
theorem dX4_gainByReading_38 : decode cX4_gainByReading 38 = .ok (.ireturn, 1) := by decide +kernel
theorem dX4_unreadAt_0 : decode cX4_unreadAt 0 = .ok (.iconst 0, 1) := by decide +kernel
theorem dX4_unreadAt_1 : decode cX4_unreadAt 1 = .ok (.istore_n 2, 1) := by decide +kernel
theorem dX4_unreadAt_2 : decode cX4_unreadAt 2 = .ok (.iconst 0, 1) := by decide +kernel
theorem dX4_unreadAt_3 : decode cX4_unreadAt 3 = .ok (.istore_n 3, 1) := by decide +kernel
theorem dX4_unreadAt_4 : decode cX4_unreadAt 4 = .ok (.iload_n 3, 1) := by decide +kernel
theorem dX4_unreadAt_5 : decode cX4_unreadAt 5 = .ok (.aload_n 0, 1) := by decide +kernel
theorem dX4_unreadAt_6 : decode cX4_unreadAt 6 = .ok (.getfield 40, 3) := by decide +kernel
theorem dX4_unreadAt_9 : decode cX4_unreadAt 9 = .ok (.if_icmp .ge 30, 3) := by decide +kernel
theorem dX4_unreadAt_12 : decode cX4_unreadAt 12 = .ok (.aload_n 0, 1) := by decide +kernel
theorem dX4_unreadAt_13 : decode cX4_unreadAt 13 = .ok (.getfield 46, 3) := by decide +kernel
theorem dX4_unreadAt_16 : decode cX4_unreadAt 16 = .ok (.iload_n 3, 1) := by decide +kernel
theorem dX4_unreadAt_17 : decode cX4_unreadAt 17 = .ok (.invokestatic 62, 3) := by decide +kernel
theorem dX4_unreadAt_20 : decode cX4_unreadAt 20 = .ok (.ifCond .ne 13, 3) := by decide +kernel
theorem dX4_unreadAt_23 : decode cX4_unreadAt 23 = .ok (.iload_n 2, 1) := by decide +kernel
theorem dX4_unreadAt_24 : decode cX4_unreadAt 24 = .ok (.iload_n 1, 1) := by decide +kernel
theorem dX4_unreadAt_25 : decode cX4_unreadAt 25 = .ok (.if_icmp .ne 5, 3) := by decide +kernel
theorem dX4_unreadAt_28 : decode cX4_unreadAt 28 = .ok (.iload_n 3, 1) := by decide +kernel
theorem dX4_unreadAt_29 : decode cX4_unreadAt 29 = .ok (.ireturn, 1) := by decide +kernel
theorem dX4_unreadAt_30 : decode cX4_unreadAt 30 = .ok (.iinc 2 1, 3) := by decide +kernel
theorem dX4_unreadAt_33 : decode cX4_unreadAt 33 = .ok (.iinc 3 1, 3) := by decide +kernel
theorem dX4_unreadAt_36 : decode cX4_unreadAt 36 = .ok (.goto (-32), 3) := by decide +kernel
theorem dX4_unreadAt_39 : decode cX4_unreadAt 39 = .ok (.iconst (-1), 1) := by decide +kernel
theorem dX4_unreadAt_40 : decode cX4_unreadAt 40 = .ok (.ireturn, 1) := by decide +kernel
set_option maxHeartbeats 4000000 in
set_option maxRecDepth 100000 in
theorem c_J6_bitCount (l : Launch) (G : va_G) (cy : Nat → ClassId) (iA : Int32)   : MR l yJ6_bitCount_0f7a4 cJ6_bitCount_0f7a4 1 (some .int) 1 G cy [] [.int iA] (vp_Si (fun r => (r = (zbc iA)))) := by
  refine enR RJ6 (by decide) rfl (Nat.le_of_ble_eq_true rfl) (fun p e s m below meth c ls hx hb hml hown hts hr hlocks hP hN hl => ?_)
  have hK := hN.1
  replace hl : lv_has ls 1 [(0, .int iA)] := hl
  refine lv_iload_n hx hb dJ6_bitCount_0f7a4_0 rfl (lv_at hl 0 rfl) ?_
  refine lv_iload_n hx hb dJ6_bitCount_0f7a4_1 rfl (lv_at hl 0 rfl) ?_
  refine lv_iconst (v := 1) hx hb dJ6_bitCount_0f7a4_2 (by decide) ?_
  refine lv_iushr (v := (iA.toUInt32 >>> (Int32.toUInt32 1 &&& Int32.toUInt32 31)).toInt32) hx hb dJ6_bitCount_0f7a4_3 (rfl) ?_
  refine lv_ldcw hx hb hown (hts _ m_t664) dJ6_bitCount_0f7a4_4 ?_
  refine lv_iand hx hb dJ6_bitCount_0f7a4_7 ?_
  refine lv_isub hx hb dJ6_bitCount_0f7a4_8 ?_
  refine lv_istore_n (lv' := [(0, .int (iA - (((iA.toUInt32 >>> (Int32.toUInt32 1 &&& Int32.toUInt32 31)).toInt32) &&& 1431655765)))]) hx hb dJ6_bitCount_0f7a4_9 rfl hl (by decide) rfl (fun ls => ?_)
  clear hl
  intro hl
  refine lv_iload_n hx hb dJ6_bitCount_0f7a4_10 rfl (lv_at hl 0 rfl) ?_
  refine lv_ldcw hx hb hown (hts _ m_t665) dJ6_bitCount_0f7a4_11 ?_
  refine lv_iand hx hb dJ6_bitCount_0f7a4_14 ?_
  refine lv_iload_n hx hb dJ6_bitCount_0f7a4_15 rfl (lv_at hl 0 rfl) ?_
  refine lv_iconst (v := 2) hx hb dJ6_bitCount_0f7a4_16 (by decide) ?_
  refine lv_iushr (v := ((iA - (((iA.toUInt32 >>> (Int32.toUInt32 1 &&& Int32.toUInt32 31)).toInt32) &&& 1431655765)).toUInt32 >>> (Int32.toUInt32 2 &&& Int32.toUInt32 31)).toInt32) hx hb dJ6_bitCount_0f7a4_17 (rfl) ?_
  refine lv_ldcw hx hb hown (hts _ m_t665) dJ6_bitCount_0f7a4_18 ?_
  refine lv_iand hx hb dJ6_bitCount_0f7a4_21 ?_
  refine lv_iadd hx hb dJ6_bitCount_0f7a4_22 ?_
  refine lv_istore_n (lv' := [(0, .int (((iA - (((iA.toUInt32 >>> (Int32.toUInt32 1 &&& Int32.toUInt32 31)).toInt32) &&& 1431655765)) &&& 858993459) + ((((iA - (((iA.toUInt32 >>> (Int32.toUInt32 1 &&& Int32.toUInt32 31)).toInt32) &&& 1431655765)).toUInt32 >>> (Int32.toUInt32 2 &&& Int32.toUInt32 31)).toInt32) &&& 858993459)))]) hx hb dJ6_bitCount_0f7a4_23 rfl hl (by decide) rfl (fun ls => ?_)
  clear hl
  intro hl
  refine lv_iload_n hx hb dJ6_bitCount_0f7a4_24 rfl (lv_at hl 0 rfl) ?_
  refine lv_iload_n hx hb dJ6_bitCount_0f7a4_25 rfl (lv_at hl 0 rfl) ?_
  refine lv_iconst (v := 4) hx hb dJ6_bitCount_0f7a4_26 (by decide) ?_
  refine lv_iushr (v := ((((iA - (((iA.toUInt32 >>> (Int32.toUInt32 1 &&& Int32.toUInt32 31)).toInt32) &&& 1431655765)) &&& 858993459) + ((((iA - (((iA.toUInt32 >>> (Int32.toUInt32 1 &&& Int32.toUInt32 31)).toInt32) &&& 1431655765)).toUInt32 >>> (Int32.toUInt32 2 &&& Int32.toUInt32 31)).toInt32) &&& 858993459)).toUInt32 >>> (Int32.toUInt32 4 &&& Int32.toUInt32 31)).toInt32) hx hb dJ6_bitCount_0f7a4_27 (rfl) ?_
  refine lv_iadd hx hb dJ6_bitCount_0f7a4_28 ?_
  refine lv_ldcw hx hb hown (hts _ m_t666) dJ6_bitCount_0f7a4_29 ?_
  refine lv_iand hx hb dJ6_bitCount_0f7a4_32 ?_
  refine lv_istore_n (lv' := [(0, .int (((((iA - (((iA.toUInt32 >>> (Int32.toUInt32 1 &&& Int32.toUInt32 31)).toInt32) &&& 1431655765)) &&& 858993459) + ((((iA - (((iA.toUInt32 >>> (Int32.toUInt32 1 &&& Int32.toUInt32 31)).toInt32) &&& 1431655765)).toUInt32 >>> (Int32.toUInt32 2 &&& Int32.toUInt32 31)).toInt32) &&& 858993459)) + (((((iA - (((iA.toUInt32 >>> (Int32.toUInt32 1 &&& Int32.toUInt32 31)).toInt32) &&& 1431655765)) &&& 858993459) + ((((iA - (((iA.toUInt32 >>> (Int32.toUInt32 1 &&& Int32.toUInt32 31)).toInt32) &&& 1431655765)).toUInt32 >>> (Int32.toUInt32 2 &&& Int32.toUInt32 31)).toInt32) &&& 858993459)).toUInt32 >>> (Int32.toUInt32 4 &&& Int32.toUInt32 31)).toInt32)) &&& 252645135))]) hx hb dJ6_bitCount_0f7a4_33 rfl hl (by decide) rfl (fun ls => ?_)
  clear hl
  intro hl
  refine lv_iload_n hx hb dJ6_bitCount_0f7a4_34 rfl (lv_at hl 0 rfl) ?_
  refine lv_iload_n hx hb dJ6_bitCount_0f7a4_35 rfl (lv_at hl 0 rfl) ?_
  refine lv_bipush (v := 8) hx hb dJ6_bitCount_0f7a4_36 (by decide) ?_
  refine lv_iushr (v := ((((((iA - (((iA.toUInt32 >>> (Int32.toUInt32 1 &&& Int32.toUInt32 31)).toInt32) &&& 1431655765)) &&& 858993459) + ((((iA - (((iA.toUInt32 >>> (Int32.toUInt32 1 &&& Int32.toUInt32 31)).toInt32) &&& 1431655765)).toUInt32 >>> (Int32.toUInt32 2 &&& Int32.toUInt32 31)).toInt32) &&& 858993459)) + (((((iA - (((iA.toUInt32 >>> (Int32.toUInt32 1 &&& Int32.toUInt32 31)).toInt32) &&& 1431655765)) &&& 858993459) + ((((iA - (((iA.toUInt32 >>> (Int32.toUInt32 1 &&& Int32.toUInt32 31)).toInt32) &&& 1431655765)).toUInt32 >>> (Int32.toUInt32 2 &&& Int32.toUInt32 31)).toInt32) &&& 858993459)).toUInt32 >>> (Int32.toUInt32 4 &&& Int32.toUInt32 31)).toInt32)) &&& 252645135).toUInt32 >>> (Int32.toUInt32 8 &&& Int32.toUInt32 31)).toInt32) hx hb dJ6_bitCount_0f7a4_38 (rfl) ?_
  refine lv_iadd hx hb dJ6_bitCount_0f7a4_39 ?_
  refine lv_istore_n (lv' := [(0, .int ((((((iA - (((iA.toUInt32 >>> (Int32.toUInt32 1 &&& Int32.toUInt32 31)).toInt32) &&& 1431655765)) &&& 858993459) + ((((iA - (((iA.toUInt32 >>> (Int32.toUInt32 1 &&& Int32.toUInt32 31)).toInt32) &&& 1431655765)).toUInt32 >>> (Int32.toUInt32 2 &&& Int32.toUInt32 31)).toInt32) &&& 858993459)) + (((((iA - (((iA.toUInt32 >>> (Int32.toUInt32 1 &&& Int32.toUInt32 31)).toInt32) &&& 1431655765)) &&& 858993459) + ((((iA - (((iA.toUInt32 >>> (Int32.toUInt32 1 &&& Int32.toUInt32 31)).toInt32) &&& 1431655765)).toUInt32 >>> (Int32.toUInt32 2 &&& Int32.toUInt32 31)).toInt32) &&& 858993459)).toUInt32 >>> (Int32.toUInt32 4 &&& Int32.toUInt32 31)).toInt32)) &&& 252645135) + (((((((iA - (((iA.toUInt32 >>> (Int32.toUInt32 1 &&& Int32.toUInt32 31)).toInt32) &&& 1431655765)) &&& 858993459) + ((((iA - (((iA.toUInt32 >>> (Int32.toUInt32 1 &&& Int32.toUInt32 31)).toInt32) &&& 1431655765)).toUInt32 >>> (Int32.toUInt32 2 &&& Int32.toUInt32 31)).toInt32) &&& 858993459)) + (((((iA - (((iA.toUInt32 >>> (Int32.toUInt32 1 &&& Int32.toUInt32 31)).toInt32) &&& 1431655765)) &&& 858993459) + ((((iA - (((iA.toUInt32 >>> (Int32.toUInt32 1 &&& Int32.toUInt32 31)).toInt32) &&& 1431655765)).toUInt32 >>> (Int32.toUInt32 2 &&& Int32.toUInt32 31)).toInt32) &&& 858993459)).toUInt32 >>> (Int32.toUInt32 4 &&& Int32.toUInt32 31)).toInt32)) &&& 252645135).toUInt32 >>> (Int32.toUInt32 8 &&& Int32.toUInt32 31)).toInt32)))]) hx hb dJ6_bitCount_0f7a4_40 rfl hl (by decide) rfl (fun ls => ?_)
  clear hl
  intro hl
  refine lv_iload_n hx hb dJ6_bitCount_0f7a4_41 rfl (lv_at hl 0 rfl) ?_
  refine lv_iload_n hx hb dJ6_bitCount_0f7a4_42 rfl (lv_at hl 0 rfl) ?_
  refine lv_bipush (v := 16) hx hb dJ6_bitCount_0f7a4_43 (by decide) ?_
  refine lv_iushr (v := (((((((iA - (((iA.toUInt32 >>> (Int32.toUInt32 1 &&& Int32.toUInt32 31)).toInt32) &&& 1431655765)) &&& 858993459) + ((((iA - (((iA.toUInt32 >>> (Int32.toUInt32 1 &&& Int32.toUInt32 31)).toInt32) &&& 1431655765)).toUInt32 >>> (Int32.toUInt32 2 &&& Int32.toUInt32 31)).toInt32) &&& 858993459)) + (((((iA - (((iA.toUInt32 >>> (Int32.toUInt32 1 &&& Int32.toUInt32 31)).toInt32) &&& 1431655765)) &&& 858993459) + ((((iA - (((iA.toUInt32 >>> (Int32.toUInt32 1 &&& Int32.toUInt32 31)).toInt32) &&& 1431655765)).toUInt32 >>> (Int32.toUInt32 2 &&& Int32.toUInt32 31)).toInt32) &&& 858993459)).toUInt32 >>> (Int32.toUInt32 4 &&& Int32.toUInt32 31)).toInt32)) &&& 252645135) + (((((((iA - (((iA.toUInt32 >>> (Int32.toUInt32 1 &&& Int32.toUInt32 31)).toInt32) &&& 1431655765)) &&& 858993459) + ((((iA - (((iA.toUInt32 >>> (Int32.toUInt32 1 &&& Int32.toUInt32 31)).toInt32) &&& 1431655765)).toUInt32 >>> (Int32.toUInt32 2 &&& Int32.toUInt32 31)).toInt32) &&& 858993459)) + (((((iA - (((iA.toUInt32 >>> (Int32.toUInt32 1 &&& Int32.toUInt32 31)).toInt32) &&& 1431655765)) &&& 858993459) + ((((iA - (((iA.toUInt32 >>> (Int32.toUInt32 1 &&& Int32.toUInt32 31)).toInt32) &&& 1431655765)).toUInt32 >>> (Int32.toUInt32 2 &&& Int32.toUInt32 31)).toInt32) &&& 858993459)).toUInt32 >>> (Int32.toUInt32 4 &&& Int32.toUInt32 31)).toInt32)) &&& 252645135).toUInt32 >>> (Int32.toUInt32 8 &&& Int32.toUInt32 31)).toInt32)).toUInt32 >>> (Int32.toUInt32 16 &&& Int32.toUInt32 31)).toInt32) hx hb dJ6_bitCount_0f7a4_45 (rfl) ?_
  refine lv_iadd hx hb dJ6_bitCount_0f7a4_46 ?_
  refine lv_istore_n (lv' := [(0, .int (((((((iA - (((iA.toUInt32 >>> (Int32.toUInt32 1 &&& Int32.toUInt32 31)).toInt32) &&& 1431655765)) &&& 858993459) + ((((iA - (((iA.toUInt32 >>> (Int32.toUInt32 1 &&& Int32.toUInt32 31)).toInt32) &&& 1431655765)).toUInt32 >>> (Int32.toUInt32 2 &&& Int32.toUInt32 31)).toInt32) &&& 858993459)) + (((((iA - (((iA.toUInt32 >>> (Int32.toUInt32 1 &&& Int32.toUInt32 31)).toInt32) &&& 1431655765)) &&& 858993459) + ((((iA - (((iA.toUInt32 >>> (Int32.toUInt32 1 &&& Int32.toUInt32 31)).toInt32) &&& 1431655765)).toUInt32 >>> (Int32.toUInt32 2 &&& Int32.toUInt32 31)).toInt32) &&& 858993459)).toUInt32 >>> (Int32.toUInt32 4 &&& Int32.toUInt32 31)).toInt32)) &&& 252645135) + (((((((iA - (((iA.toUInt32 >>> (Int32.toUInt32 1 &&& Int32.toUInt32 31)).toInt32) &&& 1431655765)) &&& 858993459) + ((((iA - (((iA.toUInt32 >>> (Int32.toUInt32 1 &&& Int32.toUInt32 31)).toInt32) &&& 1431655765)).toUInt32 >>> (Int32.toUInt32 2 &&& Int32.toUInt32 31)).toInt32) &&& 858993459)) + (((((iA - (((iA.toUInt32 >>> (Int32.toUInt32 1 &&& Int32.toUInt32 31)).toInt32) &&& 1431655765)) &&& 858993459) + ((((iA - (((iA.toUInt32 >>> (Int32.toUInt32 1 &&& Int32.toUInt32 31)).toInt32) &&& 1431655765)).toUInt32 >>> (Int32.toUInt32 2 &&& Int32.toUInt32 31)).toInt32) &&& 858993459)).toUInt32 >>> (Int32.toUInt32 4 &&& Int32.toUInt32 31)).toInt32)) &&& 252645135).toUInt32 >>> (Int32.toUInt32 8 &&& Int32.toUInt32 31)).toInt32)) + ((((((((iA - (((iA.toUInt32 >>> (Int32.toUInt32 1 &&& Int32.toUInt32 31)).toInt32) &&& 1431655765)) &&& 858993459) + ((((iA - (((iA.toUInt32 >>> (Int32.toUInt32 1 &&& Int32.toUInt32 31)).toInt32) &&& 1431655765)).toUInt32 >>> (Int32.toUInt32 2 &&& Int32.toUInt32 31)).toInt32) &&& 858993459)) + (((((iA - (((iA.toUInt32 >>> (Int32.toUInt32 1 &&& Int32.toUInt32 31)).toInt32) &&& 1431655765)) &&& 858993459) + ((((iA - (((iA.toUInt32 >>> (Int32.toUInt32 1 &&& Int32.toUInt32 31)).toInt32) &&& 1431655765)).toUInt32 >>> (Int32.toUInt32 2 &&& Int32.toUInt32 31)).toInt32) &&& 858993459)).toUInt32 >>> (Int32.toUInt32 4 &&& Int32.toUInt32 31)).toInt32)) &&& 252645135) + (((((((iA - (((iA.toUInt32 >>> (Int32.toUInt32 1 &&& Int32.toUInt32 31)).toInt32) &&& 1431655765)) &&& 858993459) + ((((iA - (((iA.toUInt32 >>> (Int32.toUInt32 1 &&& Int32.toUInt32 31)).toInt32) &&& 1431655765)).toUInt32 >>> (Int32.toUInt32 2 &&& Int32.toUInt32 31)).toInt32) &&& 858993459)) + (((((iA - (((iA.toUInt32 >>> (Int32.toUInt32 1 &&& Int32.toUInt32 31)).toInt32) &&& 1431655765)) &&& 858993459) + ((((iA - (((iA.toUInt32 >>> (Int32.toUInt32 1 &&& Int32.toUInt32 31)).toInt32) &&& 1431655765)).toUInt32 >>> (Int32.toUInt32 2 &&& Int32.toUInt32 31)).toInt32) &&& 858993459)).toUInt32 >>> (Int32.toUInt32 4 &&& Int32.toUInt32 31)).toInt32)) &&& 252645135).toUInt32 >>> (Int32.toUInt32 8 &&& Int32.toUInt32 31)).toInt32)).toUInt32 >>> (Int32.toUInt32 16 &&& Int32.toUInt32 31)).toInt32)))]) hx hb dJ6_bitCount_0f7a4_47 rfl hl (by decide) rfl (fun ls => ?_)
  clear hl
  intro hl
  refine lv_iload_n hx hb dJ6_bitCount_0f7a4_48 rfl (lv_at hl 0 rfl) ?_
  refine lv_bipush (v := 63) hx hb dJ6_bitCount_0f7a4_49 (by decide) ?_
  refine lv_iand hx hb dJ6_bitCount_0f7a4_51 ?_
  exact endR hx hb hr hlocks rfl (by rfl) dJ6_bitCount_0f7a4_52
set_option maxHeartbeats 4000000 in
set_option maxRecDepth 100000 in
theorem c_X4_unreadAt (l : Launch) (G : va_G) (cy : Nat → ClassId) (qt : Nat) (tA : TA) (qtw : Nat) (qtn : Nat) (qtg : Nat) (qta : Nat) (qtr : Nat) (qtm : Nat) (qtt : Nat) (qts : Nat) (iA : Int32)  (hB : T_nb tA ≤ 8) : MR l yX4_unreadAt cX4_unreadAt 4 (some .int) 2 G cy [zzO qt 3 [.int (nI (T_nb tA)), .int (nI (T_np tA)), .int (wb (T_wh tA)), .int (wb (T_gn tA)), .int (T_sd tA), .ref qtw, .ref qtn, .ref qtg, .ref qta, .ref qtr, .ref qtm, .ref qtt, .ref qts], zzI cy qtw 8 (T_wo tA), zzI cy qtn 8 (T_ne tA), zzI cy qtg 8 (T_go tA), zzI cy qta 8 (T_ag tA), zzI cy qtr 8 (T_re tA), zzI cy qtm 8 (T_me tA), zzI cy qtt 8 (T_te tA), zzI cy qts 64 (shF (T_kn tA))] [.ref qt, .int iA] (vp_Si (fun r => (r = (zua tA iA)))) := by
  refine enR RX4 (by decide) rfl (Nat.le_of_ble_eq_true rfl) (fun p e s m below meth c ls hx hb hml hown hts hr hlocks hP hN hl => ?_)
  have hK := hN.1
  replace hl : lv_has ls 4 [(0, .ref qt), (1, .int iA)] := hl
  refine lv_iconst (v := 0) hx hb dX4_unreadAt_0 (by decide) ?_
  refine lv_istore_n (lv' := [(2, .int 0), (0, .ref qt), (1, .int iA)]) hx hb dX4_unreadAt_1 rfl hl (by decide) rfl (fun ls => ?_)
  clear hl
  intro hl
  refine lv_iconst (v := 0) hx hb dX4_unreadAt_2 (by decide) ?_
  refine lv_istore_n (lv' := [(3, .int 0), (2, .int 0), (0, .ref qt), (1, .int iA)]) hx hb dX4_unreadAt_3 rfl hl (by decide) rfl (fun ls => ?_)
  clear hl
  intro hl
  have lp_1 : ∀ (n_2 : Nat) (j_4 : Nat) (xC_5 : Int32), 8 - j_4 < n_2 → j_4 ≤ T_nb tA → uaG tA iA (T_nb tA - j_4) j_4 xC_5 = zua tA iA → ∀ (ls : Array Slot), lv_has ls 4 [(3, .int (nI j_4)), (2, .int xC_5), (0, .ref qt), (1, .int iA)] → W p l e (Rm 2 0 0) s m (List.toArray (α := Value) [.ref qt, .int iA]) below meth c s.heap [] 0 0 (MQ below (vp_Si (fun r => (r = (zua tA iA)))) (List.toArray (α := Value) [.ref qt, .int iA]) s 0 0 (fun _ => False)) (F0 m 4 ls []) := by
    intro n_2
    induction n_2 with
    | zero => intro j_4 xC_5 hm9; exact absurd hm9 (Nat.not_lt_zero _)
    | succ n_2 ih_3 =>
      intro j_4 xC_5 hm_8 hj_6 hT_7 ls hl
      refine lv_iload_n hx hb dX4_unreadAt_4 rfl (lv_at hl 0 rfl) ?_
      refine lv_aload_n hx hb dX4_unreadAt_5 rfl (lv_at hl 2 rfl) ?_
      refine va_get (D := G) (ci := 3) (v := .int (nI (T_nb tA))) (C := RX4) (T := TX4) (N := 13) hx hb hts iX_X4 hown hK hP 0 rfl rfl 0 (by decide) (hts _ m_t29) (fun _ h9 => h9) rfl dX4_unreadAt_6 ?_
      refine lv_icmp_ge (tgt := 39) hx hb dX4_unreadAt_9 (by decide) (fun c_9 => ?_) (fun c_9 => ?_)
      · have hlt_10 : j_4 = T_nb tA := Nat.le_antisymm (by omega) (lp_ge rfl rfl (by omega) (by omega) c_9)
        refine lv_iconst (v := (-1)) hx hb dX4_unreadAt_39 (by decide) ?_
        exact endR hx hb hr hlocks rfl (by rw [← hT_7, hlt_10, Nat.sub_self]; rfl) dX4_unreadAt_40
      · have hlt_11 : j_4 < T_nb tA := lp_lt rfl rfl (by omega) (by omega) c_9
        refine lv_aload_n hx hb dX4_unreadAt_12 rfl (lv_at hl 2 rfl) ?_
        refine va_get (D := G) (ci := 3) (v := .int (wb (T_wh tA))) (C := RX4) (T := TX4) (N := 13) hx hb hts iX_X4 hown hK hP 0 rfl rfl 2 (by decide) (hts _ m_t39) (fun _ h9 => h9) rfl dX4_unreadAt_13 ?_
        refine lv_iload_n hx hb dX4_unreadAt_16 rfl (lv_at hl 0 rfl) ?_
        refine kRi (rSN (As := [.int (wb (T_wh tA)), .int (nI j_4)]) (rest := []) ⟨hx, hb, hml, hown, hts⟩ hN (c_X5_has l G cy (wb (T_wh tA)) j_4) L_X4_62 (preRS hN hP [] rfl) rfl ⟨Nat.le_of_ble_eq_true rfl, Nat.le_of_ble_eq_true rfl⟩ hl.1 (Nat.le_of_ble_eq_true rfl) dX4_unreadAt_17 ⟨Nat.le_of_ble_eq_true rfl, Nat.le_of_ble_eq_true rfl⟩) (fun r_12 h_13 => ?_)
        rcases h_13 with ⟨rfl, h_14⟩ | ⟨rfl, h_14⟩
        · rw [bit_wb _ (by omega)] at h_14
          refine lv_if_ne (tgt := 33) hx hb dX4_unreadAt_20 (by decide) (fun _ => ?_) (fun h9 => absurd h9 (by decide))
          refine lv_iinc (v := nI (j_4 + 1)) (lv' := [(3, .int (nI (j_4 + 1))), (2, .int xC_5), (0, .ref qt), (1, .int iA)]) hx hb dX4_unreadAt_33 hl (k := 0) rfl (nI_1 _) (by decide) rfl (fun ls => ?_)
          clear hl
          intro hl
          refine lv_goto (tgt := 4) hx hb dX4_unreadAt_36 (by decide) ?_
          exact ih_3 (j_4 + 1) xC_5 (by omega) (by omega) (by rw [← hT_7, show T_nb tA - j_4 = T_nb tA - (j_4 + 1) + 1 by omega, ua_white h_14]) _ (lv_sub hl [0, 1, 2, 3] rfl)
        · rw [bit_wb _ (by omega)] at h_14
          refine lv_if_ne (tgt := 33) hx hb dX4_unreadAt_20 (by decide) (fun h9 => absurd (by decide) h9) (fun _ => ?_)
          refine lv_iload_n hx hb dX4_unreadAt_23 rfl (lv_at hl 1 rfl) ?_
          refine lv_iload_n hx hb dX4_unreadAt_24 rfl (lv_at hl 3 rfl) ?_
          refine lv_icmp_ne (tgt := 30) hx hb dX4_unreadAt_25 (by decide) (fun c_17 => ?_) (fun c_17 => ?_)
          · refine lv_iinc (v := xC_5 + 1) (lv' := [(2, .int (xC_5 + 1)), (3, .int (nI j_4)), (0, .ref qt), (1, .int iA)]) hx hb dX4_unreadAt_30 hl (k := 1) rfl (rfl) (by decide) rfl (fun ls => ?_)
            clear hl
            intro hl
            refine lv_iinc (v := nI (j_4 + 1)) (lv' := [(3, .int (nI (j_4 + 1))), (2, .int (xC_5 + 1)), (0, .ref qt), (1, .int iA)]) hx hb dX4_unreadAt_33 hl (k := 1) rfl (nI_1 _) (by decide) rfl (fun ls => ?_)
            clear hl
            intro hl
            refine lv_goto (tgt := 4) hx hb dX4_unreadAt_36 (by decide) ?_
            exact ih_3 (j_4 + 1) (xC_5 + 1) (by omega) (by omega) (by rw [← hT_7, show T_nb tA - j_4 = T_nb tA - (j_4 + 1) + 1 by omega, ua_pass h_14 c_17]) _ (lv_sub hl [0, 1, 2, 3] rfl)
          · refine lv_iload_n hx hb dX4_unreadAt_28 rfl (lv_at hl 0 rfl) ?_
            exact endR hx hb hr hlocks rfl (by rw [← hT_7, show T_nb tA - j_4 = T_nb tA - (j_4 + 1) + 1 by omega, ua_hit h_14 c_17]) dX4_unreadAt_29
  exact lp_1 ((8 - 0) + 1) 0 0 (Nat.lt_succ_self _) (Nat.zero_le _) rfl ls (lv_sub hl [0, 1, 2, 3] rfl)
set_option maxHeartbeats 4000000 in
set_option maxRecDepth 100000 in
theorem c_X4_allNeededBy (l : Launch) (G : va_G) (cy : Nat → ClassId) (qt : Nat) (tA : TA) (qtw : Nat) (qtn : Nat) (qtg : Nat) (qta : Nat) (qtr : Nat) (qtm : Nat) (qtt : Nat) (qts : Nat) (kB : Nat)  (hJ : kB < 8) : MR l yX4_allNeededBy cX4_allNeededBy 4 (some .int) 2 G cy [zzO qt 3 [.int (nI (T_nb tA)), .int (nI (T_np tA)), .int (wb (T_wh tA)), .int (wb (T_gn tA)), .int (T_sd tA), .ref qtw, .ref qtn, .ref qtg, .ref qta, .ref qtr, .ref qtm, .ref qtt, .ref qts], zzI cy qtw 8 (T_wo tA), zzI cy qtn 8 (T_ne tA), zzI cy qtg 8 (T_go tA), zzI cy qta 8 (T_ag tA), zzI cy qtr 8 (T_re tA), zzI cy qtm 8 (T_me tA), zzI cy qtt 8 (T_te tA), zzI cy qts 64 (shF (T_kn tA))] [.ref qt, .int (nI kB)] (vp_Si (fun r => (r = (zan tA kB)))) := by
  refine enR RX4 (by decide) rfl (Nat.le_of_ble_eq_true rfl) (fun p e s m below meth c ls hx hb hml hown hts hr hlocks hP hN hl => ?_)
  have hK := hN.1
  replace hl : lv_has ls 4 [(0, .ref qt), (1, .int (nI kB))] := hl
  refine lv_aload_n hx hb dX4_allNeededBy_0 rfl (lv_at hl 0 rfl) ?_
  refine va_get (D := G) (ci := 3) (v := .ref qtn) (C := RX4) (T := TX4) (N := 13) hx hb hts iX_X4 hown hK hP 0 rfl rfl 6 (by decide) (hts _ m_t50) (fun _ h9 => h9) rfl dX4_allNeededBy_1 ?_
  refine lv_iload_n hx hb dX4_allNeededBy_4 rfl (lv_at hl 1 rfl) ?_
  refine va_iald hx hb hK hP 2 0 rfl rfl (in8 (by omega)) dX4_allNeededBy_5 ?_
  refine lv_seti (v := (T_ne tA) kB) (congrArg (T_ne tA) (cl8 (by omega))) ?_
  refine lv_istore_n (lv' := [(2, .int ((T_ne tA) kB)), (0, .ref qt), (1, .int (nI kB))]) hx hb dX4_allNeededBy_6 rfl hl (by decide) rfl (fun ls => ?_)
  clear hl
  intro hl
  refine lv_iload_n hx hb dX4_allNeededBy_7 rfl (lv_at hl 2 rfl) ?_
  refine lv_iconst (v := 1) hx hb dX4_allNeededBy_8 (by decide) ?_
  refine lv_isub hx hb dX4_allNeededBy_9 ?_
  refine lv_istore_n (lv' := [(3, .int ((nI kB) - 1)), (2, .int ((T_ne tA) kB)), (0, .ref qt), (1, .int (nI kB))]) hx hb dX4_allNeededBy_10 rfl hl (by decide) rfl (fun ls => ?_)
  clear hl
  intro hl
  have lp_1 : ∀ (n_2 : Nat) (j_4 : Nat) (xS_5 : Int32), j_4 < n_2 → j_4 ≤ kB → anF tA j_4 xS_5 = zan tA kB → ∀ (ls : Array Slot), lv_has ls 4 [(3, .int (nI j_4 - 1)), (2, .int xS_5), (0, .ref qt), (1, .int (nI kB))] → W p l e (Rm 2 0 0) s m (List.toArray (α := Value) [.ref qt, .int (nI kB)]) below meth c s.heap [] 0 0 (MQ below (vp_Si (fun r => (r = (zan tA kB)))) (List.toArray (α := Value) [.ref qt, .int (nI kB)]) s 0 0 (fun _ => False)) (F0 m 11 ls []) := by
    intro n_2
    induction n_2 with
    | zero => intro j_4 xS_5 hm9; exact absurd hm9 (Nat.not_lt_zero _)
    | succ n_2 ih_3 =>
      intro j_4 xS_5 hm_8 hj_6 hT_7 ls hl
      refine lv_iload_n hx hb dX4_allNeededBy_11 rfl (lv_at hl 0 rfl) ?_
      refine lv_if_lt (tgt := 38) hx hb dX4_allNeededBy_12 (by decide) (fun c_9 => ?_) (fun c_9 => ?_)
      · have hz_10 : j_4 = 0 := m1_neg (by omega) c_9
        refine lv_iload_n hx hb dX4_allNeededBy_38 rfl (lv_at hl 1 rfl) ?_
        exact endR hx hb hr hlocks rfl (by rw [← hT_7, hz_10]; rfl) dX4_allNeededBy_39
      · obtain ⟨m_11, em_12⟩ := m1_pos c_9
        subst em_12
        rw [nI_pred] at hl
        refine lv_iload_n hx hb dX4_allNeededBy_15 rfl (lv_at hl 1 rfl) ?_
        refine lv_iload_n hx hb dX4_allNeededBy_16 rfl (lv_at hl 0 rfl) ?_
        refine kRi (rSN (As := [.int xS_5, .int (nI m_11)]) (rest := []) ⟨hx, hb, hml, hown, hts⟩ hN (c_X5_has l G cy xS_5 m_11) L_X4_62 (preRS hN hP [] rfl) rfl ⟨Nat.le_of_ble_eq_true rfl, Nat.le_of_ble_eq_true rfl⟩ hl.1 (Nat.le_of_ble_eq_true rfl) dX4_allNeededBy_17 ⟨Nat.le_of_ble_eq_true rfl, Nat.le_of_ble_eq_true rfl⟩) (fun r_13 h_14 => ?_)
        rcases h_14 with ⟨rfl, h_15⟩ | ⟨rfl, h_15⟩
        · refine lv_if_eq (tgt := 32) hx hb dX4_allNeededBy_20 (by decide) (fun h9 => absurd h9 (by decide)) (fun _ => ?_)
          refine lv_iload_n hx hb dX4_allNeededBy_23 rfl (lv_at hl 1 rfl) ?_
          refine lv_aload_n hx hb dX4_allNeededBy_24 rfl (lv_at hl 2 rfl) ?_
          refine va_get (D := G) (ci := 3) (v := .ref qtn) (C := RX4) (T := TX4) (N := 13) hx hb hts iX_X4 hown hK hP 0 rfl rfl 6 (by decide) (hts _ m_t50) (fun _ h9 => h9) rfl dX4_allNeededBy_25 ?_
          refine lv_iload_n hx hb dX4_allNeededBy_28 rfl (lv_at hl 0 rfl) ?_
          refine va_iald hx hb hK hP 2 0 rfl rfl (in8 (by omega)) dX4_allNeededBy_29 ?_
          refine lv_seti (v := (T_ne tA) m_11) (congrArg (T_ne tA) (cl8 (by omega))) ?_
          refine lv_ior hx hb dX4_allNeededBy_30 ?_
          refine lv_istore_n (lv' := [(2, .int (xS_5 ||| ((T_ne tA) m_11))), (3, .int (nI m_11)), (0, .ref qt), (1, .int (nI kB))]) hx hb dX4_allNeededBy_31 rfl hl (by decide) rfl (fun ls => ?_)
          clear hl
          intro hl
          refine lv_iinc (v := nI m_11 - 1) (lv' := [(3, .int (nI m_11 - 1)), (2, .int (xS_5 ||| ((T_ne tA) m_11))), (0, .ref qt), (1, .int (nI kB))]) hx hb dX4_allNeededBy_32 hl (k := 1) rfl (ii_m1 _) (by decide) rfl (fun ls => ?_)
          clear hl
          intro hl
          refine lv_goto (tgt := 11) hx hb dX4_allNeededBy_35 (by decide) ?_
          exact ih_3 m_11 (xS_5 ||| ((T_ne tA) m_11)) (by omega) (by omega) (by rw [← hT_7, an_go h_15]) _ (lv_sub hl [0, 1, 2, 3] rfl)
        · refine lv_if_eq (tgt := 32) hx hb dX4_allNeededBy_20 (by decide) (fun _ => ?_) (fun h9 => absurd (by decide) h9)
          refine lv_iinc (v := nI m_11 - 1) (lv' := [(3, .int (nI m_11 - 1)), (2, .int xS_5), (0, .ref qt), (1, .int (nI kB))]) hx hb dX4_allNeededBy_32 hl (k := 0) rfl (ii_m1 _) (by decide) rfl (fun ls => ?_)
          clear hl
          intro hl
          refine lv_goto (tgt := 11) hx hb dX4_allNeededBy_35 (by decide) ?_
          exact ih_3 m_11 xS_5 (by omega) (by omega) (by rw [← hT_7, an_no h_15]) _ (lv_sub hl [0, 1, 2, 3] rfl)
  exact lp_1 (kB + 1) kB (T_ne tA kB) (Nat.lt_succ_self _) (Nat.le_refl _) rfl ls (lv_sub hl [0, 1, 2, 3] rfl)
set_option maxHeartbeats 4000000 in
set_option maxRecDepth 100000 in
theorem c_X4_allThatNeed (l : Launch) (G : va_G) (cy : Nat → ClassId) (qt : Nat) (tA : TA) (qtw : Nat) (qtn : Nat) (qtg : Nat) (qta : Nat) (qtr : Nat) (qtm : Nat) (qtt : Nat) (qts : Nat) (kB : Nat)  (hB : T_nb tA ≤ 8) (hK2 : kB < T_nb tA) : MR l yX4_allThatNeed cX4_allThatNeed 4 (some .int) 3 G cy [zzO qt 3 [.int (nI (T_nb tA)), .int (nI (T_np tA)), .int (wb (T_wh tA)), .int (wb (T_gn tA)), .int (T_sd tA), .ref qtw, .ref qtn, .ref qtg, .ref qta, .ref qtr, .ref qtm, .ref qtt, .ref qts], zzI cy qtw 8 (T_wo tA), zzI cy qtn 8 (T_ne tA), zzI cy qtg 8 (T_go tA), zzI cy qta 8 (T_ag tA), zzI cy qtr 8 (T_re tA), zzI cy qtm 8 (T_me tA), zzI cy qtt 8 (T_te tA), zzI cy qts 64 (shF (T_kn tA))] [.ref qt, .int (nI kB)] (vp_Si (fun r => (r = (zat tA kB)))) := by
  refine enR RX4 (by decide) rfl (Nat.le_of_ble_eq_true rfl) (fun p e s m below meth c ls hx hb hml hown hts hr hlocks hP hN hl => ?_)
  have hK := hN.1
  replace hl : lv_has ls 4 [(0, .ref qt), (1, .int (nI kB))] := hl
  refine lv_iconst (v := 0) hx hb dX4_allThatNeed_0 (by decide) ?_
  refine lv_istore_n (lv' := [(2, .int 0), (0, .ref qt), (1, .int (nI kB))]) hx hb dX4_allThatNeed_1 rfl hl (by decide) rfl (fun ls => ?_)
  clear hl
  intro hl
  refine lv_iload_n hx hb dX4_allThatNeed_2 rfl (lv_at hl 2 rfl) ?_
  refine lv_iconst (v := 1) hx hb dX4_allThatNeed_3 (by decide) ?_
  refine lv_iadd hx hb dX4_allThatNeed_4 ?_
  refine lv_seti (v := nI (kB + 1)) (nI_1 _) ?_
  refine lv_istore_n (lv' := [(3, .int (nI (kB + 1))), (2, .int 0), (0, .ref qt), (1, .int (nI kB))]) hx hb dX4_allThatNeed_5 rfl hl (by decide) rfl (fun ls => ?_)
  clear hl
  intro hl
  have lp_1 : ∀ (n_2 : Nat) (j_4 : Nat) (xS_5 : Int32), 8 - j_4 < n_2 → j_4 ≤ T_nb tA → kB + 1 ≤ j_4 → xS_5 = atF tA kB j_4 → ∀ (ls : Array Slot), lv_has ls 4 [(3, .int (nI j_4)), (2, .int xS_5), (0, .ref qt), (1, .int (nI kB))] → W p l e (Rm 3 0 0) s m (List.toArray (α := Value) [.ref qt, .int (nI kB)]) below meth c s.heap [] 0 0 (MQ below (vp_Si (fun r => (r = (zat tA kB)))) (List.toArray (α := Value) [.ref qt, .int (nI kB)]) s 0 0 (fun _ => False)) (F0 m 6 ls []) := by
    intro n_2
    induction n_2 with
    | zero => intro j_4 xS_5 hm9; exact absurd hm9 (Nat.not_lt_zero _)
    | succ n_2 ih_3 =>
      intro j_4 xS_5 hm_9 hj_6 hk_7 hxS_8 ls hl
      refine lv_iload_n hx hb dX4_allThatNeed_6 rfl (lv_at hl 0 rfl) ?_
      refine lv_aload_n hx hb dX4_allThatNeed_7 rfl (lv_at hl 2 rfl) ?_
      refine va_get (D := G) (ci := 3) (v := .int (nI (T_nb tA))) (C := RX4) (T := TX4) (N := 13) hx hb hts iX_X4 hown hK hP 0 rfl rfl 0 (by decide) (hts _ m_t29) (fun _ h9 => h9) rfl dX4_allThatNeed_8 ?_
      refine lv_icmp_ge (tgt := 38) hx hb dX4_allThatNeed_11 (by decide) (fun c_10 => ?_) (fun c_10 => ?_)
      · have hlt_11 : j_4 = T_nb tA := Nat.le_antisymm (by omega) (lp_ge rfl rfl (by omega) (by omega) c_10)
        refine lv_iload_n hx hb dX4_allThatNeed_38 rfl (lv_at hl 1 rfl) ?_
        exact endR hx hb hr hlocks rfl (by rw [hxS_8, hlt_11]; rfl) dX4_allThatNeed_39
      · have hlt_12 : j_4 < T_nb tA := lp_lt rfl rfl (by omega) (by omega) c_10
        refine lv_aload_n hx hb dX4_allThatNeed_14 rfl (lv_at hl 2 rfl) ?_
        refine lv_iload_n hx hb dX4_allThatNeed_15 rfl (lv_at hl 0 rfl) ?_
        refine kRi (rV (As := [.int (nI j_4)]) (rest := []) (b := qt) ⟨hx, hb, hml, hown, hts⟩ (c_X4_allNeededBy l G cy qt tA qtw qtn qtg qta qtr qtm qtt qts j_4 (by omega)) L_X4_108 (preRV (q := (RX4, TX4, 13)) hN hP [0, 1, 2, 3, 4, 5, 6, 7, 8] rfl 0 3 rfl rfl) rfl ⟨Nat.le_of_ble_eq_true rfl, Nat.le_of_ble_eq_true rfl⟩ hl.1 (Nat.le_of_ble_eq_true rfl) dX4_allThatNeed_16 ⟨Nat.le_of_ble_eq_true rfl, Nat.le_of_ble_eq_true rfl⟩) (fun r_13 h_14 => ?_)
        subst h_14
        refine lv_iload_n hx hb dX4_allThatNeed_19 rfl (lv_at hl 3 rfl) ?_
        refine kRi (rSN (As := [.int (zan tA j_4), .int (nI kB)]) (rest := []) ⟨hx, hb, hml, hown, hts⟩ hN (c_X5_has l G cy (zan tA j_4) kB) L_X4_62 (preRS hN hP [] rfl) rfl ⟨Nat.le_of_ble_eq_true rfl, Nat.le_of_ble_eq_true rfl⟩ hl.1 (Nat.le_of_ble_eq_true rfl) dX4_allThatNeed_20 ⟨Nat.le_of_ble_eq_true rfl, Nat.le_of_ble_eq_true rfl⟩) (fun r_15 h_16 => ?_)
        rcases h_16 with ⟨rfl, h_17⟩ | ⟨rfl, h_17⟩
        · refine lv_if_eq (tgt := 32) hx hb dX4_allThatNeed_23 (by decide) (fun h9 => absurd h9 (by decide)) (fun _ => ?_)
          refine lv_iload_n hx hb dX4_allThatNeed_26 rfl (lv_at hl 1 rfl) ?_
          refine lv_iconst (v := 1) hx hb dX4_allThatNeed_27 (by decide) ?_
          refine lv_iload_n hx hb dX4_allThatNeed_28 rfl (lv_at hl 0 rfl) ?_
          refine lv_ishl hx hb dX4_allThatNeed_29 ?_
          refine lv_ior hx hb dX4_allThatNeed_30 ?_
          refine lv_istore_n (lv' := [(2, .int (xS_5 ||| (1 <<< ((nI j_4) &&& 31)))), (3, .int (nI j_4)), (0, .ref qt), (1, .int (nI kB))]) hx hb dX4_allThatNeed_31 rfl hl (by decide) rfl (fun ls => ?_)
          clear hl
          intro hl
          refine lv_iinc (v := nI (j_4 + 1)) (lv' := [(3, .int (nI (j_4 + 1))), (2, .int (xS_5 ||| (1 <<< ((nI j_4) &&& 31)))), (0, .ref qt), (1, .int (nI kB))]) hx hb dX4_allThatNeed_32 hl (k := 1) rfl (nI_1 _) (by decide) rfl (fun ls => ?_)
          clear hl
          intro hl
          refine lv_goto (tgt := 6) hx hb dX4_allThatNeed_35 (by decide) ?_
          exact ih_3 (j_4 + 1) (xS_5 ||| (1 <<< ((nI j_4) &&& 31))) (by omega) (by omega) (by omega) (by rw [at_go (by omega) h_17, hxS_8]) _ (lv_sub hl [0, 1, 2, 3] rfl)
        · refine lv_if_eq (tgt := 32) hx hb dX4_allThatNeed_23 (by decide) (fun _ => ?_) (fun h9 => absurd (by decide) h9)
          refine lv_iinc (v := nI (j_4 + 1)) (lv' := [(3, .int (nI (j_4 + 1))), (2, .int xS_5), (0, .ref qt), (1, .int (nI kB))]) hx hb dX4_allThatNeed_32 hl (k := 0) rfl (nI_1 _) (by decide) rfl (fun ls => ?_)
          clear hl
          intro hl
          refine lv_goto (tgt := 6) hx hb dX4_allThatNeed_35 (by decide) ?_
          exact ih_3 (j_4 + 1) xS_5 (by omega) (by omega) (by omega) (by rw [at_no h_17]; exact hxS_8) _ (lv_sub hl [0, 1, 2, 3] rfl)
  exact lp_1 ((8 - (kB + 1)) + 1) (kB + 1) 0 (Nat.lt_succ_self _) (by omega) (Nat.le_refl _) ((at_0 _ _ _ (Nat.le_refl _)).symm) ls (lv_sub hl [0, 1, 2, 3] rfl)
set_option maxHeartbeats 4000000 in
set_option maxRecDepth 100000 in
theorem c_X4_gainByReading (l : Launch) (G : va_G) (cy : Nat → ClassId) (qt : Nat) (tA : TA) (qtw : Nat) (qtn : Nat) (qtg : Nat) (qta : Nat) (qtr : Nat) (qtm : Nat) (qtt : Nat) (qts : Nat) (kB : Nat)  (hPp : T_np tA ≤ 8) (hJ : kB < 8) : MR l yX4_gainByReading cX4_gainByReading 3 (some .int) 4 G cy [zzO qt 3 [.int (nI (T_nb tA)), .int (nI (T_np tA)), .int (wb (T_wh tA)), .int (wb (T_gn tA)), .int (T_sd tA), .ref qtw, .ref qtn, .ref qtg, .ref qta, .ref qtr, .ref qtm, .ref qtt, .ref qts], zzI cy qtw 8 (T_wo tA), zzI cy qtn 8 (T_ne tA), zzI cy qtg 8 (T_go tA), zzI cy qta 8 (T_ag tA), zzI cy qtr 8 (T_re tA), zzI cy qtm 8 (T_me tA), zzI cy qtt 8 (T_te tA), zzI cy qts 64 (shF (T_kn tA))] [.ref qt, .int (nI kB)] (vp_Si (fun r => (r = (zgb tA kB)))) := by
  refine enR RX4 (by decide) rfl (Nat.le_of_ble_eq_true rfl) (fun p e s m below meth c ls hx hb hml hown hts hr hlocks hP hN hl => ?_)
  have hK := hN.1
  replace hl : lv_has ls 3 [(0, .ref qt), (1, .int (nI kB))] := hl
  refine lv_aload_n hx hb dX4_gainByReading_0 rfl (lv_at hl 0 rfl) ?_
  refine lv_iload_n hx hb dX4_gainByReading_1 rfl (lv_at hl 1 rfl) ?_
  refine kRi (rV (As := [.int (nI kB)]) (rest := []) (b := qt) ⟨hx, hb, hml, hown, hts⟩ (c_X4_bestReader l G cy qt tA qtw qtn qtg qta qtr qtm qtt qts kB hPp hJ) L_X4_105 (preRV (q := (RX4, TX4, 13)) hN hP [0, 1, 2, 3, 4, 5, 6, 7, 8] rfl 0 3 rfl rfl) rfl ⟨Nat.le_of_ble_eq_true rfl, Nat.le_of_ble_eq_true rfl⟩ hl.1 (Nat.le_of_ble_eq_true rfl) dX4_gainByReading_2 ⟨Nat.le_of_ble_eq_true rfl, Nat.le_of_ble_eq_true rfl⟩) (fun r_1 h_2 => ?_)
  subst h_2
  refine lv_istore_n (lv' := [(2, .int (zbr tA kB)), (0, .ref qt), (1, .int (nI kB))]) hx hb dX4_gainByReading_5 rfl hl (by decide) rfl (fun ls => ?_)
  clear hl
  intro hl
  refine lv_iload_n hx hb dX4_gainByReading_6 rfl (lv_at hl 0 rfl) ?_
  refine lv_iconst (v := (-1)) hx hb dX4_gainByReading_7 (by decide) ?_
  refine lv_icmp_ne (tgt := 15) hx hb dX4_gainByReading_8 (by decide) (fun c_3 => ?_) (fun c_3 => ?_)
  · obtain ⟨k_4, hk_5, ek_6⟩ : ∃ k : Nat, k < T_np tA ∧ zbr tA kB = nI k := (br_in tA kB (T_np tA)).resolve_left c_3
    rw [ek_6] at hl
    refine lv_aload_n hx hb dX4_gainByReading_15 rfl (lv_at hl 1 rfl) ?_
    refine va_get (D := G) (ci := 3) (v := .ref qtw) (C := RX4) (T := TX4) (N := 13) hx hb hts iX_X4 hown hK hP 0 rfl rfl 5 (by decide) (hts _ m_t48) (fun _ h9 => h9) rfl dX4_gainByReading_16 ?_
    refine lv_iload_n hx hb dX4_gainByReading_19 rfl (lv_at hl 2 rfl) ?_
    refine va_iald hx hb hK hP 1 0 rfl rfl (in8 (by omega)) dX4_gainByReading_20 ?_
    refine lv_seti (v := (T_wo tA) kB) (congrArg (T_wo tA) (cl8 (by omega))) ?_
    refine lv_aload_n hx hb dX4_gainByReading_21 rfl (lv_at hl 1 rfl) ?_
    refine lv_iload_n hx hb dX4_gainByReading_22 rfl (lv_at hl 0 rfl) ?_
    refine lv_iload_n hx hb dX4_gainByReading_23 rfl (lv_at hl 2 rfl) ?_
    refine kRi (rV (As := [.int (nI k_4), .int (nI kB)]) (rest := [.int ((T_wo tA) kB)]) (b := qt) ⟨hx, hb, hml, hown, hts⟩ (c_X4_wouldKnow l G cy qt tA qtw qtn qtg qta qtr qtm qtt qts k_4 kB (by omega) hJ) L_X4_91 (preRV (q := (RX4, TX4, 13)) hN hP [0, 2, 3, 5, 8] rfl 0 3 rfl rfl) rfl ⟨Nat.le_of_ble_eq_true rfl, Nat.le_of_ble_eq_true rfl⟩ hl.1 (Nat.le_of_ble_eq_true rfl) dX4_gainByReading_24 ⟨Nat.le_of_ble_eq_true rfl, Nat.le_of_ble_eq_true rfl⟩) (fun r_7 h_8 => ?_)
    subst h_8
    refine lv_aload_n hx hb dX4_gainByReading_27 rfl (lv_at hl 1 rfl) ?_
    refine lv_iload_n hx hb dX4_gainByReading_28 rfl (lv_at hl 2 rfl) ?_
    refine lv_aload_n hx hb dX4_gainByReading_29 rfl (lv_at hl 1 rfl) ?_
    refine kRi (rV (As := []) (rest := [.int (nI kB), .ref qt, .int (zwk tA k_4 kB), .int ((T_wo tA) kB)]) (b := qt) ⟨hx, hb, hml, hown, hts⟩ (c_X4_setThere l G cy qt tA qtw qtn qtg qta qtr qtm qtt qts hPp) L_X4_78 (preRV (q := (RX4, TX4, 13)) hN hP [0] rfl 0 3 rfl rfl) rfl ⟨Nat.le_of_ble_eq_true rfl, Nat.le_of_ble_eq_true rfl⟩ hl.1 (Nat.le_of_ble_eq_true rfl) dX4_gainByReading_30 ⟨Nat.le_of_ble_eq_true rfl, Nat.le_of_ble_eq_true rfl⟩) (fun r_9 h_10 => ?_)
    subst h_10
    refine kRi (rV (As := [.int (nI kB), .int (zthere tA)]) (rest := [.int (zwk tA k_4 kB), .int ((T_wo tA) kB)]) (b := qt) ⟨hx, hb, hml, hown, hts⟩ (c_X4_mostKnown l G cy qt tA qtw qtn qtg qta qtr qtm qtt qts kB (zthere tA) hPp hJ) L_X4_75 (preRV (q := (RX4, TX4, 13)) hN hP [0, 8] rfl 0 3 rfl rfl) rfl ⟨Nat.le_of_ble_eq_true rfl, Nat.le_of_ble_eq_true rfl⟩ hl.1 (Nat.le_of_ble_eq_true rfl) dX4_gainByReading_33 ⟨Nat.le_of_ble_eq_true rfl, Nat.le_of_ble_eq_true rfl⟩) (fun r_11 h_12 => ?_)
    subst h_12
    refine lv_isub hx hb dX4_gainByReading_36 ?_
    refine lv_imul hx hb dX4_gainByReading_37 ?_
    exact endR hx hb hr hlocks rfl (by rw [zgb, if_neg c_3, ek_6, nI_clamp (by omega)]) dX4_gainByReading_38
  · refine lv_iconst (v := 0) hx hb dX4_gainByReading_11 (by decide) ?_
    refine lv_goto (tgt := 38) hx hb dX4_gainByReading_12 (by decide) ?_
    exact endR hx hb hr hlocks rfl (by rw [zgb, if_pos c_3]) dX4_gainByReading_38
set_option maxHeartbeats 4000000 in
set_option maxRecDepth 100000 in
theorem c_X4_drawBelow20 (l : Launch) (G : va_G) (cy : Nat → ClassId) (sz : Nat) (qt : Nat) (tA : TA) (qtw : Nat) (qtn : Nat) (qtg : Nat) (qta : Nat) (qtr : Nat) (qtm : Nat) (qtt : Nat) (qts : Nat)   : MW l yX4_drawBelow20 cX4_drawBelow20 1 (some .int) 1 0 0 G cy [zzO qt 3 [.int (nI (T_nb tA)), .int (nI (T_np tA)), .int (wb (T_wh tA)), .int (wb (T_gn tA)), .int (T_sd tA), .ref qtw, .ref qtn, .ref qtg, .ref qta, .ref qtr, .ref qtm, .ref qtt, .ref qts], zzI cy qtw 8 (T_wo tA), zzI cy qtn 8 (T_ne tA), zzI cy qtg 8 (T_go tA), zzI cy qta 8 (T_ag tA), zzI cy qtr 8 (T_re tA), zzI cy qtm 8 (T_me tA), zzI cy qtt 8 (T_te tA), zzI cy qts 64 (shF (T_kn tA))] sz [.ref qt] (Wi G (fun r u => u = [zzO qt 3 [.int (nI (T_nb (T_setsd tA (ltS (T_sd tA))))), .int (nI (T_np (T_setsd tA (ltS (T_sd tA))))), .int (wb (T_wh (T_setsd tA (ltS (T_sd tA))))), .int (wb (T_gn (T_setsd tA (ltS (T_sd tA))))), .int (T_sd (T_setsd tA (ltS (T_sd tA)))), .ref qtw, .ref qtn, .ref qtg, .ref qta, .ref qtr, .ref qtm, .ref qtt, .ref qts], zzI cy qtw 8 (T_wo (T_setsd tA (ltS (T_sd tA)))), zzI cy qtn 8 (T_ne (T_setsd tA (ltS (T_sd tA)))), zzI cy qtg 8 (T_go (T_setsd tA (ltS (T_sd tA)))), zzI cy qta 8 (T_ag (T_setsd tA (ltS (T_sd tA)))), zzI cy qtr 8 (T_re (T_setsd tA (ltS (T_sd tA)))), zzI cy qtm 8 (T_me (T_setsd tA (ltS (T_sd tA)))), zzI cy qtt 8 (T_te (T_setsd tA (ltS (T_sd tA)))), zzI cy qts 64 (shF (T_kn (T_setsd tA (ltS (T_sd tA)))))] ∧ ((r = (ltR (T_sd tA)))))) := by
  refine enW RX4 (by decide) rfl (Nat.le_of_ble_eq_true rfl) (fun p e s m below meth c ls A hx hb hml hown hts hr hlocks hP hN hl hin hD hA hS => ?_)
  have hin : meth.name = _ := hin
  have hK := hN.1
  replace hl : lv_has ls 1 [(0, .ref qt)] := hl
  refine lv_aload_n hx hb dX4_drawBelow20_0 rfl (lv_at hl 0 rfl) ?_
  refine lv_aload_n hx hb dX4_drawBelow20_1 rfl (lv_at hl 0 rfl) ?_
  refine va_get (D := G) (ci := 3) (v := .int (T_sd tA)) (C := RX4) (T := TX4) (N := 13) hx hb hts iX_X4 hown hK hP 0 rfl rfl 4 (by decide) (hts _ m_t46) (fun _ h9 => h9) rfl dX4_drawBelow20_2 ?_
  refine lv_ldc hx hb hown (hts _ m_t810) dX4_drawBelow20_5 ?_
  refine lv_imul hx hb dX4_drawBelow20_7 ?_
  refine lv_sipush (v := 12345) hx hb dX4_drawBelow20_8 (by decide) ?_
  refine lv_iadd hx hb dX4_drawBelow20_11 ?_
  refine lv_seti (v := ltS (T_sd tA)) (ltS_eq _) ?_
  refine va_put (D := G) (ci := 3) (v := .int (ltS (T_sd tA))) (ty := .int) (C := RX4) (T := TX4) (N := 13) hx hb hts iX_X4 tyX4 tyX4_ok nmX4 hown hK hP hD hS 0 rfl rfl 4 (by decide) (hts _ m_t46) (fun _ h9 => h9) rfl (by decide +kernel) rfl rfl (Nat.le_of_ble_eq_true rfl) dX4_drawBelow20_12 (fun H locs => ?_)
  clear hP hD hS
  intro hP hD hS
  have hPD := pd_as [zzO qt 3 [.int (nI (T_nb tA)), .int (nI (T_np tA)), .int (wb (T_wh tA)), .int (wb (T_gn tA)), .int (ltS (T_sd tA)), .ref qtw, .ref qtn, .ref qtg, .ref qta, .ref qtr, .ref qtm, .ref qtt, .ref qts], zzI cy qtw 8 (T_wo tA), zzI cy qtn 8 (T_ne tA), zzI cy qtg 8 (T_go tA), zzI cy qta 8 (T_ag tA), zzI cy qtr 8 (T_re tA), zzI cy qtm 8 (T_me tA), zzI cy qtt 8 (T_te tA), zzI cy qts 64 (shF (T_kn tA))] hP hD rfl
  clear hP hD
  obtain ⟨hP, hD⟩ := hPD
  refine lv_aload_n hx hb dX4_drawBelow20_15 rfl (lv_at hl 0 rfl) ?_
  refine va_get (D := G) (ci := 3) (v := .int (ltS (T_sd tA))) (C := RX4) (T := TX4) (N := 13) hx hb hts iX_X4 hown hK hP 0 rfl rfl 4 (by decide) (hts _ m_t46) (fun _ h9 => h9) rfl dX4_drawBelow20_16 ?_
  refine lv_bipush (v := 16) hx hb dX4_drawBelow20_19 (by decide) ?_
  refine lv_iushr (v := ((ltS (T_sd tA)).toUInt32 >>> (Int32.toUInt32 16 &&& Int32.toUInt32 31)).toInt32) hx hb dX4_drawBelow20_21 (rfl) ?_
  refine lv_seti (v := ltD (T_sd tA)) (ltD_eq _) ?_
  refine lv_bipush (v := 20) hx hb dX4_drawBelow20_22 (by decide) ?_
  refine lv_irem hx hb dX4_drawBelow20_24 (by decide) ?_
  refine lv_seti (v := ltR (T_sd tA)) (ltR_eq _) ?_
  exact endW (u := [zzO qt 3 [.int (nI (T_nb tA)), .int (nI (T_np tA)), .int (wb (T_wh tA)), .int (wb (T_gn tA)), .int (ltS (T_sd tA)), .ref qtw, .ref qtn, .ref qtg, .ref qta, .ref qtr, .ref qtm, .ref qtt, .ref qts], zzI cy qtw 8 (T_wo tA), zzI cy qtn 8 (T_ne tA), zzI cy qtg 8 (T_go tA), zzI cy qta 8 (T_ag tA), zzI cy qtr 8 (T_re tA), zzI cy qtm 8 (T_me tA), zzI cy qtt 8 (T_te tA), zzI cy qts 64 (shF (T_kn tA))]) hx hb hr hlocks rfl (hP.sub [0, 1, 2, 3, 4, 5, 6, 7, 8] rfl) (hD.sub [0, 1, 2, 3, 4, 5, 6, 7, 8] (by decide +kernel) rfl) hS ⟨rfl, rfl⟩ dX4_drawBelow20_25
set_option maxHeartbeats 4000000 in
set_option maxRecDepth 100000 in
theorem c_X4_forget (l : Launch) (G : va_G) (cy : Nat → ClassId) (sz : Nat) (qt : Nat) (tA : TA) (qtw : Nat) (qtn : Nat) (qtg : Nat) (qta : Nat) (qtr : Nat) (qtm : Nat) (qtt : Nat) (qts : Nat) (kI : Nat)  (hI : kI < 8) (hB : T_nb tA ≤ 8) : MW l yX4_forget cX4_forget 4 none 3 0 0 G cy [zzO qt 3 [.int (nI (T_nb tA)), .int (nI (T_np tA)), .int (wb (T_wh tA)), .int (wb (T_gn tA)), .int (T_sd tA), .ref qtw, .ref qtn, .ref qtg, .ref qta, .ref qtr, .ref qtm, .ref qtt, .ref qts], zzI cy qtw 8 (T_wo tA), zzI cy qtn 8 (T_ne tA), zzI cy qtg 8 (T_go tA), zzI cy qta 8 (T_ag tA), zzI cy qtr 8 (T_re tA), zzI cy qtm 8 (T_me tA), zzI cy qtt 8 (T_te tA), zzI cy qts 64 (shF (T_kn tA))] sz [.ref qt, .int (nI kI)] (Wv G (fun u => u = [zzO qt 3 [.int (nI (T_nb (fgT tA kI))), .int (nI (T_np (fgT tA kI))), .int (wb (T_wh (fgT tA kI))), .int (wb (T_gn (fgT tA kI))), .int (T_sd (fgT tA kI)), .ref qtw, .ref qtn, .ref qtg, .ref qta, .ref qtr, .ref qtm, .ref qtt, .ref qts], zzI cy qtw 8 (T_wo (fgT tA kI)), zzI cy qtn 8 (T_ne (fgT tA kI)), zzI cy qtg 8 (T_go (fgT tA kI)), zzI cy qta 8 (T_ag (fgT tA kI)), zzI cy qtr 8 (T_re (fgT tA kI)), zzI cy qtm 8 (T_me (fgT tA kI)), zzI cy qtt 8 (T_te (fgT tA kI)), zzI cy qts 64 (shF (T_kn (fgT tA kI)))])) := by
  refine enW RX4 (by decide) rfl (Nat.le_of_ble_eq_true rfl) (fun p e s m below meth c ls A hx hb hml hown hts hr hlocks hP hN hl hin hD hA hS => ?_)
  have hin : meth.name = _ := hin
  have hK := hN.1
  replace hl : lv_has ls 4 [(0, .ref qt), (1, .int (nI kI))] := hl
  refine lv_aload_n hx hb dX4_forget_0 rfl (lv_at hl 0 rfl) ?_
  refine va_get (D := G) (ci := 3) (v := .int (wb (T_gn tA))) (C := RX4) (T := TX4) (N := 13) hx hb hts iX_X4 hown hK hP 0 rfl rfl 3 (by decide) (hts _ m_t43) (fun _ h9 => h9) rfl dX4_forget_1 ?_
  refine lv_iload_n hx hb dX4_forget_4 rfl (lv_at hl 1 rfl) ?_
  refine kRi (rSN (As := [.int (wb (T_gn tA)), .int (nI kI)]) (rest := []) ⟨hx, hb, hml, hown, hts⟩ hN (c_X5_has l G cy (wb (T_gn tA)) kI) L_X4_62 (preRS hN hP [] rfl) rfl ⟨Nat.le_of_ble_eq_true rfl, Nat.le_of_ble_eq_true rfl⟩ hl.1 (Nat.le_of_ble_eq_true rfl) dX4_forget_5 ⟨Nat.le_of_ble_eq_true rfl, Nat.le_of_ble_eq_true rfl⟩) (fun r_1 h_2 => ?_)
  rcases h_2 with ⟨rfl, h_3⟩ | ⟨rfl, h_3⟩
  · rw [bit_wb _ (by omega)] at h_3
    refine lv_if_eq (tgt := 15) hx hb dX4_forget_8 (by decide) (fun h9 => absurd h9 (by decide)) (fun _ => ?_)
    refine lv_iconst (v := 0) hx hb dX4_forget_11 (by decide) ?_
    refine lv_goto (tgt := 24) hx hb dX4_forget_12 (by decide) ?_
    refine lv_istore_n (lv' := [(2, .int 0), (0, .ref qt), (1, .int (nI kI))]) hx hb dX4_forget_24 rfl hl (by decide) rfl (fun ls => ?_)
    clear hl
    intro hl
    refine lv_iconst (v := 0) hx hb dX4_forget_25 (by decide) ?_
    refine lv_istore_n (lv' := [(3, .int 0), (2, .int 0), (0, .ref qt), (1, .int (nI kI))]) hx hb dX4_forget_26 rfl hl (by decide) rfl (fun ls => ?_)
    clear hl
    intro hl
    have lp_5 : ∀ (n_6 : Nat) (j_8 : Nat) (tJ_9 : TA), 8 - j_8 < n_6 → j_8 ≤ T_nb tA → tJ_9 = T_setkn tA (fgK (T_kn tA) kI 0 j_8) → ∀ (H : Heap) (locs : List Loc) (ls : Array Slot), va_P G CL [zzO qt 3 [.int (nI (T_nb tJ_9)), .int (nI (T_np tJ_9)), .int (wb (T_wh tJ_9)), .int (wb (T_gn tJ_9)), .int (T_sd tJ_9), .ref qtw, .ref qtn, .ref qtg, .ref qta, .ref qtr, .ref qtm, .ref qtt, .ref qts], zzI cy qtw 8 (T_wo tJ_9), zzI cy qtn 8 (T_ne tJ_9), zzI cy qtg 8 (T_go tJ_9), zzI cy qta 8 (T_ag tJ_9), zzI cy qtr 8 (T_re tJ_9), zzI cy qtm 8 (T_me tJ_9), zzI cy qtt 8 (T_te tJ_9), zzI cy qts 64 (shF (T_kn tJ_9))] H → va_D A [zzO qt 3 [.int (nI (T_nb tJ_9)), .int (nI (T_np tJ_9)), .int (wb (T_wh tJ_9)), .int (wb (T_gn tJ_9)), .int (T_sd tJ_9), .ref qtw, .ref qtn, .ref qtg, .ref qta, .ref qtr, .ref qtm, .ref qtt, .ref qts], zzI cy qtw 8 (T_wo tJ_9), zzI cy qtn 8 (T_ne tJ_9), zzI cy qtg 8 (T_go tJ_9), zzI cy qta 8 (T_ag tJ_9), zzI cy qtr 8 (T_re tJ_9), zzI cy qtm 8 (T_me tJ_9), zzI cy qtt 8 (T_te tJ_9), zzI cy qts 64 (shF (T_kn tJ_9))] → va_S A s.heap H locs → lv_has ls 4 [(3, .int (nI j_8)), (2, .int 0), (0, .ref qt), (1, .int (nI kI))] → W p l e (Rm 3 0 0) s m (List.toArray (α := Value) [.ref qt, .int (nI kI)]) below meth c H locs 0 0 (MQ below ((Wv G (fun u => u = [zzO qt 3 [.int (nI (T_nb (fgT tA kI))), .int (nI (T_np (fgT tA kI))), .int (wb (T_wh (fgT tA kI))), .int (wb (T_gn (fgT tA kI))), .int (T_sd (fgT tA kI)), .ref qtw, .ref qtn, .ref qtg, .ref qta, .ref qtr, .ref qtm, .ref qtt, .ref qts], zzI cy qtw 8 (T_wo (fgT tA kI)), zzI cy qtn 8 (T_ne (fgT tA kI)), zzI cy qtg 8 (T_go (fgT tA kI)), zzI cy qta 8 (T_ag (fgT tA kI)), zzI cy qtr 8 (T_re (fgT tA kI)), zzI cy qtm 8 (T_me (fgT tA kI)), zzI cy qtt 8 (T_te (fgT tA kI)), zzI cy qts 64 (shF (T_kn (fgT tA kI)))])) A) (List.toArray (α := Value) [.ref qt, .int (nI kI)]) s 0 0 A) (F0 m 27 ls []) := by
      intro n_6
      induction n_6 with
      | zero => intro j_8 tJ_9 hm9; exact absurd hm9 (Nat.not_lt_zero _)
      | succ n_6 ih_7 =>
        intro j_8 tJ_9 hm_12 hj_10 htJ_11 H locs ls hP hD hS hl
        refine lv_iload_n hx hb dX4_forget_27 rfl (lv_at hl 0 rfl) ?_
        refine lv_aload_n hx hb dX4_forget_28 rfl (lv_at hl 2 rfl) ?_
        refine va_get (D := G) (ci := 3) (v := .int (nI (T_nb tJ_9))) (C := RX4) (T := TX4) (N := 13) hx hb hts iX_X4 hown hK hP 0 rfl rfl 0 (by decide) (hts _ m_t29) (fun _ h9 => h9) rfl dX4_forget_29 ?_
        refine lv_icmp_ge (tgt := 58) hx hb dX4_forget_32 (by decide) (fun c_13 => ?_) (fun c_13 => ?_)
        · have hlt_14e : T_nb tJ_9 = T_nb tA := by rw [htJ_11]
          have hlt_14 : j_8 = T_nb tA := Nat.le_antisymm (by omega) (by rw [hlt_14e] at c_13; exact lp_ge rfl rfl (by omega) (by omega) c_13)
          have e9_15 : tJ_9 = fgT tA kI := by rw [htJ_11, hlt_14, fgT, if_pos h_3]
          subst e9_15
          exact endV (u := [zzO qt 3 [.int (nI (T_nb (fgT tA kI))), .int (nI (T_np (fgT tA kI))), .int (wb (T_wh (fgT tA kI))), .int (wb (T_gn (fgT tA kI))), .int (T_sd (fgT tA kI)), .ref qtw, .ref qtn, .ref qtg, .ref qta, .ref qtr, .ref qtm, .ref qtt, .ref qts], zzI cy qtw 8 (T_wo (fgT tA kI)), zzI cy qtn 8 (T_ne (fgT tA kI)), zzI cy qtg 8 (T_go (fgT tA kI)), zzI cy qta 8 (T_ag (fgT tA kI)), zzI cy qtr 8 (T_re (fgT tA kI)), zzI cy qtm 8 (T_me (fgT tA kI)), zzI cy qtt 8 (T_te (fgT tA kI)), zzI cy qts 64 (shF (T_kn (fgT tA kI)))]) hx hb hr hlocks (hP.sub [0, 1, 2, 3, 4, 5, 6, 7, 8] rfl) (hD.sub [0, 1, 2, 3, 4, 5, 6, 7, 8] (by decide +kernel) rfl) hS rfl dX4_forget_58
        · have hlt_16e : T_nb tJ_9 = T_nb tA := by rw [htJ_11]
          have hlt_16 : j_8 < T_nb tA := by rw [hlt_16e] at c_13; exact lp_lt rfl rfl (by omega) (by omega) c_13
          refine lv_aload_n hx hb dX4_forget_35 rfl (lv_at hl 2 rfl) ?_
          refine lv_iload_n hx hb dX4_forget_36 rfl (lv_at hl 3 rfl) ?_
          refine lv_iload_n hx hb dX4_forget_37 rfl (lv_at hl 0 rfl) ?_
          refine lv_aload_n hx hb dX4_forget_38 rfl (lv_at hl 2 rfl) ?_
          refine lv_iload_n hx hb dX4_forget_39 rfl (lv_at hl 3 rfl) ?_
          refine lv_iload_n hx hb dX4_forget_40 rfl (lv_at hl 0 rfl) ?_
          refine kRi (rV (As := [.int (nI kI), .int (nI j_8)]) (rest := [.int (nI j_8), .int (nI kI), .ref qt]) (b := qt) ⟨hx, hb, hml, hown, hts⟩ (c_X4_knows l G cy qt tJ_9 qtw qtn qtg qta qtr qtm qtt qts kI j_8 hI (by omega)) L_X4_66 (preRV (q := (RX4, TX4, 13)) hN hP [0, 8] rfl 0 3 rfl rfl) rfl ⟨Nat.le_of_ble_eq_true rfl, Nat.le_of_ble_eq_true rfl⟩ hl.1 (Nat.le_of_ble_eq_true rfl) dX4_forget_41 ⟨Nat.le_of_ble_eq_true rfl, Nat.le_of_ble_eq_true rfl⟩) (fun r_17 h_18 => ?_)
          subst h_18
          refine lv_iload_n hx hb dX4_forget_44 rfl (lv_at hl 1 rfl) ?_
          refine lv_imul hx hb dX4_forget_45 ?_
          refine lv_bipush (v := 100) hx hb dX4_forget_46 (by decide) ?_
          refine lv_idiv hx hb dX4_forget_48 (by decide) ?_
          refine cVv (As := [.int (nI kI), .int (nI j_8), .int (((T_kn tJ_9 kI j_8) * 0) / 100)]) (rest := []) (b := qt) (q := (RX4, TX4, 13)) ⟨hx, hb, hml, hown, hts⟩ (c_X4_learn l G cy (H).size qt tJ_9 qtw qtn qtg qta qtr qtm qtt qts kI j_8 (((T_kn tJ_9 kI j_8) * 0) / 100) hI (by omega)) L_X4_94 hN hP hD hS hA [0, 8] [false, true, true, true, true, true, true, true, false] rfl (by decide +kernel) rfl 0 3 rfl rfl rfl ⟨Nat.le_of_ble_eq_true rfl, Nat.le_of_ble_eq_true rfl⟩ hl.1 (Nat.le_of_ble_eq_true rfl) dX4_forget_49 ⟨Nat.le_of_ble_eq_true rfl, Nat.le_of_ble_eq_true rfl⟩ (fun u_21 H locs h_20 => ?_)
          clear hP hD hS
          intro hP hD hS
          subst h_20
          have hPD := pd_as [zzI cy qtw 8 (T_wo (T_setkn tJ_9 (updM (T_kn tJ_9) kI j_8 (((T_kn tJ_9 kI j_8) * 0) / 100)))), zzI cy qtn 8 (T_ne (T_setkn tJ_9 (updM (T_kn tJ_9) kI j_8 (((T_kn tJ_9 kI j_8) * 0) / 100)))), zzI cy qtg 8 (T_go (T_setkn tJ_9 (updM (T_kn tJ_9) kI j_8 (((T_kn tJ_9 kI j_8) * 0) / 100)))), zzI cy qta 8 (T_ag (T_setkn tJ_9 (updM (T_kn tJ_9) kI j_8 (((T_kn tJ_9 kI j_8) * 0) / 100)))), zzI cy qtr 8 (T_re (T_setkn tJ_9 (updM (T_kn tJ_9) kI j_8 (((T_kn tJ_9 kI j_8) * 0) / 100)))), zzI cy qtm 8 (T_me (T_setkn tJ_9 (updM (T_kn tJ_9) kI j_8 (((T_kn tJ_9 kI j_8) * 0) / 100)))), zzI cy qtt 8 (T_te (T_setkn tJ_9 (updM (T_kn tJ_9) kI j_8 (((T_kn tJ_9 kI j_8) * 0) / 100)))), zzO qt 3 [.int (nI (T_nb (T_setkn tJ_9 (updM (T_kn tJ_9) kI j_8 (((T_kn tJ_9 kI j_8) * 0) / 100))))), .int (nI (T_np (T_setkn tJ_9 (updM (T_kn tJ_9) kI j_8 (((T_kn tJ_9 kI j_8) * 0) / 100))))), .int (wb (T_wh (T_setkn tJ_9 (updM (T_kn tJ_9) kI j_8 (((T_kn tJ_9 kI j_8) * 0) / 100))))), .int (wb (T_gn (T_setkn tJ_9 (updM (T_kn tJ_9) kI j_8 (((T_kn tJ_9 kI j_8) * 0) / 100))))), .int (T_sd (T_setkn tJ_9 (updM (T_kn tJ_9) kI j_8 (((T_kn tJ_9 kI j_8) * 0) / 100)))), .ref qtw, .ref qtn, .ref qtg, .ref qta, .ref qtr, .ref qtm, .ref qtt, .ref qts], zzI cy qts 64 (shF (T_kn (T_setkn tJ_9 (updM (T_kn tJ_9) kI j_8 (((T_kn tJ_9 kI j_8) * 0) / 100)))))] hP hD rfl
          clear hP hD
          obtain ⟨hP, hD⟩ := hPD
          refine lv_iinc (v := nI (j_8 + 1)) (lv' := [(3, .int (nI (j_8 + 1))), (2, .int 0), (0, .ref qt), (1, .int (nI kI))]) hx hb dX4_forget_52 hl (k := 0) rfl (nI_1 _) (by decide) rfl (fun ls => ?_)
          clear hl
          intro hl
          refine lv_goto (tgt := 27) hx hb dX4_forget_55 (by decide) ?_
          exact ih_7 (j_8 + 1) (T_setkn tJ_9 (updM (T_kn tJ_9) kI j_8 (((T_kn tJ_9 kI j_8) * 0) / 100))) (by omega) (by omega) (by rw [htJ_11]; rfl) _ _ _ (hP.sub [7, 0, 1, 2, 3, 4, 5, 6, 8] rfl) (hD.sub [7, 0, 1, 2, 3, 4, 5, 6, 8] (by decide +kernel) rfl) hS (lv_sub hl [0, 1, 2, 3] rfl)
    exact lp_5 ((8 - 0) + 1) 0 tA (Nat.lt_succ_self _) (Nat.zero_le _) rfl _ _ ls hP hD hS (lv_sub hl [0, 1, 2, 3] rfl)
  · rw [bit_wb _ (by omega)] at h_3
    refine lv_if_eq (tgt := 15) hx hb dX4_forget_8 (by decide) (fun _ => ?_) (fun h9 => absurd (by decide) h9)
    refine lv_bipush (v := 90) hx hb dX4_forget_15 (by decide) ?_
    refine lv_aload_n hx hb dX4_forget_17 rfl (lv_at hl 0 rfl) ?_
    refine va_get (D := G) (ci := 3) (v := .ref qtm) (C := RX4) (T := TX4) (N := 13) hx hb hts iX_X4 hown hK hP 0 rfl rfl 10 (by decide) (hts _ m_t60) (fun _ h9 => h9) rfl dX4_forget_18 ?_
    refine lv_iload_n hx hb dX4_forget_21 rfl (lv_at hl 1 rfl) ?_
    refine va_iald hx hb hK hP 6 0 rfl rfl (in8 (by omega)) dX4_forget_22 ?_
    refine lv_seti (v := (T_me tA) kI) (congrArg (T_me tA) (cl8 (by omega))) ?_
    refine lv_iadd hx hb dX4_forget_23 ?_
    refine lv_istore_n (lv' := [(2, .int (90 + ((T_me tA) kI))), (0, .ref qt), (1, .int (nI kI))]) hx hb dX4_forget_24 rfl hl (by decide) rfl (fun ls => ?_)
    clear hl
    intro hl
    refine lv_iconst (v := 0) hx hb dX4_forget_25 (by decide) ?_
    refine lv_istore_n (lv' := [(3, .int 0), (2, .int (90 + ((T_me tA) kI))), (0, .ref qt), (1, .int (nI kI))]) hx hb dX4_forget_26 rfl hl (by decide) rfl (fun ls => ?_)
    clear hl
    intro hl
    have lp_23 : ∀ (n_24 : Nat) (j_26 : Nat) (tJ_27 : TA), 8 - j_26 < n_24 → j_26 ≤ T_nb tA → tJ_27 = T_setkn tA (fgK (T_kn tA) kI (90 + ((T_me tA) kI)) j_26) → ∀ (H : Heap) (locs : List Loc) (ls : Array Slot), va_P G CL [zzO qt 3 [.int (nI (T_nb tJ_27)), .int (nI (T_np tJ_27)), .int (wb (T_wh tJ_27)), .int (wb (T_gn tJ_27)), .int (T_sd tJ_27), .ref qtw, .ref qtn, .ref qtg, .ref qta, .ref qtr, .ref qtm, .ref qtt, .ref qts], zzI cy qtw 8 (T_wo tJ_27), zzI cy qtn 8 (T_ne tJ_27), zzI cy qtg 8 (T_go tJ_27), zzI cy qta 8 (T_ag tJ_27), zzI cy qtr 8 (T_re tJ_27), zzI cy qtm 8 (T_me tJ_27), zzI cy qtt 8 (T_te tJ_27), zzI cy qts 64 (shF (T_kn tJ_27))] H → va_D A [zzO qt 3 [.int (nI (T_nb tJ_27)), .int (nI (T_np tJ_27)), .int (wb (T_wh tJ_27)), .int (wb (T_gn tJ_27)), .int (T_sd tJ_27), .ref qtw, .ref qtn, .ref qtg, .ref qta, .ref qtr, .ref qtm, .ref qtt, .ref qts], zzI cy qtw 8 (T_wo tJ_27), zzI cy qtn 8 (T_ne tJ_27), zzI cy qtg 8 (T_go tJ_27), zzI cy qta 8 (T_ag tJ_27), zzI cy qtr 8 (T_re tJ_27), zzI cy qtm 8 (T_me tJ_27), zzI cy qtt 8 (T_te tJ_27), zzI cy qts 64 (shF (T_kn tJ_27))] → va_S A s.heap H locs → lv_has ls 4 [(3, .int (nI j_26)), (2, .int (90 + ((T_me tA) kI))), (0, .ref qt), (1, .int (nI kI))] → W p l e (Rm 3 0 0) s m (List.toArray (α := Value) [.ref qt, .int (nI kI)]) below meth c H locs 0 0 (MQ below ((Wv G (fun u => u = [zzO qt 3 [.int (nI (T_nb (fgT tA kI))), .int (nI (T_np (fgT tA kI))), .int (wb (T_wh (fgT tA kI))), .int (wb (T_gn (fgT tA kI))), .int (T_sd (fgT tA kI)), .ref qtw, .ref qtn, .ref qtg, .ref qta, .ref qtr, .ref qtm, .ref qtt, .ref qts], zzI cy qtw 8 (T_wo (fgT tA kI)), zzI cy qtn 8 (T_ne (fgT tA kI)), zzI cy qtg 8 (T_go (fgT tA kI)), zzI cy qta 8 (T_ag (fgT tA kI)), zzI cy qtr 8 (T_re (fgT tA kI)), zzI cy qtm 8 (T_me (fgT tA kI)), zzI cy qtt 8 (T_te (fgT tA kI)), zzI cy qts 64 (shF (T_kn (fgT tA kI)))])) A) (List.toArray (α := Value) [.ref qt, .int (nI kI)]) s 0 0 A) (F0 m 27 ls []) := by
      intro n_24
      induction n_24 with
      | zero => intro j_26 tJ_27 hm9; exact absurd hm9 (Nat.not_lt_zero _)
      | succ n_24 ih_25 =>
        intro j_26 tJ_27 hm_30 hj_28 htJ_29 H locs ls hP hD hS hl
        refine lv_iload_n hx hb dX4_forget_27 rfl (lv_at hl 0 rfl) ?_
        refine lv_aload_n hx hb dX4_forget_28 rfl (lv_at hl 2 rfl) ?_
        refine va_get (D := G) (ci := 3) (v := .int (nI (T_nb tJ_27))) (C := RX4) (T := TX4) (N := 13) hx hb hts iX_X4 hown hK hP 0 rfl rfl 0 (by decide) (hts _ m_t29) (fun _ h9 => h9) rfl dX4_forget_29 ?_
        refine lv_icmp_ge (tgt := 58) hx hb dX4_forget_32 (by decide) (fun c_31 => ?_) (fun c_31 => ?_)
        · have hlt_32e : T_nb tJ_27 = T_nb tA := by rw [htJ_29]
          have hlt_32 : j_26 = T_nb tA := Nat.le_antisymm (by omega) (by rw [hlt_32e] at c_31; exact lp_ge rfl rfl (by omega) (by omega) c_31)
          have e9_33 : tJ_27 = fgT tA kI := by rw [htJ_29, hlt_32, fgT, if_neg (by rw [h_3]; decide)]
          subst e9_33
          exact endV (u := [zzO qt 3 [.int (nI (T_nb (fgT tA kI))), .int (nI (T_np (fgT tA kI))), .int (wb (T_wh (fgT tA kI))), .int (wb (T_gn (fgT tA kI))), .int (T_sd (fgT tA kI)), .ref qtw, .ref qtn, .ref qtg, .ref qta, .ref qtr, .ref qtm, .ref qtt, .ref qts], zzI cy qtw 8 (T_wo (fgT tA kI)), zzI cy qtn 8 (T_ne (fgT tA kI)), zzI cy qtg 8 (T_go (fgT tA kI)), zzI cy qta 8 (T_ag (fgT tA kI)), zzI cy qtr 8 (T_re (fgT tA kI)), zzI cy qtm 8 (T_me (fgT tA kI)), zzI cy qtt 8 (T_te (fgT tA kI)), zzI cy qts 64 (shF (T_kn (fgT tA kI)))]) hx hb hr hlocks (hP.sub [0, 1, 2, 3, 4, 5, 6, 7, 8] rfl) (hD.sub [0, 1, 2, 3, 4, 5, 6, 7, 8] (by decide +kernel) rfl) hS rfl dX4_forget_58
        · have hlt_34e : T_nb tJ_27 = T_nb tA := by rw [htJ_29]
          have hlt_34 : j_26 < T_nb tA := by rw [hlt_34e] at c_31; exact lp_lt rfl rfl (by omega) (by omega) c_31
          refine lv_aload_n hx hb dX4_forget_35 rfl (lv_at hl 2 rfl) ?_
          refine lv_iload_n hx hb dX4_forget_36 rfl (lv_at hl 3 rfl) ?_
          refine lv_iload_n hx hb dX4_forget_37 rfl (lv_at hl 0 rfl) ?_
          refine lv_aload_n hx hb dX4_forget_38 rfl (lv_at hl 2 rfl) ?_
          refine lv_iload_n hx hb dX4_forget_39 rfl (lv_at hl 3 rfl) ?_
          refine lv_iload_n hx hb dX4_forget_40 rfl (lv_at hl 0 rfl) ?_
          refine kRi (rV (As := [.int (nI kI), .int (nI j_26)]) (rest := [.int (nI j_26), .int (nI kI), .ref qt]) (b := qt) ⟨hx, hb, hml, hown, hts⟩ (c_X4_knows l G cy qt tJ_27 qtw qtn qtg qta qtr qtm qtt qts kI j_26 hI (by omega)) L_X4_66 (preRV (q := (RX4, TX4, 13)) hN hP [0, 8] rfl 0 3 rfl rfl) rfl ⟨Nat.le_of_ble_eq_true rfl, Nat.le_of_ble_eq_true rfl⟩ hl.1 (Nat.le_of_ble_eq_true rfl) dX4_forget_41 ⟨Nat.le_of_ble_eq_true rfl, Nat.le_of_ble_eq_true rfl⟩) (fun r_35 h_36 => ?_)
          subst h_36
          refine lv_iload_n hx hb dX4_forget_44 rfl (lv_at hl 1 rfl) ?_
          refine lv_imul hx hb dX4_forget_45 ?_
          refine lv_bipush (v := 100) hx hb dX4_forget_46 (by decide) ?_
          refine lv_idiv hx hb dX4_forget_48 (by decide) ?_
          refine cVv (As := [.int (nI kI), .int (nI j_26), .int (((T_kn tJ_27 kI j_26) * (90 + ((T_me tA) kI))) / 100)]) (rest := []) (b := qt) (q := (RX4, TX4, 13)) ⟨hx, hb, hml, hown, hts⟩ (c_X4_learn l G cy (H).size qt tJ_27 qtw qtn qtg qta qtr qtm qtt qts kI j_26 (((T_kn tJ_27 kI j_26) * (90 + ((T_me tA) kI))) / 100) hI (by omega)) L_X4_94 hN hP hD hS hA [0, 8] [false, true, true, true, true, true, true, true, false] rfl (by decide +kernel) rfl 0 3 rfl rfl rfl ⟨Nat.le_of_ble_eq_true rfl, Nat.le_of_ble_eq_true rfl⟩ hl.1 (Nat.le_of_ble_eq_true rfl) dX4_forget_49 ⟨Nat.le_of_ble_eq_true rfl, Nat.le_of_ble_eq_true rfl⟩ (fun u_39 H locs h_38 => ?_)
          clear hP hD hS
          intro hP hD hS
          subst h_38
          have hPD := pd_as [zzI cy qtw 8 (T_wo (T_setkn tJ_27 (updM (T_kn tJ_27) kI j_26 (((T_kn tJ_27 kI j_26) * (90 + ((T_me tA) kI))) / 100)))), zzI cy qtn 8 (T_ne (T_setkn tJ_27 (updM (T_kn tJ_27) kI j_26 (((T_kn tJ_27 kI j_26) * (90 + ((T_me tA) kI))) / 100)))), zzI cy qtg 8 (T_go (T_setkn tJ_27 (updM (T_kn tJ_27) kI j_26 (((T_kn tJ_27 kI j_26) * (90 + ((T_me tA) kI))) / 100)))), zzI cy qta 8 (T_ag (T_setkn tJ_27 (updM (T_kn tJ_27) kI j_26 (((T_kn tJ_27 kI j_26) * (90 + ((T_me tA) kI))) / 100)))), zzI cy qtr 8 (T_re (T_setkn tJ_27 (updM (T_kn tJ_27) kI j_26 (((T_kn tJ_27 kI j_26) * (90 + ((T_me tA) kI))) / 100)))), zzI cy qtm 8 (T_me (T_setkn tJ_27 (updM (T_kn tJ_27) kI j_26 (((T_kn tJ_27 kI j_26) * (90 + ((T_me tA) kI))) / 100)))), zzI cy qtt 8 (T_te (T_setkn tJ_27 (updM (T_kn tJ_27) kI j_26 (((T_kn tJ_27 kI j_26) * (90 + ((T_me tA) kI))) / 100)))), zzO qt 3 [.int (nI (T_nb (T_setkn tJ_27 (updM (T_kn tJ_27) kI j_26 (((T_kn tJ_27 kI j_26) * (90 + ((T_me tA) kI))) / 100))))), .int (nI (T_np (T_setkn tJ_27 (updM (T_kn tJ_27) kI j_26 (((T_kn tJ_27 kI j_26) * (90 + ((T_me tA) kI))) / 100))))), .int (wb (T_wh (T_setkn tJ_27 (updM (T_kn tJ_27) kI j_26 (((T_kn tJ_27 kI j_26) * (90 + ((T_me tA) kI))) / 100))))), .int (wb (T_gn (T_setkn tJ_27 (updM (T_kn tJ_27) kI j_26 (((T_kn tJ_27 kI j_26) * (90 + ((T_me tA) kI))) / 100))))), .int (T_sd (T_setkn tJ_27 (updM (T_kn tJ_27) kI j_26 (((T_kn tJ_27 kI j_26) * (90 + ((T_me tA) kI))) / 100)))), .ref qtw, .ref qtn, .ref qtg, .ref qta, .ref qtr, .ref qtm, .ref qtt, .ref qts], zzI cy qts 64 (shF (T_kn (T_setkn tJ_27 (updM (T_kn tJ_27) kI j_26 (((T_kn tJ_27 kI j_26) * (90 + ((T_me tA) kI))) / 100)))))] hP hD rfl
          clear hP hD
          obtain ⟨hP, hD⟩ := hPD
          refine lv_iinc (v := nI (j_26 + 1)) (lv' := [(3, .int (nI (j_26 + 1))), (2, .int (90 + ((T_me tA) kI))), (0, .ref qt), (1, .int (nI kI))]) hx hb dX4_forget_52 hl (k := 0) rfl (nI_1 _) (by decide) rfl (fun ls => ?_)
          clear hl
          intro hl
          refine lv_goto (tgt := 27) hx hb dX4_forget_55 (by decide) ?_
          exact ih_25 (j_26 + 1) (T_setkn tJ_27 (updM (T_kn tJ_27) kI j_26 (((T_kn tJ_27 kI j_26) * (90 + ((T_me tA) kI))) / 100))) (by omega) (by omega) (by rw [htJ_29]; rfl) _ _ _ (hP.sub [7, 0, 1, 2, 3, 4, 5, 6, 8] rfl) (hD.sub [7, 0, 1, 2, 3, 4, 5, 6, 8] (by decide +kernel) rfl) hS (lv_sub hl [0, 1, 2, 3] rfl)
    exact lp_23 ((8 - 0) + 1) 0 tA (Nat.lt_succ_self _) (Nat.zero_le _) rfl _ _ ls hP hD hS (lv_sub hl [0, 1, 2, 3] rfl)
