theorem dX6_bits_0 : decode cX6_bits 0 = .ok (.iconst 0, 1) := by decide +kernel
theorem dX6_bits_1 : decode cX6_bits 1 = .ok (.istore_n 1, 1) := by decide +kernel
theorem dX6_bits_2 : decode cX6_bits 2 = .ok (.iconst 0, 1) := by decide +kernel
theorem dX6_bits_3 : decode cX6_bits 3 = .ok (.istore_n 2, 1) := by decide +kernel
theorem dX6_bits_4 : decode cX6_bits 4 = .ok (.iload_n 2, 1) := by decide +kernel
theorem dX6_bits_5 : decode cX6_bits 5 = .ok (.bipush 8, 2) := by decide +kernel
theorem dX6_bits_7 : decode cX6_bits 7 = .ok (.if_icmp .ge 17, 3) := by decide +kernel
theorem dX6_bits_10 : decode cX6_bits 10 = .ok (.iload_n 1, 1) := by decide +kernel
theorem dX6_bits_11 : decode cX6_bits 11 = .ok (.iload_n 0, 1) := by decide +kernel
theorem dX6_bits_12 : decode cX6_bits 12 = .ok (.iload_n 2, 1) := by decide +kernel
theorem dX6_bits_13 : decode cX6_bits 13 = .ok (.ishr, 1) := by decide +kernel
theorem dX6_bits_14 : decode cX6_bits 14 = .ok (.iconst 1, 1) := by decide +kernel
theorem dX6_bits_15 : decode cX6_bits 15 = .ok (.iand, 1) := by decide +kernel
theorem dX6_bits_16 : decode cX6_bits 16 = .ok (.iadd, 1) := by decide +kernel
theorem dX6_bits_17 : decode cX6_bits 17 = .ok (.istore_n 1, 1) := by decide +kernel
theorem dX6_bits_18 : decode cX6_bits 18 = .ok (.iinc 2 1, 3) := by decide +kernel
theorem dX6_bits_21 : decode cX6_bits 21 = .ok (.goto (-17), 3) := by decide +kernel
theorem dX6_bits_24 : decode cX6_bits 24 = .ok (.iload_n 1, 1) := by decide +kernel
theorem dX6_bits_25 : decode cX6_bits 25 = .ok (.ireturn, 1) := by decide +kernel
theorem dX6_byGround_0 : decode cX6_byGround 0 = .ok (.iload_n 1, 1) := by decide +kernel
theorem dX6_byGround_1 : decode cX6_byGround 1 = .ok (.aload_n 0, 1) := by decide +kernel
theorem dX6_byGround_2 : decode cX6_byGround 2 = .ok (.iload_n 2, 1) := by decide +kernel
theorem dX6_byGround_3 : decode cX6_byGround 3 = .ok (.iload_n 3, 1) := by decide +kernel
theorem dX6_byGround_4 : decode cX6_byGround 4 = .ok (.invokevirtual 241, 3) := by decide +kernel
theorem dX6_byGround_7 : decode cX6_byGround 7 = .ok (.sipush 1000, 3) := by decide +kernel
theorem dX6_byGround_10 : decode cX6_byGround 10 = .ok (.iadd, 1) := by decide +kernel
theorem dX6_byGround_11 : decode cX6_byGround 11 = .ok (.imul, 1) := by decide +kernel
theorem dX6_byGround_12 : decode cX6_byGround 12 = .ok (.sipush 2000, 3) := by decide +kernel
theorem dX6_byGround_15 : decode cX6_byGround 15 = .ok (.idiv, 1) := by decide +kernel
theorem dX6_byGround_16 : decode cX6_byGround 16 = .ok (.ireturn, 1) := by decide +kernel
theorem dX6_greatest_0 : decode cX6_greatest 0 = .ok (.iconst 0, 1) := by decide +kernel
theorem dX6_greatest_1 : decode cX6_greatest 1 = .ok (.istore_n 3, 1) := by decide +kernel
theorem dX6_greatest_2 : decode cX6_greatest 2 = .ok (.iconst 0, 1) := by decide +kernel
theorem dX6_greatest_3 : decode cX6_greatest 3 = .ok (.istore 4, 2) := by decide +kernel
theorem dX6_greatest_5 : decode cX6_greatest 5 = .ok (.iload 4, 2) := by decide +kernel
theorem dX6_greatest_7 : decode cX6_greatest 7 = .ok (.aload_n 0, 1) := by decide +kernel
theorem dX6_greatest_8 : decode cX6_greatest 8 = .ok (.getfield 78, 3) := by decide +kernel
theorem dX6_greatest_11 : decode cX6_greatest 11 = .ok (.if_icmp .ge 54, 3) := by decide +kernel
theorem dX6_greatest_14 : decode cX6_greatest 14 = .ok (.iload_n 2, 1) := by decide +kernel
theorem dX6_greatest_15 : decode cX6_greatest 15 = .ok (.iload 4, 2) := by decide +kernel
theorem dX6_greatest_17 : decode cX6_greatest 17 = .ok (.ishr, 1) := by decide +kernel
theorem dX6_greatest_18 : decode cX6_greatest 18 = .ok (.iconst 1, 1) := by decide +kernel
theorem dX6_greatest_19 : decode cX6_greatest 19 = .ok (.iand, 1) := by decide +kernel
theorem dX6_greatest_20 : decode cX6_greatest 20 = .ok (.ifCond .eq 37, 3) := by decide +kernel
theorem dX6_greatest_23 : decode cX6_greatest 23 = .ok (.aload_n 0, 1) := by decide +kernel
theorem dX6_greatest_24 : decode cX6_greatest 24 = .ok (.iload 4, 2) := by decide +kernel
theorem dX6_greatest_26 : decode cX6_greatest 26 = .ok (.invokevirtual 81, 3) := by decide +kernel
theorem dX6_greatest_29 : decode cX6_greatest 29 = .ok (.ifCond .eq 28, 3) := by decide +kernel
theorem dX6_greatest_32 : decode cX6_greatest 32 = .ok (.aload_n 0, 1) := by decide +kernel
theorem dX6_greatest_33 : decode cX6_greatest 33 = .ok (.getfield 48, 3) := by decide +kernel
theorem dX6_greatest_36 : decode cX6_greatest 36 = .ok (.iload 4, 2) := by decide +kernel
theorem dX6_greatest_38 : decode cX6_greatest 38 = .ok (.aaload, 1) := by decide +kernel
theorem dX6_greatest_39 : decode cX6_greatest 39 = .ok (.iload_n 1, 1) := by decide +kernel
theorem dX6_greatest_40 : decode cX6_greatest 40 = .ok (.iaload, 1) := by decide +kernel
theorem dX6_greatest_41 : decode cX6_greatest 41 = .ok (.iload_n 3, 1) := by decide +kernel
theorem dX6_greatest_42 : decode cX6_greatest 42 = .ok (.if_icmp .le 15, 3) := by decide +kernel
theorem dX6_greatest_45 : decode cX6_greatest 45 = .ok (.aload_n 0, 1) := by decide +kernel
theorem dX6_greatest_46 : decode cX6_greatest 46 = .ok (.getfield 48, 3) := by decide +kernel
theorem dX6_greatest_49 : decode cX6_greatest 49 = .ok (.iload 4, 2) := by decide +kernel
theorem dX6_greatest_51 : decode cX6_greatest 51 = .ok (.aaload, 1) := by decide +kernel
theorem dX6_greatest_52 : decode cX6_greatest 52 = .ok (.iload_n 1, 1) := by decide +kernel
theorem dX6_greatest_53 : decode cX6_greatest 53 = .ok (.iaload, 1) := by decide +kernel
theorem dX6_greatest_54 : decode cX6_greatest 54 = .ok (.goto 4, 3) := by decide +kernel
theorem dX6_greatest_57 : decode cX6_greatest 57 = .ok (.iload_n 3, 1) := by decide +kernel
theorem dX6_greatest_58 : decode cX6_greatest 58 = .ok (.istore_n 3, 1) := by decide +kernel
theorem dX6_greatest_59 : decode cX6_greatest 59 = .ok (.iinc 4 1, 3) := by decide +kernel
theorem dX6_greatest_62 : decode cX6_greatest 62 = .ok (.goto (-57), 3) := by decide +kernel
theorem dX6_greatest_65 : decode cX6_greatest 65 = .ok (.iload_n 3, 1) := by decide +kernel
theorem dX6_greatest_66 : decode cX6_greatest 66 = .ok (.ireturn, 1) := by decide +kernel
theorem dX6_groundOf_0 : decode cX6_groundOf 0 = .ok (.sipush 1000, 3) := by decide +kernel
theorem dX6_groundOf_3 : decode cX6_groundOf 3 = .ok (.istore_n 3, 1) := by decide +kernel
theorem dX6_groundOf_4 : decode cX6_groundOf 4 = .ok (.iconst 0, 1) := by decide +kernel
theorem dX6_groundOf_5 : decode cX6_groundOf 5 = .ok (.istore 4, 2) := by decide +kernel
theorem dX6_groundOf_7 : decode cX6_groundOf 7 = .ok (.iload 4, 2) := by decide +kernel
theorem dX6_groundOf_9 : decode cX6_groundOf 9 = .ok (.iload_n 2, 1) := by decide +kernel
theorem dX6_groundOf_10 : decode cX6_groundOf 10 = .ok (.if_icmp .ge 64, 3) := by decide +kernel
theorem dX6_groundOf_13 : decode cX6_groundOf 13 = .ok (.aload_n 0, 1) := by decide +kernel
theorem dX6_groundOf_14 : decode cX6_groundOf 14 = .ok (.getfield 42, 3) := by decide +kernel
theorem dX6_groundOf_17 : decode cX6_groundOf 17 = .ok (.iload_n 2, 1) := by decide +kernel
theorem dX6_groundOf_18 : decode cX6_groundOf 18 = .ok (.aaload, 1) := by decide +kernel
theorem dX6_groundOf_19 : decode cX6_groundOf 19 = .ok (.iconst 1, 1) := by decide +kernel
theorem dX6_groundOf_20 : decode cX6_groundOf 20 = .ok (.iaload, 1) := by decide +kernel
theorem dX6_groundOf_21 : decode cX6_groundOf 21 = .ok (.iload 4, 2) := by decide +kernel
theorem dX6_groundOf_23 : decode cX6_groundOf 23 = .ok (.ishr, 1) := by decide +kernel
theorem dX6_groundOf_24 : decode cX6_groundOf 24 = .ok (.iconst 1, 1) := by decide +kernel
theorem dX6_groundOf_25 : decode cX6_groundOf 25 = .ok (.iand, 1) := by decide +kernel
theorem dX6_groundOf_26 : decode cX6_groundOf 26 = .ok (.ifCond .eq 7, 3) := by decide +kernel
theorem dX6_groundOf_29 : decode cX6_groundOf 29 = .ok (.iconst 1, 1) := by decide +kernel
theorem dX6_groundOf_30 : decode cX6_groundOf 30 = .ok (.goto 4, 3) := by decide +kernel
theorem dX6_groundOf_33 : decode cX6_groundOf 33 = .ok (.iconst 0, 1) := by decide +kernel
theorem dX6_groundOf_34 : decode cX6_groundOf 34 = .ok (.istore 5, 2) := by decide +kernel
theorem dX6_groundOf_36 : decode cX6_groundOf 36 = .ok (.iload 5, 2) := by decide +kernel
theorem dX6_groundOf_38 : decode cX6_groundOf 38 = .ok (.ifCond .eq 28, 3) := by decide +kernel
theorem dX6_groundOf_41 : decode cX6_groundOf 41 = .ok (.aload_n 0, 1) := by decide +kernel
theorem dX6_groundOf_42 : decode cX6_groundOf 42 = .ok (.getfield 48, 3) := by decide +kernel
theorem dX6_groundOf_45 : decode cX6_groundOf 45 = .ok (.iload_n 1, 1) := by decide +kernel
theorem dX6_groundOf_46 : decode cX6_groundOf 46 = .ok (.aaload, 1) := by decide +kernel
theorem dX6_groundOf_47 : decode cX6_groundOf 47 = .ok (.iload 4, 2) := by decide +kernel
theorem dX6_groundOf_49 : decode cX6_groundOf 49 = .ok (.iaload, 1) := by decide +kernel
theorem dX6_groundOf_50 : decode cX6_groundOf 50 = .ok (.iload_n 3, 1) := by decide +kernel
theorem dX6_groundOf_51 : decode cX6_groundOf 51 = .ok (.if_icmp .ge 15, 3) := by decide +kernel
theorem dX6_groundOf_54 : decode cX6_groundOf 54 = .ok (.aload_n 0, 1) := by decide +kernel
theorem dX6_groundOf_55 : decode cX6_groundOf 55 = .ok (.getfield 48, 3) := by decide +kernel
theorem dX6_groundOf_58 : decode cX6_groundOf 58 = .ok (.iload_n 1, 1) := by decide +kernel
theorem dX6_groundOf_59 : decode cX6_groundOf 59 = .ok (.aaload, 1) := by decide +kernel
theorem dX6_groundOf_60 : decode cX6_groundOf 60 = .ok (.iload 4, 2) := by decide +kernel
theorem dX6_groundOf_62 : decode cX6_groundOf 62 = .ok (.iaload, 1) := by decide +kernel
theorem dX6_groundOf_63 : decode cX6_groundOf 63 = .ok (.goto 4, 3) := by decide +kernel
theorem dX6_groundOf_66 : decode cX6_groundOf 66 = .ok (.iload_n 3, 1) := by decide +kernel
theorem dX6_groundOf_67 : decode cX6_groundOf 67 = .ok (.istore_n 3, 1) := by decide +kernel
theorem dX6_groundOf_68 : decode cX6_groundOf 68 = .ok (.iinc 4 1, 3) := by decide +kernel
theorem dX6_groundOf_71 : decode cX6_groundOf 71 = .ok (.goto (-64), 3) := by decide +kernel
theorem dX6_groundOf_74 : decode cX6_groundOf 74 = .ok (.iload_n 3, 1) := by decide +kernel
theorem dX6_groundOf_75 : decode cX6_groundOf 75 = .ok (.ireturn, 1) := by decide +kernel
theorem dX6_in_0 : decode cX6_in 0 = .ok (.lload_n 0, 1) := by decide +kernel
theorem dX6_in_1 : decode cX6_in 1 = .ok (.lload_n 2, 1) := by decide +kernel
theorem dX6_in_2 : decode cX6_in 2 = .ok (.lcmp, 1) := by decide +kernel
theorem dX6_in_3 : decode cX6_in 3 = .ok (.ifCond .lt 14, 3) := by decide +kernel
theorem dX6_in_6 : decode cX6_in 6 = .ok (.lload_n 0, 1) := by decide +kernel
theorem dX6_in_7 : decode cX6_in 7 = .ok (.lload 4, 2) := by decide +kernel
theorem dX6_in_9 : decode cX6_in 9 = .ok (.lcmp, 1) := by decide +kernel
theorem dX6_in_10 : decode cX6_in 10 = .ok (.ifCond .gt 7, 3) := by decide +kernel
theorem dX6_in_13 : decode cX6_in 13 = .ok (.iconst 1, 1) := by decide +kernel
theorem dX6_in_14 : decode cX6_in 14 = .ok (.goto 4, 3) := by decide +kernel
theorem dX6_in_17 : decode cX6_in 17 = .ok (.iconst 0, 1) := by decide +kernel
theorem dX6_in_18 : decode cX6_in 18 = .ok (.ireturn, 1) := by decide +kernel
theorem dX6_isBook_0 : decode cX6_isBook 0 = .ok (.lload_n 1, 1) := by decide +kernel
theorem dX6_isBook_1 : decode cX6_isBook 1 = .ok (.lconst 0, 1) := by decide +kernel
theorem dX6_isBook_2 : decode cX6_isBook 2 = .ok (.aload_n 0, 1) := by decide +kernel
theorem dX6_isBook_3 : decode cX6_isBook 3 = .ok (.getfield 71, 3) := by decide +kernel
theorem dX6_isBook_6 : decode cX6_isBook 6 = .ok (.iconst 1, 1) := by decide +kernel
theorem dX6_isBook_7 : decode cX6_isBook 7 = .ok (.isub, 1) := by decide +kernel
theorem dX6_isBook_8 : decode cX6_isBook 8 = .ok (.i2l, 1) := by decide +kernel
theorem dX6_isBook_9 : decode cX6_isBook 9 = .ok (.invokestatic 74, 3) := by decide +kernel
theorem dX6_isBook_12 : decode cX6_isBook 12 = .ok (.ireturn, 1) := by decide +kernel
theorem dX6_isOne_0 : decode cX6_isOne 0 = .ok (.lload_n 1, 1) := by decide +kernel
theorem dX6_isOne_1 : decode cX6_isOne 1 = .ok (.lconst 0, 1) := by decide +kernel
theorem dX6_isOne_2 : decode cX6_isOne 2 = .ok (.aload_n 0, 1) := by decide +kernel
theorem dX6_isOne_3 : decode cX6_isOne 3 = .ok (.getfield 78, 3) := by decide +kernel
theorem dX6_isOne_6 : decode cX6_isOne 6 = .ok (.iconst 1, 1) := by decide +kernel
theorem dX6_isOne_7 : decode cX6_isOne 7 = .ok (.isub, 1) := by decide +kernel
theorem dX6_isOne_8 : decode cX6_isOne 8 = .ok (.i2l, 1) := by decide +kernel
theorem dX6_isOne_9 : decode cX6_isOne 9 = .ok (.invokestatic 74, 3) := by decide +kernel
theorem dX6_isOne_12 : decode cX6_isOne 12 = .ok (.ireturn, 1) := by decide +kernel
theorem dX6_isThere_0 : decode cX6_isThere 0 = .ok (.aload_n 0, 1) := by decide +kernel
theorem dX6_isThere_1 : decode cX6_isThere 1 = .ok (.getfield 45, 3) := by decide +kernel
theorem dX6_isThere_4 : decode cX6_isThere 4 = .ok (.iload_n 1, 1) := by decide +kernel
theorem dX6_isThere_5 : decode cX6_isThere 5 = .ok (.aaload, 1) := by decide +kernel
theorem dX6_isThere_6 : decode cX6_isThere 6 = .ok (.iconst 4, 1) := by decide +kernel
theorem dX6_isThere_7 : decode cX6_isThere 7 = .ok (.iaload, 1) := by decide +kernel
theorem dX6_isThere_8 : decode cX6_isThere 8 = .ok (.ifCond .ne 7, 3) := by decide +kernel
theorem dX6_isThere_11 : decode cX6_isThere 11 = .ok (.iconst 1, 1) := by decide +kernel
theorem dX6_isThere_12 : decode cX6_isThere 12 = .ok (.goto 4, 3) := by decide +kernel
theorem dX6_isThere_15 : decode cX6_isThere 15 = .ok (.iconst 0, 1) := by decide +kernel
theorem dX6_isThere_16 : decode cX6_isThere 16 = .ok (.ireturn, 1) := by decide +kernel
theorem dX6_isWhite_0 : decode cX6_isWhite 0 = .ok (.aload_n 0, 1) := by decide +kernel
theorem dX6_isWhite_1 : decode cX6_isWhite 1 = .ok (.getfield 42, 3) := by decide +kernel
theorem dX6_isWhite_4 : decode cX6_isWhite 4 = .ok (.iload_n 1, 1) := by decide +kernel
theorem dX6_isWhite_5 : decode cX6_isWhite 5 = .ok (.aaload, 1) := by decide +kernel
theorem dX6_isWhite_6 : decode cX6_isWhite 6 = .ok (.iconst 3, 1) := by decide +kernel
theorem dX6_isWhite_7 : decode cX6_isWhite 7 = .ok (.iaload, 1) := by decide +kernel
theorem dX6_isWhite_8 : decode cX6_isWhite 8 = .ok (.iconst 1, 1) := by decide +kernel
theorem dX6_isWhite_9 : decode cX6_isWhite 9 = .ok (.if_icmp .ne 7, 3) := by decide +kernel
theorem dX6_isWhite_12 : decode cX6_isWhite 12 = .ok (.iconst 1, 1) := by decide +kernel
theorem dX6_isWhite_13 : decode cX6_isWhite 13 = .ok (.goto 4, 3) := by decide +kernel
theorem dX6_isWhite_16 : decode cX6_isWhite 16 = .ok (.iconst 0, 1) := by decide +kernel
theorem dX6_isWhite_17 : decode cX6_isWhite 17 = .ok (.ireturn, 1) := by decide +kernel
theorem dX6_moreBy_0 : decode cX6_moreBy 0 = .ok (.aload_n 0, 1) := by decide +kernel
theorem dX6_moreBy_1 : decode cX6_moreBy 1 = .ok (.getfield 48, 3) := by decide +kernel
theorem dX6_moreBy_4 : decode cX6_moreBy 4 = .ok (.iload_n 1, 1) := by decide +kernel
theorem dX6_moreBy_5 : decode cX6_moreBy 5 = .ok (.aaload, 1) := by decide +kernel
theorem dX6_moreBy_6 : decode cX6_moreBy 6 = .ok (.iload_n 3, 1) := by decide +kernel
theorem dX6_moreBy_7 : decode cX6_moreBy 7 = .ok (.iaload, 1) := by decide +kernel
theorem dX6_moreBy_8 : decode cX6_moreBy 8 = .ok (.aload_n 0, 1) := by decide +kernel
theorem dX6_moreBy_9 : decode cX6_moreBy 9 = .ok (.getfield 45, 3) := by decide +kernel
theorem dX6_moreBy_12 : decode cX6_moreBy 12 = .ok (.iload_n 1, 1) := by decide +kernel
theorem dX6_moreBy_13 : decode cX6_moreBy 13 = .ok (.aaload, 1) := by decide +kernel
theorem dX6_moreBy_14 : decode cX6_moreBy 14 = .ok (.iconst 3, 1) := by decide +kernel
theorem dX6_moreBy_15 : decode cX6_moreBy 15 = .ok (.iaload, 1) := by decide +kernel
theorem dX6_moreBy_16 : decode cX6_moreBy 16 = .ok (.imul, 1) := by decide +kernel
theorem dX6_moreBy_17 : decode cX6_moreBy 17 = .ok (.bipush 10, 2) := by decide +kernel
theorem dX6_moreBy_19 : decode cX6_moreBy 19 = .ok (.idiv, 1) := by decide +kernel
theorem dX6_moreBy_20 : decode cX6_moreBy 20 = .ok (.istore 4, 2) := by decide +kernel
theorem dX6_moreBy_22 : decode cX6_moreBy 22 = .ok (.iload 4, 2) := by decide +kernel
theorem dX6_moreBy_24 : decode cX6_moreBy 24 = .ok (.aload_n 0, 1) := by decide +kernel
theorem dX6_moreBy_25 : decode cX6_moreBy 25 = .ok (.getfield 48, 3) := by decide +kernel
theorem dX6_moreBy_28 : decode cX6_moreBy 28 = .ok (.iload_n 2, 1) := by decide +kernel
theorem dX6_moreBy_29 : decode cX6_moreBy 29 = .ok (.aaload, 1) := by decide +kernel
theorem dX6_moreBy_30 : decode cX6_moreBy 30 = .ok (.iload_n 3, 1) := by decide +kernel
theorem dX6_moreBy_31 : decode cX6_moreBy 31 = .ok (.iaload, 1) := by decide +kernel
theorem dX6_moreBy_32 : decode cX6_moreBy 32 = .ok (.if_icmp .le 17, 3) := by decide +kernel
theorem dX6_moreBy_35 : decode cX6_moreBy 35 = .ok (.iload 4, 2) := by decide +kernel
theorem dX6_moreBy_37 : decode cX6_moreBy 37 = .ok (.aload_n 0, 1) := by decide +kernel
theorem dX6_moreBy_38 : decode cX6_moreBy 38 = .ok (.getfield 48, 3) := by decide +kernel
theorem dX6_moreBy_41 : decode cX6_moreBy 41 = .ok (.iload_n 2, 1) := by decide +kernel
theorem dX6_moreBy_42 : decode cX6_moreBy 42 = .ok (.aaload, 1) := by decide +kernel
theorem dX6_moreBy_43 : decode cX6_moreBy 43 = .ok (.iload_n 3, 1) := by decide +kernel
theorem dX6_moreBy_44 : decode cX6_moreBy 44 = .ok (.iaload, 1) := by decide +kernel
theorem dX6_moreBy_45 : decode cX6_moreBy 45 = .ok (.isub, 1) := by decide +kernel
theorem dX6_moreBy_46 : decode cX6_moreBy 46 = .ok (.goto 4, 3) := by decide +kernel
theorem dX6_moreBy_49 : decode cX6_moreBy 49 = .ok (.iconst 0, 1) := by decide +kernel
theorem dX6_moreBy_50 : decode cX6_moreBy 50 = .ok (.ireturn, 1) := by decide +kernel
theorem dX6_readerOf_0 : decode cX6_readerOf 0 = .ok (.iconst (-1), 1) := by decide +kernel
theorem dX6_readerOf_1 : decode cX6_readerOf 1 = .ok (.istore_n 2, 1) := by decide +kernel
theorem dX6_readerOf_2 : decode cX6_readerOf 2 = .ok (.iconst 0, 1) := by decide +kernel
theorem dX6_readerOf_3 : decode cX6_readerOf 3 = .ok (.istore_n 3, 1) := by decide +kernel
theorem dX6_readerOf_4 : decode cX6_readerOf 4 = .ok (.iload_n 3, 1) := by decide +kernel
theorem dX6_readerOf_5 : decode cX6_readerOf 5 = .ok (.aload_n 0, 1) := by decide +kernel
theorem dX6_readerOf_6 : decode cX6_readerOf 6 = .ok (.getfield 78, 3) := by decide +kernel
theorem dX6_readerOf_9 : decode cX6_readerOf 9 = .ok (.if_icmp .ge 81, 3) := by decide +kernel
theorem dX6_readerOf_12 : decode cX6_readerOf 12 = .ok (.aload_n 0, 1) := by decide +kernel
theorem dX6_readerOf_13 : decode cX6_readerOf 13 = .ok (.iload_n 3, 1) := by decide +kernel
theorem dX6_readerOf_14 : decode cX6_readerOf 14 = .ok (.invokevirtual 81, 3) := by decide +kernel
theorem dX6_readerOf_17 : decode cX6_readerOf 17 = .ok (.ifCond .eq 67, 3) := by decide +kernel
theorem dX6_readerOf_20 : decode cX6_readerOf 20 = .ok (.aload_n 0, 1) := by decide +kernel
theorem dX6_readerOf_21 : decode cX6_readerOf 21 = .ok (.iload_n 3, 1) := by decide +kernel
theorem dX6_readerOf_22 : decode cX6_readerOf 22 = .ok (.iload_n 1, 1) := by decide +kernel
theorem dX6_readerOf_23 : decode cX6_readerOf 23 = .ok (.invokevirtual 254, 3) := by decide +kernel
theorem dX6_readerOf_26 : decode cX6_readerOf 26 = .ok (.istore 4, 2) := by decide +kernel
theorem dX6_readerOf_28 : decode cX6_readerOf 28 = .ok (.iload_n 2, 1) := by decide +kernel
theorem dX6_readerOf_29 : decode cX6_readerOf 29 = .ok (.iconst (-1), 1) := by decide +kernel
theorem dX6_readerOf_30 : decode cX6_readerOf 30 = .ok (.if_icmp .ne 7, 3) := by decide +kernel
theorem dX6_readerOf_33 : decode cX6_readerOf 33 = .ok (.iconst (-1), 1) := by decide +kernel
theorem dX6_readerOf_34 : decode cX6_readerOf 34 = .ok (.goto 9, 3) := by decide +kernel
theorem dX6_readerOf_37 : decode cX6_readerOf 37 = .ok (.aload_n 0, 1) := by decide +kernel
theorem dX6_readerOf_38 : decode cX6_readerOf 38 = .ok (.iload_n 2, 1) := by decide +kernel
theorem dX6_readerOf_39 : decode cX6_readerOf 39 = .ok (.iload_n 1, 1) := by decide +kernel
theorem dX6_readerOf_40 : decode cX6_readerOf 40 = .ok (.invokevirtual 254, 3) := by decide +kernel
theorem dX6_readerOf_43 : decode cX6_readerOf 43 = .ok (.istore 5, 2) := by decide +kernel
theorem dX6_readerOf_45 : decode cX6_readerOf 45 = .ok (.iload 4, 2) := by decide +kernel
theorem dX6_readerOf_47 : decode cX6_readerOf 47 = .ok (.iload 5, 2) := by decide +kernel
theorem dX6_readerOf_49 : decode cX6_readerOf 49 = .ok (.if_icmp .gt 29, 3) := by decide +kernel
theorem dX6_readerOf_52 : decode cX6_readerOf 52 = .ok (.iload 4, 2) := by decide +kernel
theorem dX6_readerOf_54 : decode cX6_readerOf 54 = .ok (.iload 5, 2) := by decide +kernel
theorem dX6_readerOf_56 : decode cX6_readerOf 56 = .ok (.if_icmp .ne 26, 3) := by decide +kernel
theorem dX6_readerOf_59 : decode cX6_readerOf 59 = .ok (.aload_n 0, 1) := by decide +kernel
theorem dX6_readerOf_60 : decode cX6_readerOf 60 = .ok (.getfield 45, 3) := by decide +kernel
theorem dX6_readerOf_63 : decode cX6_readerOf 63 = .ok (.iload_n 3, 1) := by decide +kernel
theorem dX6_readerOf_64 : decode cX6_readerOf 64 = .ok (.aaload, 1) := by decide +kernel
theorem dX6_readerOf_65 : decode cX6_readerOf 65 = .ok (.iconst 0, 1) := by decide +kernel
theorem dX6_readerOf_66 : decode cX6_readerOf 66 = .ok (.iaload, 1) := by decide +kernel
theorem dX6_readerOf_67 : decode cX6_readerOf 67 = .ok (.aload_n 0, 1) := by decide +kernel
theorem dX6_readerOf_68 : decode cX6_readerOf 68 = .ok (.getfield 45, 3) := by decide +kernel
theorem dX6_readerOf_71 : decode cX6_readerOf 71 = .ok (.iload_n 2, 1) := by decide +kernel
theorem dX6_readerOf_72 : decode cX6_readerOf 72 = .ok (.aaload, 1) := by decide +kernel
theorem dX6_readerOf_73 : decode cX6_readerOf 73 = .ok (.iconst 0, 1) := by decide +kernel
theorem dX6_readerOf_74 : decode cX6_readerOf 74 = .ok (.iaload, 1) := by decide +kernel
theorem dX6_readerOf_75 : decode cX6_readerOf 75 = .ok (.if_icmp .ge 7, 3) := by decide +kernel
theorem dX6_readerOf_78 : decode cX6_readerOf 78 = .ok (.iload_n 3, 1) := by decide +kernel
theorem dX6_readerOf_79 : decode cX6_readerOf 79 = .ok (.goto 4, 3) := by decide +kernel
theorem dX6_readerOf_82 : decode cX6_readerOf 82 = .ok (.iload_n 2, 1) := by decide +kernel
theorem dX6_readerOf_83 : decode cX6_readerOf 83 = .ok (.istore_n 2, 1) := by decide +kernel
theorem dX6_readerOf_84 : decode cX6_readerOf 84 = .ok (.iinc 3 1, 3) := by decide +kernel
theorem dX6_readerOf_87 : decode cX6_readerOf 87 = .ok (.goto (-83), 3) := by decide +kernel
theorem dX6_readerOf_90 : decode cX6_readerOf 90 = .ok (.iload_n 2, 1) := by decide +kernel
theorem dX6_readerOf_91 : decode cX6_readerOf 91 = .ok (.ireturn, 1) := by decide +kernel
theorem dX6_reads_0 : decode cX6_reads 0 = .ok (.aload_n 0, 1) := by decide +kernel
theorem dX6_reads_1 : decode cX6_reads 1 = .ok (.getfield 48, 3) := by decide +kernel
theorem dX6_reads_4 : decode cX6_reads 4 = .ok (.iload_n 1, 1) := by decide +kernel
theorem dX6_reads_5 : decode cX6_reads 5 = .ok (.aaload, 1) := by decide +kernel
theorem dX6_reads_6 : decode cX6_reads 6 = .ok (.iload_n 2, 1) := by decide +kernel
theorem dX6_reads_7 : decode cX6_reads 7 = .ok (.aload_n 0, 1) := by decide +kernel
theorem dX6_reads_8 : decode cX6_reads 8 = .ok (.iload_n 1, 1) := by decide +kernel
theorem dX6_reads_9 : decode cX6_reads 9 = .ok (.iload_n 2, 1) := by decide +kernel
theorem dX6_reads_10 : decode cX6_reads 10 = .ok (.invokevirtual 254, 3) := by decide +kernel
theorem dX6_reads_13 : decode cX6_reads 13 = .ok (.iastore, 1) := by decide +kernel
theorem dX6_reads_14 : decode cX6_reads 14 = .ok (.aload_n 0, 1) := by decide +kernel
theorem dX6_reads_15 : decode cX6_reads 15 = .ok (.getfield 42, 3) := by decide +kernel
theorem dX6_reads_18 : decode cX6_reads 18 = .ok (.iload_n 2, 1) := by decide +kernel
theorem dX6_reads_19 : decode cX6_reads 19 = .ok (.aaload, 1) := by decide +kernel
theorem dX6_reads_20 : decode cX6_reads 20 = .ok (.iconst 3, 1) := by decide +kernel
theorem dX6_reads_21 : decode cX6_reads 21 = .ok (.iconst 1, 1) := by decide +kernel
theorem dX6_reads_22 : decode cX6_reads 22 = .ok (.iastore, 1) := by decide +kernel
theorem dX6_reads_23 : decode cX6_reads 23 = .ok (.return_, 1) := by decide +kernel
theorem dX6_refuse_0 : decode cX6_refuse 0 = .ok (.aload_n 0, 1) := by decide +kernel
theorem dX6_refuse_1 : decode cX6_refuse 1 = .ok (.getfield 37, 3) := by decide +kernel
theorem dX6_refuse_4 : decode cX6_refuse 4 = .ok (.iload_n 1, 1) := by decide +kernel
theorem dX6_refuse_5 : decode cX6_refuse 5 = .ok (.ineg, 1) := by decide +kernel
theorem dX6_refuse_6 : decode cX6_refuse 6 = .ok (.dup2, 1) := by decide +kernel
theorem dX6_refuse_7 : decode cX6_refuse 7 = .ok (.iaload, 1) := by decide +kernel
theorem dX6_refuse_8 : decode cX6_refuse 8 = .ok (.iconst 1, 1) := by decide +kernel
theorem dX6_refuse_9 : decode cX6_refuse 9 = .ok (.iadd, 1) := by decide +kernel
theorem dX6_refuse_10 : decode cX6_refuse 10 = .ok (.iastore, 1) := by decide +kernel
theorem dX6_refuse_11 : decode cX6_refuse 11 = .ok (.iload_n 1, 1) := by decide +kernel
theorem dX6_refuse_12 : decode cX6_refuse 12 = .ok (.ireturn, 1) := by decide +kernel
theorem dX6_thereMany_0 : decode cX6_thereMany 0 = .ok (.iconst 0, 1) := by decide +kernel
theorem dX6_thereMany_1 : decode cX6_thereMany 1 = .ok (.istore_n 1, 1) := by decide +kernel
theorem dX6_thereMany_2 : decode cX6_thereMany 2 = .ok (.iconst 0, 1) := by decide +kernel
theorem dX6_thereMany_3 : decode cX6_thereMany 3 = .ok (.istore_n 2, 1) := by decide +kernel
theorem dX6_thereMany_4 : decode cX6_thereMany 4 = .ok (.iload_n 2, 1) := by decide +kernel
theorem dX6_thereMany_5 : decode cX6_thereMany 5 = .ok (.aload_n 0, 1) := by decide +kernel
theorem dX6_thereMany_6 : decode cX6_thereMany 6 = .ok (.getfield 78, 3) := by decide +kernel
theorem dX6_thereMany_9 : decode cX6_thereMany 9 = .ok (.if_icmp .ge 25, 3) := by decide +kernel
theorem dX6_thereMany_12 : decode cX6_thereMany 12 = .ok (.iload_n 1, 1) := by decide +kernel
theorem dX6_thereMany_13 : decode cX6_thereMany 13 = .ok (.aload_n 0, 1) := by decide +kernel
theorem dX6_thereMany_14 : decode cX6_thereMany 14 = .ok (.iload_n 2, 1) := by decide +kernel
theorem dX6_thereMany_15 : decode cX6_thereMany 15 = .ok (.invokevirtual 81, 3) := by decide +kernel
theorem dX6_thereMany_18 : decode cX6_thereMany 18 = .ok (.ifCond .eq 7, 3) := by decide +kernel
theorem dX6_thereMany_21 : decode cX6_thereMany 21 = .ok (.iconst 1, 1) := by decide +kernel
theorem dX6_thereMany_22 : decode cX6_thereMany 22 = .ok (.goto 4, 3) := by decide +kernel
theorem dX6_thereMany_25 : decode cX6_thereMany 25 = .ok (.iconst 0, 1) := by decide +kernel
theorem dX6_thereMany_26 : decode cX6_thereMany 26 = .ok (.iadd, 1) := by decide +kernel
theorem dX6_thereMany_27 : decode cX6_thereMany 27 = .ok (.istore_n 1, 1) := by decide +kernel
theorem dX6_thereMany_28 : decode cX6_thereMany 28 = .ok (.iinc 2 1, 3) := by decide +kernel
theorem dX6_thereMany_31 : decode cX6_thereMany 31 = .ok (.goto (-27), 3) := by decide +kernel
theorem dX6_thereMany_34 : decode cX6_thereMany 34 = .ok (.iload_n 1, 1) := by decide +kernel
theorem dX6_thereMany_35 : decode cX6_thereMany 35 = .ok (.ireturn, 1) := by decide +kernel
theorem dX6_valueNow_0 : decode cX6_valueNow 0 = .ok (.aload_n 0, 1) := by decide +kernel
theorem dX6_valueNow_1 : decode cX6_valueNow 1 = .ok (.iconst 1, 1) := by decide +kernel
theorem dX6_valueNow_2 : decode cX6_valueNow 2 = .ok (.aload_n 0, 1) := by decide +kernel
theorem dX6_valueNow_3 : decode cX6_valueNow 3 = .ok (.getfield 78, 3) := by decide +kernel
theorem dX6_valueNow_6 : decode cX6_valueNow 6 = .ok (.ishl, 1) := by decide +kernel
theorem dX6_valueNow_7 : decode cX6_valueNow 7 = .ok (.iconst 1, 1) := by decide +kernel
theorem dX6_valueNow_8 : decode cX6_valueNow 8 = .ok (.isub, 1) := by decide +kernel
theorem dX6_valueNow_9 : decode cX6_valueNow 9 = .ok (.invokevirtual 266, 3) := by decide +kernel
theorem dX6_valueNow_12 : decode cX6_valueNow 12 = .ok (.ireturn, 1) := by decide +kernel
theorem dX6_valueOf_0 : decode cX6_valueOf 0 = .ok (.iconst 0, 1) := by decide +kernel
theorem dX6_valueOf_1 : decode cX6_valueOf 1 = .ok (.istore_n 2, 1) := by decide +kernel
theorem dX6_valueOf_2 : decode cX6_valueOf 2 = .ok (.iconst 0, 1) := by decide +kernel
theorem dX6_valueOf_3 : decode cX6_valueOf 3 = .ok (.istore_n 3, 1) := by decide +kernel
theorem dX6_valueOf_4 : decode cX6_valueOf 4 = .ok (.iload_n 3, 1) := by decide +kernel
theorem dX6_valueOf_5 : decode cX6_valueOf 5 = .ok (.aload_n 0, 1) := by decide +kernel
theorem dX6_valueOf_6 : decode cX6_valueOf 6 = .ok (.getfield 71, 3) := by decide +kernel
theorem dX6_valueOf_9 : decode cX6_valueOf 9 = .ok (.if_icmp .ge 27, 3) := by decide +kernel
theorem dX6_valueOf_12 : decode cX6_valueOf 12 = .ok (.iload_n 2, 1) := by decide +kernel
theorem dX6_valueOf_13 : decode cX6_valueOf 13 = .ok (.aload_n 0, 1) := by decide +kernel
theorem dX6_valueOf_14 : decode cX6_valueOf 14 = .ok (.getfield 42, 3) := by decide +kernel
theorem dX6_valueOf_17 : decode cX6_valueOf 17 = .ok (.iload_n 3, 1) := by decide +kernel
theorem dX6_valueOf_18 : decode cX6_valueOf 18 = .ok (.aaload, 1) := by decide +kernel
theorem dX6_valueOf_19 : decode cX6_valueOf 19 = .ok (.iconst 0, 1) := by decide +kernel
theorem dX6_valueOf_20 : decode cX6_valueOf 20 = .ok (.iaload, 1) := by decide +kernel
theorem dX6_valueOf_21 : decode cX6_valueOf 21 = .ok (.aload_n 0, 1) := by decide +kernel
theorem dX6_valueOf_22 : decode cX6_valueOf 22 = .ok (.iload_n 3, 1) := by decide +kernel
theorem dX6_valueOf_23 : decode cX6_valueOf 23 = .ok (.iload_n 1, 1) := by decide +kernel
theorem dX6_valueOf_24 : decode cX6_valueOf 24 = .ok (.invokevirtual 233, 3) := by decide +kernel
theorem dX6_valueOf_27 : decode cX6_valueOf 27 = .ok (.imul, 1) := by decide +kernel
theorem dX6_valueOf_28 : decode cX6_valueOf 28 = .ok (.iadd, 1) := by decide +kernel
theorem dX6_valueOf_29 : decode cX6_valueOf 29 = .ok (.istore_n 2, 1) := by decide +kernel
theorem dX6_valueOf_30 : decode cX6_valueOf 30 = .ok (.iinc 3 1, 3) := by decide +kernel
theorem dX6_valueOf_33 : decode cX6_valueOf 33 = .ok (.goto (-29), 3) := by decide +kernel
theorem dX6_valueOf_36 : decode cX6_valueOf 36 = .ok (.iload_n 2, 1) := by decide +kernel
theorem dX6_valueOf_37 : decode cX6_valueOf 37 = .ok (.ireturn, 1) := by decide +kernel
theorem dX6_whiteMany_0 : decode cX6_whiteMany 0 = .ok (.iconst 0, 1) := by decide +kernel
theorem dX6_whiteMany_1 : decode cX6_whiteMany 1 = .ok (.istore_n 1, 1) := by decide +kernel
theorem dX6_whiteMany_2 : decode cX6_whiteMany 2 = .ok (.iconst 0, 1) := by decide +kernel
theorem dX6_whiteMany_3 : decode cX6_whiteMany 3 = .ok (.istore_n 2, 1) := by decide +kernel
theorem dX6_whiteMany_4 : decode cX6_whiteMany 4 = .ok (.iload_n 2, 1) := by decide +kernel
theorem dX6_whiteMany_5 : decode cX6_whiteMany 5 = .ok (.aload_n 0, 1) := by decide +kernel
theorem dX6_whiteMany_6 : decode cX6_whiteMany 6 = .ok (.getfield 71, 3) := by decide +kernel
theorem dX6_whiteMany_9 : decode cX6_whiteMany 9 = .ok (.if_icmp .ge 20, 3) := by decide +kernel
theorem dX6_whiteMany_12 : decode cX6_whiteMany 12 = .ok (.iload_n 1, 1) := by decide +kernel
theorem dX6_whiteMany_13 : decode cX6_whiteMany 13 = .ok (.aload_n 0, 1) := by decide +kernel
theorem dX6_whiteMany_14 : decode cX6_whiteMany 14 = .ok (.getfield 42, 3) := by decide +kernel
theorem dX6_whiteMany_17 : decode cX6_whiteMany 17 = .ok (.iload_n 2, 1) := by decide +kernel
theorem dX6_whiteMany_18 : decode cX6_whiteMany 18 = .ok (.aaload, 1) := by decide +kernel
theorem dX6_whiteMany_19 : decode cX6_whiteMany 19 = .ok (.iconst 3, 1) := by decide +kernel
theorem dX6_whiteMany_20 : decode cX6_whiteMany 20 = .ok (.iaload, 1) := by decide +kernel
theorem dX6_whiteMany_21 : decode cX6_whiteMany 21 = .ok (.iadd, 1) := by decide +kernel
theorem dX6_whiteMany_22 : decode cX6_whiteMany 22 = .ok (.istore_n 1, 1) := by decide +kernel
theorem dX6_whiteMany_23 : decode cX6_whiteMany 23 = .ok (.iinc 2 1, 3) := by decide +kernel
theorem dX6_whiteMany_26 : decode cX6_whiteMany 26 = .ok (.goto (-22), 3) := by decide +kernel
theorem dX6_whiteMany_29 : decode cX6_whiteMany 29 = .ok (.iload_n 1, 1) := by decide +kernel
theorem dX6_whiteMany_30 : decode cX6_whiteMany 30 = .ok (.ireturn, 1) := by decide +kernel
theorem dX6_wouldKnow_0 : decode cX6_wouldKnow 0 = .ok (.aload_n 0, 1) := by decide +kernel
theorem dX6_wouldKnow_1 : decode cX6_wouldKnow 1 = .ok (.aload_n 0, 1) := by decide +kernel
theorem dX6_wouldKnow_2 : decode cX6_wouldKnow 2 = .ok (.getfield 42, 3) := by decide +kernel
theorem dX6_wouldKnow_5 : decode cX6_wouldKnow 5 = .ok (.iload_n 2, 1) := by decide +kernel
theorem dX6_wouldKnow_6 : decode cX6_wouldKnow 6 = .ok (.aaload, 1) := by decide +kernel
theorem dX6_wouldKnow_7 : decode cX6_wouldKnow 7 = .ok (.iconst 2, 1) := by decide +kernel
theorem dX6_wouldKnow_8 : decode cX6_wouldKnow 8 = .ok (.iaload, 1) := by decide +kernel
theorem dX6_wouldKnow_9 : decode cX6_wouldKnow 9 = .ok (.aload_n 0, 1) := by decide +kernel
theorem dX6_wouldKnow_10 : decode cX6_wouldKnow 10 = .ok (.getfield 45, 3) := by decide +kernel
theorem dX6_wouldKnow_13 : decode cX6_wouldKnow 13 = .ok (.iload_n 1, 1) := by decide +kernel
theorem dX6_wouldKnow_14 : decode cX6_wouldKnow 14 = .ok (.aaload, 1) := by decide +kernel
theorem dX6_wouldKnow_15 : decode cX6_wouldKnow 15 = .ok (.iconst 1, 1) := by decide +kernel
theorem dX6_wouldKnow_16 : decode cX6_wouldKnow 16 = .ok (.iaload, 1) := by decide +kernel
theorem dX6_wouldKnow_17 : decode cX6_wouldKnow 17 = .ok (.imul, 1) := by decide +kernel
theorem dX6_wouldKnow_18 : decode cX6_wouldKnow 18 = .ok (.bipush 10, 2) := by decide +kernel
theorem dX6_wouldKnow_20 : decode cX6_wouldKnow 20 = .ok (.idiv, 1) := by decide +kernel
theorem dX6_wouldKnow_21 : decode cX6_wouldKnow 21 = .ok (.iload_n 1, 1) := by decide +kernel
theorem dX6_wouldKnow_22 : decode cX6_wouldKnow 22 = .ok (.iload_n 2, 1) := by decide +kernel
theorem dX6_wouldKnow_23 : decode cX6_wouldKnow 23 = .ok (.invokevirtual 244, 3) := by decide +kernel
theorem dX6_wouldKnow_26 : decode cX6_wouldKnow 26 = .ok (.istore_n 3, 1) := by decide +kernel
theorem dX6_wouldKnow_27 : decode cX6_wouldKnow 27 = .ok (.iload_n 3, 1) := by decide +kernel
theorem dX6_wouldKnow_28 : decode cX6_wouldKnow 28 = .ok (.aload_n 0, 1) := by decide +kernel
theorem dX6_wouldKnow_29 : decode cX6_wouldKnow 29 = .ok (.getfield 48, 3) := by decide +kernel
theorem dX6_wouldKnow_32 : decode cX6_wouldKnow 32 = .ok (.iload_n 1, 1) := by decide +kernel
theorem dX6_wouldKnow_33 : decode cX6_wouldKnow 33 = .ok (.aaload, 1) := by decide +kernel
theorem dX6_wouldKnow_34 : decode cX6_wouldKnow 34 = .ok (.iload_n 2, 1) := by decide +kernel
theorem dX6_wouldKnow_35 : decode cX6_wouldKnow 35 = .ok (.iaload, 1) := by decide +kernel
theorem dX6_wouldKnow_36 : decode cX6_wouldKnow 36 = .ok (.if_icmp .le 7, 3) := by decide +kernel
theorem dX6_wouldKnow_39 : decode cX6_wouldKnow 39 = .ok (.iload_n 3, 1) := by decide +kernel
theorem dX6_wouldKnow_40 : decode cX6_wouldKnow 40 = .ok (.goto 11, 3) := by decide +kernel
theorem dX6_wouldKnow_43 : decode cX6_wouldKnow 43 = .ok (.aload_n 0, 1) := by decide +kernel
theorem dX6_wouldKnow_44 : decode cX6_wouldKnow 44 = .ok (.getfield 48, 3) := by decide +kernel
theorem dX6_wouldKnow_47 : decode cX6_wouldKnow 47 = .ok (.iload_n 1, 1) := by decide +kernel
theorem dX6_wouldKnow_48 : decode cX6_wouldKnow 48 = .ok (.aaload, 1) := by decide +kernel
theorem dX6_wouldKnow_49 : decode cX6_wouldKnow 49 = .ok (.iload_n 2, 1) := by decide +kernel
theorem dX6_wouldKnow_50 : decode cX6_wouldKnow 50 = .ok (.iaload, 1) := by decide +kernel
theorem dX6_wouldKnow_51 : decode cX6_wouldKnow 51 = .ok (.ireturn, 1) := by decide +kernel
theorem dX6_youngestBut_0 : decode cX6_youngestBut 0 = .ok (.iconst (-1), 1) := by decide +kernel
theorem dX6_youngestBut_1 : decode cX6_youngestBut 1 = .ok (.istore_n 2, 1) := by decide +kernel
theorem dX6_youngestBut_2 : decode cX6_youngestBut 2 = .ok (.iconst 0, 1) := by decide +kernel
theorem dX6_youngestBut_3 : decode cX6_youngestBut 3 = .ok (.istore_n 3, 1) := by decide +kernel
theorem dX6_youngestBut_4 : decode cX6_youngestBut 4 = .ok (.iload_n 3, 1) := by decide +kernel
theorem dX6_youngestBut_5 : decode cX6_youngestBut 5 = .ok (.aload_n 0, 1) := by decide +kernel
theorem dX6_youngestBut_6 : decode cX6_youngestBut 6 = .ok (.getfield 78, 3) := by decide +kernel
theorem dX6_youngestBut_9 : decode cX6_youngestBut 9 = .ok (.if_icmp .ge 52, 3) := by decide +kernel
theorem dX6_youngestBut_12 : decode cX6_youngestBut 12 = .ok (.iload_n 3, 1) := by decide +kernel
theorem dX6_youngestBut_13 : decode cX6_youngestBut 13 = .ok (.iload_n 1, 1) := by decide +kernel
theorem dX6_youngestBut_14 : decode cX6_youngestBut 14 = .ok (.if_icmp .eq 39, 3) := by decide +kernel
theorem dX6_youngestBut_17 : decode cX6_youngestBut 17 = .ok (.aload_n 0, 1) := by decide +kernel
theorem dX6_youngestBut_18 : decode cX6_youngestBut 18 = .ok (.iload_n 3, 1) := by decide +kernel
theorem dX6_youngestBut_19 : decode cX6_youngestBut 19 = .ok (.invokevirtual 81, 3) := by decide +kernel
theorem dX6_youngestBut_22 : decode cX6_youngestBut 22 = .ok (.ifCond .eq 31, 3) := by decide +kernel
theorem dX6_youngestBut_25 : decode cX6_youngestBut 25 = .ok (.iload_n 2, 1) := by decide +kernel
theorem dX6_youngestBut_26 : decode cX6_youngestBut 26 = .ok (.iconst (-1), 1) := by decide +kernel
theorem dX6_youngestBut_27 : decode cX6_youngestBut 27 = .ok (.if_icmp .eq 22, 3) := by decide +kernel
theorem dX6_youngestBut_30 : decode cX6_youngestBut 30 = .ok (.aload_n 0, 1) := by decide +kernel
theorem dX6_youngestBut_31 : decode cX6_youngestBut 31 = .ok (.getfield 45, 3) := by decide +kernel
theorem dX6_youngestBut_34 : decode cX6_youngestBut 34 = .ok (.iload_n 3, 1) := by decide +kernel
theorem dX6_youngestBut_35 : decode cX6_youngestBut 35 = .ok (.aaload, 1) := by decide +kernel
theorem dX6_youngestBut_36 : decode cX6_youngestBut 36 = .ok (.iconst 0, 1) := by decide +kernel
theorem dX6_youngestBut_37 : decode cX6_youngestBut 37 = .ok (.iaload, 1) := by decide +kernel
theorem dX6_youngestBut_38 : decode cX6_youngestBut 38 = .ok (.aload_n 0, 1) := by decide +kernel
theorem dX6_youngestBut_39 : decode cX6_youngestBut 39 = .ok (.getfield 45, 3) := by decide +kernel
theorem dX6_youngestBut_42 : decode cX6_youngestBut 42 = .ok (.iload_n 2, 1) := by decide +kernel
theorem dX6_youngestBut_43 : decode cX6_youngestBut 43 = .ok (.aaload, 1) := by decide +kernel
theorem dX6_youngestBut_44 : decode cX6_youngestBut 44 = .ok (.iconst 0, 1) := by decide +kernel
theorem dX6_youngestBut_45 : decode cX6_youngestBut 45 = .ok (.iaload, 1) := by decide +kernel
theorem dX6_youngestBut_46 : decode cX6_youngestBut 46 = .ok (.if_icmp .ge 7, 3) := by decide +kernel
theorem dX6_youngestBut_49 : decode cX6_youngestBut 49 = .ok (.iload_n 3, 1) := by decide +kernel
theorem dX6_youngestBut_50 : decode cX6_youngestBut 50 = .ok (.goto 4, 3) := by decide +kernel
theorem dX6_youngestBut_53 : decode cX6_youngestBut 53 = .ok (.iload_n 2, 1) := by decide +kernel
theorem dX6_youngestBut_54 : decode cX6_youngestBut 54 = .ok (.istore_n 2, 1) := by decide +kernel
theorem dX6_youngestBut_55 : decode cX6_youngestBut 55 = .ok (.iinc 3 1, 3) := by decide +kernel
theorem dX6_youngestBut_58 : decode cX6_youngestBut 58 = .ok (.goto (-54), 3) := by decide +kernel
theorem dX6_youngestBut_61 : decode cX6_youngestBut 61 = .ok (.iload_n 2, 1) := by decide +kernel
theorem dX6_youngestBut_62 : decode cX6_youngestBut 62 = .ok (.ireturn, 1) := by decide +kernel
theorem sz_no {x : Int32} {n : Nat} (hn : n ≤ 40) (h : ¬ Iv x.toInt64 0 (nI n - 1).toInt64) : ¬ ∃ k : Nat, k < n ∧ x = nI k := fun ⟨k, h1, h2⟩ => h (by
  subst h2
  have e : (nI n - 1).toInt = (n : Int) - 1 := by
    rw [show (1 : Int32) = nI 1 from rfl, pk_sub_toInt (by omega) (by omega)]
    rfl
  exact ofI (m := 0) (n := (n : Int) - 1) (by decide) (by rw [Int32.toInt_toInt64]; exact e) ⟨by rw [nI_toInt (by omega)]; omega, by rw [nI_toInt (by omega)]; omega⟩)
def tmF (t : TA) : Nat → Nat
  | 0 => 0
  | p + 1 => tmF t p + (if T_gn t p = false then 1 else 0)
theorem tm_y {t : TA} {p : Nat} (h : T_gn t p = false) : tmF t (p + 1) = tmF t p + 1 := by rw [tmF, if_pos h]
theorem tm_n {t : TA} {p : Nat} (h : T_gn t p = true) : tmF t (p + 1) = tmF t p + 0 := by rw [tmF, if_neg (by rw [h]; decide)]
theorem bt_yes {s : Int32} {n : Nat} (h : ¬ (s >>> (nI n &&& 31)) &&& 1 = 0) : bitb s n = true := by unfold bitb; exact decide_eq_true h
theorem bt_no {s : Int32} {n : Nat} (h : (s >>> (nI n &&& 31)) &&& 1 = 0) : bitb s n = false := by unfold bitb; exact decide_eq_false (fun q => q h)
theorem ga_no {pr : Nat → Bool} {k : Nat → Int32} {n : Nat} (h : pr n = false) : gA pr k (n + 1) = gA pr k n := by rw [gA, if_neg (by rw [h]; decide)]
theorem ga_yy {pr : Nat → Bool} {k : Nat → Int32} {n : Nat} (h : pr n = true) (c : ¬ k n ≤ gA pr k n) : gA pr k (n + 1) = k n := by
  rw [gA, if_pos h]
  exact if_pos (Int32.not_le.mp c)
theorem ga_yn {pr : Nat → Bool} {k : Nat → Int32} {n : Nat} (h : pr n = true) (c : k n ≤ gA pr k n) : gA pr k (n + 1) = gA pr k n := by
  rw [gA, if_pos h]
  exact if_neg (Int32.not_lt.mpr c)
def mgr (t : TA) (b : Nat) (s : Int32) : Int32 := gA (fun p => bitb s p && !T_gn t p) (fun p => T_kn t p b) (T_np t)
def mvo (t : TA) (s : Int32) : Int32 := wsum (fun b => T_wo t b * mgr t b s) (T_nb t)
theorem br_snd {t : TA} {b : Nat} : ∀ {n k : Nat}, n ≤ 8 → (brF t b n).1 = nI k → k < 8 → (brF t b n).2 = zwk t k b := by
  intro n
  induction n with
  | zero => intro k _ h hk; exact absurd h.symm (nI_ne1 hk)
  | succ n ih =>
    intro k hn h hk
    by_cases c : (T_gn t n = false ∧ ¬ zwk t n b = -1 ∧ ((brF t b n).1 = -1 ∨ (brF t b n).2 < zwk t n b ∨ (zwk t n b = (brF t b n).2 ∧ T_ag t n < T_ag t (brF t b n).1.toNatClampNeg)))
    · rw [br_upd c] at h ⊢
      rw [nI_inj (by omega) (by omega) h]
    · rw [br_skip c] at h ⊢
      exact ih (by omega) h hk
set_option maxHeartbeats 4000000 in
set_option maxRecDepth 100000 in
theorem c_X6_in (l : Launch) (G : va_G) (cy : Nat → ClassId) (J1 : Int64) (J2 : Int64) (J3 : Int64)   : MR l yX6_in cX6_in 6 (some .boolean) 1 G cy [] [.long J1, .long J2, .long J3] (vp_Si (fun r => (r = 1 ∧ Iv J1 J2 J3) ∨ (r = 0 ∧ ¬ Iv J1 J2 J3))) := by
  refine enR RX6 (by decide) rfl (Nat.le_of_ble_eq_true rfl) (fun p e s m below meth c ls hx hb hml hown hts hr hlocks hP hN hl => ?_)
  have hK := hN.1
  replace hl : lv_has ls 6 [(0, .long J1), (2, .long J2), (4, .long J3)] := hl
  refine lv_lload_n hx hb dX6_in_0 rfl (lv_at hl 0 rfl) ?_
  refine lv_lload_n hx hb dX6_in_1 rfl (lv_at hl 1 rfl) ?_
  refine W.lcmp hx hb dX6_in_2 ?_
  refine lv_if_lt (tgt := 17) hx hb dX6_in_3 (by decide) (fun c_1 => ?_) (fun c_1 => ?_)
  · refine lv_iconst (v := 0) hx hb dX6_in_17 (by decide) ?_
    exact endR hx hb hr hlocks rfl (Or.inr (⟨rfl, in_no1 c_1⟩)) dX6_in_18
  · refine lv_lload_n hx hb dX6_in_6 rfl (lv_at hl 0 rfl) ?_
    refine lv_lload hx hb dX6_in_7 (lv_at hl 2 rfl) ?_
    refine W.lcmp hx hb dX6_in_9 ?_
    refine lv_if_gt (tgt := 17) hx hb dX6_in_10 (by decide) (fun c_2 => ?_) (fun c_2 => ?_)
    · refine lv_iconst (v := 0) hx hb dX6_in_17 (by decide) ?_
      exact endR hx hb hr hlocks rfl (Or.inr (⟨rfl, in_no2 c_2⟩)) dX6_in_18
    · refine lv_iconst (v := 1) hx hb dX6_in_13 (by decide) ?_
      refine lv_goto (tgt := 18) hx hb dX6_in_14 (by decide) ?_
      exact endR hx hb hr hlocks rfl (Or.inl (⟨rfl, in_yes c_1 c_2⟩)) dX6_in_18
set_option maxHeartbeats 4000000 in
set_option maxRecDepth 100000 in
theorem c_X6_isBook (l : Launch) (G : va_G) (cy : Nat → ClassId) (qm : Nat) (v0 : Value) (v1 : Value) (v2 : Value) (v3 : Value) (v4 : Value) (v5 : Value) (v6 : Value) (v7 : Value) (v8 : Value) (v9 : Value) (tA : TA) (qmB : Nat) (qmO : Nat) (qmK : Nat) (iEn : Int32) (iTk : Int32) (v18 : Value) (v19 : Value) (v20 : Value) (v21 : Value) (v22 : Value) (v23 : Value) (v24 : Value) (v25 : Value) (v26 : Value) (iLv : Int32) (iWs : Int32) (v29 : Value) (v30 : Value) (v31 : Value) (v32 : Value) (v33 : Value) (v34 : Value) (iA : Int32)  (hB : T_nb tA ≤ 8) : MR l yX6_isBook cX6_isBook 3 (some .boolean) 2 G cy [zzO qm 5 [v0, v1, v2, v3, v4, v5, v6, v7, v8, v9, .int (nI (T_nb tA)), .ref qmB, .int (nI (T_np tA)), .ref qmO, .ref qmK, .int iEn, .int iTk, .int (T_sd tA), v18, v19, v20, v21, v22, v23, v24, v25, v26, .int iLv, .int iWs, v29, v30, v31, v32, v33, v34]] [.ref qm, .long iA.toInt64] (vp_Si (fun r => (r = 1 ∧ ∃ k : Nat, k < T_nb tA ∧ iA = nI k) ∨ (r = 0 ∧ ¬ ∃ k : Nat, k < T_nb tA ∧ iA = nI k))) := by
  refine enR RX6 (by decide) rfl (Nat.le_of_ble_eq_true rfl) (fun p e s m below meth c ls hx hb hml hown hts hr hlocks hP hN hl => ?_)
  have hK := hN.1
  replace hl : lv_has ls 3 [(0, .ref qm), (1, .long iA.toInt64)] := hl
  refine lv_lload_n hx hb dX6_isBook_0 rfl (lv_at hl 1 rfl) ?_
  refine lv_lconst (v := 0) hx hb dX6_isBook_1 (by decide) ?_
  refine lv_aload_n hx hb dX6_isBook_2 rfl (lv_at hl 0 rfl) ?_
  refine va_get (D := G) (ci := 5) (v := .int (nI (T_nb tA))) (C := RX6) (T := TX6) (N := 35) hx hb hts iX_X6 hown hK hP 0 rfl rfl 10 (by decide) (hts _ m_t860) (fun _ h9 => h9) rfl dX6_isBook_3 ?_
  refine lv_iconst (v := 1) hx hb dX6_isBook_6 (by decide) ?_
  refine lv_isub hx hb dX6_isBook_7 ?_
  refine lv_i2l (v := ((nI (T_nb tA)) - 1).toInt64) hx hb dX6_isBook_8 rfl ?_
  refine kRi (rS (As := [.long iA.toInt64, .long 0, .long (((nI (T_nb tA)) - 1).toInt64)]) (rest := []) ⟨hx, hb, hml, hown, hts⟩ (c_X6_in l G cy iA.toInt64 0 (((nI (T_nb tA)) - 1).toInt64)) L_X6_74 (preRS hN hP [] rfl) rfl ⟨Nat.le_of_ble_eq_true rfl, Nat.le_of_ble_eq_true rfl⟩ hl.1 (Nat.le_of_ble_eq_true rfl) dX6_isBook_9 ⟨Nat.le_of_ble_eq_true rfl, Nat.le_of_ble_eq_true rfl⟩) (fun r_1 h_2 => ?_)
  rcases h_2 with ⟨rfl, h_3⟩ | ⟨rfl, h_3⟩
  · exact endR hx hb hr hlocks rfl (Or.inl (⟨rfl, sz_in rfl (by omega) h_3⟩)) dX6_isBook_12
  · exact endR hx hb hr hlocks rfl (Or.inr (⟨rfl, sz_no (by omega) h_3⟩)) dX6_isBook_12
set_option maxHeartbeats 4000000 in
set_option maxRecDepth 100000 in
theorem c_X6_isOne (l : Launch) (G : va_G) (cy : Nat → ClassId) (qm : Nat) (v0 : Value) (v1 : Value) (v2 : Value) (v3 : Value) (v4 : Value) (v5 : Value) (v6 : Value) (v7 : Value) (v8 : Value) (v9 : Value) (tA : TA) (qmB : Nat) (qmO : Nat) (qmK : Nat) (iEn : Int32) (iTk : Int32) (v18 : Value) (v19 : Value) (v20 : Value) (v21 : Value) (v22 : Value) (v23 : Value) (v24 : Value) (v25 : Value) (v26 : Value) (iLv : Int32) (iWs : Int32) (v29 : Value) (v30 : Value) (v31 : Value) (v32 : Value) (v33 : Value) (v34 : Value) (iA : Int32)  (hB : T_np tA ≤ 8) : MR l yX6_isOne cX6_isOne 3 (some .boolean) 2 G cy [zzO qm 5 [v0, v1, v2, v3, v4, v5, v6, v7, v8, v9, .int (nI (T_nb tA)), .ref qmB, .int (nI (T_np tA)), .ref qmO, .ref qmK, .int iEn, .int iTk, .int (T_sd tA), v18, v19, v20, v21, v22, v23, v24, v25, v26, .int iLv, .int iWs, v29, v30, v31, v32, v33, v34]] [.ref qm, .long iA.toInt64] (vp_Si (fun r => (r = 1 ∧ ∃ k : Nat, k < T_np tA ∧ iA = nI k) ∨ (r = 0 ∧ ¬ ∃ k : Nat, k < T_np tA ∧ iA = nI k))) := by
  refine enR RX6 (by decide) rfl (Nat.le_of_ble_eq_true rfl) (fun p e s m below meth c ls hx hb hml hown hts hr hlocks hP hN hl => ?_)
  have hK := hN.1
  replace hl : lv_has ls 3 [(0, .ref qm), (1, .long iA.toInt64)] := hl
  refine lv_lload_n hx hb dX6_isOne_0 rfl (lv_at hl 1 rfl) ?_
  refine lv_lconst (v := 0) hx hb dX6_isOne_1 (by decide) ?_
  refine lv_aload_n hx hb dX6_isOne_2 rfl (lv_at hl 0 rfl) ?_
  refine va_get (D := G) (ci := 5) (v := .int (nI (T_np tA))) (C := RX6) (T := TX6) (N := 35) hx hb hts iX_X6 hown hK hP 0 rfl rfl 12 (by decide) (hts _ m_t862) (fun _ h9 => h9) rfl dX6_isOne_3 ?_
  refine lv_iconst (v := 1) hx hb dX6_isOne_6 (by decide) ?_
  refine lv_isub hx hb dX6_isOne_7 ?_
  refine lv_i2l (v := ((nI (T_np tA)) - 1).toInt64) hx hb dX6_isOne_8 rfl ?_
  refine kRi (rS (As := [.long iA.toInt64, .long 0, .long (((nI (T_np tA)) - 1).toInt64)]) (rest := []) ⟨hx, hb, hml, hown, hts⟩ (c_X6_in l G cy iA.toInt64 0 (((nI (T_np tA)) - 1).toInt64)) L_X6_74 (preRS hN hP [] rfl) rfl ⟨Nat.le_of_ble_eq_true rfl, Nat.le_of_ble_eq_true rfl⟩ hl.1 (Nat.le_of_ble_eq_true rfl) dX6_isOne_9 ⟨Nat.le_of_ble_eq_true rfl, Nat.le_of_ble_eq_true rfl⟩) (fun r_1 h_2 => ?_)
  rcases h_2 with ⟨rfl, h_3⟩ | ⟨rfl, h_3⟩
  · exact endR hx hb hr hlocks rfl (Or.inl (⟨rfl, sz_in rfl (by omega) h_3⟩)) dX6_isOne_12
  · exact endR hx hb hr hlocks rfl (Or.inr (⟨rfl, sz_no (by omega) h_3⟩)) dX6_isOne_12
set_option maxHeartbeats 4000000 in
set_option maxRecDepth 100000 in
theorem c_X6_isThere (l : Launch) (G : va_G) (cy : Nat → ClassId) (qm : Nat) (v0 : Value) (v1 : Value) (v2 : Value) (v3 : Value) (v4 : Value) (v5 : Value) (v6 : Value) (v7 : Value) (v8 : Value) (v9 : Value) (tA : TA) (qmB : Nat) (qmO : Nat) (qmK : Nat) (iEn : Int32) (iTk : Int32) (v18 : Value) (v19 : Value) (v20 : Value) (v21 : Value) (v22 : Value) (v23 : Value) (v24 : Value) (v25 : Value) (v26 : Value) (iLv : Int32) (iWs : Int32) (v29 : Value) (v30 : Value) (v31 : Value) (v32 : Value) (v33 : Value) (v34 : Value) (rO : Nat → Nat) (kI : Nat)  (hI : kI < 8) : MR l yX6_isThere cX6_isThere 2 (some .boolean) 1 G cy [zzO qm 5 [v0, v1, v2, v3, v4, v5, v6, v7, v8, v9, .int (nI (T_nb tA)), .ref qmB, .int (nI (T_np tA)), .ref qmO, .ref qmK, .int iEn, .int iTk, .int (T_sd tA), v18, v19, v20, v21, v22, v23, v24, v25, v26, .int iLv, .int iWs, v29, v30, v31, v32, v33, v34], zzG cy 3 qmO rO, zzI cy (rO 0) 5 (onR tA 0), zzI cy (rO 1) 5 (onR tA 1), zzI cy (rO 2) 5 (onR tA 2), zzI cy (rO 3) 5 (onR tA 3), zzI cy (rO 4) 5 (onR tA 4), zzI cy (rO 5) 5 (onR tA 5), zzI cy (rO 6) 5 (onR tA 6), zzI cy (rO 7) 5 (onR tA 7)] [.ref qm, .int (nI kI)] (vp_Si (fun r => (r = 1 ∧ T_gn tA kI = false) ∨ (r = 0 ∧ T_gn tA kI = true))) := by
  refine enR RX6 (by decide) rfl (Nat.le_of_ble_eq_true rfl) (fun p e s m below meth c ls hx hb hml hown hts hr hlocks hP hN hl => ?_)
  have hK := hN.1
  replace hl : lv_has ls 2 [(0, .ref qm), (1, .int (nI kI))] := hl
  refine lv_aload_n hx hb dX6_isThere_0 rfl (lv_at hl 0 rfl) ?_
  refine va_get (D := G) (ci := 5) (v := .ref qmO) (C := RX6) (T := TX6) (N := 35) hx hb hts iX_X6 hown hK hP 0 rfl rfl 13 (by decide) (hts _ m_t863) (fun _ h9 => h9) rfl dX6_isThere_1 ?_
  refine lv_iload_n hx hb dX6_isThere_4 rfl (lv_at hl 1 rfl) ?_
  refine va_alda hx hb hK hP 1 3 rfl rfl (in8 (by omega)) dX6_isThere_5 ?_
  refine lv_setv (v := .ref (rO kI)) (g_ref (by omega)) ?_
  refine lv_iconst (v := 4) hx hb dX6_isThere_6 (by decide) ?_
  refine va_iald hx hb hK hP (2 + kI) 0 (sg8 (n0 := 2) (f := (fun j => zzI cy (rO j) 5 (onR tA j))) rfl rfl rfl rfl rfl rfl rfl rfl kI (by omega)) rfl (in_c rfl) dX6_isThere_7 ?_
  refine lv_seti (v := b01 (T_gn tA kI)) (on_4 _ _) ?_
  refine lv_if_ne (tgt := 15) hx hb dX6_isThere_8 (by decide) (fun c_1 => ?_) (fun c_1 => ?_)
  · refine lv_iconst (v := 0) hx hb dX6_isThere_15 (by decide) ?_
    exact endR hx hb hr hlocks rfl (Or.inr (⟨rfl, b01_n0 c_1⟩)) dX6_isThere_16
  · refine lv_iconst (v := 1) hx hb dX6_isThere_11 (by decide) ?_
    refine lv_goto (tgt := 16) hx hb dX6_isThere_12 (by decide) ?_
    exact endR hx hb hr hlocks rfl (Or.inl (⟨rfl, b01_0 c_1⟩)) dX6_isThere_16
set_option maxHeartbeats 4000000 in
set_option maxRecDepth 100000 in
theorem c_X6_isWhite (l : Launch) (G : va_G) (cy : Nat → ClassId) (qm : Nat) (v0 : Value) (v1 : Value) (v2 : Value) (v3 : Value) (v4 : Value) (v5 : Value) (v6 : Value) (v7 : Value) (v8 : Value) (v9 : Value) (tA : TA) (qmB : Nat) (qmO : Nat) (qmK : Nat) (iEn : Int32) (iTk : Int32) (v18 : Value) (v19 : Value) (v20 : Value) (v21 : Value) (v22 : Value) (v23 : Value) (v24 : Value) (v25 : Value) (v26 : Value) (iLv : Int32) (iWs : Int32) (v29 : Value) (v30 : Value) (v31 : Value) (v32 : Value) (v33 : Value) (v34 : Value) (rB : Nat → Nat) (kB : Nat)  (hJ : kB < 8) : MR l yX6_isWhite cX6_isWhite 2 (some .boolean) 1 G cy [zzO qm 5 [v0, v1, v2, v3, v4, v5, v6, v7, v8, v9, .int (nI (T_nb tA)), .ref qmB, .int (nI (T_np tA)), .ref qmO, .ref qmK, .int iEn, .int iTk, .int (T_sd tA), v18, v19, v20, v21, v22, v23, v24, v25, v26, .int iLv, .int iWs, v29, v30, v31, v32, v33, v34], zzG cy 3 qmB rB, zzI cy (rB 0) 4 (bkR tA 0), zzI cy (rB 1) 4 (bkR tA 1), zzI cy (rB 2) 4 (bkR tA 2), zzI cy (rB 3) 4 (bkR tA 3), zzI cy (rB 4) 4 (bkR tA 4), zzI cy (rB 5) 4 (bkR tA 5), zzI cy (rB 6) 4 (bkR tA 6), zzI cy (rB 7) 4 (bkR tA 7)] [.ref qm, .int (nI kB)] (vp_Si (fun r => (r = 1 ∧ T_wh tA kB = true) ∨ (r = 0 ∧ T_wh tA kB = false))) := by
  refine enR RX6 (by decide) rfl (Nat.le_of_ble_eq_true rfl) (fun p e s m below meth c ls hx hb hml hown hts hr hlocks hP hN hl => ?_)
  have hK := hN.1
  replace hl : lv_has ls 2 [(0, .ref qm), (1, .int (nI kB))] := hl
  refine lv_aload_n hx hb dX6_isWhite_0 rfl (lv_at hl 0 rfl) ?_
  refine va_get (D := G) (ci := 5) (v := .ref qmB) (C := RX6) (T := TX6) (N := 35) hx hb hts iX_X6 hown hK hP 0 rfl rfl 11 (by decide) (hts _ m_t861) (fun _ h9 => h9) rfl dX6_isWhite_1 ?_
  refine lv_iload_n hx hb dX6_isWhite_4 rfl (lv_at hl 1 rfl) ?_
  refine va_alda hx hb hK hP 1 3 rfl rfl (in8 (by omega)) dX6_isWhite_5 ?_
  refine lv_setv (v := .ref (rB kB)) (g_ref (by omega)) ?_
  refine lv_iconst (v := 3) hx hb dX6_isWhite_6 (by decide) ?_
  refine va_iald hx hb hK hP (2 + kB) 0 (sg8 (n0 := 2) (f := (fun j => zzI cy (rB j) 4 (bkR tA j))) rfl rfl rfl rfl rfl rfl rfl rfl kB (by omega)) rfl (in_c rfl) dX6_isWhite_7 ?_
  refine lv_seti (v := b01 (T_wh tA kB)) (bk_3 _ _) ?_
  refine lv_iconst (v := 1) hx hb dX6_isWhite_8 (by decide) ?_
  refine lv_icmp_ne (tgt := 16) hx hb dX6_isWhite_9 (by decide) (fun c_1 => ?_) (fun c_1 => ?_)
  · refine lv_iconst (v := 0) hx hb dX6_isWhite_16 (by decide) ?_
    exact endR hx hb hr hlocks rfl (Or.inr (⟨rfl, b01_n1 c_1⟩)) dX6_isWhite_17
  · refine lv_iconst (v := 1) hx hb dX6_isWhite_12 (by decide) ?_
    refine lv_goto (tgt := 17) hx hb dX6_isWhite_13 (by decide) ?_
    exact endR hx hb hr hlocks rfl (Or.inl (⟨rfl, b01_1 c_1⟩)) dX6_isWhite_17
set_option maxHeartbeats 4000000 in
set_option maxRecDepth 100000 in
theorem c_X6_thereMany (l : Launch) (G : va_G) (cy : Nat → ClassId) (qm : Nat) (v0 : Value) (v1 : Value) (v2 : Value) (v3 : Value) (v4 : Value) (v5 : Value) (v6 : Value) (v7 : Value) (v8 : Value) (v9 : Value) (tA : TA) (qmB : Nat) (qmO : Nat) (qmK : Nat) (iEn : Int32) (iTk : Int32) (v18 : Value) (v19 : Value) (v20 : Value) (v21 : Value) (v22 : Value) (v23 : Value) (v24 : Value) (v25 : Value) (v26 : Value) (iLv : Int32) (iWs : Int32) (v29 : Value) (v30 : Value) (v31 : Value) (v32 : Value) (v33 : Value) (v34 : Value) (rO : Nat → Nat)  (hPp : T_np tA ≤ 8) : MR l yX6_thereMany cX6_thereMany 3 (some .int) 2 G cy [zzO qm 5 [v0, v1, v2, v3, v4, v5, v6, v7, v8, v9, .int (nI (T_nb tA)), .ref qmB, .int (nI (T_np tA)), .ref qmO, .ref qmK, .int iEn, .int iTk, .int (T_sd tA), v18, v19, v20, v21, v22, v23, v24, v25, v26, .int iLv, .int iWs, v29, v30, v31, v32, v33, v34], zzG cy 3 qmO rO, zzI cy (rO 0) 5 (onR tA 0), zzI cy (rO 1) 5 (onR tA 1), zzI cy (rO 2) 5 (onR tA 2), zzI cy (rO 3) 5 (onR tA 3), zzI cy (rO 4) 5 (onR tA 4), zzI cy (rO 5) 5 (onR tA 5), zzI cy (rO 6) 5 (onR tA 6), zzI cy (rO 7) 5 (onR tA 7)] [.ref qm] (vp_Si (fun r => (r = (nI (tmF tA (T_np tA)))))) := by
  refine enR RX6 (by decide) rfl (Nat.le_of_ble_eq_true rfl) (fun p e s m below meth c ls hx hb hml hown hts hr hlocks hP hN hl => ?_)
  have hK := hN.1
  replace hl : lv_has ls 3 [(0, .ref qm)] := hl
  refine lv_iconst (v := 0) hx hb dX6_thereMany_0 (by decide) ?_
  refine lv_istore_n (lv' := [(1, .int 0), (0, .ref qm)]) hx hb dX6_thereMany_1 rfl hl (by decide) rfl (fun ls => ?_)
  clear hl
  intro hl
  refine lv_iconst (v := 0) hx hb dX6_thereMany_2 (by decide) ?_
  refine lv_istore_n (lv' := [(2, .int 0), (1, .int 0), (0, .ref qm)]) hx hb dX6_thereMany_3 rfl hl (by decide) rfl (fun ls => ?_)
  clear hl
  intro hl
  have lp_1 : ∀ (n_2 : Nat) (j_4 : Nat) (xC_5 : Int32), 8 - j_4 < n_2 → j_4 ≤ T_np tA → xC_5 = nI (tmF tA j_4) → ∀ (ls : Array Slot), lv_has ls 3 [(2, .int (nI j_4)), (1, .int xC_5), (0, .ref qm)] → W p l e (Rm 2 0 0) s m (List.toArray (α := Value) [.ref qm]) below meth c s.heap [] 0 0 (MQ below (vp_Si (fun r => (r = (nI (tmF tA (T_np tA)))))) (List.toArray (α := Value) [.ref qm]) s 0 0 (fun _ => False)) (F0 m 4 ls []) := by
    intro n_2
    induction n_2 with
    | zero => intro j_4 xC_5 hm9; exact absurd hm9 (Nat.not_lt_zero _)
    | succ n_2 ih_3 =>
      intro j_4 xC_5 hm_8 hj_6 hxC_7 ls hl
      refine lv_iload_n hx hb dX6_thereMany_4 rfl (lv_at hl 0 rfl) ?_
      refine lv_aload_n hx hb dX6_thereMany_5 rfl (lv_at hl 2 rfl) ?_
      refine va_get (D := G) (ci := 5) (v := .int (nI (T_np tA))) (C := RX6) (T := TX6) (N := 35) hx hb hts iX_X6 hown hK hP 0 rfl rfl 12 (by decide) (hts _ m_t862) (fun _ h9 => h9) rfl dX6_thereMany_6 ?_
      refine lv_icmp_ge (tgt := 34) hx hb dX6_thereMany_9 (by decide) (fun c_9 => ?_) (fun c_9 => ?_)
      · have hlt_10 : j_4 = T_np tA := Nat.le_antisymm (by omega) (lp_ge rfl rfl (by omega) (by omega) c_9)
        refine lv_iload_n hx hb dX6_thereMany_34 rfl (lv_at hl 1 rfl) ?_
        exact endR hx hb hr hlocks rfl (by rw [hxC_7, hlt_10]) dX6_thereMany_35
      · have hlt_11 : j_4 < T_np tA := lp_lt rfl rfl (by omega) (by omega) c_9
        refine lv_iload_n hx hb dX6_thereMany_12 rfl (lv_at hl 1 rfl) ?_
        refine lv_aload_n hx hb dX6_thereMany_13 rfl (lv_at hl 2 rfl) ?_
        refine lv_iload_n hx hb dX6_thereMany_14 rfl (lv_at hl 0 rfl) ?_
        refine kRi (rV (As := [.int (nI j_4)]) (rest := [.int xC_5]) (b := qm) ⟨hx, hb, hml, hown, hts⟩ (c_X6_isThere l G cy qm v0 v1 v2 v3 v4 v5 v6 v7 v8 v9 tA qmB qmO qmK iEn iTk v18 v19 v20 v21 v22 v23 v24 v25 v26 iLv iWs v29 v30 v31 v32 v33 v34 rO j_4 (by first | omega | (simp only [nb_sr, np_sr, nb_wr, np_wr, nb_rd, np_rd, nb_ch, np_ch, nb_zr, np_zr, nb_za, np_za, nb_ey, np_ey, nb_hf, np_hf, nb_dd, np_dd, nb_so, np_so, nb_skn, np_skn, nb_swh, np_swh, nb_sgn, np_sgn, nb_ssd, np_ssd, nb_sgo, np_sgo, nb_sag, np_sag]; omega))) L_X6_81 (preRV (q := (RX6, TX6, 35)) hN hP [0, 1, 2, 3, 4, 5, 6, 7, 8, 9] rfl 0 5 rfl rfl) rfl ⟨Nat.le_of_ble_eq_true rfl, Nat.le_of_ble_eq_true rfl⟩ hl.1 (Nat.le_of_ble_eq_true rfl) dX6_thereMany_15 ⟨Nat.le_of_ble_eq_true rfl, Nat.le_of_ble_eq_true rfl⟩) (fun r_12 h_13 => ?_)
        rcases h_13 with ⟨rfl, h_14⟩ | ⟨rfl, h_14⟩
        · refine lv_if_eq (tgt := 25) hx hb dX6_thereMany_18 (by decide) (fun h9 => absurd h9 (by decide)) (fun _ => ?_)
          refine lv_iconst (v := 1) hx hb dX6_thereMany_21 (by decide) ?_
          refine lv_goto (tgt := 26) hx hb dX6_thereMany_22 (by decide) ?_
          refine lv_iadd hx hb dX6_thereMany_26 ?_
          refine lv_istore_n (lv' := [(1, .int (xC_5 + 1)), (2, .int (nI j_4)), (0, .ref qm)]) hx hb dX6_thereMany_27 rfl hl (by decide) rfl (fun ls => ?_)
          clear hl
          intro hl
          refine lv_iinc (v := nI (j_4 + 1)) (lv' := [(2, .int (nI (j_4 + 1))), (1, .int (xC_5 + 1)), (0, .ref qm)]) hx hb dX6_thereMany_28 hl (k := 1) rfl (nI_1 _) (by decide) rfl (fun ls => ?_)
          clear hl
          intro hl
          refine lv_goto (tgt := 4) hx hb dX6_thereMany_31 (by decide) ?_
          exact ih_3 (j_4 + 1) (xC_5 + 1) (by omega) (by omega) (by rw [hxC_7, tm_y h_14]; exact nI_add _ 1) _ (lv_sub hl [0, 1, 2] rfl)
        · refine lv_if_eq (tgt := 25) hx hb dX6_thereMany_18 (by decide) (fun _ => ?_) (fun h9 => absurd (by decide) h9)
          refine lv_iconst (v := 0) hx hb dX6_thereMany_25 (by decide) ?_
          refine lv_iadd hx hb dX6_thereMany_26 ?_
          refine lv_istore_n (lv' := [(1, .int (xC_5 + 0)), (2, .int (nI j_4)), (0, .ref qm)]) hx hb dX6_thereMany_27 rfl hl (by decide) rfl (fun ls => ?_)
          clear hl
          intro hl
          refine lv_iinc (v := nI (j_4 + 1)) (lv' := [(2, .int (nI (j_4 + 1))), (1, .int (xC_5 + 0)), (0, .ref qm)]) hx hb dX6_thereMany_28 hl (k := 1) rfl (nI_1 _) (by decide) rfl (fun ls => ?_)
          clear hl
          intro hl
          refine lv_goto (tgt := 4) hx hb dX6_thereMany_31 (by decide) ?_
          exact ih_3 (j_4 + 1) (xC_5 + 0) (by omega) (by omega) (by rw [hxC_7, tm_n h_14]; exact nI_add _ 0) _ (lv_sub hl [0, 1, 2] rfl)
  exact lp_1 ((8 - 0) + 1) 0 0 (Nat.lt_succ_self _) (Nat.zero_le _) rfl ls (lv_sub hl [0, 1, 2] rfl)
set_option maxHeartbeats 4000000 in
set_option maxRecDepth 100000 in
theorem c_X6_whiteMany (l : Launch) (G : va_G) (cy : Nat → ClassId) (qm : Nat) (v0 : Value) (v1 : Value) (v2 : Value) (v3 : Value) (v4 : Value) (v5 : Value) (v6 : Value) (v7 : Value) (v8 : Value) (v9 : Value) (tA : TA) (qmB : Nat) (qmO : Nat) (qmK : Nat) (iEn : Int32) (iTk : Int32) (v18 : Value) (v19 : Value) (v20 : Value) (v21 : Value) (v22 : Value) (v23 : Value) (v24 : Value) (v25 : Value) (v26 : Value) (iLv : Int32) (iWs : Int32) (v29 : Value) (v30 : Value) (v31 : Value) (v32 : Value) (v33 : Value) (v34 : Value) (rB : Nat → Nat)  (hB : T_nb tA ≤ 8) : MR l yX6_whiteMany cX6_whiteMany 3 (some .int) 1 G cy [zzO qm 5 [v0, v1, v2, v3, v4, v5, v6, v7, v8, v9, .int (nI (T_nb tA)), .ref qmB, .int (nI (T_np tA)), .ref qmO, .ref qmK, .int iEn, .int iTk, .int (T_sd tA), v18, v19, v20, v21, v22, v23, v24, v25, v26, .int iLv, .int iWs, v29, v30, v31, v32, v33, v34], zzG cy 3 qmB rB, zzI cy (rB 0) 4 (bkR tA 0), zzI cy (rB 1) 4 (bkR tA 1), zzI cy (rB 2) 4 (bkR tA 2), zzI cy (rB 3) 4 (bkR tA 3), zzI cy (rB 4) 4 (bkR tA 4), zzI cy (rB 5) 4 (bkR tA 5), zzI cy (rB 6) 4 (bkR tA 6), zzI cy (rB 7) 4 (bkR tA 7)] [.ref qm] (vp_Si (fun r => (r = (wsum (fun b => b01 (T_wh tA b)) (T_nb tA))))) := by
  refine enR RX6 (by decide) rfl (Nat.le_of_ble_eq_true rfl) (fun p e s m below meth c ls hx hb hml hown hts hr hlocks hP hN hl => ?_)
  have hK := hN.1
  replace hl : lv_has ls 3 [(0, .ref qm)] := hl
  refine lv_iconst (v := 0) hx hb dX6_whiteMany_0 (by decide) ?_
  refine lv_istore_n (lv' := [(1, .int 0), (0, .ref qm)]) hx hb dX6_whiteMany_1 rfl hl (by decide) rfl (fun ls => ?_)
  clear hl
  intro hl
  refine lv_iconst (v := 0) hx hb dX6_whiteMany_2 (by decide) ?_
  refine lv_istore_n (lv' := [(2, .int 0), (1, .int 0), (0, .ref qm)]) hx hb dX6_whiteMany_3 rfl hl (by decide) rfl (fun ls => ?_)
  clear hl
  intro hl
  have lp_1 : ∀ (n_2 : Nat) (j_4 : Nat) (xC_5 : Int32), 8 - j_4 < n_2 → j_4 ≤ T_nb tA → xC_5 = wsum (fun b => b01 (T_wh tA b)) j_4 → ∀ (ls : Array Slot), lv_has ls 3 [(2, .int (nI j_4)), (1, .int xC_5), (0, .ref qm)] → W p l e (Rm 1 0 0) s m (List.toArray (α := Value) [.ref qm]) below meth c s.heap [] 0 0 (MQ below (vp_Si (fun r => (r = (wsum (fun b => b01 (T_wh tA b)) (T_nb tA))))) (List.toArray (α := Value) [.ref qm]) s 0 0 (fun _ => False)) (F0 m 4 ls []) := by
    intro n_2
    induction n_2 with
    | zero => intro j_4 xC_5 hm9; exact absurd hm9 (Nat.not_lt_zero _)
    | succ n_2 ih_3 =>
      intro j_4 xC_5 hm_8 hj_6 hxC_7 ls hl
      refine lv_iload_n hx hb dX6_whiteMany_4 rfl (lv_at hl 0 rfl) ?_
      refine lv_aload_n hx hb dX6_whiteMany_5 rfl (lv_at hl 2 rfl) ?_
      refine va_get (D := G) (ci := 5) (v := .int (nI (T_nb tA))) (C := RX6) (T := TX6) (N := 35) hx hb hts iX_X6 hown hK hP 0 rfl rfl 10 (by decide) (hts _ m_t860) (fun _ h9 => h9) rfl dX6_whiteMany_6 ?_
      refine lv_icmp_ge (tgt := 29) hx hb dX6_whiteMany_9 (by decide) (fun c_9 => ?_) (fun c_9 => ?_)
      · have hlt_10 : j_4 = T_nb tA := Nat.le_antisymm (by omega) (lp_ge rfl rfl (by omega) (by omega) c_9)
        refine lv_iload_n hx hb dX6_whiteMany_29 rfl (lv_at hl 1 rfl) ?_
        exact endR hx hb hr hlocks rfl (by rw [hxC_7, hlt_10]) dX6_whiteMany_30
      · have hlt_11 : j_4 < T_nb tA := lp_lt rfl rfl (by omega) (by omega) c_9
        refine lv_iload_n hx hb dX6_whiteMany_12 rfl (lv_at hl 1 rfl) ?_
        refine lv_aload_n hx hb dX6_whiteMany_13 rfl (lv_at hl 2 rfl) ?_
        refine va_get (D := G) (ci := 5) (v := .ref qmB) (C := RX6) (T := TX6) (N := 35) hx hb hts iX_X6 hown hK hP 0 rfl rfl 11 (by decide) (hts _ m_t861) (fun _ h9 => h9) rfl dX6_whiteMany_14 ?_
        refine lv_iload_n hx hb dX6_whiteMany_17 rfl (lv_at hl 0 rfl) ?_
        refine va_alda hx hb hK hP 1 3 rfl rfl (in8 (by omega)) dX6_whiteMany_18 ?_
        refine lv_setv (v := .ref (rB j_4)) (g_ref (by omega)) ?_
        refine lv_iconst (v := 3) hx hb dX6_whiteMany_19 (by decide) ?_
        refine va_iald hx hb hK hP (2 + j_4) 0 (sg8 (n0 := 2) (f := (fun j => zzI cy (rB j) 4 (bkR tA j))) rfl rfl rfl rfl rfl rfl rfl rfl j_4 (by omega)) rfl (in_c rfl) dX6_whiteMany_20 ?_
        refine lv_seti (v := b01 (T_wh tA j_4)) (bk_3 _ _) ?_
        refine lv_iadd hx hb dX6_whiteMany_21 ?_
        refine lv_istore_n (lv' := [(1, .int (xC_5 + (b01 (T_wh tA j_4)))), (2, .int (nI j_4)), (0, .ref qm)]) hx hb dX6_whiteMany_22 rfl hl (by decide) rfl (fun ls => ?_)
        clear hl
        intro hl
        refine lv_iinc (v := nI (j_4 + 1)) (lv' := [(2, .int (nI (j_4 + 1))), (1, .int (xC_5 + (b01 (T_wh tA j_4)))), (0, .ref qm)]) hx hb dX6_whiteMany_23 hl (k := 1) rfl (nI_1 _) (by decide) rfl (fun ls => ?_)
        clear hl
        intro hl
        refine lv_goto (tgt := 4) hx hb dX6_whiteMany_26 (by decide) ?_
        exact ih_3 (j_4 + 1) (xC_5 + (b01 (T_wh tA j_4))) (by omega) (by omega) (by rw [hxC_7]; rfl) _ (lv_sub hl [0, 1, 2] rfl)
  exact lp_1 ((8 - 0) + 1) 0 0 (Nat.lt_succ_self _) (Nat.zero_le _) rfl ls (lv_sub hl [0, 1, 2] rfl)
set_option maxHeartbeats 4000000 in
set_option maxRecDepth 100000 in
theorem c_X6_bits (l : Launch) (G : va_G) (cy : Nat → ClassId) (iS : Int32)   : MR l yX6_bits cX6_bits 3 (some .int) 1 G cy [] [.int iS] (vp_Si (fun r => True)) := by
  refine enR RX6 (by decide) rfl (Nat.le_of_ble_eq_true rfl) (fun p e s m below meth c ls hx hb hml hown hts hr hlocks hP hN hl => ?_)
  have hK := hN.1
  replace hl : lv_has ls 3 [(0, .int iS)] := hl
  refine lv_iconst (v := 0) hx hb dX6_bits_0 (by decide) ?_
  refine lv_istore_n (lv' := [(1, .int 0), (0, .int iS)]) hx hb dX6_bits_1 rfl hl (by decide) rfl (fun ls => ?_)
  clear hl
  intro hl
  refine lv_iconst (v := 0) hx hb dX6_bits_2 (by decide) ?_
  refine lv_istore_n (lv' := [(2, .int 0), (1, .int 0), (0, .int iS)]) hx hb dX6_bits_3 rfl hl (by decide) rfl (fun ls => ?_)
  clear hl
  intro hl
  have lp_1 : ∀ (n_2 : Nat) (j_4 : Nat) (xC_5 : Int32), 8 - j_4 < n_2 → j_4 ≤ 8 → ∀ (ls : Array Slot), lv_has ls 3 [(2, .int (nI j_4)), (1, .int xC_5), (0, .int iS)] → W p l e (Rm 1 0 0) s m (List.toArray (α := Value) [.int iS]) below meth c s.heap [] 0 0 (MQ below (vp_Si (fun r => True)) (List.toArray (α := Value) [.int iS]) s 0 0 (fun _ => False)) (F0 m 4 ls []) := by
    intro n_2
    induction n_2 with
    | zero => intro j_4 xC_5 hm9; exact absurd hm9 (Nat.not_lt_zero _)
    | succ n_2 ih_3 =>
      intro j_4 xC_5 hm_7 hj_6 ls hl
      refine lv_iload_n hx hb dX6_bits_4 rfl (lv_at hl 0 rfl) ?_
      refine lv_bipush (v := 8) hx hb dX6_bits_5 (by decide) ?_
      refine lv_icmp_ge (tgt := 24) hx hb dX6_bits_7 (by decide) (fun c_8 => ?_) (fun c_8 => ?_)
      · have hlt_9 : j_4 = 8 := Nat.le_antisymm (by omega) (lp_ge rfl (rfl : (8 : Int32) = nI 8) (by omega) (by omega) c_8)
        refine lv_iload_n hx hb dX6_bits_24 rfl (lv_at hl 1 rfl) ?_
        exact endR hx hb hr hlocks rfl trivial dX6_bits_25
      · have hlt_10 : j_4 < 8 := lp_lt rfl (rfl : (8 : Int32) = nI 8) (by omega) (by omega) c_8
        refine lv_iload_n hx hb dX6_bits_10 rfl (lv_at hl 1 rfl) ?_
        refine lv_iload_n hx hb dX6_bits_11 rfl (lv_at hl 2 rfl) ?_
        refine lv_iload_n hx hb dX6_bits_12 rfl (lv_at hl 0 rfl) ?_
        refine lv_ishr hx hb dX6_bits_13 ?_
        refine lv_iconst (v := 1) hx hb dX6_bits_14 (by decide) ?_
        refine lv_iand hx hb dX6_bits_15 ?_
        refine lv_iadd hx hb dX6_bits_16 ?_
        refine lv_istore_n (lv' := [(1, .int (xC_5 + ((iS >>> ((nI j_4) &&& 31)) &&& 1))), (2, .int (nI j_4)), (0, .int iS)]) hx hb dX6_bits_17 rfl hl (by decide) rfl (fun ls => ?_)
        clear hl
        intro hl
        refine lv_iinc (v := nI (j_4 + 1)) (lv' := [(2, .int (nI (j_4 + 1))), (1, .int (xC_5 + ((iS >>> ((nI j_4) &&& 31)) &&& 1))), (0, .int iS)]) hx hb dX6_bits_18 hl (k := 1) rfl (nI_1 _) (by decide) rfl (fun ls => ?_)
        clear hl
        intro hl
        refine lv_goto (tgt := 4) hx hb dX6_bits_21 (by decide) ?_
        exact ih_3 (j_4 + 1) (xC_5 + ((iS >>> ((nI j_4) &&& 31)) &&& 1)) (by omega) (by omega) _ (lv_sub hl [0, 1, 2] rfl)
  exact lp_1 ((8 - 0) + 1) 0 0 (Nat.lt_succ_self _) (Nat.zero_le _) ls (lv_sub hl [0, 1, 2] rfl)
set_option maxHeartbeats 4000000 in
set_option maxRecDepth 100000 in
theorem c_X6_refuse2 (l : Launch) (G : va_G) (cy : Nat → ClassId) (sz : Nat) (qm : Nat) (v0 : Value) (v1 : Value) (v2 : Value) (v3 : Value) (v4 : Value) (v5 : Value) (v6 : Value) (v7 : Value) (v8 : Value) (qmr : Nat) (tA : TA) (qmB : Nat) (qmO : Nat) (qmK : Nat) (iEn : Int32) (iTk : Int32) (v18 : Value) (v19 : Value) (v20 : Value) (v21 : Value) (v22 : Value) (v23 : Value) (v24 : Value) (v25 : Value) (v26 : Value) (iLv : Int32) (iWs : Int32) (v29 : Value) (v30 : Value) (v31 : Value) (v32 : Value) (v33 : Value) (v34 : Value) (fR : Nat → Int32)   : MW l yX6_refuse cX6_refuse 2 (some .int) 1 0 0 G cy [zzO qm 5 [v0, v1, v2, v3, v4, v5, v6, v7, v8, .ref qmr, .int (nI (T_nb tA)), .ref qmB, .int (nI (T_np tA)), .ref qmO, .ref qmK, .int iEn, .int iTk, .int (T_sd tA), v18, v19, v20, v21, v22, v23, v24, v25, v26, .int iLv, .int iWs, v29, v30, v31, v32, v33, v34], zzI cy qmr 8 fR] sz [.ref qm, .int (-2)] (Wi G (fun r u => ∃ (fX : Nat → Int32), u = [zzO qm 5 [v0, v1, v2, v3, v4, v5, v6, v7, v8, .ref qmr, .int (nI (T_nb tA)), .ref qmB, .int (nI (T_np tA)), .ref qmO, .ref qmK, .int iEn, .int iTk, .int (T_sd tA), v18, v19, v20, v21, v22, v23, v24, v25, v26, .int iLv, .int iWs, v29, v30, v31, v32, v33, v34], zzI cy qmr 8 fX] ∧ ((r = (-2))))) := by
  refine enW RX6 (by decide) rfl (Nat.le_of_ble_eq_true rfl) (fun p e s m below meth c ls A hx hb hml hown hts hr hlocks hP hN hl hin hD hA hS => ?_)
  have hin : meth.name = _ := hin
  have hK := hN.1
  replace hl : lv_has ls 2 [(0, .ref qm), (1, .int (-2))] := hl
  refine lv_aload_n hx hb dX6_refuse_0 rfl (lv_at hl 0 rfl) ?_
  refine va_get (D := G) (ci := 5) (v := .ref qmr) (C := RX6) (T := TX6) (N := 35) hx hb hts iX_X6 hown hK hP 0 rfl rfl 9 (by decide) (hts _ m_t859) (fun _ h9 => h9) rfl dX6_refuse_1 ?_
  refine lv_iload_n hx hb dX6_refuse_4 rfl (lv_at hl 1 rfl) ?_
  refine lv_ineg hx hb dX6_refuse_5 ?_
  refine lv_seti (v := 2) (by decide) ?_
  refine lv_dup2_11 hx hb dX6_refuse_6 rfl rfl ?_
  refine va_iald hx hb hK hP 1 0 rfl rfl (in_c rfl) dX6_refuse_7 ?_
  refine lv_seti (v := fR 2) (congrArg fR (by decide)) ?_
  refine lv_iconst (v := 1) hx hb dX6_refuse_8 (by decide) ?_
  refine lv_iadd hx hb dX6_refuse_9 ?_
  refine va_iast hx hb hK hP hD hS 1 0 rfl rfl (in_c rfl) dX6_refuse_10 (fun H locs => ?_)
  clear hP hD hS
  intro hP hD hS
  have hPD := pd_as [zzO qm 5 [v0, v1, v2, v3, v4, v5, v6, v7, v8, .ref qmr, .int (nI (T_nb tA)), .ref qmB, .int (nI (T_np tA)), .ref qmO, .ref qmK, .int iEn, .int iTk, .int (T_sd tA), v18, v19, v20, v21, v22, v23, v24, v25, v26, .int iLv, .int iWs, v29, v30, v31, v32, v33, v34], zzI cy qmr 8 (upd fR 2 ((fR 2) + 1))] hP hD rfl
  clear hP hD
  obtain ⟨hP, hD⟩ := hPD
  refine lv_iload_n hx hb dX6_refuse_11 rfl (lv_at hl 1 rfl) ?_
  exact endW (u := [zzO qm 5 [v0, v1, v2, v3, v4, v5, v6, v7, v8, .ref qmr, .int (nI (T_nb tA)), .ref qmB, .int (nI (T_np tA)), .ref qmO, .ref qmK, .int iEn, .int iTk, .int (T_sd tA), v18, v19, v20, v21, v22, v23, v24, v25, v26, .int iLv, .int iWs, v29, v30, v31, v32, v33, v34], zzI cy qmr 8 (upd fR 2 ((fR 2) + 1))]) hx hb hr hlocks rfl (hP.sub [0, 1] rfl) (hD.sub [0, 1] (by decide +kernel) rfl) hS ⟨upd fR 2 ((fR 2) + 1), rfl, rfl⟩ dX6_refuse_12
set_option maxHeartbeats 4000000 in
set_option maxRecDepth 100000 in
theorem c_X6_refuse3 (l : Launch) (G : va_G) (cy : Nat → ClassId) (sz : Nat) (qm : Nat) (v0 : Value) (v1 : Value) (v2 : Value) (v3 : Value) (v4 : Value) (v5 : Value) (v6 : Value) (v7 : Value) (v8 : Value) (qmr : Nat) (tA : TA) (qmB : Nat) (qmO : Nat) (qmK : Nat) (iEn : Int32) (iTk : Int32) (v18 : Value) (v19 : Value) (v20 : Value) (v21 : Value) (v22 : Value) (v23 : Value) (v24 : Value) (v25 : Value) (v26 : Value) (iLv : Int32) (iWs : Int32) (v29 : Value) (v30 : Value) (v31 : Value) (v32 : Value) (v33 : Value) (v34 : Value) (fR : Nat → Int32)   : MW l yX6_refuse cX6_refuse 2 (some .int) 1 0 0 G cy [zzO qm 5 [v0, v1, v2, v3, v4, v5, v6, v7, v8, .ref qmr, .int (nI (T_nb tA)), .ref qmB, .int (nI (T_np tA)), .ref qmO, .ref qmK, .int iEn, .int iTk, .int (T_sd tA), v18, v19, v20, v21, v22, v23, v24, v25, v26, .int iLv, .int iWs, v29, v30, v31, v32, v33, v34], zzI cy qmr 8 fR] sz [.ref qm, .int (-3)] (Wi G (fun r u => ∃ (fX : Nat → Int32), u = [zzO qm 5 [v0, v1, v2, v3, v4, v5, v6, v7, v8, .ref qmr, .int (nI (T_nb tA)), .ref qmB, .int (nI (T_np tA)), .ref qmO, .ref qmK, .int iEn, .int iTk, .int (T_sd tA), v18, v19, v20, v21, v22, v23, v24, v25, v26, .int iLv, .int iWs, v29, v30, v31, v32, v33, v34], zzI cy qmr 8 fX] ∧ ((r = (-3))))) := by
  refine enW RX6 (by decide) rfl (Nat.le_of_ble_eq_true rfl) (fun p e s m below meth c ls A hx hb hml hown hts hr hlocks hP hN hl hin hD hA hS => ?_)
  have hin : meth.name = _ := hin
  have hK := hN.1
  replace hl : lv_has ls 2 [(0, .ref qm), (1, .int (-3))] := hl
  refine lv_aload_n hx hb dX6_refuse_0 rfl (lv_at hl 0 rfl) ?_
  refine va_get (D := G) (ci := 5) (v := .ref qmr) (C := RX6) (T := TX6) (N := 35) hx hb hts iX_X6 hown hK hP 0 rfl rfl 9 (by decide) (hts _ m_t859) (fun _ h9 => h9) rfl dX6_refuse_1 ?_
  refine lv_iload_n hx hb dX6_refuse_4 rfl (lv_at hl 1 rfl) ?_
  refine lv_ineg hx hb dX6_refuse_5 ?_
  refine lv_seti (v := 3) (by decide) ?_
  refine lv_dup2_11 hx hb dX6_refuse_6 rfl rfl ?_
  refine va_iald hx hb hK hP 1 0 rfl rfl (in_c rfl) dX6_refuse_7 ?_
  refine lv_seti (v := fR 3) (congrArg fR (by decide)) ?_
  refine lv_iconst (v := 1) hx hb dX6_refuse_8 (by decide) ?_
  refine lv_iadd hx hb dX6_refuse_9 ?_
  refine va_iast hx hb hK hP hD hS 1 0 rfl rfl (in_c rfl) dX6_refuse_10 (fun H locs => ?_)
  clear hP hD hS
  intro hP hD hS
  have hPD := pd_as [zzO qm 5 [v0, v1, v2, v3, v4, v5, v6, v7, v8, .ref qmr, .int (nI (T_nb tA)), .ref qmB, .int (nI (T_np tA)), .ref qmO, .ref qmK, .int iEn, .int iTk, .int (T_sd tA), v18, v19, v20, v21, v22, v23, v24, v25, v26, .int iLv, .int iWs, v29, v30, v31, v32, v33, v34], zzI cy qmr 8 (upd fR 3 ((fR 3) + 1))] hP hD rfl
  clear hP hD
  obtain ⟨hP, hD⟩ := hPD
  refine lv_iload_n hx hb dX6_refuse_11 rfl (lv_at hl 1 rfl) ?_
  exact endW (u := [zzO qm 5 [v0, v1, v2, v3, v4, v5, v6, v7, v8, .ref qmr, .int (nI (T_nb tA)), .ref qmB, .int (nI (T_np tA)), .ref qmO, .ref qmK, .int iEn, .int iTk, .int (T_sd tA), v18, v19, v20, v21, v22, v23, v24, v25, v26, .int iLv, .int iWs, v29, v30, v31, v32, v33, v34], zzI cy qmr 8 (upd fR 3 ((fR 3) + 1))]) hx hb hr hlocks rfl (hP.sub [0, 1] rfl) (hD.sub [0, 1] (by decide +kernel) rfl) hS ⟨upd fR 3 ((fR 3) + 1), rfl, rfl⟩ dX6_refuse_12
set_option maxHeartbeats 4000000 in
set_option maxRecDepth 100000 in
theorem c_X6_refuse4 (l : Launch) (G : va_G) (cy : Nat → ClassId) (sz : Nat) (qm : Nat) (v0 : Value) (v1 : Value) (v2 : Value) (v3 : Value) (v4 : Value) (v5 : Value) (v6 : Value) (v7 : Value) (v8 : Value) (qmr : Nat) (tA : TA) (qmB : Nat) (qmO : Nat) (qmK : Nat) (iEn : Int32) (iTk : Int32) (v18 : Value) (v19 : Value) (v20 : Value) (v21 : Value) (v22 : Value) (v23 : Value) (v24 : Value) (v25 : Value) (v26 : Value) (iLv : Int32) (iWs : Int32) (v29 : Value) (v30 : Value) (v31 : Value) (v32 : Value) (v33 : Value) (v34 : Value) (fR : Nat → Int32)   : MW l yX6_refuse cX6_refuse 2 (some .int) 1 0 0 G cy [zzO qm 5 [v0, v1, v2, v3, v4, v5, v6, v7, v8, .ref qmr, .int (nI (T_nb tA)), .ref qmB, .int (nI (T_np tA)), .ref qmO, .ref qmK, .int iEn, .int iTk, .int (T_sd tA), v18, v19, v20, v21, v22, v23, v24, v25, v26, .int iLv, .int iWs, v29, v30, v31, v32, v33, v34], zzI cy qmr 8 fR] sz [.ref qm, .int (-4)] (Wi G (fun r u => ∃ (fX : Nat → Int32), u = [zzO qm 5 [v0, v1, v2, v3, v4, v5, v6, v7, v8, .ref qmr, .int (nI (T_nb tA)), .ref qmB, .int (nI (T_np tA)), .ref qmO, .ref qmK, .int iEn, .int iTk, .int (T_sd tA), v18, v19, v20, v21, v22, v23, v24, v25, v26, .int iLv, .int iWs, v29, v30, v31, v32, v33, v34], zzI cy qmr 8 fX] ∧ ((r = (-4))))) := by
  refine enW RX6 (by decide) rfl (Nat.le_of_ble_eq_true rfl) (fun p e s m below meth c ls A hx hb hml hown hts hr hlocks hP hN hl hin hD hA hS => ?_)
  have hin : meth.name = _ := hin
  have hK := hN.1
  replace hl : lv_has ls 2 [(0, .ref qm), (1, .int (-4))] := hl
  refine lv_aload_n hx hb dX6_refuse_0 rfl (lv_at hl 0 rfl) ?_
  refine va_get (D := G) (ci := 5) (v := .ref qmr) (C := RX6) (T := TX6) (N := 35) hx hb hts iX_X6 hown hK hP 0 rfl rfl 9 (by decide) (hts _ m_t859) (fun _ h9 => h9) rfl dX6_refuse_1 ?_
  refine lv_iload_n hx hb dX6_refuse_4 rfl (lv_at hl 1 rfl) ?_
  refine lv_ineg hx hb dX6_refuse_5 ?_
  refine lv_seti (v := 4) (by decide) ?_
  refine lv_dup2_11 hx hb dX6_refuse_6 rfl rfl ?_
  refine va_iald hx hb hK hP 1 0 rfl rfl (in_c rfl) dX6_refuse_7 ?_
  refine lv_seti (v := fR 4) (congrArg fR (by decide)) ?_
  refine lv_iconst (v := 1) hx hb dX6_refuse_8 (by decide) ?_
  refine lv_iadd hx hb dX6_refuse_9 ?_
  refine va_iast hx hb hK hP hD hS 1 0 rfl rfl (in_c rfl) dX6_refuse_10 (fun H locs => ?_)
  clear hP hD hS
  intro hP hD hS
  have hPD := pd_as [zzO qm 5 [v0, v1, v2, v3, v4, v5, v6, v7, v8, .ref qmr, .int (nI (T_nb tA)), .ref qmB, .int (nI (T_np tA)), .ref qmO, .ref qmK, .int iEn, .int iTk, .int (T_sd tA), v18, v19, v20, v21, v22, v23, v24, v25, v26, .int iLv, .int iWs, v29, v30, v31, v32, v33, v34], zzI cy qmr 8 (upd fR 4 ((fR 4) + 1))] hP hD rfl
  clear hP hD
  obtain ⟨hP, hD⟩ := hPD
  refine lv_iload_n hx hb dX6_refuse_11 rfl (lv_at hl 1 rfl) ?_
  exact endW (u := [zzO qm 5 [v0, v1, v2, v3, v4, v5, v6, v7, v8, .ref qmr, .int (nI (T_nb tA)), .ref qmB, .int (nI (T_np tA)), .ref qmO, .ref qmK, .int iEn, .int iTk, .int (T_sd tA), v18, v19, v20, v21, v22, v23, v24, v25, v26, .int iLv, .int iWs, v29, v30, v31, v32, v33, v34], zzI cy qmr 8 (upd fR 4 ((fR 4) + 1))]) hx hb hr hlocks rfl (hP.sub [0, 1] rfl) (hD.sub [0, 1] (by decide +kernel) rfl) hS ⟨upd fR 4 ((fR 4) + 1), rfl, rfl⟩ dX6_refuse_12
set_option maxHeartbeats 4000000 in
set_option maxRecDepth 100000 in
theorem c_X6_refuse5 (l : Launch) (G : va_G) (cy : Nat → ClassId) (sz : Nat) (qm : Nat) (v0 : Value) (v1 : Value) (v2 : Value) (v3 : Value) (v4 : Value) (v5 : Value) (v6 : Value) (v7 : Value) (v8 : Value) (qmr : Nat) (tA : TA) (qmB : Nat) (qmO : Nat) (qmK : Nat) (iEn : Int32) (iTk : Int32) (v18 : Value) (v19 : Value) (v20 : Value) (v21 : Value) (v22 : Value) (v23 : Value) (v24 : Value) (v25 : Value) (v26 : Value) (iLv : Int32) (iWs : Int32) (v29 : Value) (v30 : Value) (v31 : Value) (v32 : Value) (v33 : Value) (v34 : Value) (fR : Nat → Int32)   : MW l yX6_refuse cX6_refuse 2 (some .int) 1 0 0 G cy [zzO qm 5 [v0, v1, v2, v3, v4, v5, v6, v7, v8, .ref qmr, .int (nI (T_nb tA)), .ref qmB, .int (nI (T_np tA)), .ref qmO, .ref qmK, .int iEn, .int iTk, .int (T_sd tA), v18, v19, v20, v21, v22, v23, v24, v25, v26, .int iLv, .int iWs, v29, v30, v31, v32, v33, v34], zzI cy qmr 8 fR] sz [.ref qm, .int (-5)] (Wi G (fun r u => ∃ (fX : Nat → Int32), u = [zzO qm 5 [v0, v1, v2, v3, v4, v5, v6, v7, v8, .ref qmr, .int (nI (T_nb tA)), .ref qmB, .int (nI (T_np tA)), .ref qmO, .ref qmK, .int iEn, .int iTk, .int (T_sd tA), v18, v19, v20, v21, v22, v23, v24, v25, v26, .int iLv, .int iWs, v29, v30, v31, v32, v33, v34], zzI cy qmr 8 fX] ∧ ((r = (-5))))) := by
  refine enW RX6 (by decide) rfl (Nat.le_of_ble_eq_true rfl) (fun p e s m below meth c ls A hx hb hml hown hts hr hlocks hP hN hl hin hD hA hS => ?_)
  have hin : meth.name = _ := hin
  have hK := hN.1
  replace hl : lv_has ls 2 [(0, .ref qm), (1, .int (-5))] := hl
  refine lv_aload_n hx hb dX6_refuse_0 rfl (lv_at hl 0 rfl) ?_
  refine va_get (D := G) (ci := 5) (v := .ref qmr) (C := RX6) (T := TX6) (N := 35) hx hb hts iX_X6 hown hK hP 0 rfl rfl 9 (by decide) (hts _ m_t859) (fun _ h9 => h9) rfl dX6_refuse_1 ?_
  refine lv_iload_n hx hb dX6_refuse_4 rfl (lv_at hl 1 rfl) ?_
  refine lv_ineg hx hb dX6_refuse_5 ?_
  refine lv_seti (v := 5) (by decide) ?_
  refine lv_dup2_11 hx hb dX6_refuse_6 rfl rfl ?_
  refine va_iald hx hb hK hP 1 0 rfl rfl (in_c rfl) dX6_refuse_7 ?_
  refine lv_seti (v := fR 5) (congrArg fR (by decide)) ?_
  refine lv_iconst (v := 1) hx hb dX6_refuse_8 (by decide) ?_
  refine lv_iadd hx hb dX6_refuse_9 ?_
  refine va_iast hx hb hK hP hD hS 1 0 rfl rfl (in_c rfl) dX6_refuse_10 (fun H locs => ?_)
  clear hP hD hS
  intro hP hD hS
  have hPD := pd_as [zzO qm 5 [v0, v1, v2, v3, v4, v5, v6, v7, v8, .ref qmr, .int (nI (T_nb tA)), .ref qmB, .int (nI (T_np tA)), .ref qmO, .ref qmK, .int iEn, .int iTk, .int (T_sd tA), v18, v19, v20, v21, v22, v23, v24, v25, v26, .int iLv, .int iWs, v29, v30, v31, v32, v33, v34], zzI cy qmr 8 (upd fR 5 ((fR 5) + 1))] hP hD rfl
  clear hP hD
  obtain ⟨hP, hD⟩ := hPD
  refine lv_iload_n hx hb dX6_refuse_11 rfl (lv_at hl 1 rfl) ?_
  exact endW (u := [zzO qm 5 [v0, v1, v2, v3, v4, v5, v6, v7, v8, .ref qmr, .int (nI (T_nb tA)), .ref qmB, .int (nI (T_np tA)), .ref qmO, .ref qmK, .int iEn, .int iTk, .int (T_sd tA), v18, v19, v20, v21, v22, v23, v24, v25, v26, .int iLv, .int iWs, v29, v30, v31, v32, v33, v34], zzI cy qmr 8 (upd fR 5 ((fR 5) + 1))]) hx hb hr hlocks rfl (hP.sub [0, 1] rfl) (hD.sub [0, 1] (by decide +kernel) rfl) hS ⟨upd fR 5 ((fR 5) + 1), rfl, rfl⟩ dX6_refuse_12
set_option maxHeartbeats 4000000 in
set_option maxRecDepth 100000 in
theorem c_X6_refuse6 (l : Launch) (G : va_G) (cy : Nat → ClassId) (sz : Nat) (qm : Nat) (v0 : Value) (v1 : Value) (v2 : Value) (v3 : Value) (v4 : Value) (v5 : Value) (v6 : Value) (v7 : Value) (v8 : Value) (qmr : Nat) (tA : TA) (qmB : Nat) (qmO : Nat) (qmK : Nat) (iEn : Int32) (iTk : Int32) (v18 : Value) (v19 : Value) (v20 : Value) (v21 : Value) (v22 : Value) (v23 : Value) (v24 : Value) (v25 : Value) (v26 : Value) (iLv : Int32) (iWs : Int32) (v29 : Value) (v30 : Value) (v31 : Value) (v32 : Value) (v33 : Value) (v34 : Value) (fR : Nat → Int32)   : MW l yX6_refuse cX6_refuse 2 (some .int) 1 0 0 G cy [zzO qm 5 [v0, v1, v2, v3, v4, v5, v6, v7, v8, .ref qmr, .int (nI (T_nb tA)), .ref qmB, .int (nI (T_np tA)), .ref qmO, .ref qmK, .int iEn, .int iTk, .int (T_sd tA), v18, v19, v20, v21, v22, v23, v24, v25, v26, .int iLv, .int iWs, v29, v30, v31, v32, v33, v34], zzI cy qmr 8 fR] sz [.ref qm, .int (-6)] (Wi G (fun r u => ∃ (fX : Nat → Int32), u = [zzO qm 5 [v0, v1, v2, v3, v4, v5, v6, v7, v8, .ref qmr, .int (nI (T_nb tA)), .ref qmB, .int (nI (T_np tA)), .ref qmO, .ref qmK, .int iEn, .int iTk, .int (T_sd tA), v18, v19, v20, v21, v22, v23, v24, v25, v26, .int iLv, .int iWs, v29, v30, v31, v32, v33, v34], zzI cy qmr 8 fX] ∧ ((r = (-6))))) := by
  refine enW RX6 (by decide) rfl (Nat.le_of_ble_eq_true rfl) (fun p e s m below meth c ls A hx hb hml hown hts hr hlocks hP hN hl hin hD hA hS => ?_)
  have hin : meth.name = _ := hin
  have hK := hN.1
  replace hl : lv_has ls 2 [(0, .ref qm), (1, .int (-6))] := hl
  refine lv_aload_n hx hb dX6_refuse_0 rfl (lv_at hl 0 rfl) ?_
  refine va_get (D := G) (ci := 5) (v := .ref qmr) (C := RX6) (T := TX6) (N := 35) hx hb hts iX_X6 hown hK hP 0 rfl rfl 9 (by decide) (hts _ m_t859) (fun _ h9 => h9) rfl dX6_refuse_1 ?_
  refine lv_iload_n hx hb dX6_refuse_4 rfl (lv_at hl 1 rfl) ?_
  refine lv_ineg hx hb dX6_refuse_5 ?_
  refine lv_seti (v := 6) (by decide) ?_
  refine lv_dup2_11 hx hb dX6_refuse_6 rfl rfl ?_
  refine va_iald hx hb hK hP 1 0 rfl rfl (in_c rfl) dX6_refuse_7 ?_
  refine lv_seti (v := fR 6) (congrArg fR (by decide)) ?_
  refine lv_iconst (v := 1) hx hb dX6_refuse_8 (by decide) ?_
  refine lv_iadd hx hb dX6_refuse_9 ?_
  refine va_iast hx hb hK hP hD hS 1 0 rfl rfl (in_c rfl) dX6_refuse_10 (fun H locs => ?_)
  clear hP hD hS
  intro hP hD hS
  have hPD := pd_as [zzO qm 5 [v0, v1, v2, v3, v4, v5, v6, v7, v8, .ref qmr, .int (nI (T_nb tA)), .ref qmB, .int (nI (T_np tA)), .ref qmO, .ref qmK, .int iEn, .int iTk, .int (T_sd tA), v18, v19, v20, v21, v22, v23, v24, v25, v26, .int iLv, .int iWs, v29, v30, v31, v32, v33, v34], zzI cy qmr 8 (upd fR 6 ((fR 6) + 1))] hP hD rfl
  clear hP hD
  obtain ⟨hP, hD⟩ := hPD
  refine lv_iload_n hx hb dX6_refuse_11 rfl (lv_at hl 1 rfl) ?_
  exact endW (u := [zzO qm 5 [v0, v1, v2, v3, v4, v5, v6, v7, v8, .ref qmr, .int (nI (T_nb tA)), .ref qmB, .int (nI (T_np tA)), .ref qmO, .ref qmK, .int iEn, .int iTk, .int (T_sd tA), v18, v19, v20, v21, v22, v23, v24, v25, v26, .int iLv, .int iWs, v29, v30, v31, v32, v33, v34], zzI cy qmr 8 (upd fR 6 ((fR 6) + 1))]) hx hb hr hlocks rfl (hP.sub [0, 1] rfl) (hD.sub [0, 1] (by decide +kernel) rfl) hS ⟨upd fR 6 ((fR 6) + 1), rfl, rfl⟩ dX6_refuse_12
set_option maxHeartbeats 4000000 in
set_option maxRecDepth 100000 in
theorem c_X6_groundOf (l : Launch) (G : va_G) (cy : Nat → ClassId) (qm : Nat) (v0 : Value) (v1 : Value) (v2 : Value) (v3 : Value) (v4 : Value) (v5 : Value) (v6 : Value) (v7 : Value) (v8 : Value) (v9 : Value) (tA : TA) (qmB : Nat) (qmO : Nat) (qmK : Nat) (iEn : Int32) (iTk : Int32) (v18 : Value) (v19 : Value) (v20 : Value) (v21 : Value) (v22 : Value) (v23 : Value) (v24 : Value) (v25 : Value) (v26 : Value) (iLv : Int32) (iWs : Int32) (v29 : Value) (v30 : Value) (v31 : Value) (v32 : Value) (v33 : Value) (v34 : Value) (rB : Nat → Nat) (rK : Nat → Nat) (kI : Nat) (kB : Nat)  (hI : kI < 8) (hJ : kB < 8) : MR l yX6_groundOf cX6_groundOf 6 (some .int) 1 G cy [zzO qm 5 [v0, v1, v2, v3, v4, v5, v6, v7, v8, v9, .int (nI (T_nb tA)), .ref qmB, .int (nI (T_np tA)), .ref qmO, .ref qmK, .int iEn, .int iTk, .int (T_sd tA), v18, v19, v20, v21, v22, v23, v24, v25, v26, .int iLv, .int iWs, v29, v30, v31, v32, v33, v34], zzG cy 3 qmB rB, zzI cy (rB 0) 4 (bkR tA 0), zzI cy (rB 1) 4 (bkR tA 1), zzI cy (rB 2) 4 (bkR tA 2), zzI cy (rB 3) 4 (bkR tA 3), zzI cy (rB 4) 4 (bkR tA 4), zzI cy (rB 5) 4 (bkR tA 5), zzI cy (rB 6) 4 (bkR tA 6), zzI cy (rB 7) 4 (bkR tA 7), zzG cy 3 qmK rK, zzI cy (rK 0) 8 (T_kn tA 0), zzI cy (rK 1) 8 (T_kn tA 1), zzI cy (rK 2) 8 (T_kn tA 2), zzI cy (rK 3) 8 (T_kn tA 3), zzI cy (rK 4) 8 (T_kn tA 4), zzI cy (rK 5) 8 (T_kn tA 5), zzI cy (rK 6) 8 (T_kn tA 6), zzI cy (rK 7) 8 (T_kn tA 7)] [.ref qm, .int (nI kI), .int (nI kB)] (vp_Si (fun r => (r = (zgd tA kI kB)))) := by
  refine enR RX6 (by decide) rfl (Nat.le_of_ble_eq_true rfl) (fun p e s m below meth c ls hx hb hml hown hts hr hlocks hP hN hl => ?_)
  have hK := hN.1
  replace hl : lv_has ls 6 [(0, .ref qm), (1, .int (nI kI)), (2, .int (nI kB))] := hl
  refine lv_sipush (v := 1000) hx hb dX6_groundOf_0 (by decide) ?_
  refine lv_istore_n (lv' := [(3, .int 1000), (0, .ref qm), (1, .int (nI kI)), (2, .int (nI kB))]) hx hb dX6_groundOf_3 rfl hl (by decide) rfl (fun ls => ?_)
  clear hl
  intro hl
  refine lv_iconst (v := 0) hx hb dX6_groundOf_4 (by decide) ?_
  refine lv_istore (lv' := [(4, .int 0), (3, .int 1000), (0, .ref qm), (1, .int (nI kI)), (2, .int (nI kB))]) hx hb dX6_groundOf_5 hl (by decide) rfl (fun ls => ?_)
  clear hl
  intro hl
  have lp_1 : ∀ (n_2 : Nat) (j_4 : Nat) (xM_5 : Int32), 8 - j_4 < n_2 → j_4 ≤ kB → xM_5 = gdF (T_ne tA kB) (T_kn tA kI) j_4 → ∀ (ls : Array Slot), lv_has ls 6 [(4, .int (nI j_4)), (3, .int xM_5), (0, .ref qm), (1, .int (nI kI)), (2, .int (nI kB))] → W p l e (Rm 1 0 0) s m (List.toArray (α := Value) [.ref qm, .int (nI kI), .int (nI kB)]) below meth c s.heap [] 0 0 (MQ below (vp_Si (fun r => (r = (zgd tA kI kB)))) (List.toArray (α := Value) [.ref qm, .int (nI kI), .int (nI kB)]) s 0 0 (fun _ => False)) (F0 m 7 ls []) := by
    intro n_2
    induction n_2 with
    | zero => intro j_4 xM_5 hm9; exact absurd hm9 (Nat.not_lt_zero _)
    | succ n_2 ih_3 =>
      intro j_4 xM_5 hm_8 hj_6 hxM_7 ls hl
      refine lv_iload hx hb dX6_groundOf_7 (lv_at hl 0 rfl) ?_
      refine lv_iload_n hx hb dX6_groundOf_9 rfl (lv_at hl 4 rfl) ?_
      refine lv_icmp_ge (tgt := 74) hx hb dX6_groundOf_10 (by decide) (fun c_9 => ?_) (fun c_9 => ?_)
      · have hlt_10 : j_4 = kB := Nat.le_antisymm (by omega) (lp_ge rfl rfl (by omega) (by omega) c_9)
        refine lv_iload_n hx hb dX6_groundOf_74 rfl (lv_at hl 1 rfl) ?_
        exact endR hx hb hr hlocks rfl (by rw [hxM_7, hlt_10]; rfl) dX6_groundOf_75
      · have hlt_11 : j_4 < kB := lp_lt rfl rfl (by omega) (by omega) c_9
        refine lv_aload_n hx hb dX6_groundOf_13 rfl (lv_at hl 2 rfl) ?_
        refine va_get (D := G) (ci := 5) (v := .ref qmB) (C := RX6) (T := TX6) (N := 35) hx hb hts iX_X6 hown hK hP 0 rfl rfl 11 (by decide) (hts _ m_t861) (fun _ h9 => h9) rfl dX6_groundOf_14 ?_
        refine lv_iload_n hx hb dX6_groundOf_17 rfl (lv_at hl 4 rfl) ?_
        refine va_alda hx hb hK hP 1 3 rfl rfl (in8 (by omega)) dX6_groundOf_18 ?_
        refine lv_setv (v := .ref (rB kB)) (g_ref (by omega)) ?_
        refine lv_iconst (v := 1) hx hb dX6_groundOf_19 (by decide) ?_
        refine va_iald hx hb hK hP (2 + kB) 0 (sg8 (n0 := 2) (f := (fun j => zzI cy (rB j) 4 (bkR tA j))) rfl rfl rfl rfl rfl rfl rfl rfl kB (by omega)) rfl (in_c rfl) dX6_groundOf_20 ?_
        refine lv_seti (v := T_ne tA kB) (bk_1 _ _) ?_
        refine lv_iload hx hb dX6_groundOf_21 (lv_at hl 0 rfl) ?_
        refine lv_ishr hx hb dX6_groundOf_23 ?_
        refine lv_iconst (v := 1) hx hb dX6_groundOf_24 (by decide) ?_
        refine lv_iand hx hb dX6_groundOf_25 ?_
        refine lv_if_eq (tgt := 33) hx hb dX6_groundOf_26 (by decide) (fun c_12 => ?_) (fun c_12 => ?_)
        · refine lv_iconst (v := 0) hx hb dX6_groundOf_33 (by decide) ?_
          refine lv_istore (lv' := [(5, .int 0), (4, .int (nI j_4)), (3, .int xM_5), (0, .ref qm), (1, .int (nI kI)), (2, .int (nI kB))]) hx hb dX6_groundOf_34 hl (by decide) rfl (fun ls => ?_)
          clear hl
          intro hl
          refine lv_iload hx hb dX6_groundOf_36 (lv_at hl 0 rfl) ?_
          refine lv_if_eq (tgt := 66) hx hb dX6_groundOf_38 (by decide) (fun _ => ?_) (fun h9 => absurd (by decide) h9)
          refine lv_iload_n hx hb dX6_groundOf_66 rfl (lv_at hl 2 rfl) ?_
          refine lv_istore_n (lv' := [(3, .int xM_5), (5, .int 0), (4, .int (nI j_4)), (0, .ref qm), (1, .int (nI kI)), (2, .int (nI kB))]) hx hb dX6_groundOf_67 rfl hl (by decide) rfl (fun ls => ?_)
          clear hl
          intro hl
          refine lv_iinc (v := nI (j_4 + 1)) (lv' := [(4, .int (nI (j_4 + 1))), (3, .int xM_5), (5, .int 0), (0, .ref qm), (1, .int (nI kI)), (2, .int (nI kB))]) hx hb dX6_groundOf_68 hl (k := 2) rfl (nI_1 _) (by decide) rfl (fun ls => ?_)
          clear hl
          intro hl
          refine lv_goto (tgt := 7) hx hb dX6_groundOf_71 (by decide) ?_
          exact ih_3 (j_4 + 1) xM_5 (by omega) (by omega) (by rw [hxM_7]; exact (if_neg (fun q => absurd c_12 (by have := q.1; unfold bitb at this; exact of_decide_eq_true this))).symm) _ (lv_sub hl [0, 1, 3, 4, 5] rfl)
        · refine lv_iconst (v := 1) hx hb dX6_groundOf_29 (by decide) ?_
          refine lv_goto (tgt := 34) hx hb dX6_groundOf_30 (by decide) ?_
          refine lv_istore (lv' := [(5, .int 1), (4, .int (nI j_4)), (3, .int xM_5), (0, .ref qm), (1, .int (nI kI)), (2, .int (nI kB))]) hx hb dX6_groundOf_34 hl (by decide) rfl (fun ls => ?_)
          clear hl
          intro hl
          refine lv_iload hx hb dX6_groundOf_36 (lv_at hl 0 rfl) ?_
          refine lv_if_eq (tgt := 66) hx hb dX6_groundOf_38 (by decide) (fun h9 => absurd h9 (by decide)) (fun _ => ?_)
          refine lv_aload_n hx hb dX6_groundOf_41 rfl (lv_at hl 3 rfl) ?_
          refine va_get (D := G) (ci := 5) (v := .ref qmK) (C := RX6) (T := TX6) (N := 35) hx hb hts iX_X6 hown hK hP 0 rfl rfl 14 (by decide) (hts _ m_t864) (fun _ h9 => h9) rfl dX6_groundOf_42 ?_
          refine lv_iload_n hx hb dX6_groundOf_45 rfl (lv_at hl 4 rfl) ?_
          refine va_alda hx hb hK hP 10 3 rfl rfl (in8 (by omega)) dX6_groundOf_46 ?_
          refine lv_setv (v := .ref (rK kI)) (g_ref (by omega)) ?_
          refine lv_iload hx hb dX6_groundOf_47 (lv_at hl 1 rfl) ?_
          refine va_iald hx hb hK hP (11 + kI) 0 (sg8 (n0 := 11) (f := (fun j => zzI cy (rK j) 8 (T_kn tA j))) rfl rfl rfl rfl rfl rfl rfl rfl kI (by omega)) rfl (vp_in_nI (by omega) (by omega)) dX6_groundOf_49 ?_
          refine lv_seti (v := T_kn tA kI j_4) (congrArg (T_kn tA kI) (nI_clamp (by omega))) ?_
          refine lv_iload_n hx hb dX6_groundOf_50 rfl (lv_at hl 2 rfl) ?_
          refine lv_icmp_ge (tgt := 66) hx hb dX6_groundOf_51 (by decide) (fun c_15 => ?_) (fun c_15 => ?_)
          · refine lv_iload_n hx hb dX6_groundOf_66 rfl (lv_at hl 2 rfl) ?_
            refine lv_istore_n (lv' := [(3, .int xM_5), (5, .int 1), (4, .int (nI j_4)), (0, .ref qm), (1, .int (nI kI)), (2, .int (nI kB))]) hx hb dX6_groundOf_67 rfl hl (by decide) rfl (fun ls => ?_)
            clear hl
            intro hl
            refine lv_iinc (v := nI (j_4 + 1)) (lv' := [(4, .int (nI (j_4 + 1))), (3, .int xM_5), (5, .int 1), (0, .ref qm), (1, .int (nI kI)), (2, .int (nI kB))]) hx hb dX6_groundOf_68 hl (k := 2) rfl (nI_1 _) (by decide) rfl (fun ls => ?_)
            clear hl
            intro hl
            refine lv_goto (tgt := 7) hx hb dX6_groundOf_71 (by decide) ?_
            exact ih_3 (j_4 + 1) xM_5 (by omega) (by omega) (by rw [hxM_7] at c_15; rw [hxM_7]; exact (if_neg (fun q => Int32.not_lt.mpr c_15 q.2)).symm) _ (lv_sub hl [0, 1, 3, 4, 5] rfl)
          · refine lv_aload_n hx hb dX6_groundOf_54 rfl (lv_at hl 3 rfl) ?_
            refine va_get (D := G) (ci := 5) (v := .ref qmK) (C := RX6) (T := TX6) (N := 35) hx hb hts iX_X6 hown hK hP 0 rfl rfl 14 (by decide) (hts _ m_t864) (fun _ h9 => h9) rfl dX6_groundOf_55 ?_
            refine lv_iload_n hx hb dX6_groundOf_58 rfl (lv_at hl 4 rfl) ?_
            refine va_alda hx hb hK hP 10 3 rfl rfl (in8 (by omega)) dX6_groundOf_59 ?_
            refine lv_setv (v := .ref (rK kI)) (g_ref (by omega)) ?_
            refine lv_iload hx hb dX6_groundOf_60 (lv_at hl 1 rfl) ?_
            refine va_iald hx hb hK hP (11 + kI) 0 (sg8 (n0 := 11) (f := (fun j => zzI cy (rK j) 8 (T_kn tA j))) rfl rfl rfl rfl rfl rfl rfl rfl kI (by omega)) rfl (vp_in_nI (by omega) (by omega)) dX6_groundOf_62 ?_
            refine lv_seti (v := T_kn tA kI j_4) (congrArg (T_kn tA kI) (nI_clamp (by omega))) ?_
            refine lv_goto (tgt := 67) hx hb dX6_groundOf_63 (by decide) ?_
            refine lv_istore_n (lv' := [(3, .int (T_kn tA kI j_4)), (5, .int 1), (4, .int (nI j_4)), (0, .ref qm), (1, .int (nI kI)), (2, .int (nI kB))]) hx hb dX6_groundOf_67 rfl hl (by decide) rfl (fun ls => ?_)
            clear hl
            intro hl
            refine lv_iinc (v := nI (j_4 + 1)) (lv' := [(4, .int (nI (j_4 + 1))), (3, .int (T_kn tA kI j_4)), (5, .int 1), (0, .ref qm), (1, .int (nI kI)), (2, .int (nI kB))]) hx hb dX6_groundOf_68 hl (k := 2) rfl (nI_1 _) (by decide) rfl (fun ls => ?_)
            clear hl
            intro hl
            refine lv_goto (tgt := 7) hx hb dX6_groundOf_71 (by decide) ?_
            exact ih_3 (j_4 + 1) (T_kn tA kI j_4) (by omega) (by omega) (by rw [hxM_7] at c_15; exact (if_pos ⟨by unfold bitb; exact decide_eq_true c_12, Int32.not_le.mp c_15⟩).symm) _ (lv_sub hl [0, 1, 3, 4, 5] rfl)
  exact lp_1 ((8 - 0) + 1) 0 1000 (Nat.lt_succ_self _) (Nat.zero_le _) rfl ls (lv_sub hl [0, 1, 2, 3, 4] rfl)
set_option maxHeartbeats 4000000 in
set_option maxRecDepth 100000 in
theorem c_X6_byGround (l : Launch) (G : va_G) (cy : Nat → ClassId) (qm : Nat) (v0 : Value) (v1 : Value) (v2 : Value) (v3 : Value) (v4 : Value) (v5 : Value) (v6 : Value) (v7 : Value) (v8 : Value) (v9 : Value) (tA : TA) (qmB : Nat) (qmO : Nat) (qmK : Nat) (iEn : Int32) (iTk : Int32) (v18 : Value) (v19 : Value) (v20 : Value) (v21 : Value) (v22 : Value) (v23 : Value) (v24 : Value) (v25 : Value) (v26 : Value) (iLv : Int32) (iWs : Int32) (v29 : Value) (v30 : Value) (v31 : Value) (v32 : Value) (v33 : Value) (v34 : Value) (rB : Nat → Nat) (rK : Nat → Nat) (iV : Int32) (kI : Nat) (kB : Nat)  (hI : kI < 8) (hJ : kB < 8) : MR l yX6_byGround cX6_byGround 4 (some .int) 2 G cy [zzO qm 5 [v0, v1, v2, v3, v4, v5, v6, v7, v8, v9, .int (nI (T_nb tA)), .ref qmB, .int (nI (T_np tA)), .ref qmO, .ref qmK, .int iEn, .int iTk, .int (T_sd tA), v18, v19, v20, v21, v22, v23, v24, v25, v26, .int iLv, .int iWs, v29, v30, v31, v32, v33, v34], zzG cy 3 qmB rB, zzI cy (rB 0) 4 (bkR tA 0), zzI cy (rB 1) 4 (bkR tA 1), zzI cy (rB 2) 4 (bkR tA 2), zzI cy (rB 3) 4 (bkR tA 3), zzI cy (rB 4) 4 (bkR tA 4), zzI cy (rB 5) 4 (bkR tA 5), zzI cy (rB 6) 4 (bkR tA 6), zzI cy (rB 7) 4 (bkR tA 7), zzG cy 3 qmK rK, zzI cy (rK 0) 8 (T_kn tA 0), zzI cy (rK 1) 8 (T_kn tA 1), zzI cy (rK 2) 8 (T_kn tA 2), zzI cy (rK 3) 8 (T_kn tA 3), zzI cy (rK 4) 8 (T_kn tA 4), zzI cy (rK 5) 8 (T_kn tA 5), zzI cy (rK 6) 8 (T_kn tA 6), zzI cy (rK 7) 8 (T_kn tA 7)] [.ref qm, .int iV, .int (nI kI), .int (nI kB)] (vp_Si (fun r => (r = (zgr iV (zgd tA kI kB))))) := by
  refine enR RX6 (by decide) rfl (Nat.le_of_ble_eq_true rfl) (fun p e s m below meth c ls hx hb hml hown hts hr hlocks hP hN hl => ?_)
  have hK := hN.1
  replace hl : lv_has ls 4 [(0, .ref qm), (1, .int iV), (2, .int (nI kI)), (3, .int (nI kB))] := hl
  refine lv_iload_n hx hb dX6_byGround_0 rfl (lv_at hl 1 rfl) ?_
  refine lv_aload_n hx hb dX6_byGround_1 rfl (lv_at hl 0 rfl) ?_
  refine lv_iload_n hx hb dX6_byGround_2 rfl (lv_at hl 2 rfl) ?_
  refine lv_iload_n hx hb dX6_byGround_3 rfl (lv_at hl 3 rfl) ?_
  refine kRi (rV (As := [.int (nI kI), .int (nI kB)]) (rest := [.int iV]) (b := qm) ⟨hx, hb, hml, hown, hts⟩ (c_X6_groundOf l G cy qm v0 v1 v2 v3 v4 v5 v6 v7 v8 v9 tA qmB qmO qmK iEn iTk v18 v19 v20 v21 v22 v23 v24 v25 v26 iLv iWs v29 v30 v31 v32 v33 v34 rB rK kI kB hI hJ) L_X6_241 (preRV (q := (RX6, TX6, 35)) hN hP [0, 1, 2, 3, 4, 5, 6, 7, 8, 9, 10, 11, 12, 13, 14, 15, 16, 17, 18] rfl 0 5 rfl rfl) rfl ⟨Nat.le_of_ble_eq_true rfl, Nat.le_of_ble_eq_true rfl⟩ hl.1 (Nat.le_of_ble_eq_true rfl) dX6_byGround_4 ⟨Nat.le_of_ble_eq_true rfl, Nat.le_of_ble_eq_true rfl⟩) (fun r_1 h_2 => ?_)
  subst h_2
  refine lv_sipush (v := 1000) hx hb dX6_byGround_7 (by decide) ?_
  refine lv_iadd hx hb dX6_byGround_10 ?_
  refine lv_imul hx hb dX6_byGround_11 ?_
  refine lv_sipush (v := 2000) hx hb dX6_byGround_12 (by decide) ?_
  refine lv_idiv hx hb dX6_byGround_15 (by decide) ?_
  exact endR hx hb hr hlocks rfl (by rfl) dX6_byGround_16
set_option maxHeartbeats 4000000 in
set_option maxRecDepth 100000 in
theorem c_X6_wouldKnow (l : Launch) (G : va_G) (cy : Nat → ClassId) (qm : Nat) (v0 : Value) (v1 : Value) (v2 : Value) (v3 : Value) (v4 : Value) (v5 : Value) (v6 : Value) (v7 : Value) (v8 : Value) (v9 : Value) (tA : TA) (qmB : Nat) (qmO : Nat) (qmK : Nat) (iEn : Int32) (iTk : Int32) (v18 : Value) (v19 : Value) (v20 : Value) (v21 : Value) (v22 : Value) (v23 : Value) (v24 : Value) (v25 : Value) (v26 : Value) (iLv : Int32) (iWs : Int32) (v29 : Value) (v30 : Value) (v31 : Value) (v32 : Value) (v33 : Value) (v34 : Value) (rB : Nat → Nat) (rO : Nat → Nat) (rK : Nat → Nat) (kI : Nat) (kB : Nat)  (hI : kI < 8) (hJ : kB < 8) : MR l yX6_wouldKnow cX6_wouldKnow 4 (some .int) 3 G cy [zzO qm 5 [v0, v1, v2, v3, v4, v5, v6, v7, v8, v9, .int (nI (T_nb tA)), .ref qmB, .int (nI (T_np tA)), .ref qmO, .ref qmK, .int iEn, .int iTk, .int (T_sd tA), v18, v19, v20, v21, v22, v23, v24, v25, v26, .int iLv, .int iWs, v29, v30, v31, v32, v33, v34], zzG cy 3 qmB rB, zzI cy (rB 0) 4 (bkR tA 0), zzI cy (rB 1) 4 (bkR tA 1), zzI cy (rB 2) 4 (bkR tA 2), zzI cy (rB 3) 4 (bkR tA 3), zzI cy (rB 4) 4 (bkR tA 4), zzI cy (rB 5) 4 (bkR tA 5), zzI cy (rB 6) 4 (bkR tA 6), zzI cy (rB 7) 4 (bkR tA 7), zzG cy 3 qmO rO, zzI cy (rO 0) 5 (onR tA 0), zzI cy (rO 1) 5 (onR tA 1), zzI cy (rO 2) 5 (onR tA 2), zzI cy (rO 3) 5 (onR tA 3), zzI cy (rO 4) 5 (onR tA 4), zzI cy (rO 5) 5 (onR tA 5), zzI cy (rO 6) 5 (onR tA 6), zzI cy (rO 7) 5 (onR tA 7), zzG cy 3 qmK rK, zzI cy (rK 0) 8 (T_kn tA 0), zzI cy (rK 1) 8 (T_kn tA 1), zzI cy (rK 2) 8 (T_kn tA 2), zzI cy (rK 3) 8 (T_kn tA 3), zzI cy (rK 4) 8 (T_kn tA 4), zzI cy (rK 5) 8 (T_kn tA 5), zzI cy (rK 6) 8 (T_kn tA 6), zzI cy (rK 7) 8 (T_kn tA 7)] [.ref qm, .int (nI kI), .int (nI kB)] (vp_Si (fun r => (r = (zwk tA kI kB)))) := by
  refine enR RX6 (by decide) rfl (Nat.le_of_ble_eq_true rfl) (fun p e s m below meth c ls hx hb hml hown hts hr hlocks hP hN hl => ?_)
  have hK := hN.1
  replace hl : lv_has ls 4 [(0, .ref qm), (1, .int (nI kI)), (2, .int (nI kB))] := hl
  refine lv_aload_n hx hb dX6_wouldKnow_0 rfl (lv_at hl 0 rfl) ?_
  refine lv_aload_n hx hb dX6_wouldKnow_1 rfl (lv_at hl 0 rfl) ?_
  refine va_get (D := G) (ci := 5) (v := .ref qmB) (C := RX6) (T := TX6) (N := 35) hx hb hts iX_X6 hown hK hP 0 rfl rfl 11 (by decide) (hts _ m_t861) (fun _ h9 => h9) rfl dX6_wouldKnow_2 ?_
  refine lv_iload_n hx hb dX6_wouldKnow_5 rfl (lv_at hl 2 rfl) ?_
  refine va_alda hx hb hK hP 1 3 rfl rfl (in8 (by omega)) dX6_wouldKnow_6 ?_
  refine lv_setv (v := .ref (rB kB)) (g_ref (by omega)) ?_
  refine lv_iconst (v := 2) hx hb dX6_wouldKnow_7 (by decide) ?_
  refine va_iald hx hb hK hP (2 + kB) 0 (sg8 (n0 := 2) (f := (fun j => zzI cy (rB j) 4 (bkR tA j))) rfl rfl rfl rfl rfl rfl rfl rfl kB (by omega)) rfl (in_c rfl) dX6_wouldKnow_8 ?_
  refine lv_seti (v := T_go tA kB) (bk_2 _ _) ?_
  refine lv_aload_n hx hb dX6_wouldKnow_9 rfl (lv_at hl 0 rfl) ?_
  refine va_get (D := G) (ci := 5) (v := .ref qmO) (C := RX6) (T := TX6) (N := 35) hx hb hts iX_X6 hown hK hP 0 rfl rfl 13 (by decide) (hts _ m_t863) (fun _ h9 => h9) rfl dX6_wouldKnow_10 ?_
  refine lv_iload_n hx hb dX6_wouldKnow_13 rfl (lv_at hl 1 rfl) ?_
  refine va_alda hx hb hK hP 10 3 rfl rfl (in8 (by omega)) dX6_wouldKnow_14 ?_
  refine lv_setv (v := .ref (rO kI)) (g_ref (by omega)) ?_
  refine lv_iconst (v := 1) hx hb dX6_wouldKnow_15 (by decide) ?_
  refine va_iald hx hb hK hP (11 + kI) 0 (sg8 (n0 := 11) (f := (fun j => zzI cy (rO j) 5 (onR tA j))) rfl rfl rfl rfl rfl rfl rfl rfl kI (by omega)) rfl (in_c rfl) dX6_wouldKnow_16 ?_
  refine lv_seti (v := T_re tA kI) (on_1' _ _) ?_
  refine lv_imul hx hb dX6_wouldKnow_17 ?_
  refine lv_bipush (v := 10) hx hb dX6_wouldKnow_18 (by decide) ?_
  refine lv_idiv hx hb dX6_wouldKnow_20 (by decide) ?_
  refine lv_iload_n hx hb dX6_wouldKnow_21 rfl (lv_at hl 1 rfl) ?_
  refine lv_iload_n hx hb dX6_wouldKnow_22 rfl (lv_at hl 2 rfl) ?_
  refine kRi (rV (As := [.int (((T_go tA kB) * (T_re tA kI)) / 10), .int (nI kI), .int (nI kB)]) (rest := []) (b := qm) ⟨hx, hb, hml, hown, hts⟩ (c_X6_byGround l G cy qm v0 v1 v2 v3 v4 v5 v6 v7 v8 v9 tA qmB qmO qmK iEn iTk v18 v19 v20 v21 v22 v23 v24 v25 v26 iLv iWs v29 v30 v31 v32 v33 v34 rB rK (((T_go tA kB) * (T_re tA kI)) / 10) kI kB hI hJ) L_X6_244 (preRV (q := (RX6, TX6, 35)) hN hP [0, 1, 2, 3, 4, 5, 6, 7, 8, 9, 19, 20, 21, 22, 23, 24, 25, 26, 27] rfl 0 5 rfl rfl) rfl ⟨Nat.le_of_ble_eq_true rfl, Nat.le_of_ble_eq_true rfl⟩ hl.1 (Nat.le_of_ble_eq_true rfl) dX6_wouldKnow_23 ⟨Nat.le_of_ble_eq_true rfl, Nat.le_of_ble_eq_true rfl⟩) (fun r_1 h_2 => ?_)
  subst h_2
  refine lv_istore_n (lv' := [(3, .int (zgr (((T_go tA kB) * (T_re tA kI)) / 10) (zgd tA kI kB))), (0, .ref qm), (1, .int (nI kI)), (2, .int (nI kB))]) hx hb dX6_wouldKnow_26 rfl hl (by decide) rfl (fun ls => ?_)
  clear hl
  intro hl
  refine lv_iload_n hx hb dX6_wouldKnow_27 rfl (lv_at hl 0 rfl) ?_
  refine lv_aload_n hx hb dX6_wouldKnow_28 rfl (lv_at hl 1 rfl) ?_
  refine va_get (D := G) (ci := 5) (v := .ref qmK) (C := RX6) (T := TX6) (N := 35) hx hb hts iX_X6 hown hK hP 0 rfl rfl 14 (by decide) (hts _ m_t864) (fun _ h9 => h9) rfl dX6_wouldKnow_29 ?_
  refine lv_iload_n hx hb dX6_wouldKnow_32 rfl (lv_at hl 2 rfl) ?_
  refine va_alda hx hb hK hP 19 3 rfl rfl (in8 (by omega)) dX6_wouldKnow_33 ?_
  refine lv_setv (v := .ref (rK kI)) (g_ref (by omega)) ?_
  refine lv_iload_n hx hb dX6_wouldKnow_34 rfl (lv_at hl 3 rfl) ?_
  refine va_iald hx hb hK hP (20 + kI) 0 (sg8 (n0 := 20) (f := (fun j => zzI cy (rK j) 8 (T_kn tA j))) rfl rfl rfl rfl rfl rfl rfl rfl kI (by omega)) rfl (vp_in_nI (by omega) (by omega)) dX6_wouldKnow_35 ?_
  refine lv_seti (v := T_kn tA kI kB) (congrArg (T_kn tA kI) (nI_clamp (by omega))) ?_
  refine lv_icmp_le (tgt := 43) hx hb dX6_wouldKnow_36 (by decide) (fun c_3 => ?_) (fun c_3 => ?_)
  · refine lv_aload_n hx hb dX6_wouldKnow_43 rfl (lv_at hl 1 rfl) ?_
    refine va_get (D := G) (ci := 5) (v := .ref qmK) (C := RX6) (T := TX6) (N := 35) hx hb hts iX_X6 hown hK hP 0 rfl rfl 14 (by decide) (hts _ m_t864) (fun _ h9 => h9) rfl dX6_wouldKnow_44 ?_
    refine lv_iload_n hx hb dX6_wouldKnow_47 rfl (lv_at hl 2 rfl) ?_
    refine va_alda hx hb hK hP 19 3 rfl rfl (in8 (by omega)) dX6_wouldKnow_48 ?_
    refine lv_setv (v := .ref (rK kI)) (g_ref (by omega)) ?_
    refine lv_iload_n hx hb dX6_wouldKnow_49 rfl (lv_at hl 3 rfl) ?_
    refine va_iald hx hb hK hP (20 + kI) 0 (sg8 (n0 := 20) (f := (fun j => zzI cy (rK j) 8 (T_kn tA j))) rfl rfl rfl rfl rfl rfl rfl rfl kI (by omega)) rfl (vp_in_nI (by omega) (by omega)) dX6_wouldKnow_50 ?_
    refine lv_seti (v := T_kn tA kI kB) (congrArg (T_kn tA kI) (nI_clamp (by omega))) ?_
    exact endR hx hb hr hlocks rfl (by unfold zwk; rw [mx_le c_3]) dX6_wouldKnow_51
  · refine lv_iload_n hx hb dX6_wouldKnow_39 rfl (lv_at hl 0 rfl) ?_
    refine lv_goto (tgt := 51) hx hb dX6_wouldKnow_40 (by decide) ?_
    exact endR hx hb hr hlocks rfl (by unfold zwk; rw [mx_gt c_3]) dX6_wouldKnow_51
set_option maxHeartbeats 4000000 in
set_option maxRecDepth 100000 in
theorem c_X6_reads (l : Launch) (G : va_G) (cy : Nat → ClassId) (sz : Nat) (qm : Nat) (v0 : Value) (v1 : Value) (v2 : Value) (v3 : Value) (v4 : Value) (v5 : Value) (v6 : Value) (v7 : Value) (v8 : Value) (v9 : Value) (tA : TA) (qmB : Nat) (qmO : Nat) (qmK : Nat) (iEn : Int32) (iTk : Int32) (v18 : Value) (v19 : Value) (v20 : Value) (v21 : Value) (v22 : Value) (v23 : Value) (v24 : Value) (v25 : Value) (v26 : Value) (iLv : Int32) (iWs : Int32) (v29 : Value) (v30 : Value) (v31 : Value) (v32 : Value) (v33 : Value) (v34 : Value) (rB : Nat → Nat) (rO : Nat → Nat) (rK : Nat → Nat) (kI : Nat) (kB : Nat)  (hI : kI < 8) (hJ : kB < 8) : MW l yX6_reads cX6_reads 3 none 4 0 0 G cy [zzO qm 5 [v0, v1, v2, v3, v4, v5, v6, v7, v8, v9, .int (nI (T_nb tA)), .ref qmB, .int (nI (T_np tA)), .ref qmO, .ref qmK, .int iEn, .int iTk, .int (T_sd tA), v18, v19, v20, v21, v22, v23, v24, v25, v26, .int iLv, .int iWs, v29, v30, v31, v32, v33, v34], zzG cy 3 qmB rB, zzI cy (rB 0) 4 (bkR tA 0), zzI cy (rB 1) 4 (bkR tA 1), zzI cy (rB 2) 4 (bkR tA 2), zzI cy (rB 3) 4 (bkR tA 3), zzI cy (rB 4) 4 (bkR tA 4), zzI cy (rB 5) 4 (bkR tA 5), zzI cy (rB 6) 4 (bkR tA 6), zzI cy (rB 7) 4 (bkR tA 7), zzG cy 3 qmO rO, zzI cy (rO 0) 5 (onR tA 0), zzI cy (rO 1) 5 (onR tA 1), zzI cy (rO 2) 5 (onR tA 2), zzI cy (rO 3) 5 (onR tA 3), zzI cy (rO 4) 5 (onR tA 4), zzI cy (rO 5) 5 (onR tA 5), zzI cy (rO 6) 5 (onR tA 6), zzI cy (rO 7) 5 (onR tA 7), zzG cy 3 qmK rK, zzI cy (rK 0) 8 (T_kn tA 0), zzI cy (rK 1) 8 (T_kn tA 1), zzI cy (rK 2) 8 (T_kn tA 2), zzI cy (rK 3) 8 (T_kn tA 3), zzI cy (rK 4) 8 (T_kn tA 4), zzI cy (rK 5) 8 (T_kn tA 5), zzI cy (rK 6) 8 (T_kn tA 6), zzI cy (rK 7) 8 (T_kn tA 7)] sz [.ref qm, .int (nI kI), .int (nI kB)] (Wv G (fun u => u = [zzO qm 5 [v0, v1, v2, v3, v4, v5, v6, v7, v8, v9, .int (nI (T_nb (rdT tA kI kB))), .ref qmB, .int (nI (T_np (rdT tA kI kB))), .ref qmO, .ref qmK, .int iEn, .int iTk, .int (T_sd (rdT tA kI kB)), v18, v19, v20, v21, v22, v23, v24, v25, v26, .int iLv, .int iWs, v29, v30, v31, v32, v33, v34], zzG cy 3 qmB rB, zzI cy (rB 0) 4 (bkR (rdT tA kI kB) 0), zzI cy (rB 1) 4 (bkR (rdT tA kI kB) 1), zzI cy (rB 2) 4 (bkR (rdT tA kI kB) 2), zzI cy (rB 3) 4 (bkR (rdT tA kI kB) 3), zzI cy (rB 4) 4 (bkR (rdT tA kI kB) 4), zzI cy (rB 5) 4 (bkR (rdT tA kI kB) 5), zzI cy (rB 6) 4 (bkR (rdT tA kI kB) 6), zzI cy (rB 7) 4 (bkR (rdT tA kI kB) 7), zzG cy 3 qmO rO, zzI cy (rO 0) 5 (onR (rdT tA kI kB) 0), zzI cy (rO 1) 5 (onR (rdT tA kI kB) 1), zzI cy (rO 2) 5 (onR (rdT tA kI kB) 2), zzI cy (rO 3) 5 (onR (rdT tA kI kB) 3), zzI cy (rO 4) 5 (onR (rdT tA kI kB) 4), zzI cy (rO 5) 5 (onR (rdT tA kI kB) 5), zzI cy (rO 6) 5 (onR (rdT tA kI kB) 6), zzI cy (rO 7) 5 (onR (rdT tA kI kB) 7), zzG cy 3 qmK rK, zzI cy (rK 0) 8 (T_kn (rdT tA kI kB) 0), zzI cy (rK 1) 8 (T_kn (rdT tA kI kB) 1), zzI cy (rK 2) 8 (T_kn (rdT tA kI kB) 2), zzI cy (rK 3) 8 (T_kn (rdT tA kI kB) 3), zzI cy (rK 4) 8 (T_kn (rdT tA kI kB) 4), zzI cy (rK 5) 8 (T_kn (rdT tA kI kB) 5), zzI cy (rK 6) 8 (T_kn (rdT tA kI kB) 6), zzI cy (rK 7) 8 (T_kn (rdT tA kI kB) 7)])) := by
  refine enW RX6 (by decide) rfl (Nat.le_of_ble_eq_true rfl) (fun p e s m below meth c ls A hx hb hml hown hts hr hlocks hP hN hl hin hD hA hS => ?_)
  have hin : meth.name = _ := hin
  have hK := hN.1
  replace hl : lv_has ls 3 [(0, .ref qm), (1, .int (nI kI)), (2, .int (nI kB))] := hl
  refine lv_aload_n hx hb dX6_reads_0 rfl (lv_at hl 0 rfl) ?_
  refine va_get (D := G) (ci := 5) (v := .ref qmK) (C := RX6) (T := TX6) (N := 35) hx hb hts iX_X6 hown hK hP 0 rfl rfl 14 (by decide) (hts _ m_t864) (fun _ h9 => h9) rfl dX6_reads_1 ?_
  refine lv_iload_n hx hb dX6_reads_4 rfl (lv_at hl 1 rfl) ?_
  refine va_alda hx hb hK hP 19 3 rfl rfl (in8 (by omega)) dX6_reads_5 ?_
  refine lv_setv (v := .ref (rK kI)) (g_ref (by omega)) ?_
  refine lv_iload_n hx hb dX6_reads_6 rfl (lv_at hl 2 rfl) ?_
  refine lv_aload_n hx hb dX6_reads_7 rfl (lv_at hl 0 rfl) ?_
  refine lv_iload_n hx hb dX6_reads_8 rfl (lv_at hl 1 rfl) ?_
  refine lv_iload_n hx hb dX6_reads_9 rfl (lv_at hl 2 rfl) ?_
  refine kRi (rV (As := [.int (nI kI), .int (nI kB)]) (rest := [.int (nI kB), .ref (rK kI)]) (b := qm) ⟨hx, hb, hml, hown, hts⟩ (c_X6_wouldKnow l G cy qm v0 v1 v2 v3 v4 v5 v6 v7 v8 v9 tA qmB qmO qmK iEn iTk v18 v19 v20 v21 v22 v23 v24 v25 v26 iLv iWs v29 v30 v31 v32 v33 v34 rB rO rK kI kB hI hJ) L_X6_254 (preRV (q := (RX6, TX6, 35)) hN hP [0, 1, 2, 3, 4, 5, 6, 7, 8, 9, 10, 11, 12, 13, 14, 15, 16, 17, 18, 19, 20, 21, 22, 23, 24, 25, 26, 27] rfl 0 5 rfl rfl) rfl ⟨Nat.le_of_ble_eq_true rfl, Nat.le_of_ble_eq_true rfl⟩ hl.1 (Nat.le_of_ble_eq_true rfl) dX6_reads_10 ⟨Nat.le_of_ble_eq_true rfl, Nat.le_of_ble_eq_true rfl⟩) (fun r_1 h_2 => ?_)
  subst h_2
  refine va_iast hx hb hK hP hD hS (20 + kI) 0 ((sg8 (n0 := 20) (f := (fun j => zzI cy (rK j) 8 (T_kn tA j))) rfl rfl rfl rfl rfl rfl rfl rfl) kI (by omega)) rfl (vp_in_nI (by omega) (by omega)) dX6_reads_13 (fun H locs => ?_)
  clear hP hD hS
  intro hP hD hS
  rw [nI_clamp (n := kB) (by omega)] at hP hD
  have hPD := st8PD (ws' := [zzO qm 5 [v0, v1, v2, v3, v4, v5, v6, v7, v8, v9, .int (nI (T_nb (T_setkn tA (updM (T_kn tA) kI kB (zwk tA kI kB))))), .ref qmB, .int (nI (T_np (T_setkn tA (updM (T_kn tA) kI kB (zwk tA kI kB))))), .ref qmO, .ref qmK, .int iEn, .int iTk, .int (T_sd (T_setkn tA (updM (T_kn tA) kI kB (zwk tA kI kB)))), v18, v19, v20, v21, v22, v23, v24, v25, v26, .int iLv, .int iWs, v29, v30, v31, v32, v33, v34], zzG cy 3 qmB rB, zzI cy (rB 0) 4 (bkR (T_setkn tA (updM (T_kn tA) kI kB (zwk tA kI kB))) 0), zzI cy (rB 1) 4 (bkR (T_setkn tA (updM (T_kn tA) kI kB (zwk tA kI kB))) 1), zzI cy (rB 2) 4 (bkR (T_setkn tA (updM (T_kn tA) kI kB (zwk tA kI kB))) 2), zzI cy (rB 3) 4 (bkR (T_setkn tA (updM (T_kn tA) kI kB (zwk tA kI kB))) 3), zzI cy (rB 4) 4 (bkR (T_setkn tA (updM (T_kn tA) kI kB (zwk tA kI kB))) 4), zzI cy (rB 5) 4 (bkR (T_setkn tA (updM (T_kn tA) kI kB (zwk tA kI kB))) 5), zzI cy (rB 6) 4 (bkR (T_setkn tA (updM (T_kn tA) kI kB (zwk tA kI kB))) 6), zzI cy (rB 7) 4 (bkR (T_setkn tA (updM (T_kn tA) kI kB (zwk tA kI kB))) 7), zzG cy 3 qmO rO, zzI cy (rO 0) 5 (onR (T_setkn tA (updM (T_kn tA) kI kB (zwk tA kI kB))) 0), zzI cy (rO 1) 5 (onR (T_setkn tA (updM (T_kn tA) kI kB (zwk tA kI kB))) 1), zzI cy (rO 2) 5 (onR (T_setkn tA (updM (T_kn tA) kI kB (zwk tA kI kB))) 2), zzI cy (rO 3) 5 (onR (T_setkn tA (updM (T_kn tA) kI kB (zwk tA kI kB))) 3), zzI cy (rO 4) 5 (onR (T_setkn tA (updM (T_kn tA) kI kB (zwk tA kI kB))) 4), zzI cy (rO 5) 5 (onR (T_setkn tA (updM (T_kn tA) kI kB (zwk tA kI kB))) 5), zzI cy (rO 6) 5 (onR (T_setkn tA (updM (T_kn tA) kI kB (zwk tA kI kB))) 6), zzI cy (rO 7) 5 (onR (T_setkn tA (updM (T_kn tA) kI kB (zwk tA kI kB))) 7), zzG cy 3 qmK rK, zzI cy (rK 0) 8 (T_kn (T_setkn tA (updM (T_kn tA) kI kB (zwk tA kI kB))) 0), zzI cy (rK 1) 8 (T_kn (T_setkn tA (updM (T_kn tA) kI kB (zwk tA kI kB))) 1), zzI cy (rK 2) 8 (T_kn (T_setkn tA (updM (T_kn tA) kI kB (zwk tA kI kB))) 2), zzI cy (rK 3) 8 (T_kn (T_setkn tA (updM (T_kn tA) kI kB (zwk tA kI kB))) 3), zzI cy (rK 4) 8 (T_kn (T_setkn tA (updM (T_kn tA) kI kB (zwk tA kI kB))) 4), zzI cy (rK 5) 8 (T_kn (T_setkn tA (updM (T_kn tA) kI kB (zwk tA kI kB))) 5), zzI cy (rK 6) 8 (T_kn (T_setkn tA (updM (T_kn tA) kI kB (zwk tA kI kB))) 6), zzI cy (rK 7) 8 (T_kn (T_setkn tA (updM (T_kn tA) kI kB (zwk tA kI kB))) 7)]) (k := kI) (g1 := T_kn (T_setkn tA (updM (T_kn tA) kI kB (zwk tA kI kB))) kI) hP hD (sg8 (n0 := 20) (f := (fun j => zzI cy (rK j) 8 (T_kn tA j))) rfl rfl rfl rfl rfl rfl rfl rfl) (sg8 (n0 := 20) (f := (fun j => zzI cy (rK j) 8 (T_kn (T_setkn tA (updM (T_kn tA) kI kB (zwk tA kI kB))) j))) rfl rfl rfl rfl rfl rfl rfl rfl) rfl rfl (by omega) rfl (fun i _ => (congrFun (kn_u tA kI kB (zwk tA kI kB)) i).symm) (fun j hj => congrArg (zzI cy (rK j) 8) (kn_n tA kI kB (zwk tA kI kB) hj))
  clear hP hD
  obtain ⟨hP, hD⟩ := hPD
  refine lv_aload_n hx hb dX6_reads_14 rfl (lv_at hl 0 rfl) ?_
  refine va_get (D := G) (ci := 5) (v := .ref qmB) (C := RX6) (T := TX6) (N := 35) hx hb hts iX_X6 hown hK hP 0 rfl rfl 11 (by decide) (hts _ m_t861) (fun _ h9 => h9) rfl dX6_reads_15 ?_
  refine lv_iload_n hx hb dX6_reads_18 rfl (lv_at hl 2 rfl) ?_
  refine va_alda hx hb hK hP 1 3 rfl rfl (in8 (by omega)) dX6_reads_19 ?_
  refine lv_setv (v := .ref (rB kB)) (g_ref (by omega)) ?_
  refine lv_iconst (v := 3) hx hb dX6_reads_20 (by decide) ?_
  refine lv_iconst (v := 1) hx hb dX6_reads_21 (by decide) ?_
  refine va_iast hx hb hK hP hD hS (2 + kB) 0 ((sg8 (n0 := 2) (f := (fun j => zzI cy (rB j) 4 (bkR (T_setkn tA (updM (T_kn tA) kI kB (zwk tA kI kB))) j))) rfl rfl rfl rfl rfl rfl rfl rfl) kB (by omega)) rfl (in_c rfl) dX6_reads_22 (fun H locs => ?_)
  clear hP hD hS
  intro hP hD hS
  have hPD := st8PD (ws' := [zzO qm 5 [v0, v1, v2, v3, v4, v5, v6, v7, v8, v9, .int (nI (T_nb (T_setwh (T_setkn tA (updM (T_kn tA) kI kB (zwk tA kI kB))) (updB (T_wh (T_setkn tA (updM (T_kn tA) kI kB (zwk tA kI kB)))) kB true)))), .ref qmB, .int (nI (T_np (T_setwh (T_setkn tA (updM (T_kn tA) kI kB (zwk tA kI kB))) (updB (T_wh (T_setkn tA (updM (T_kn tA) kI kB (zwk tA kI kB)))) kB true)))), .ref qmO, .ref qmK, .int iEn, .int iTk, .int (T_sd (T_setwh (T_setkn tA (updM (T_kn tA) kI kB (zwk tA kI kB))) (updB (T_wh (T_setkn tA (updM (T_kn tA) kI kB (zwk tA kI kB)))) kB true))), v18, v19, v20, v21, v22, v23, v24, v25, v26, .int iLv, .int iWs, v29, v30, v31, v32, v33, v34], zzG cy 3 qmB rB, zzI cy (rB 0) 4 (bkR (T_setwh (T_setkn tA (updM (T_kn tA) kI kB (zwk tA kI kB))) (updB (T_wh (T_setkn tA (updM (T_kn tA) kI kB (zwk tA kI kB)))) kB true)) 0), zzI cy (rB 1) 4 (bkR (T_setwh (T_setkn tA (updM (T_kn tA) kI kB (zwk tA kI kB))) (updB (T_wh (T_setkn tA (updM (T_kn tA) kI kB (zwk tA kI kB)))) kB true)) 1), zzI cy (rB 2) 4 (bkR (T_setwh (T_setkn tA (updM (T_kn tA) kI kB (zwk tA kI kB))) (updB (T_wh (T_setkn tA (updM (T_kn tA) kI kB (zwk tA kI kB)))) kB true)) 2), zzI cy (rB 3) 4 (bkR (T_setwh (T_setkn tA (updM (T_kn tA) kI kB (zwk tA kI kB))) (updB (T_wh (T_setkn tA (updM (T_kn tA) kI kB (zwk tA kI kB)))) kB true)) 3), zzI cy (rB 4) 4 (bkR (T_setwh (T_setkn tA (updM (T_kn tA) kI kB (zwk tA kI kB))) (updB (T_wh (T_setkn tA (updM (T_kn tA) kI kB (zwk tA kI kB)))) kB true)) 4), zzI cy (rB 5) 4 (bkR (T_setwh (T_setkn tA (updM (T_kn tA) kI kB (zwk tA kI kB))) (updB (T_wh (T_setkn tA (updM (T_kn tA) kI kB (zwk tA kI kB)))) kB true)) 5), zzI cy (rB 6) 4 (bkR (T_setwh (T_setkn tA (updM (T_kn tA) kI kB (zwk tA kI kB))) (updB (T_wh (T_setkn tA (updM (T_kn tA) kI kB (zwk tA kI kB)))) kB true)) 6), zzI cy (rB 7) 4 (bkR (T_setwh (T_setkn tA (updM (T_kn tA) kI kB (zwk tA kI kB))) (updB (T_wh (T_setkn tA (updM (T_kn tA) kI kB (zwk tA kI kB)))) kB true)) 7), zzG cy 3 qmO rO, zzI cy (rO 0) 5 (onR (T_setwh (T_setkn tA (updM (T_kn tA) kI kB (zwk tA kI kB))) (updB (T_wh (T_setkn tA (updM (T_kn tA) kI kB (zwk tA kI kB)))) kB true)) 0), zzI cy (rO 1) 5 (onR (T_setwh (T_setkn tA (updM (T_kn tA) kI kB (zwk tA kI kB))) (updB (T_wh (T_setkn tA (updM (T_kn tA) kI kB (zwk tA kI kB)))) kB true)) 1), zzI cy (rO 2) 5 (onR (T_setwh (T_setkn tA (updM (T_kn tA) kI kB (zwk tA kI kB))) (updB (T_wh (T_setkn tA (updM (T_kn tA) kI kB (zwk tA kI kB)))) kB true)) 2), zzI cy (rO 3) 5 (onR (T_setwh (T_setkn tA (updM (T_kn tA) kI kB (zwk tA kI kB))) (updB (T_wh (T_setkn tA (updM (T_kn tA) kI kB (zwk tA kI kB)))) kB true)) 3), zzI cy (rO 4) 5 (onR (T_setwh (T_setkn tA (updM (T_kn tA) kI kB (zwk tA kI kB))) (updB (T_wh (T_setkn tA (updM (T_kn tA) kI kB (zwk tA kI kB)))) kB true)) 4), zzI cy (rO 5) 5 (onR (T_setwh (T_setkn tA (updM (T_kn tA) kI kB (zwk tA kI kB))) (updB (T_wh (T_setkn tA (updM (T_kn tA) kI kB (zwk tA kI kB)))) kB true)) 5), zzI cy (rO 6) 5 (onR (T_setwh (T_setkn tA (updM (T_kn tA) kI kB (zwk tA kI kB))) (updB (T_wh (T_setkn tA (updM (T_kn tA) kI kB (zwk tA kI kB)))) kB true)) 6), zzI cy (rO 7) 5 (onR (T_setwh (T_setkn tA (updM (T_kn tA) kI kB (zwk tA kI kB))) (updB (T_wh (T_setkn tA (updM (T_kn tA) kI kB (zwk tA kI kB)))) kB true)) 7), zzG cy 3 qmK rK, zzI cy (rK 0) 8 (T_kn (T_setwh (T_setkn tA (updM (T_kn tA) kI kB (zwk tA kI kB))) (updB (T_wh (T_setkn tA (updM (T_kn tA) kI kB (zwk tA kI kB)))) kB true)) 0), zzI cy (rK 1) 8 (T_kn (T_setwh (T_setkn tA (updM (T_kn tA) kI kB (zwk tA kI kB))) (updB (T_wh (T_setkn tA (updM (T_kn tA) kI kB (zwk tA kI kB)))) kB true)) 1), zzI cy (rK 2) 8 (T_kn (T_setwh (T_setkn tA (updM (T_kn tA) kI kB (zwk tA kI kB))) (updB (T_wh (T_setkn tA (updM (T_kn tA) kI kB (zwk tA kI kB)))) kB true)) 2), zzI cy (rK 3) 8 (T_kn (T_setwh (T_setkn tA (updM (T_kn tA) kI kB (zwk tA kI kB))) (updB (T_wh (T_setkn tA (updM (T_kn tA) kI kB (zwk tA kI kB)))) kB true)) 3), zzI cy (rK 4) 8 (T_kn (T_setwh (T_setkn tA (updM (T_kn tA) kI kB (zwk tA kI kB))) (updB (T_wh (T_setkn tA (updM (T_kn tA) kI kB (zwk tA kI kB)))) kB true)) 4), zzI cy (rK 5) 8 (T_kn (T_setwh (T_setkn tA (updM (T_kn tA) kI kB (zwk tA kI kB))) (updB (T_wh (T_setkn tA (updM (T_kn tA) kI kB (zwk tA kI kB)))) kB true)) 5), zzI cy (rK 6) 8 (T_kn (T_setwh (T_setkn tA (updM (T_kn tA) kI kB (zwk tA kI kB))) (updB (T_wh (T_setkn tA (updM (T_kn tA) kI kB (zwk tA kI kB)))) kB true)) 6), zzI cy (rK 7) 8 (T_kn (T_setwh (T_setkn tA (updM (T_kn tA) kI kB (zwk tA kI kB))) (updB (T_wh (T_setkn tA (updM (T_kn tA) kI kB (zwk tA kI kB)))) kB true)) 7)]) (k := kB) (g1 := bkR (T_setwh (T_setkn tA (updM (T_kn tA) kI kB (zwk tA kI kB))) (updB (T_wh (T_setkn tA (updM (T_kn tA) kI kB (zwk tA kI kB)))) kB true)) kB) hP hD (sg8 (n0 := 2) (f := (fun j => zzI cy (rB j) 4 (bkR (T_setkn tA (updM (T_kn tA) kI kB (zwk tA kI kB))) j))) rfl rfl rfl rfl rfl rfl rfl rfl) (sg8 (n0 := 2) (f := (fun j => zzI cy (rB j) 4 (bkR (T_setwh (T_setkn tA (updM (T_kn tA) kI kB (zwk tA kI kB))) (updB (T_wh (T_setkn tA (updM (T_kn tA) kI kB (zwk tA kI kB)))) kB true)) j))) rfl rfl rfl rfl rfl rfl rfl rfl) rfl rfl (by omega) rfl (bk_w3 (T_setkn tA (updM (T_kn tA) kI kB (zwk tA kI kB))) kB true) (fun j hj => congrArg (zzI cy (rB j) 4) (bk_n3 (T_setkn tA (updM (T_kn tA) kI kB (zwk tA kI kB))) kB true hj))
  clear hP hD
  obtain ⟨hP, hD⟩ := hPD
  exact endV (u := [zzO qm 5 [v0, v1, v2, v3, v4, v5, v6, v7, v8, v9, .int (nI (T_nb (T_setwh (T_setkn tA (updM (T_kn tA) kI kB (zwk tA kI kB))) (updB (T_wh (T_setkn tA (updM (T_kn tA) kI kB (zwk tA kI kB)))) kB true)))), .ref qmB, .int (nI (T_np (T_setwh (T_setkn tA (updM (T_kn tA) kI kB (zwk tA kI kB))) (updB (T_wh (T_setkn tA (updM (T_kn tA) kI kB (zwk tA kI kB)))) kB true)))), .ref qmO, .ref qmK, .int iEn, .int iTk, .int (T_sd (T_setwh (T_setkn tA (updM (T_kn tA) kI kB (zwk tA kI kB))) (updB (T_wh (T_setkn tA (updM (T_kn tA) kI kB (zwk tA kI kB)))) kB true))), v18, v19, v20, v21, v22, v23, v24, v25, v26, .int iLv, .int iWs, v29, v30, v31, v32, v33, v34], zzG cy 3 qmB rB, zzI cy (rB 0) 4 (bkR (T_setwh (T_setkn tA (updM (T_kn tA) kI kB (zwk tA kI kB))) (updB (T_wh (T_setkn tA (updM (T_kn tA) kI kB (zwk tA kI kB)))) kB true)) 0), zzI cy (rB 1) 4 (bkR (T_setwh (T_setkn tA (updM (T_kn tA) kI kB (zwk tA kI kB))) (updB (T_wh (T_setkn tA (updM (T_kn tA) kI kB (zwk tA kI kB)))) kB true)) 1), zzI cy (rB 2) 4 (bkR (T_setwh (T_setkn tA (updM (T_kn tA) kI kB (zwk tA kI kB))) (updB (T_wh (T_setkn tA (updM (T_kn tA) kI kB (zwk tA kI kB)))) kB true)) 2), zzI cy (rB 3) 4 (bkR (T_setwh (T_setkn tA (updM (T_kn tA) kI kB (zwk tA kI kB))) (updB (T_wh (T_setkn tA (updM (T_kn tA) kI kB (zwk tA kI kB)))) kB true)) 3), zzI cy (rB 4) 4 (bkR (T_setwh (T_setkn tA (updM (T_kn tA) kI kB (zwk tA kI kB))) (updB (T_wh (T_setkn tA (updM (T_kn tA) kI kB (zwk tA kI kB)))) kB true)) 4), zzI cy (rB 5) 4 (bkR (T_setwh (T_setkn tA (updM (T_kn tA) kI kB (zwk tA kI kB))) (updB (T_wh (T_setkn tA (updM (T_kn tA) kI kB (zwk tA kI kB)))) kB true)) 5), zzI cy (rB 6) 4 (bkR (T_setwh (T_setkn tA (updM (T_kn tA) kI kB (zwk tA kI kB))) (updB (T_wh (T_setkn tA (updM (T_kn tA) kI kB (zwk tA kI kB)))) kB true)) 6), zzI cy (rB 7) 4 (bkR (T_setwh (T_setkn tA (updM (T_kn tA) kI kB (zwk tA kI kB))) (updB (T_wh (T_setkn tA (updM (T_kn tA) kI kB (zwk tA kI kB)))) kB true)) 7), zzG cy 3 qmO rO, zzI cy (rO 0) 5 (onR (T_setwh (T_setkn tA (updM (T_kn tA) kI kB (zwk tA kI kB))) (updB (T_wh (T_setkn tA (updM (T_kn tA) kI kB (zwk tA kI kB)))) kB true)) 0), zzI cy (rO 1) 5 (onR (T_setwh (T_setkn tA (updM (T_kn tA) kI kB (zwk tA kI kB))) (updB (T_wh (T_setkn tA (updM (T_kn tA) kI kB (zwk tA kI kB)))) kB true)) 1), zzI cy (rO 2) 5 (onR (T_setwh (T_setkn tA (updM (T_kn tA) kI kB (zwk tA kI kB))) (updB (T_wh (T_setkn tA (updM (T_kn tA) kI kB (zwk tA kI kB)))) kB true)) 2), zzI cy (rO 3) 5 (onR (T_setwh (T_setkn tA (updM (T_kn tA) kI kB (zwk tA kI kB))) (updB (T_wh (T_setkn tA (updM (T_kn tA) kI kB (zwk tA kI kB)))) kB true)) 3), zzI cy (rO 4) 5 (onR (T_setwh (T_setkn tA (updM (T_kn tA) kI kB (zwk tA kI kB))) (updB (T_wh (T_setkn tA (updM (T_kn tA) kI kB (zwk tA kI kB)))) kB true)) 4), zzI cy (rO 5) 5 (onR (T_setwh (T_setkn tA (updM (T_kn tA) kI kB (zwk tA kI kB))) (updB (T_wh (T_setkn tA (updM (T_kn tA) kI kB (zwk tA kI kB)))) kB true)) 5), zzI cy (rO 6) 5 (onR (T_setwh (T_setkn tA (updM (T_kn tA) kI kB (zwk tA kI kB))) (updB (T_wh (T_setkn tA (updM (T_kn tA) kI kB (zwk tA kI kB)))) kB true)) 6), zzI cy (rO 7) 5 (onR (T_setwh (T_setkn tA (updM (T_kn tA) kI kB (zwk tA kI kB))) (updB (T_wh (T_setkn tA (updM (T_kn tA) kI kB (zwk tA kI kB)))) kB true)) 7), zzG cy 3 qmK rK, zzI cy (rK 0) 8 (T_kn (T_setwh (T_setkn tA (updM (T_kn tA) kI kB (zwk tA kI kB))) (updB (T_wh (T_setkn tA (updM (T_kn tA) kI kB (zwk tA kI kB)))) kB true)) 0), zzI cy (rK 1) 8 (T_kn (T_setwh (T_setkn tA (updM (T_kn tA) kI kB (zwk tA kI kB))) (updB (T_wh (T_setkn tA (updM (T_kn tA) kI kB (zwk tA kI kB)))) kB true)) 1), zzI cy (rK 2) 8 (T_kn (T_setwh (T_setkn tA (updM (T_kn tA) kI kB (zwk tA kI kB))) (updB (T_wh (T_setkn tA (updM (T_kn tA) kI kB (zwk tA kI kB)))) kB true)) 2), zzI cy (rK 3) 8 (T_kn (T_setwh (T_setkn tA (updM (T_kn tA) kI kB (zwk tA kI kB))) (updB (T_wh (T_setkn tA (updM (T_kn tA) kI kB (zwk tA kI kB)))) kB true)) 3), zzI cy (rK 4) 8 (T_kn (T_setwh (T_setkn tA (updM (T_kn tA) kI kB (zwk tA kI kB))) (updB (T_wh (T_setkn tA (updM (T_kn tA) kI kB (zwk tA kI kB)))) kB true)) 4), zzI cy (rK 5) 8 (T_kn (T_setwh (T_setkn tA (updM (T_kn tA) kI kB (zwk tA kI kB))) (updB (T_wh (T_setkn tA (updM (T_kn tA) kI kB (zwk tA kI kB)))) kB true)) 5), zzI cy (rK 6) 8 (T_kn (T_setwh (T_setkn tA (updM (T_kn tA) kI kB (zwk tA kI kB))) (updB (T_wh (T_setkn tA (updM (T_kn tA) kI kB (zwk tA kI kB)))) kB true)) 6), zzI cy (rK 7) 8 (T_kn (T_setwh (T_setkn tA (updM (T_kn tA) kI kB (zwk tA kI kB))) (updB (T_wh (T_setkn tA (updM (T_kn tA) kI kB (zwk tA kI kB)))) kB true)) 7)]) hx hb hr hlocks (hP.sub [0, 1, 2, 3, 4, 5, 6, 7, 8, 9, 10, 11, 12, 13, 14, 15, 16, 17, 18, 19, 20, 21, 22, 23, 24, 25, 26, 27] rfl) (hD.sub [0, 1, 2, 3, 4, 5, 6, 7, 8, 9, 10, 11, 12, 13, 14, 15, 16, 17, 18, 19, 20, 21, 22, 23, 24, 25, 26, 27] (by decide +kernel) rfl) hS rfl dX6_reads_23
set_option maxHeartbeats 4000000 in
set_option maxRecDepth 100000 in
theorem c_X6_moreBy (l : Launch) (G : va_G) (cy : Nat → ClassId) (qm : Nat) (v0 : Value) (v1 : Value) (v2 : Value) (v3 : Value) (v4 : Value) (v5 : Value) (v6 : Value) (v7 : Value) (v8 : Value) (v9 : Value) (tA : TA) (qmB : Nat) (qmO : Nat) (qmK : Nat) (iEn : Int32) (iTk : Int32) (v18 : Value) (v19 : Value) (v20 : Value) (v21 : Value) (v22 : Value) (v23 : Value) (v24 : Value) (v25 : Value) (v26 : Value) (iLv : Int32) (iWs : Int32) (v29 : Value) (v30 : Value) (v31 : Value) (v32 : Value) (v33 : Value) (v34 : Value) (rB : Nat → Nat) (rO : Nat → Nat) (rK : Nat → Nat) (kI : Nat) (kO : Nat) (kB : Nat)  (hI : kI < 8) (hO : kO < 8) (hJ : kB < 8) (hTI : TI tA) : MR l yX6_moreBy cX6_moreBy 5 (some .int) 1 G cy [zzO qm 5 [v0, v1, v2, v3, v4, v5, v6, v7, v8, v9, .int (nI (T_nb tA)), .ref qmB, .int (nI (T_np tA)), .ref qmO, .ref qmK, .int iEn, .int iTk, .int (T_sd tA), v18, v19, v20, v21, v22, v23, v24, v25, v26, .int iLv, .int iWs, v29, v30, v31, v32, v33, v34], zzG cy 3 qmB rB, zzI cy (rB 0) 4 (bkR tA 0), zzI cy (rB 1) 4 (bkR tA 1), zzI cy (rB 2) 4 (bkR tA 2), zzI cy (rB 3) 4 (bkR tA 3), zzI cy (rB 4) 4 (bkR tA 4), zzI cy (rB 5) 4 (bkR tA 5), zzI cy (rB 6) 4 (bkR tA 6), zzI cy (rB 7) 4 (bkR tA 7), zzG cy 3 qmO rO, zzI cy (rO 0) 5 (onR tA 0), zzI cy (rO 1) 5 (onR tA 1), zzI cy (rO 2) 5 (onR tA 2), zzI cy (rO 3) 5 (onR tA 3), zzI cy (rO 4) 5 (onR tA 4), zzI cy (rO 5) 5 (onR tA 5), zzI cy (rO 6) 5 (onR tA 6), zzI cy (rO 7) 5 (onR tA 7), zzG cy 3 qmK rK, zzI cy (rK 0) 8 (T_kn tA 0), zzI cy (rK 1) 8 (T_kn tA 1), zzI cy (rK 2) 8 (T_kn tA 2), zzI cy (rK 3) 8 (T_kn tA 3), zzI cy (rK 4) 8 (T_kn tA 4), zzI cy (rK 5) 8 (T_kn tA 5), zzI cy (rK 6) 8 (T_kn tA 6), zzI cy (rK 7) 8 (T_kn tA 7)] [.ref qm, .int (nI kI), .int (nI kO), .int (nI kB)] (vp_Si (fun r => (r = (zgt tA kI kO kB)))) := by
  refine enR RX6 (by decide) rfl (Nat.le_of_ble_eq_true rfl) (fun p e s m below meth c ls hx hb hml hown hts hr hlocks hP hN hl => ?_)
  have hK := hN.1
  replace hl : lv_has ls 5 [(0, .ref qm), (1, .int (nI kI)), (2, .int (nI kO)), (3, .int (nI kB))] := hl
  refine lv_aload_n hx hb dX6_moreBy_0 rfl (lv_at hl 0 rfl) ?_
  refine va_get (D := G) (ci := 5) (v := .ref qmK) (C := RX6) (T := TX6) (N := 35) hx hb hts iX_X6 hown hK hP 0 rfl rfl 14 (by decide) (hts _ m_t864) (fun _ h9 => h9) rfl dX6_moreBy_1 ?_
  refine lv_iload_n hx hb dX6_moreBy_4 rfl (lv_at hl 1 rfl) ?_
  refine va_alda hx hb hK hP 19 3 rfl rfl (in8 (by omega)) dX6_moreBy_5 ?_
  refine lv_setv (v := .ref (rK kI)) (g_ref (by omega)) ?_
  refine lv_iload_n hx hb dX6_moreBy_6 rfl (lv_at hl 3 rfl) ?_
  refine va_iald hx hb hK hP (20 + kI) 0 (sg8 (n0 := 20) (f := (fun j => zzI cy (rK j) 8 (T_kn tA j))) rfl rfl rfl rfl rfl rfl rfl rfl kI (by omega)) rfl (vp_in_nI (by omega) (by omega)) dX6_moreBy_7 ?_
  refine lv_seti (v := T_kn tA kI kB) (congrArg (T_kn tA kI) (nI_clamp (by omega))) ?_
  refine lv_aload_n hx hb dX6_moreBy_8 rfl (lv_at hl 0 rfl) ?_
  refine va_get (D := G) (ci := 5) (v := .ref qmO) (C := RX6) (T := TX6) (N := 35) hx hb hts iX_X6 hown hK hP 0 rfl rfl 13 (by decide) (hts _ m_t863) (fun _ h9 => h9) rfl dX6_moreBy_9 ?_
  refine lv_iload_n hx hb dX6_moreBy_12 rfl (lv_at hl 1 rfl) ?_
  refine va_alda hx hb hK hP 10 3 rfl rfl (in8 (by omega)) dX6_moreBy_13 ?_
  refine lv_setv (v := .ref (rO kI)) (g_ref (by omega)) ?_
  refine lv_iconst (v := 3) hx hb dX6_moreBy_14 (by decide) ?_
  refine va_iald hx hb hK hP (11 + kI) 0 (sg8 (n0 := 11) (f := (fun j => zzI cy (rO j) 5 (onR tA j))) rfl rfl rfl rfl rfl rfl rfl rfl kI (by omega)) rfl (in_c rfl) dX6_moreBy_15 ?_
  refine lv_seti (v := T_te tA kI) (on_3 _ _) ?_
  refine lv_imul hx hb dX6_moreBy_16 ?_
  refine lv_bipush (v := 10) hx hb dX6_moreBy_17 (by decide) ?_
  refine lv_idiv hx hb dX6_moreBy_19 (by decide) ?_
  refine lv_istore (lv' := [(4, .int (((T_kn tA kI kB) * (T_te tA kI)) / 10)), (0, .ref qm), (1, .int (nI kI)), (2, .int (nI kO)), (3, .int (nI kB))]) hx hb dX6_moreBy_20 hl (by decide) rfl (fun ls => ?_)
  clear hl
  intro hl
  refine lv_iload hx hb dX6_moreBy_22 (lv_at hl 0 rfl) ?_
  refine lv_aload_n hx hb dX6_moreBy_24 rfl (lv_at hl 1 rfl) ?_
  refine va_get (D := G) (ci := 5) (v := .ref qmK) (C := RX6) (T := TX6) (N := 35) hx hb hts iX_X6 hown hK hP 0 rfl rfl 14 (by decide) (hts _ m_t864) (fun _ h9 => h9) rfl dX6_moreBy_25 ?_
  refine lv_iload_n hx hb dX6_moreBy_28 rfl (lv_at hl 3 rfl) ?_
  refine va_alda hx hb hK hP 19 3 rfl rfl (in8 (by omega)) dX6_moreBy_29 ?_
  refine lv_setv (v := .ref (rK kO)) (g_ref (by omega)) ?_
  refine lv_iload_n hx hb dX6_moreBy_30 rfl (lv_at hl 4 rfl) ?_
  refine va_iald hx hb hK hP (20 + kO) 0 (sg8 (n0 := 20) (f := (fun j => zzI cy (rK j) 8 (T_kn tA j))) rfl rfl rfl rfl rfl rfl rfl rfl kO (by omega)) rfl (vp_in_nI (by omega) (by omega)) dX6_moreBy_31 ?_
  refine lv_seti (v := T_kn tA kO kB) (congrArg (T_kn tA kO) (nI_clamp (by omega))) ?_
  refine lv_icmp_le (tgt := 49) hx hb dX6_moreBy_32 (by decide) (fun c_1 => ?_) (fun c_1 => ?_)
  · refine lv_iconst (v := 0) hx hb dX6_moreBy_49 (by decide) ?_
    exact endR hx hb hr hlocks rfl (by unfold zgt; rw [gt_no (r_te (hTI.2.1 _ _) (hTI.2.2.2.2.2 _)) (hTI.2.1 _ _) (Int32.not_lt.mpr c_1)]) dX6_moreBy_50
  · refine lv_iload hx hb dX6_moreBy_35 (lv_at hl 0 rfl) ?_
    refine lv_aload_n hx hb dX6_moreBy_37 rfl (lv_at hl 1 rfl) ?_
    refine va_get (D := G) (ci := 5) (v := .ref qmK) (C := RX6) (T := TX6) (N := 35) hx hb hts iX_X6 hown hK hP 0 rfl rfl 14 (by decide) (hts _ m_t864) (fun _ h9 => h9) rfl dX6_moreBy_38 ?_
    refine lv_iload_n hx hb dX6_moreBy_41 rfl (lv_at hl 3 rfl) ?_
    refine va_alda hx hb hK hP 19 3 rfl rfl (in8 (by omega)) dX6_moreBy_42 ?_
    refine lv_setv (v := .ref (rK kO)) (g_ref (by omega)) ?_
    refine lv_iload_n hx hb dX6_moreBy_43 rfl (lv_at hl 4 rfl) ?_
    refine va_iald hx hb hK hP (20 + kO) 0 (sg8 (n0 := 20) (f := (fun j => zzI cy (rK j) 8 (T_kn tA j))) rfl rfl rfl rfl rfl rfl rfl rfl kO (by omega)) rfl (vp_in_nI (by omega) (by omega)) dX6_moreBy_44 ?_
    refine lv_seti (v := T_kn tA kO kB) (congrArg (T_kn tA kO) (nI_clamp (by omega))) ?_
    refine lv_isub hx hb dX6_moreBy_45 ?_
    refine lv_goto (tgt := 50) hx hb dX6_moreBy_46 (by decide) ?_
    exact endR hx hb hr hlocks rfl (by unfold zgt; rw [gt_up (r_te (hTI.2.1 _ _) (hTI.2.2.2.2.2 _)) (hTI.2.1 _ _) (Int32.not_le.mp c_1)]) dX6_moreBy_50
set_option maxHeartbeats 4000000 in
set_option maxRecDepth 100000 in
theorem c_X6_greatest (l : Launch) (G : va_G) (cy : Nat → ClassId) (qm : Nat) (v0 : Value) (v1 : Value) (v2 : Value) (v3 : Value) (v4 : Value) (v5 : Value) (v6 : Value) (v7 : Value) (v8 : Value) (v9 : Value) (tA : TA) (qmB : Nat) (qmO : Nat) (qmK : Nat) (iEn : Int32) (iTk : Int32) (v18 : Value) (v19 : Value) (v20 : Value) (v21 : Value) (v22 : Value) (v23 : Value) (v24 : Value) (v25 : Value) (v26 : Value) (iLv : Int32) (iWs : Int32) (v29 : Value) (v30 : Value) (v31 : Value) (v32 : Value) (v33 : Value) (v34 : Value) (rO : Nat → Nat) (rK : Nat → Nat) (kB : Nat) (iS : Int32)  (hPp : T_np tA ≤ 8) (hJ : kB < 8) : MR l yX6_greatest cX6_greatest 5 (some .int) 2 G cy [zzO qm 5 [v0, v1, v2, v3, v4, v5, v6, v7, v8, v9, .int (nI (T_nb tA)), .ref qmB, .int (nI (T_np tA)), .ref qmO, .ref qmK, .int iEn, .int iTk, .int (T_sd tA), v18, v19, v20, v21, v22, v23, v24, v25, v26, .int iLv, .int iWs, v29, v30, v31, v32, v33, v34], zzG cy 3 qmO rO, zzI cy (rO 0) 5 (onR tA 0), zzI cy (rO 1) 5 (onR tA 1), zzI cy (rO 2) 5 (onR tA 2), zzI cy (rO 3) 5 (onR tA 3), zzI cy (rO 4) 5 (onR tA 4), zzI cy (rO 5) 5 (onR tA 5), zzI cy (rO 6) 5 (onR tA 6), zzI cy (rO 7) 5 (onR tA 7), zzG cy 3 qmK rK, zzI cy (rK 0) 8 (T_kn tA 0), zzI cy (rK 1) 8 (T_kn tA 1), zzI cy (rK 2) 8 (T_kn tA 2), zzI cy (rK 3) 8 (T_kn tA 3), zzI cy (rK 4) 8 (T_kn tA 4), zzI cy (rK 5) 8 (T_kn tA 5), zzI cy (rK 6) 8 (T_kn tA 6), zzI cy (rK 7) 8 (T_kn tA 7)] [.ref qm, .int (nI kB), .int iS] (vp_Si (fun r => (r = (mgr tA kB iS)))) := by
  refine enR RX6 (by decide) rfl (Nat.le_of_ble_eq_true rfl) (fun p e s m below meth c ls hx hb hml hown hts hr hlocks hP hN hl => ?_)
  have hK := hN.1
  replace hl : lv_has ls 5 [(0, .ref qm), (1, .int (nI kB)), (2, .int iS)] := hl
  refine lv_iconst (v := 0) hx hb dX6_greatest_0 (by decide) ?_
  refine lv_istore_n (lv' := [(3, .int 0), (0, .ref qm), (1, .int (nI kB)), (2, .int iS)]) hx hb dX6_greatest_1 rfl hl (by decide) rfl (fun ls => ?_)
  clear hl
  intro hl
  refine lv_iconst (v := 0) hx hb dX6_greatest_2 (by decide) ?_
  refine lv_istore (lv' := [(4, .int 0), (3, .int 0), (0, .ref qm), (1, .int (nI kB)), (2, .int iS)]) hx hb dX6_greatest_3 hl (by decide) rfl (fun ls => ?_)
  clear hl
  intro hl
  have lp_1 : ∀ (n_2 : Nat) (j_4 : Nat) (xM_5 : Int32), 8 - j_4 < n_2 → j_4 ≤ T_np tA → xM_5 = gA (fun p => bitb iS p && !T_gn tA p) (fun p => T_kn tA p kB) j_4 → ∀ (ls : Array Slot), lv_has ls 5 [(4, .int (nI j_4)), (3, .int xM_5), (0, .ref qm), (1, .int (nI kB)), (2, .int iS)] → W p l e (Rm 2 0 0) s m (List.toArray (α := Value) [.ref qm, .int (nI kB), .int iS]) below meth c s.heap [] 0 0 (MQ below (vp_Si (fun r => (r = (mgr tA kB iS)))) (List.toArray (α := Value) [.ref qm, .int (nI kB), .int iS]) s 0 0 (fun _ => False)) (F0 m 5 ls []) := by
    intro n_2
    induction n_2 with
    | zero => intro j_4 xM_5 hm9; exact absurd hm9 (Nat.not_lt_zero _)
    | succ n_2 ih_3 =>
      intro j_4 xM_5 hm_8 hj_6 hxM_7 ls hl
      refine lv_iload hx hb dX6_greatest_5 (lv_at hl 0 rfl) ?_
      refine lv_aload_n hx hb dX6_greatest_7 rfl (lv_at hl 2 rfl) ?_
      refine va_get (D := G) (ci := 5) (v := .int (nI (T_np tA))) (C := RX6) (T := TX6) (N := 35) hx hb hts iX_X6 hown hK hP 0 rfl rfl 12 (by decide) (hts _ m_t862) (fun _ h9 => h9) rfl dX6_greatest_8 ?_
      refine lv_icmp_ge (tgt := 65) hx hb dX6_greatest_11 (by decide) (fun c_9 => ?_) (fun c_9 => ?_)
      · have hlt_10 : j_4 = T_np tA := Nat.le_antisymm (by omega) (lp_ge rfl rfl (by omega) (by omega) c_9)
        refine lv_iload_n hx hb dX6_greatest_65 rfl (lv_at hl 1 rfl) ?_
        exact endR hx hb hr hlocks rfl (by rw [hxM_7, hlt_10]; rfl) dX6_greatest_66
      · have hlt_11 : j_4 < T_np tA := lp_lt rfl rfl (by omega) (by omega) c_9
        refine lv_iload_n hx hb dX6_greatest_14 rfl (lv_at hl 4 rfl) ?_
        refine lv_iload hx hb dX6_greatest_15 (lv_at hl 0 rfl) ?_
        refine lv_ishr hx hb dX6_greatest_17 ?_
        refine lv_iconst (v := 1) hx hb dX6_greatest_18 (by decide) ?_
        refine lv_iand hx hb dX6_greatest_19 ?_
        refine lv_if_eq (tgt := 57) hx hb dX6_greatest_20 (by decide) (fun c_12 => ?_) (fun c_12 => ?_)
        · refine lv_iload_n hx hb dX6_greatest_57 rfl (lv_at hl 1 rfl) ?_
          refine lv_istore_n (lv' := [(3, .int xM_5), (4, .int (nI j_4)), (0, .ref qm), (1, .int (nI kB)), (2, .int iS)]) hx hb dX6_greatest_58 rfl hl (by decide) rfl (fun ls => ?_)
          clear hl
          intro hl
          refine lv_iinc (v := nI (j_4 + 1)) (lv' := [(4, .int (nI (j_4 + 1))), (3, .int xM_5), (0, .ref qm), (1, .int (nI kB)), (2, .int iS)]) hx hb dX6_greatest_59 hl (k := 1) rfl (nI_1 _) (by decide) rfl (fun ls => ?_)
          clear hl
          intro hl
          refine lv_goto (tgt := 5) hx hb dX6_greatest_62 (by decide) ?_
          exact ih_3 (j_4 + 1) xM_5 (by omega) (by omega) (by rw [hxM_7]; exact (ga_no (by rw [bt_no c_12]; rfl)).symm) _ (lv_sub hl [0, 1, 2, 3, 4] rfl)
        · refine lv_aload_n hx hb dX6_greatest_23 rfl (lv_at hl 2 rfl) ?_
          refine lv_iload hx hb dX6_greatest_24 (lv_at hl 0 rfl) ?_
          refine kRi (rV (As := [.int (nI j_4)]) (rest := []) (b := qm) ⟨hx, hb, hml, hown, hts⟩ (c_X6_isThere l G cy qm v0 v1 v2 v3 v4 v5 v6 v7 v8 v9 tA qmB qmO qmK iEn iTk v18 v19 v20 v21 v22 v23 v24 v25 v26 iLv iWs v29 v30 v31 v32 v33 v34 rO j_4 (by first | omega | (simp only [nb_sr, np_sr, nb_wr, np_wr, nb_rd, np_rd, nb_ch, np_ch, nb_zr, np_zr, nb_za, np_za, nb_ey, np_ey, nb_hf, np_hf, nb_dd, np_dd, nb_so, np_so, nb_skn, np_skn, nb_swh, np_swh, nb_sgn, np_sgn, nb_ssd, np_ssd, nb_sgo, np_sgo, nb_sag, np_sag]; omega))) L_X6_81 (preRV (q := (RX6, TX6, 35)) hN hP [0, 1, 2, 3, 4, 5, 6, 7, 8, 9] rfl 0 5 rfl rfl) rfl ⟨Nat.le_of_ble_eq_true rfl, Nat.le_of_ble_eq_true rfl⟩ hl.1 (Nat.le_of_ble_eq_true rfl) dX6_greatest_26 ⟨Nat.le_of_ble_eq_true rfl, Nat.le_of_ble_eq_true rfl⟩) (fun r_13 h_14 => ?_)
          rcases h_14 with ⟨rfl, h_15⟩ | ⟨rfl, h_15⟩
          · refine lv_if_eq (tgt := 57) hx hb dX6_greatest_29 (by decide) (fun h9 => absurd h9 (by decide)) (fun _ => ?_)
            refine lv_aload_n hx hb dX6_greatest_32 rfl (lv_at hl 2 rfl) ?_
            refine va_get (D := G) (ci := 5) (v := .ref qmK) (C := RX6) (T := TX6) (N := 35) hx hb hts iX_X6 hown hK hP 0 rfl rfl 14 (by decide) (hts _ m_t864) (fun _ h9 => h9) rfl dX6_greatest_33 ?_
            refine lv_iload hx hb dX6_greatest_36 (lv_at hl 0 rfl) ?_
            refine va_alda hx hb hK hP 10 3 rfl rfl (in8 (by omega)) dX6_greatest_38 ?_
            refine lv_setv (v := .ref (rK j_4)) (g_ref (by omega)) ?_
            refine lv_iload_n hx hb dX6_greatest_39 rfl (lv_at hl 3 rfl) ?_
            refine va_iald hx hb hK hP (11 + j_4) 0 (sg8 (n0 := 11) (f := (fun j => zzI cy (rK j) 8 (T_kn tA j))) rfl rfl rfl rfl rfl rfl rfl rfl j_4 (by omega)) rfl (vp_in_nI (by omega) (by omega)) dX6_greatest_40 ?_
            refine lv_seti (v := T_kn tA j_4 kB) (congrArg (T_kn tA j_4) (nI_clamp (by omega))) ?_
            refine lv_iload_n hx hb dX6_greatest_41 rfl (lv_at hl 1 rfl) ?_
            refine lv_icmp_le (tgt := 57) hx hb dX6_greatest_42 (by decide) (fun c_17 => ?_) (fun c_17 => ?_)
            · refine lv_iload_n hx hb dX6_greatest_57 rfl (lv_at hl 1 rfl) ?_
              refine lv_istore_n (lv' := [(3, .int xM_5), (4, .int (nI j_4)), (0, .ref qm), (1, .int (nI kB)), (2, .int iS)]) hx hb dX6_greatest_58 rfl hl (by decide) rfl (fun ls => ?_)
              clear hl
              intro hl
              refine lv_iinc (v := nI (j_4 + 1)) (lv' := [(4, .int (nI (j_4 + 1))), (3, .int xM_5), (0, .ref qm), (1, .int (nI kB)), (2, .int iS)]) hx hb dX6_greatest_59 hl (k := 1) rfl (nI_1 _) (by decide) rfl (fun ls => ?_)
              clear hl
              intro hl
              refine lv_goto (tgt := 5) hx hb dX6_greatest_62 (by decide) ?_
              exact ih_3 (j_4 + 1) xM_5 (by omega) (by omega) (by rw [hxM_7] at c_17 ⊢; exact (ga_yn (by rw [bt_yes c_12, h_15]; rfl) c_17).symm) _ (lv_sub hl [0, 1, 2, 3, 4] rfl)
            · refine lv_aload_n hx hb dX6_greatest_45 rfl (lv_at hl 2 rfl) ?_
              refine va_get (D := G) (ci := 5) (v := .ref qmK) (C := RX6) (T := TX6) (N := 35) hx hb hts iX_X6 hown hK hP 0 rfl rfl 14 (by decide) (hts _ m_t864) (fun _ h9 => h9) rfl dX6_greatest_46 ?_
              refine lv_iload hx hb dX6_greatest_49 (lv_at hl 0 rfl) ?_
              refine va_alda hx hb hK hP 10 3 rfl rfl (in8 (by omega)) dX6_greatest_51 ?_
              refine lv_setv (v := .ref (rK j_4)) (g_ref (by omega)) ?_
              refine lv_iload_n hx hb dX6_greatest_52 rfl (lv_at hl 3 rfl) ?_
              refine va_iald hx hb hK hP (11 + j_4) 0 (sg8 (n0 := 11) (f := (fun j => zzI cy (rK j) 8 (T_kn tA j))) rfl rfl rfl rfl rfl rfl rfl rfl j_4 (by omega)) rfl (vp_in_nI (by omega) (by omega)) dX6_greatest_53 ?_
              refine lv_seti (v := T_kn tA j_4 kB) (congrArg (T_kn tA j_4) (nI_clamp (by omega))) ?_
              refine lv_goto (tgt := 58) hx hb dX6_greatest_54 (by decide) ?_
              refine lv_istore_n (lv' := [(3, .int (T_kn tA j_4 kB)), (4, .int (nI j_4)), (0, .ref qm), (1, .int (nI kB)), (2, .int iS)]) hx hb dX6_greatest_58 rfl hl (by decide) rfl (fun ls => ?_)
              clear hl
              intro hl
              refine lv_iinc (v := nI (j_4 + 1)) (lv' := [(4, .int (nI (j_4 + 1))), (3, .int (T_kn tA j_4 kB)), (0, .ref qm), (1, .int (nI kB)), (2, .int iS)]) hx hb dX6_greatest_59 hl (k := 1) rfl (nI_1 _) (by decide) rfl (fun ls => ?_)
              clear hl
              intro hl
              refine lv_goto (tgt := 5) hx hb dX6_greatest_62 (by decide) ?_
              exact ih_3 (j_4 + 1) (T_kn tA j_4 kB) (by omega) (by omega) (by rw [hxM_7] at c_17; exact (ga_yy (by rw [bt_yes c_12, h_15]; rfl) c_17).symm) _ (lv_sub hl [0, 1, 2, 3, 4] rfl)
          · refine lv_if_eq (tgt := 57) hx hb dX6_greatest_29 (by decide) (fun _ => ?_) (fun h9 => absurd (by decide) h9)
            refine lv_iload_n hx hb dX6_greatest_57 rfl (lv_at hl 1 rfl) ?_
            refine lv_istore_n (lv' := [(3, .int xM_5), (4, .int (nI j_4)), (0, .ref qm), (1, .int (nI kB)), (2, .int iS)]) hx hb dX6_greatest_58 rfl hl (by decide) rfl (fun ls => ?_)
            clear hl
            intro hl
            refine lv_iinc (v := nI (j_4 + 1)) (lv' := [(4, .int (nI (j_4 + 1))), (3, .int xM_5), (0, .ref qm), (1, .int (nI kB)), (2, .int iS)]) hx hb dX6_greatest_59 hl (k := 1) rfl (nI_1 _) (by decide) rfl (fun ls => ?_)
            clear hl
            intro hl
            refine lv_goto (tgt := 5) hx hb dX6_greatest_62 (by decide) ?_
            exact ih_3 (j_4 + 1) xM_5 (by omega) (by omega) (by rw [hxM_7]; exact (ga_no (by rw [h_15]; exact Bool.and_false _)).symm) _ (lv_sub hl [0, 1, 2, 3, 4] rfl)
  exact lp_1 ((8 - 0) + 1) 0 0 (Nat.lt_succ_self _) (Nat.zero_le _) rfl ls (lv_sub hl [0, 1, 2, 3, 4] rfl)
set_option maxHeartbeats 4000000 in
set_option maxRecDepth 100000 in
theorem c_X6_valueOf (l : Launch) (G : va_G) (cy : Nat → ClassId) (qm : Nat) (v0 : Value) (v1 : Value) (v2 : Value) (v3 : Value) (v4 : Value) (v5 : Value) (v6 : Value) (v7 : Value) (v8 : Value) (v9 : Value) (tA : TA) (qmB : Nat) (qmO : Nat) (qmK : Nat) (iEn : Int32) (iTk : Int32) (v18 : Value) (v19 : Value) (v20 : Value) (v21 : Value) (v22 : Value) (v23 : Value) (v24 : Value) (v25 : Value) (v26 : Value) (iLv : Int32) (iWs : Int32) (v29 : Value) (v30 : Value) (v31 : Value) (v32 : Value) (v33 : Value) (v34 : Value) (rB : Nat → Nat) (rO : Nat → Nat) (rK : Nat → Nat) (iS : Int32)  (hB : T_nb tA ≤ 8) (hPp : T_np tA ≤ 8) : MR l yX6_valueOf cX6_valueOf 4 (some .int) 3 G cy [zzO qm 5 [v0, v1, v2, v3, v4, v5, v6, v7, v8, v9, .int (nI (T_nb tA)), .ref qmB, .int (nI (T_np tA)), .ref qmO, .ref qmK, .int iEn, .int iTk, .int (T_sd tA), v18, v19, v20, v21, v22, v23, v24, v25, v26, .int iLv, .int iWs, v29, v30, v31, v32, v33, v34], zzG cy 3 qmB rB, zzI cy (rB 0) 4 (bkR tA 0), zzI cy (rB 1) 4 (bkR tA 1), zzI cy (rB 2) 4 (bkR tA 2), zzI cy (rB 3) 4 (bkR tA 3), zzI cy (rB 4) 4 (bkR tA 4), zzI cy (rB 5) 4 (bkR tA 5), zzI cy (rB 6) 4 (bkR tA 6), zzI cy (rB 7) 4 (bkR tA 7), zzG cy 3 qmO rO, zzI cy (rO 0) 5 (onR tA 0), zzI cy (rO 1) 5 (onR tA 1), zzI cy (rO 2) 5 (onR tA 2), zzI cy (rO 3) 5 (onR tA 3), zzI cy (rO 4) 5 (onR tA 4), zzI cy (rO 5) 5 (onR tA 5), zzI cy (rO 6) 5 (onR tA 6), zzI cy (rO 7) 5 (onR tA 7), zzG cy 3 qmK rK, zzI cy (rK 0) 8 (T_kn tA 0), zzI cy (rK 1) 8 (T_kn tA 1), zzI cy (rK 2) 8 (T_kn tA 2), zzI cy (rK 3) 8 (T_kn tA 3), zzI cy (rK 4) 8 (T_kn tA 4), zzI cy (rK 5) 8 (T_kn tA 5), zzI cy (rK 6) 8 (T_kn tA 6), zzI cy (rK 7) 8 (T_kn tA 7)] [.ref qm, .int iS] (vp_Si (fun r => (r = (mvo tA iS)))) := by
  refine enR RX6 (by decide) rfl (Nat.le_of_ble_eq_true rfl) (fun p e s m below meth c ls hx hb hml hown hts hr hlocks hP hN hl => ?_)
  have hK := hN.1
  replace hl : lv_has ls 4 [(0, .ref qm), (1, .int iS)] := hl
  refine lv_iconst (v := 0) hx hb dX6_valueOf_0 (by decide) ?_
  refine lv_istore_n (lv' := [(2, .int 0), (0, .ref qm), (1, .int iS)]) hx hb dX6_valueOf_1 rfl hl (by decide) rfl (fun ls => ?_)
  clear hl
  intro hl
  refine lv_iconst (v := 0) hx hb dX6_valueOf_2 (by decide) ?_
  refine lv_istore_n (lv' := [(3, .int 0), (2, .int 0), (0, .ref qm), (1, .int iS)]) hx hb dX6_valueOf_3 rfl hl (by decide) rfl (fun ls => ?_)
  clear hl
  intro hl
  have lp_1 : ∀ (n_2 : Nat) (j_4 : Nat) (xM_5 : Int32), 8 - j_4 < n_2 → j_4 ≤ T_nb tA → xM_5 = wsum (fun b => T_wo tA b * mgr tA b iS) j_4 → ∀ (ls : Array Slot), lv_has ls 4 [(3, .int (nI j_4)), (2, .int xM_5), (0, .ref qm), (1, .int iS)] → W p l e (Rm 3 0 0) s m (List.toArray (α := Value) [.ref qm, .int iS]) below meth c s.heap [] 0 0 (MQ below (vp_Si (fun r => (r = (mvo tA iS)))) (List.toArray (α := Value) [.ref qm, .int iS]) s 0 0 (fun _ => False)) (F0 m 4 ls []) := by
    intro n_2
    induction n_2 with
    | zero => intro j_4 xM_5 hm9; exact absurd hm9 (Nat.not_lt_zero _)
    | succ n_2 ih_3 =>
      intro j_4 xM_5 hm_8 hj_6 hxM_7 ls hl
      refine lv_iload_n hx hb dX6_valueOf_4 rfl (lv_at hl 0 rfl) ?_
      refine lv_aload_n hx hb dX6_valueOf_5 rfl (lv_at hl 2 rfl) ?_
      refine va_get (D := G) (ci := 5) (v := .int (nI (T_nb tA))) (C := RX6) (T := TX6) (N := 35) hx hb hts iX_X6 hown hK hP 0 rfl rfl 10 (by decide) (hts _ m_t860) (fun _ h9 => h9) rfl dX6_valueOf_6 ?_
      refine lv_icmp_ge (tgt := 36) hx hb dX6_valueOf_9 (by decide) (fun c_9 => ?_) (fun c_9 => ?_)
      · have hlt_10 : j_4 = T_nb tA := Nat.le_antisymm (by omega) (lp_ge rfl rfl (by omega) (by omega) c_9)
        refine lv_iload_n hx hb dX6_valueOf_36 rfl (lv_at hl 1 rfl) ?_
        exact endR hx hb hr hlocks rfl (by rw [hxM_7, hlt_10]; rfl) dX6_valueOf_37
      · have hlt_11 : j_4 < T_nb tA := lp_lt rfl rfl (by omega) (by omega) c_9
        refine lv_iload_n hx hb dX6_valueOf_12 rfl (lv_at hl 1 rfl) ?_
        refine lv_aload_n hx hb dX6_valueOf_13 rfl (lv_at hl 2 rfl) ?_
        refine va_get (D := G) (ci := 5) (v := .ref qmB) (C := RX6) (T := TX6) (N := 35) hx hb hts iX_X6 hown hK hP 0 rfl rfl 11 (by decide) (hts _ m_t861) (fun _ h9 => h9) rfl dX6_valueOf_14 ?_
        refine lv_iload_n hx hb dX6_valueOf_17 rfl (lv_at hl 0 rfl) ?_
        refine va_alda hx hb hK hP 1 3 rfl rfl (in8 (by omega)) dX6_valueOf_18 ?_
        refine lv_setv (v := .ref (rB j_4)) (g_ref (by omega)) ?_
        refine lv_iconst (v := 0) hx hb dX6_valueOf_19 (by decide) ?_
        refine va_iald hx hb hK hP (2 + j_4) 0 (sg8 (n0 := 2) (f := (fun j => zzI cy (rB j) 4 (bkR tA j))) rfl rfl rfl rfl rfl rfl rfl rfl j_4 (by omega)) rfl (in_c rfl) dX6_valueOf_20 ?_
        refine lv_seti (v := T_wo tA j_4) (bk_0 _ _) ?_
        refine lv_aload_n hx hb dX6_valueOf_21 rfl (lv_at hl 2 rfl) ?_
        refine lv_iload_n hx hb dX6_valueOf_22 rfl (lv_at hl 0 rfl) ?_
        refine lv_iload_n hx hb dX6_valueOf_23 rfl (lv_at hl 3 rfl) ?_
        refine kRi (rV (As := [.int (nI j_4), .int iS]) (rest := [.int (T_wo tA j_4), .int xM_5]) (b := qm) ⟨hx, hb, hml, hown, hts⟩ (c_X6_greatest l G cy qm v0 v1 v2 v3 v4 v5 v6 v7 v8 v9 tA qmB qmO qmK iEn iTk v18 v19 v20 v21 v22 v23 v24 v25 v26 iLv iWs v29 v30 v31 v32 v33 v34 rO rK j_4 iS hPp (by first | omega | (simp only [nb_sr, np_sr, nb_wr, np_wr, nb_rd, np_rd, nb_ch, np_ch, nb_zr, np_zr, nb_za, np_za, nb_ey, np_ey, nb_hf, np_hf, nb_dd, np_dd, nb_so, np_so, nb_skn, np_skn, nb_swh, np_swh, nb_sgn, np_sgn, nb_ssd, np_ssd, nb_sgo, np_sgo, nb_sag, np_sag]; omega))) L_X6_233 (preRV (q := (RX6, TX6, 35)) hN hP [0, 10, 11, 12, 13, 14, 15, 16, 17, 18, 19, 20, 21, 22, 23, 24, 25, 26, 27] rfl 0 5 rfl rfl) rfl ⟨Nat.le_of_ble_eq_true rfl, Nat.le_of_ble_eq_true rfl⟩ hl.1 (Nat.le_of_ble_eq_true rfl) dX6_valueOf_24 ⟨Nat.le_of_ble_eq_true rfl, Nat.le_of_ble_eq_true rfl⟩) (fun r_12 h_13 => ?_)
        subst h_13
        refine lv_imul hx hb dX6_valueOf_27 ?_
        refine lv_iadd hx hb dX6_valueOf_28 ?_
        refine lv_istore_n (lv' := [(2, .int (xM_5 + ((T_wo tA j_4) * (mgr tA j_4 iS)))), (3, .int (nI j_4)), (0, .ref qm), (1, .int iS)]) hx hb dX6_valueOf_29 rfl hl (by decide) rfl (fun ls => ?_)
        clear hl
        intro hl
        refine lv_iinc (v := nI (j_4 + 1)) (lv' := [(3, .int (nI (j_4 + 1))), (2, .int (xM_5 + ((T_wo tA j_4) * (mgr tA j_4 iS)))), (0, .ref qm), (1, .int iS)]) hx hb dX6_valueOf_30 hl (k := 1) rfl (nI_1 _) (by decide) rfl (fun ls => ?_)
        clear hl
        intro hl
        refine lv_goto (tgt := 4) hx hb dX6_valueOf_33 (by decide) ?_
        exact ih_3 (j_4 + 1) (xM_5 + ((T_wo tA j_4) * (mgr tA j_4 iS))) (by omega) (by omega) (by rw [hxM_7]; rfl) _ (lv_sub hl [0, 1, 2, 3] rfl)
  exact lp_1 ((8 - 0) + 1) 0 0 (Nat.lt_succ_self _) (Nat.zero_le _) rfl ls (lv_sub hl [0, 1, 2, 3] rfl)
set_option maxHeartbeats 4000000 in
set_option maxRecDepth 100000 in
theorem c_X6_valueNow (l : Launch) (G : va_G) (cy : Nat → ClassId) (qm : Nat) (v0 : Value) (v1 : Value) (v2 : Value) (v3 : Value) (v4 : Value) (v5 : Value) (v6 : Value) (v7 : Value) (v8 : Value) (v9 : Value) (tA : TA) (qmB : Nat) (qmO : Nat) (qmK : Nat) (iEn : Int32) (iTk : Int32) (v18 : Value) (v19 : Value) (v20 : Value) (v21 : Value) (v22 : Value) (v23 : Value) (v24 : Value) (v25 : Value) (v26 : Value) (iLv : Int32) (iWs : Int32) (v29 : Value) (v30 : Value) (v31 : Value) (v32 : Value) (v33 : Value) (v34 : Value) (rB : Nat → Nat) (rO : Nat → Nat) (rK : Nat → Nat)  (hB : T_nb tA ≤ 8) (hPp : T_np tA ≤ 8) : MR l yX6_valueNow cX6_valueNow 1 (some .int) 4 G cy [zzO qm 5 [v0, v1, v2, v3, v4, v5, v6, v7, v8, v9, .int (nI (T_nb tA)), .ref qmB, .int (nI (T_np tA)), .ref qmO, .ref qmK, .int iEn, .int iTk, .int (T_sd tA), v18, v19, v20, v21, v22, v23, v24, v25, v26, .int iLv, .int iWs, v29, v30, v31, v32, v33, v34], zzG cy 3 qmB rB, zzI cy (rB 0) 4 (bkR tA 0), zzI cy (rB 1) 4 (bkR tA 1), zzI cy (rB 2) 4 (bkR tA 2), zzI cy (rB 3) 4 (bkR tA 3), zzI cy (rB 4) 4 (bkR tA 4), zzI cy (rB 5) 4 (bkR tA 5), zzI cy (rB 6) 4 (bkR tA 6), zzI cy (rB 7) 4 (bkR tA 7), zzG cy 3 qmO rO, zzI cy (rO 0) 5 (onR tA 0), zzI cy (rO 1) 5 (onR tA 1), zzI cy (rO 2) 5 (onR tA 2), zzI cy (rO 3) 5 (onR tA 3), zzI cy (rO 4) 5 (onR tA 4), zzI cy (rO 5) 5 (onR tA 5), zzI cy (rO 6) 5 (onR tA 6), zzI cy (rO 7) 5 (onR tA 7), zzG cy 3 qmK rK, zzI cy (rK 0) 8 (T_kn tA 0), zzI cy (rK 1) 8 (T_kn tA 1), zzI cy (rK 2) 8 (T_kn tA 2), zzI cy (rK 3) 8 (T_kn tA 3), zzI cy (rK 4) 8 (T_kn tA 4), zzI cy (rK 5) 8 (T_kn tA 5), zzI cy (rK 6) 8 (T_kn tA 6), zzI cy (rK 7) 8 (T_kn tA 7)] [.ref qm] (vp_Si (fun r => (r = (mvo tA ((1 <<< (nI (T_np tA) &&& 31)) - 1))))) := by
  refine enR RX6 (by decide) rfl (Nat.le_of_ble_eq_true rfl) (fun p e s m below meth c ls hx hb hml hown hts hr hlocks hP hN hl => ?_)
  have hK := hN.1
  replace hl : lv_has ls 1 [(0, .ref qm)] := hl
  refine lv_aload_n hx hb dX6_valueNow_0 rfl (lv_at hl 0 rfl) ?_
  refine lv_iconst (v := 1) hx hb dX6_valueNow_1 (by decide) ?_
  refine lv_aload_n hx hb dX6_valueNow_2 rfl (lv_at hl 0 rfl) ?_
  refine va_get (D := G) (ci := 5) (v := .int (nI (T_np tA))) (C := RX6) (T := TX6) (N := 35) hx hb hts iX_X6 hown hK hP 0 rfl rfl 12 (by decide) (hts _ m_t862) (fun _ h9 => h9) rfl dX6_valueNow_3 ?_
  refine lv_ishl hx hb dX6_valueNow_6 ?_
  refine lv_iconst (v := 1) hx hb dX6_valueNow_7 (by decide) ?_
  refine lv_isub hx hb dX6_valueNow_8 ?_
  refine kRi (rV (As := [.int ((1 <<< ((nI (T_np tA)) &&& 31)) - 1)]) (rest := []) (b := qm) ⟨hx, hb, hml, hown, hts⟩ (c_X6_valueOf l G cy qm v0 v1 v2 v3 v4 v5 v6 v7 v8 v9 tA qmB qmO qmK iEn iTk v18 v19 v20 v21 v22 v23 v24 v25 v26 iLv iWs v29 v30 v31 v32 v33 v34 rB rO rK ((1 <<< ((nI (T_np tA)) &&& 31)) - 1) hB hPp) L_X6_266 (preRV (q := (RX6, TX6, 35)) hN hP [0, 1, 2, 3, 4, 5, 6, 7, 8, 9, 10, 11, 12, 13, 14, 15, 16, 17, 18, 19, 20, 21, 22, 23, 24, 25, 26, 27] rfl 0 5 rfl rfl) rfl ⟨Nat.le_of_ble_eq_true rfl, Nat.le_of_ble_eq_true rfl⟩ hl.1 (Nat.le_of_ble_eq_true rfl) dX6_valueNow_9 ⟨Nat.le_of_ble_eq_true rfl, Nat.le_of_ble_eq_true rfl⟩) (fun r_1 h_2 => ?_)
  subst h_2
  exact endR hx hb hr hlocks rfl (by rfl) dX6_valueNow_12
set_option maxHeartbeats 4000000 in
set_option maxRecDepth 100000 in
theorem c_X6_youngestBut (l : Launch) (G : va_G) (cy : Nat → ClassId) (qm : Nat) (v0 : Value) (v1 : Value) (v2 : Value) (v3 : Value) (v4 : Value) (v5 : Value) (v6 : Value) (v7 : Value) (v8 : Value) (v9 : Value) (tA : TA) (qmB : Nat) (qmO : Nat) (qmK : Nat) (iEn : Int32) (iTk : Int32) (v18 : Value) (v19 : Value) (v20 : Value) (v21 : Value) (v22 : Value) (v23 : Value) (v24 : Value) (v25 : Value) (v26 : Value) (iLv : Int32) (iWs : Int32) (v29 : Value) (v30 : Value) (v31 : Value) (v32 : Value) (v33 : Value) (v34 : Value) (rO : Nat → Nat) (iO : Int32)  (hPp : T_np tA ≤ 8) : MR l yX6_youngestBut cX6_youngestBut 4 (some .int) 2 G cy [zzO qm 5 [v0, v1, v2, v3, v4, v5, v6, v7, v8, v9, .int (nI (T_nb tA)), .ref qmB, .int (nI (T_np tA)), .ref qmO, .ref qmK, .int iEn, .int iTk, .int (T_sd tA), v18, v19, v20, v21, v22, v23, v24, v25, v26, .int iLv, .int iWs, v29, v30, v31, v32, v33, v34], zzG cy 3 qmO rO, zzI cy (rO 0) 5 (onR tA 0), zzI cy (rO 1) 5 (onR tA 1), zzI cy (rO 2) 5 (onR tA 2), zzI cy (rO 3) 5 (onR tA 3), zzI cy (rO 4) 5 (onR tA 4), zzI cy (rO 5) 5 (onR tA 5), zzI cy (rO 6) 5 (onR tA 6), zzI cy (rO 7) 5 (onR tA 7)] [.ref qm, .int iO] (vp_Si (fun r => (r = (zyb tA iO)))) := by
  refine enR RX6 (by decide) rfl (Nat.le_of_ble_eq_true rfl) (fun p e s m below meth c ls hx hb hml hown hts hr hlocks hP hN hl => ?_)
  have hK := hN.1
  replace hl : lv_has ls 4 [(0, .ref qm), (1, .int iO)] := hl
  refine lv_iconst (v := (-1)) hx hb dX6_youngestBut_0 (by decide) ?_
  refine lv_istore_n (lv' := [(2, .int (-1)), (0, .ref qm), (1, .int iO)]) hx hb dX6_youngestBut_1 rfl hl (by decide) rfl (fun ls => ?_)
  clear hl
  intro hl
  refine lv_iconst (v := 0) hx hb dX6_youngestBut_2 (by decide) ?_
  refine lv_istore_n (lv' := [(3, .int 0), (2, .int (-1)), (0, .ref qm), (1, .int iO)]) hx hb dX6_youngestBut_3 rfl hl (by decide) rfl (fun ls => ?_)
  clear hl
  intro hl
  have lp_1 : ∀ (n_2 : Nat) (j_4 : Nat) (xB_5 : Int32), 8 - j_4 < n_2 → j_4 ≤ T_np tA → xB_5 = ybF tA iO j_4 → ∀ (ls : Array Slot), lv_has ls 4 [(3, .int (nI j_4)), (2, .int xB_5), (0, .ref qm), (1, .int iO)] → W p l e (Rm 2 0 0) s m (List.toArray (α := Value) [.ref qm, .int iO]) below meth c s.heap [] 0 0 (MQ below (vp_Si (fun r => (r = (zyb tA iO)))) (List.toArray (α := Value) [.ref qm, .int iO]) s 0 0 (fun _ => False)) (F0 m 4 ls []) := by
    intro n_2
    induction n_2 with
    | zero => intro j_4 xB_5 hm9; exact absurd hm9 (Nat.not_lt_zero _)
    | succ n_2 ih_3 =>
      intro j_4 xB_5 hm_8 hj_6 hxB_7 ls hl
      refine lv_iload_n hx hb dX6_youngestBut_4 rfl (lv_at hl 0 rfl) ?_
      refine lv_aload_n hx hb dX6_youngestBut_5 rfl (lv_at hl 2 rfl) ?_
      refine va_get (D := G) (ci := 5) (v := .int (nI (T_np tA))) (C := RX6) (T := TX6) (N := 35) hx hb hts iX_X6 hown hK hP 0 rfl rfl 12 (by decide) (hts _ m_t862) (fun _ h9 => h9) rfl dX6_youngestBut_6 ?_
      refine lv_icmp_ge (tgt := 61) hx hb dX6_youngestBut_9 (by decide) (fun c_9 => ?_) (fun c_9 => ?_)
      · have hlt_10 : j_4 = T_np tA := Nat.le_antisymm (by omega) (lp_ge rfl rfl (by omega) (by omega) c_9)
        refine lv_iload_n hx hb dX6_youngestBut_61 rfl (lv_at hl 1 rfl) ?_
        exact endR hx hb hr hlocks rfl (by rw [hxB_7, hlt_10]; rfl) dX6_youngestBut_62
      · have hlt_11 : j_4 < T_np tA := lp_lt rfl rfl (by omega) (by omega) c_9
        refine lv_iload_n hx hb dX6_youngestBut_12 rfl (lv_at hl 0 rfl) ?_
        refine lv_iload_n hx hb dX6_youngestBut_13 rfl (lv_at hl 3 rfl) ?_
        refine lv_icmp_eq (tgt := 53) hx hb dX6_youngestBut_14 (by decide) (fun c_12 => ?_) (fun c_12 => ?_)
        · refine lv_iload_n hx hb dX6_youngestBut_53 rfl (lv_at hl 1 rfl) ?_
          refine lv_istore_n (lv' := [(2, .int xB_5), (3, .int (nI j_4)), (0, .ref qm), (1, .int iO)]) hx hb dX6_youngestBut_54 rfl hl (by decide) rfl (fun ls => ?_)
          clear hl
          intro hl
          refine lv_iinc (v := nI (j_4 + 1)) (lv' := [(3, .int (nI (j_4 + 1))), (2, .int xB_5), (0, .ref qm), (1, .int iO)]) hx hb dX6_youngestBut_55 hl (k := 1) rfl (nI_1 _) (by decide) rfl (fun ls => ?_)
          clear hl
          intro hl
          refine lv_goto (tgt := 4) hx hb dX6_youngestBut_58 (by decide) ?_
          exact ih_3 (j_4 + 1) xB_5 (by omega) (by omega) (by rw [yb_skip (fun q => q.1 c_12)]; exact hxB_7) _ (lv_sub hl [0, 1, 2, 3] rfl)
        · refine lv_aload_n hx hb dX6_youngestBut_17 rfl (lv_at hl 2 rfl) ?_
          refine lv_iload_n hx hb dX6_youngestBut_18 rfl (lv_at hl 0 rfl) ?_
          refine kRi (rV (As := [.int (nI j_4)]) (rest := []) (b := qm) ⟨hx, hb, hml, hown, hts⟩ (c_X6_isThere l G cy qm v0 v1 v2 v3 v4 v5 v6 v7 v8 v9 tA qmB qmO qmK iEn iTk v18 v19 v20 v21 v22 v23 v24 v25 v26 iLv iWs v29 v30 v31 v32 v33 v34 rO j_4 (by first | omega | (simp only [nb_sr, np_sr, nb_wr, np_wr, nb_rd, np_rd, nb_ch, np_ch, nb_zr, np_zr, nb_za, np_za, nb_ey, np_ey, nb_hf, np_hf, nb_dd, np_dd, nb_so, np_so, nb_skn, np_skn, nb_swh, np_swh, nb_sgn, np_sgn, nb_ssd, np_ssd, nb_sgo, np_sgo, nb_sag, np_sag]; omega))) L_X6_81 (preRV (q := (RX6, TX6, 35)) hN hP [0, 1, 2, 3, 4, 5, 6, 7, 8, 9] rfl 0 5 rfl rfl) rfl ⟨Nat.le_of_ble_eq_true rfl, Nat.le_of_ble_eq_true rfl⟩ hl.1 (Nat.le_of_ble_eq_true rfl) dX6_youngestBut_19 ⟨Nat.le_of_ble_eq_true rfl, Nat.le_of_ble_eq_true rfl⟩) (fun r_13 h_14 => ?_)
          rcases h_14 with ⟨rfl, h_15⟩ | ⟨rfl, h_15⟩
          · refine lv_if_eq (tgt := 53) hx hb dX6_youngestBut_22 (by decide) (fun h9 => absurd h9 (by decide)) (fun _ => ?_)
            refine lv_iload_n hx hb dX6_youngestBut_25 rfl (lv_at hl 1 rfl) ?_
            refine lv_iconst (v := (-1)) hx hb dX6_youngestBut_26 (by decide) ?_
            refine lv_icmp_eq (tgt := 49) hx hb dX6_youngestBut_27 (by decide) (fun c_17 => ?_) (fun c_17 => ?_)
            · refine lv_iload_n hx hb dX6_youngestBut_49 rfl (lv_at hl 0 rfl) ?_
              refine lv_goto (tgt := 54) hx hb dX6_youngestBut_50 (by decide) ?_
              refine lv_istore_n (lv' := [(2, .int (nI j_4)), (3, .int (nI j_4)), (0, .ref qm), (1, .int iO)]) hx hb dX6_youngestBut_54 rfl hl (by decide) rfl (fun ls => ?_)
              clear hl
              intro hl
              refine lv_iinc (v := nI (j_4 + 1)) (lv' := [(3, .int (nI (j_4 + 1))), (2, .int (nI j_4)), (0, .ref qm), (1, .int iO)]) hx hb dX6_youngestBut_55 hl (k := 1) rfl (nI_1 _) (by decide) rfl (fun ls => ?_)
              clear hl
              intro hl
              refine lv_goto (tgt := 4) hx hb dX6_youngestBut_58 (by decide) ?_
              exact ih_3 (j_4 + 1) (nI j_4) (by omega) (by omega) (by rw [yb_upd ⟨c_12, h_15, Or.inl (hxB_7 ▸ c_17)⟩]) _ (lv_sub hl [0, 1, 2, 3] rfl)
            · obtain ⟨k_18, hk_19, ek_20⟩ : ∃ k : Nat, k < j_4 ∧ xB_5 = nI k := by
                rcases yb_in tA iO j_4 with q | ⟨k, h1, h2⟩
                · exact absurd (hxB_7.trans q) c_17
                · exact ⟨k, h1, hxB_7.trans h2⟩
              rw [ek_20] at hl
              refine lv_aload_n hx hb dX6_youngestBut_30 rfl (lv_at hl 2 rfl) ?_
              refine va_get (D := G) (ci := 5) (v := .ref qmO) (C := RX6) (T := TX6) (N := 35) hx hb hts iX_X6 hown hK hP 0 rfl rfl 13 (by decide) (hts _ m_t863) (fun _ h9 => h9) rfl dX6_youngestBut_31 ?_
              refine lv_iload_n hx hb dX6_youngestBut_34 rfl (lv_at hl 0 rfl) ?_
              refine va_alda hx hb hK hP 1 3 rfl rfl (in8 (by omega)) dX6_youngestBut_35 ?_
              refine lv_setv (v := .ref (rO j_4)) (g_ref (by omega)) ?_
              refine lv_iconst (v := 0) hx hb dX6_youngestBut_36 (by decide) ?_
              refine va_iald hx hb hK hP (2 + j_4) 0 (sg8 (n0 := 2) (f := (fun j => zzI cy (rO j) 5 (onR tA j))) rfl rfl rfl rfl rfl rfl rfl rfl j_4 (by omega)) rfl (in_c rfl) dX6_youngestBut_37 ?_
              refine lv_seti (v := T_ag tA j_4) (on_0 _ _) ?_
              refine lv_aload_n hx hb dX6_youngestBut_38 rfl (lv_at hl 2 rfl) ?_
              refine va_get (D := G) (ci := 5) (v := .ref qmO) (C := RX6) (T := TX6) (N := 35) hx hb hts iX_X6 hown hK hP 0 rfl rfl 13 (by decide) (hts _ m_t863) (fun _ h9 => h9) rfl dX6_youngestBut_39 ?_
              refine lv_iload_n hx hb dX6_youngestBut_42 rfl (lv_at hl 1 rfl) ?_
              refine va_alda hx hb hK hP 1 3 rfl rfl (in8 (by omega)) dX6_youngestBut_43 ?_
              refine lv_setv (v := .ref (rO k_18)) (g_ref (by omega)) ?_
              refine lv_iconst (v := 0) hx hb dX6_youngestBut_44 (by decide) ?_
              refine va_iald hx hb hK hP (2 + k_18) 0 (sg8 (n0 := 2) (f := (fun j => zzI cy (rO j) 5 (onR tA j))) rfl rfl rfl rfl rfl rfl rfl rfl k_18 (by omega)) rfl (in_c rfl) dX6_youngestBut_45 ?_
              refine lv_seti (v := T_ag tA k_18) (on_0 _ _) ?_
              refine lv_icmp_ge (tgt := 53) hx hb dX6_youngestBut_46 (by decide) (fun c_21 => ?_) (fun c_21 => ?_)
              · refine lv_iload_n hx hb dX6_youngestBut_53 rfl (lv_at hl 1 rfl) ?_
                refine lv_istore_n (lv' := [(2, .int (nI k_18)), (3, .int (nI j_4)), (0, .ref qm), (1, .int iO)]) hx hb dX6_youngestBut_54 rfl hl (by decide) rfl (fun ls => ?_)
                clear hl
                intro hl
                refine lv_iinc (v := nI (j_4 + 1)) (lv' := [(3, .int (nI (j_4 + 1))), (2, .int (nI k_18)), (0, .ref qm), (1, .int iO)]) hx hb dX6_youngestBut_55 hl (k := 1) rfl (nI_1 _) (by decide) rfl (fun ls => ?_)
                clear hl
                intro hl
                refine lv_goto (tgt := 4) hx hb dX6_youngestBut_58 (by decide) ?_
                exact ih_3 (j_4 + 1) (nI k_18) (by omega) (by omega) (by rw [yb_skip (fun q => q.2.2.elim (fun r => c_17 (hxB_7.trans r)) (fun r => by rw [← hxB_7, ek_20, nI_clamp (by omega)] at r; exact Int32.not_lt.mpr c_21 r))]; exact ek_20.symm.trans hxB_7) _ (lv_sub hl [0, 1, 2, 3] rfl)
              · refine lv_iload_n hx hb dX6_youngestBut_49 rfl (lv_at hl 0 rfl) ?_
                refine lv_goto (tgt := 54) hx hb dX6_youngestBut_50 (by decide) ?_
                refine lv_istore_n (lv' := [(2, .int (nI j_4)), (3, .int (nI j_4)), (0, .ref qm), (1, .int iO)]) hx hb dX6_youngestBut_54 rfl hl (by decide) rfl (fun ls => ?_)
                clear hl
                intro hl
                refine lv_iinc (v := nI (j_4 + 1)) (lv' := [(3, .int (nI (j_4 + 1))), (2, .int (nI j_4)), (0, .ref qm), (1, .int iO)]) hx hb dX6_youngestBut_55 hl (k := 1) rfl (nI_1 _) (by decide) rfl (fun ls => ?_)
                clear hl
                intro hl
                refine lv_goto (tgt := 4) hx hb dX6_youngestBut_58 (by decide) ?_
                exact ih_3 (j_4 + 1) (nI j_4) (by omega) (by omega) (by rw [yb_upd ⟨c_12, h_15, Or.inr (by rw [← hxB_7, ek_20, nI_clamp (by omega)]; exact Int32.not_le.mp c_21)⟩]) _ (lv_sub hl [0, 1, 2, 3] rfl)
          · refine lv_if_eq (tgt := 53) hx hb dX6_youngestBut_22 (by decide) (fun _ => ?_) (fun h9 => absurd (by decide) h9)
            refine lv_iload_n hx hb dX6_youngestBut_53 rfl (lv_at hl 1 rfl) ?_
            refine lv_istore_n (lv' := [(2, .int xB_5), (3, .int (nI j_4)), (0, .ref qm), (1, .int iO)]) hx hb dX6_youngestBut_54 rfl hl (by decide) rfl (fun ls => ?_)
            clear hl
            intro hl
            refine lv_iinc (v := nI (j_4 + 1)) (lv' := [(3, .int (nI (j_4 + 1))), (2, .int xB_5), (0, .ref qm), (1, .int iO)]) hx hb dX6_youngestBut_55 hl (k := 1) rfl (nI_1 _) (by decide) rfl (fun ls => ?_)
            clear hl
            intro hl
            refine lv_goto (tgt := 4) hx hb dX6_youngestBut_58 (by decide) ?_
            exact ih_3 (j_4 + 1) xB_5 (by omega) (by omega) (by rw [yb_skip (fun q => by rw [h_15] at q; exact absurd q.2.1 (by decide))]; exact hxB_7) _ (lv_sub hl [0, 1, 2, 3] rfl)
  exact lp_1 ((8 - 0) + 1) 0 (-1) (Nat.lt_succ_self _) (Nat.zero_le _) rfl ls (lv_sub hl [0, 1, 2, 3] rfl)
set_option maxHeartbeats 4000000 in
set_option maxRecDepth 100000 in
theorem c_X6_readerOf (l : Launch) (G : va_G) (cy : Nat → ClassId) (qm : Nat) (v0 : Value) (v1 : Value) (v2 : Value) (v3 : Value) (v4 : Value) (v5 : Value) (v6 : Value) (v7 : Value) (v8 : Value) (v9 : Value) (tA : TA) (qmB : Nat) (qmO : Nat) (qmK : Nat) (iEn : Int32) (iTk : Int32) (v18 : Value) (v19 : Value) (v20 : Value) (v21 : Value) (v22 : Value) (v23 : Value) (v24 : Value) (v25 : Value) (v26 : Value) (iLv : Int32) (iWs : Int32) (v29 : Value) (v30 : Value) (v31 : Value) (v32 : Value) (v33 : Value) (v34 : Value) (rB : Nat → Nat) (rO : Nat → Nat) (rK : Nat → Nat) (kB : Nat)  (hPp : T_np tA ≤ 8) (hJ : kB < 8) (hTI : TI tA) : MR l yX6_readerOf cX6_readerOf 6 (some .int) 4 G cy [zzO qm 5 [v0, v1, v2, v3, v4, v5, v6, v7, v8, v9, .int (nI (T_nb tA)), .ref qmB, .int (nI (T_np tA)), .ref qmO, .ref qmK, .int iEn, .int iTk, .int (T_sd tA), v18, v19, v20, v21, v22, v23, v24, v25, v26, .int iLv, .int iWs, v29, v30, v31, v32, v33, v34], zzG cy 3 qmB rB, zzI cy (rB 0) 4 (bkR tA 0), zzI cy (rB 1) 4 (bkR tA 1), zzI cy (rB 2) 4 (bkR tA 2), zzI cy (rB 3) 4 (bkR tA 3), zzI cy (rB 4) 4 (bkR tA 4), zzI cy (rB 5) 4 (bkR tA 5), zzI cy (rB 6) 4 (bkR tA 6), zzI cy (rB 7) 4 (bkR tA 7), zzG cy 3 qmO rO, zzI cy (rO 0) 5 (onR tA 0), zzI cy (rO 1) 5 (onR tA 1), zzI cy (rO 2) 5 (onR tA 2), zzI cy (rO 3) 5 (onR tA 3), zzI cy (rO 4) 5 (onR tA 4), zzI cy (rO 5) 5 (onR tA 5), zzI cy (rO 6) 5 (onR tA 6), zzI cy (rO 7) 5 (onR tA 7), zzG cy 3 qmK rK, zzI cy (rK 0) 8 (T_kn tA 0), zzI cy (rK 1) 8 (T_kn tA 1), zzI cy (rK 2) 8 (T_kn tA 2), zzI cy (rK 3) 8 (T_kn tA 3), zzI cy (rK 4) 8 (T_kn tA 4), zzI cy (rK 5) 8 (T_kn tA 5), zzI cy (rK 6) 8 (T_kn tA 6), zzI cy (rK 7) 8 (T_kn tA 7)] [.ref qm, .int (nI kB)] (vp_Si (fun r => (r = (zbr tA kB)))) := by
  refine enR RX6 (by decide) rfl (Nat.le_of_ble_eq_true rfl) (fun p e s m below meth c ls hx hb hml hown hts hr hlocks hP hN hl => ?_)
  have hK := hN.1
  replace hl : lv_has ls 6 [(0, .ref qm), (1, .int (nI kB))] := hl
  refine lv_iconst (v := (-1)) hx hb dX6_readerOf_0 (by decide) ?_
  refine lv_istore_n (lv' := [(2, .int (-1)), (0, .ref qm), (1, .int (nI kB))]) hx hb dX6_readerOf_1 rfl hl (by decide) rfl (fun ls => ?_)
  clear hl
  intro hl
  refine lv_iconst (v := 0) hx hb dX6_readerOf_2 (by decide) ?_
  refine lv_istore_n (lv' := [(3, .int 0), (2, .int (-1)), (0, .ref qm), (1, .int (nI kB))]) hx hb dX6_readerOf_3 rfl hl (by decide) rfl (fun ls => ?_)
  clear hl
  intro hl
  have lp_1 : ∀ (n_2 : Nat) (j_4 : Nat) (xB_5 : Int32), 8 - j_4 < n_2 → j_4 ≤ T_np tA → xB_5 = (brF tA kB j_4).1 → ∀ (ls : Array Slot), lv_has ls 6 [(3, .int (nI j_4)), (2, .int xB_5), (0, .ref qm), (1, .int (nI kB))] → W p l e (Rm 4 0 0) s m (List.toArray (α := Value) [.ref qm, .int (nI kB)]) below meth c s.heap [] 0 0 (MQ below (vp_Si (fun r => (r = (zbr tA kB)))) (List.toArray (α := Value) [.ref qm, .int (nI kB)]) s 0 0 (fun _ => False)) (F0 m 4 ls []) := by
    intro n_2
    induction n_2 with
    | zero => intro j_4 xB_5 hm9; exact absurd hm9 (Nat.not_lt_zero _)
    | succ n_2 ih_3 =>
      intro j_4 xB_5 hm_8 hj_6 hxB_7 ls hl
      refine lv_iload_n hx hb dX6_readerOf_4 rfl (lv_at hl 0 rfl) ?_
      refine lv_aload_n hx hb dX6_readerOf_5 rfl (lv_at hl 2 rfl) ?_
      refine va_get (D := G) (ci := 5) (v := .int (nI (T_np tA))) (C := RX6) (T := TX6) (N := 35) hx hb hts iX_X6 hown hK hP 0 rfl rfl 12 (by decide) (hts _ m_t862) (fun _ h9 => h9) rfl dX6_readerOf_6 ?_
      refine lv_icmp_ge (tgt := 90) hx hb dX6_readerOf_9 (by decide) (fun c_9 => ?_) (fun c_9 => ?_)
      · have hlt_10 : j_4 = T_np tA := Nat.le_antisymm (by omega) (lp_ge rfl rfl (by omega) (by omega) c_9)
        refine lv_iload_n hx hb dX6_readerOf_90 rfl (lv_at hl 1 rfl) ?_
        exact endR hx hb hr hlocks rfl (by rw [hxB_7, hlt_10]; rfl) dX6_readerOf_91
      · have hlt_11 : j_4 < T_np tA := lp_lt rfl rfl (by omega) (by omega) c_9
        refine lv_aload_n hx hb dX6_readerOf_12 rfl (lv_at hl 2 rfl) ?_
        refine lv_iload_n hx hb dX6_readerOf_13 rfl (lv_at hl 0 rfl) ?_
        refine kRi (rV (As := [.int (nI j_4)]) (rest := []) (b := qm) ⟨hx, hb, hml, hown, hts⟩ (c_X6_isThere l G cy qm v0 v1 v2 v3 v4 v5 v6 v7 v8 v9 tA qmB qmO qmK iEn iTk v18 v19 v20 v21 v22 v23 v24 v25 v26 iLv iWs v29 v30 v31 v32 v33 v34 rO j_4 (by first | omega | (simp only [nb_sr, np_sr, nb_wr, np_wr, nb_rd, np_rd, nb_ch, np_ch, nb_zr, np_zr, nb_za, np_za, nb_ey, np_ey, nb_hf, np_hf, nb_dd, np_dd, nb_so, np_so, nb_skn, np_skn, nb_swh, np_swh, nb_sgn, np_sgn, nb_ssd, np_ssd, nb_sgo, np_sgo, nb_sag, np_sag]; omega))) L_X6_81 (preRV (q := (RX6, TX6, 35)) hN hP [0, 10, 11, 12, 13, 14, 15, 16, 17, 18] rfl 0 5 rfl rfl) rfl ⟨Nat.le_of_ble_eq_true rfl, Nat.le_of_ble_eq_true rfl⟩ hl.1 (Nat.le_of_ble_eq_true rfl) dX6_readerOf_14 ⟨Nat.le_of_ble_eq_true rfl, Nat.le_of_ble_eq_true rfl⟩) (fun r_12 h_13 => ?_)
        rcases h_13 with ⟨rfl, h_14⟩ | ⟨rfl, h_14⟩
        · refine lv_if_eq (tgt := 84) hx hb dX6_readerOf_17 (by decide) (fun h9 => absurd h9 (by decide)) (fun _ => ?_)
          refine lv_aload_n hx hb dX6_readerOf_20 rfl (lv_at hl 2 rfl) ?_
          refine lv_iload_n hx hb dX6_readerOf_21 rfl (lv_at hl 0 rfl) ?_
          refine lv_iload_n hx hb dX6_readerOf_22 rfl (lv_at hl 3 rfl) ?_
          refine kRi (rV (As := [.int (nI j_4), .int (nI kB)]) (rest := []) (b := qm) ⟨hx, hb, hml, hown, hts⟩ (c_X6_wouldKnow l G cy qm v0 v1 v2 v3 v4 v5 v6 v7 v8 v9 tA qmB qmO qmK iEn iTk v18 v19 v20 v21 v22 v23 v24 v25 v26 iLv iWs v29 v30 v31 v32 v33 v34 rB rO rK j_4 kB (by first | omega | (simp only [nb_sr, np_sr, nb_wr, np_wr, nb_rd, np_rd, nb_ch, np_ch, nb_zr, np_zr, nb_za, np_za, nb_ey, np_ey, nb_hf, np_hf, nb_dd, np_dd, nb_so, np_so, nb_skn, np_skn, nb_swh, np_swh, nb_sgn, np_sgn, nb_ssd, np_ssd, nb_sgo, np_sgo, nb_sag, np_sag]; omega)) hJ) L_X6_254 (preRV (q := (RX6, TX6, 35)) hN hP [0, 1, 2, 3, 4, 5, 6, 7, 8, 9, 10, 11, 12, 13, 14, 15, 16, 17, 18, 19, 20, 21, 22, 23, 24, 25, 26, 27] rfl 0 5 rfl rfl) rfl ⟨Nat.le_of_ble_eq_true rfl, Nat.le_of_ble_eq_true rfl⟩ hl.1 (Nat.le_of_ble_eq_true rfl) dX6_readerOf_23 ⟨Nat.le_of_ble_eq_true rfl, Nat.le_of_ble_eq_true rfl⟩) (fun r_16 h_17 => ?_)
          subst h_17
          refine lv_istore (lv' := [(4, .int (zwk tA j_4 kB)), (3, .int (nI j_4)), (2, .int xB_5), (0, .ref qm), (1, .int (nI kB))]) hx hb dX6_readerOf_26 hl (by decide) rfl (fun ls => ?_)
          clear hl
          intro hl
          refine lv_iload_n hx hb dX6_readerOf_28 rfl (lv_at hl 2 rfl) ?_
          refine lv_iconst (v := (-1)) hx hb dX6_readerOf_29 (by decide) ?_
          refine lv_icmp_ne (tgt := 37) hx hb dX6_readerOf_30 (by decide) (fun c_18 => ?_) (fun c_18 => ?_)
          · obtain ⟨k_19, hk_20, ek_21⟩ : ∃ k : Nat, k < j_4 ∧ xB_5 = nI k := by
              rcases br_in tA kB j_4 with q | ⟨k, h1, h2⟩
              · exact absurd (hxB_7.trans q) c_18
              · exact ⟨k, h1, hxB_7.trans h2⟩
            rw [ek_21] at hl
            refine lv_aload_n hx hb dX6_readerOf_37 rfl (lv_at hl 3 rfl) ?_
            refine lv_iload_n hx hb dX6_readerOf_38 rfl (lv_at hl 2 rfl) ?_
            refine lv_iload_n hx hb dX6_readerOf_39 rfl (lv_at hl 4 rfl) ?_
            refine kRi (rV (As := [.int (nI k_19), .int (nI kB)]) (rest := []) (b := qm) ⟨hx, hb, hml, hown, hts⟩ (c_X6_wouldKnow l G cy qm v0 v1 v2 v3 v4 v5 v6 v7 v8 v9 tA qmB qmO qmK iEn iTk v18 v19 v20 v21 v22 v23 v24 v25 v26 iLv iWs v29 v30 v31 v32 v33 v34 rB rO rK k_19 kB (by first | omega | (simp only [nb_sr, np_sr, nb_wr, np_wr, nb_rd, np_rd, nb_ch, np_ch, nb_zr, np_zr, nb_za, np_za, nb_ey, np_ey, nb_hf, np_hf, nb_dd, np_dd, nb_so, np_so, nb_skn, np_skn, nb_swh, np_swh, nb_sgn, np_sgn, nb_ssd, np_ssd, nb_sgo, np_sgo, nb_sag, np_sag]; omega)) hJ) L_X6_254 (preRV (q := (RX6, TX6, 35)) hN hP [0, 1, 2, 3, 4, 5, 6, 7, 8, 9, 10, 11, 12, 13, 14, 15, 16, 17, 18, 19, 20, 21, 22, 23, 24, 25, 26, 27] rfl 0 5 rfl rfl) rfl ⟨Nat.le_of_ble_eq_true rfl, Nat.le_of_ble_eq_true rfl⟩ hl.1 (Nat.le_of_ble_eq_true rfl) dX6_readerOf_40 ⟨Nat.le_of_ble_eq_true rfl, Nat.le_of_ble_eq_true rfl⟩) (fun r_22 h_23 => ?_)
            subst h_23
            refine lv_istore (lv' := [(5, .int (zwk tA k_19 kB)), (4, .int (zwk tA j_4 kB)), (3, .int (nI j_4)), (2, .int (nI k_19)), (0, .ref qm), (1, .int (nI kB))]) hx hb dX6_readerOf_43 hl (by decide) rfl (fun ls => ?_)
            clear hl
            intro hl
            refine lv_iload hx hb dX6_readerOf_45 (lv_at hl 1 rfl) ?_
            refine lv_iload hx hb dX6_readerOf_47 (lv_at hl 0 rfl) ?_
            refine lv_icmp_gt (tgt := 78) hx hb dX6_readerOf_49 (by decide) (fun c_24 => ?_) (fun c_24 => ?_)
            · refine lv_iload_n hx hb dX6_readerOf_78 rfl (lv_at hl 2 rfl) ?_
              refine lv_goto (tgt := 83) hx hb dX6_readerOf_79 (by decide) ?_
              refine lv_istore_n (lv' := [(2, .int (nI j_4)), (5, .int (zwk tA k_19 kB)), (4, .int (zwk tA j_4 kB)), (3, .int (nI j_4)), (0, .ref qm), (1, .int (nI kB))]) hx hb dX6_readerOf_83 rfl hl (by decide) rfl (fun ls => ?_)
              clear hl
              intro hl
              refine lv_iinc (v := nI (j_4 + 1)) (lv' := [(3, .int (nI (j_4 + 1))), (2, .int (nI j_4)), (5, .int (zwk tA k_19 kB)), (4, .int (zwk tA j_4 kB)), (0, .ref qm), (1, .int (nI kB))]) hx hb dX6_readerOf_84 hl (k := 3) rfl (nI_1 _) (by decide) rfl (fun ls => ?_)
              clear hl
              intro hl
              refine lv_goto (tgt := 4) hx hb dX6_readerOf_87 (by decide) ?_
              exact ih_3 (j_4 + 1) (nI j_4) (by omega) (by omega) (by rw [br_upd ⟨h_14, (wk_m1 hTI _ _), Or.inr (Or.inl (by rw [(br_snd (by omega) (hxB_7.symm.trans ek_21) (by omega))]; exact c_24))⟩]) _ (lv_sub hl [0, 1, 4, 5] rfl)
            · refine lv_iload hx hb dX6_readerOf_52 (lv_at hl 1 rfl) ?_
              refine lv_iload hx hb dX6_readerOf_54 (lv_at hl 0 rfl) ?_
              refine lv_icmp_ne (tgt := 82) hx hb dX6_readerOf_56 (by decide) (fun c_25 => ?_) (fun c_25 => ?_)
              · refine lv_iload_n hx hb dX6_readerOf_82 rfl (lv_at hl 3 rfl) ?_
                refine lv_istore_n (lv' := [(2, .int (nI k_19)), (5, .int (zwk tA k_19 kB)), (4, .int (zwk tA j_4 kB)), (3, .int (nI j_4)), (0, .ref qm), (1, .int (nI kB))]) hx hb dX6_readerOf_83 rfl hl (by decide) rfl (fun ls => ?_)
                clear hl
                intro hl
                refine lv_iinc (v := nI (j_4 + 1)) (lv' := [(3, .int (nI (j_4 + 1))), (2, .int (nI k_19)), (5, .int (zwk tA k_19 kB)), (4, .int (zwk tA j_4 kB)), (0, .ref qm), (1, .int (nI kB))]) hx hb dX6_readerOf_84 hl (k := 3) rfl (nI_1 _) (by decide) rfl (fun ls => ?_)
                clear hl
                intro hl
                refine lv_goto (tgt := 4) hx hb dX6_readerOf_87 (by decide) ?_
                exact ih_3 (j_4 + 1) (nI k_19) (by omega) (by omega) (by rw [br_skip (fun q => q.2.2.elim (fun r => c_18 (hxB_7.trans r)) (fun r => r.elim (fun r => c_24 (by rw [(br_snd (by omega) (hxB_7.symm.trans ek_21) (by omega))] at r; exact r)) (fun r => c_25 (by rw [(br_snd (by omega) (hxB_7.symm.trans ek_21) (by omega))] at r; exact r.1))))]; exact ek_21.symm.trans hxB_7) _ (lv_sub hl [0, 1, 4, 5] rfl)
              · refine lv_aload_n hx hb dX6_readerOf_59 rfl (lv_at hl 4 rfl) ?_
                refine va_get (D := G) (ci := 5) (v := .ref qmO) (C := RX6) (T := TX6) (N := 35) hx hb hts iX_X6 hown hK hP 0 rfl rfl 13 (by decide) (hts _ m_t863) (fun _ h9 => h9) rfl dX6_readerOf_60 ?_
                refine lv_iload_n hx hb dX6_readerOf_63 rfl (lv_at hl 2 rfl) ?_
                refine va_alda hx hb hK hP 10 3 rfl rfl (in8 (by omega)) dX6_readerOf_64 ?_
                refine lv_setv (v := .ref (rO j_4)) (g_ref (by omega)) ?_
                refine lv_iconst (v := 0) hx hb dX6_readerOf_65 (by decide) ?_
                refine va_iald hx hb hK hP (11 + j_4) 0 (sg8 (n0 := 11) (f := (fun j => zzI cy (rO j) 5 (onR tA j))) rfl rfl rfl rfl rfl rfl rfl rfl j_4 (by omega)) rfl (in_c rfl) dX6_readerOf_66 ?_
                refine lv_seti (v := T_ag tA j_4) (on_0 _ _) ?_
                refine lv_aload_n hx hb dX6_readerOf_67 rfl (lv_at hl 4 rfl) ?_
                refine va_get (D := G) (ci := 5) (v := .ref qmO) (C := RX6) (T := TX6) (N := 35) hx hb hts iX_X6 hown hK hP 0 rfl rfl 13 (by decide) (hts _ m_t863) (fun _ h9 => h9) rfl dX6_readerOf_68 ?_
                refine lv_iload_n hx hb dX6_readerOf_71 rfl (lv_at hl 3 rfl) ?_
                refine va_alda hx hb hK hP 10 3 rfl rfl (in8 (by omega)) dX6_readerOf_72 ?_
                refine lv_setv (v := .ref (rO k_19)) (g_ref (by omega)) ?_
                refine lv_iconst (v := 0) hx hb dX6_readerOf_73 (by decide) ?_
                refine va_iald hx hb hK hP (11 + k_19) 0 (sg8 (n0 := 11) (f := (fun j => zzI cy (rO j) 5 (onR tA j))) rfl rfl rfl rfl rfl rfl rfl rfl k_19 (by omega)) rfl (in_c rfl) dX6_readerOf_74 ?_
                refine lv_seti (v := T_ag tA k_19) (on_0 _ _) ?_
                refine lv_icmp_ge (tgt := 82) hx hb dX6_readerOf_75 (by decide) (fun c_26 => ?_) (fun c_26 => ?_)
                · refine lv_iload_n hx hb dX6_readerOf_82 rfl (lv_at hl 3 rfl) ?_
                  refine lv_istore_n (lv' := [(2, .int (nI k_19)), (5, .int (zwk tA k_19 kB)), (4, .int (zwk tA j_4 kB)), (3, .int (nI j_4)), (0, .ref qm), (1, .int (nI kB))]) hx hb dX6_readerOf_83 rfl hl (by decide) rfl (fun ls => ?_)
                  clear hl
                  intro hl
                  refine lv_iinc (v := nI (j_4 + 1)) (lv' := [(3, .int (nI (j_4 + 1))), (2, .int (nI k_19)), (5, .int (zwk tA k_19 kB)), (4, .int (zwk tA j_4 kB)), (0, .ref qm), (1, .int (nI kB))]) hx hb dX6_readerOf_84 hl (k := 3) rfl (nI_1 _) (by decide) rfl (fun ls => ?_)
                  clear hl
                  intro hl
                  refine lv_goto (tgt := 4) hx hb dX6_readerOf_87 (by decide) ?_
                  exact ih_3 (j_4 + 1) (nI k_19) (by omega) (by omega) (by rw [br_skip (fun q => q.2.2.elim (fun r => c_18 (hxB_7.trans r)) (fun r => r.elim (fun r => c_24 (by rw [(br_snd (by omega) (hxB_7.symm.trans ek_21) (by omega))] at r; exact r)) (fun r => Int32.not_lt.mpr c_26 (by have z := r.2; rw [← hxB_7, ek_21, nI_clamp (by omega)] at z; exact z))))]; exact ek_21.symm.trans hxB_7) _ (lv_sub hl [0, 1, 4, 5] rfl)
                · refine lv_iload_n hx hb dX6_readerOf_78 rfl (lv_at hl 2 rfl) ?_
                  refine lv_goto (tgt := 83) hx hb dX6_readerOf_79 (by decide) ?_
                  refine lv_istore_n (lv' := [(2, .int (nI j_4)), (5, .int (zwk tA k_19 kB)), (4, .int (zwk tA j_4 kB)), (3, .int (nI j_4)), (0, .ref qm), (1, .int (nI kB))]) hx hb dX6_readerOf_83 rfl hl (by decide) rfl (fun ls => ?_)
                  clear hl
                  intro hl
                  refine lv_iinc (v := nI (j_4 + 1)) (lv' := [(3, .int (nI (j_4 + 1))), (2, .int (nI j_4)), (5, .int (zwk tA k_19 kB)), (4, .int (zwk tA j_4 kB)), (0, .ref qm), (1, .int (nI kB))]) hx hb dX6_readerOf_84 hl (k := 3) rfl (nI_1 _) (by decide) rfl (fun ls => ?_)
                  clear hl
                  intro hl
                  refine lv_goto (tgt := 4) hx hb dX6_readerOf_87 (by decide) ?_
                  exact ih_3 (j_4 + 1) (nI j_4) (by omega) (by omega) (by rw [br_upd ⟨h_14, (wk_m1 hTI _ _), Or.inr (Or.inr ⟨by rw [(br_snd (by omega) (hxB_7.symm.trans ek_21) (by omega))]; exact c_25, by rw [← hxB_7, ek_21, nI_clamp (by omega)]; exact Int32.not_le.mp c_26⟩)⟩]) _ (lv_sub hl [0, 1, 4, 5] rfl)
          · refine lv_iconst (v := (-1)) hx hb dX6_readerOf_33 (by decide) ?_
            refine lv_goto (tgt := 43) hx hb dX6_readerOf_34 (by decide) ?_
            refine lv_istore (lv' := [(5, .int (-1)), (4, .int (zwk tA j_4 kB)), (3, .int (nI j_4)), (2, .int xB_5), (0, .ref qm), (1, .int (nI kB))]) hx hb dX6_readerOf_43 hl (by decide) rfl (fun ls => ?_)
            clear hl
            intro hl
            refine lv_iload hx hb dX6_readerOf_45 (lv_at hl 1 rfl) ?_
            refine lv_iload hx hb dX6_readerOf_47 (lv_at hl 0 rfl) ?_
            refine lv_icmp_gt (tgt := 78) hx hb dX6_readerOf_49 (by decide) (fun c_27 => ?_) (fun c_27 => ?_)
            · refine lv_iload_n hx hb dX6_readerOf_78 rfl (lv_at hl 2 rfl) ?_
              refine lv_goto (tgt := 83) hx hb dX6_readerOf_79 (by decide) ?_
              refine lv_istore_n (lv' := [(2, .int (nI j_4)), (5, .int (-1)), (4, .int (zwk tA j_4 kB)), (3, .int (nI j_4)), (0, .ref qm), (1, .int (nI kB))]) hx hb dX6_readerOf_83 rfl hl (by decide) rfl (fun ls => ?_)
              clear hl
              intro hl
              refine lv_iinc (v := nI (j_4 + 1)) (lv' := [(3, .int (nI (j_4 + 1))), (2, .int (nI j_4)), (5, .int (-1)), (4, .int (zwk tA j_4 kB)), (0, .ref qm), (1, .int (nI kB))]) hx hb dX6_readerOf_84 hl (k := 3) rfl (nI_1 _) (by decide) rfl (fun ls => ?_)
              clear hl
              intro hl
              refine lv_goto (tgt := 4) hx hb dX6_readerOf_87 (by decide) ?_
              exact ih_3 (j_4 + 1) (nI j_4) (by omega) (by omega) (by rw [br_upd ⟨h_14, (wk_m1 hTI _ _), Or.inl (hxB_7 ▸ c_18)⟩]) _ (lv_sub hl [0, 1, 4, 5] rfl)
            · exact absurd (wk_gt hTI _ _) c_27
        · refine lv_if_eq (tgt := 84) hx hb dX6_readerOf_17 (by decide) (fun _ => ?_) (fun h9 => absurd (by decide) h9)
          refine lv_iinc (v := nI (j_4 + 1)) (lv' := [(3, .int (nI (j_4 + 1))), (2, .int xB_5), (0, .ref qm), (1, .int (nI kB))]) hx hb dX6_readerOf_84 hl (k := 0) rfl (nI_1 _) (by decide) rfl (fun ls => ?_)
          clear hl
          intro hl
          refine lv_goto (tgt := 4) hx hb dX6_readerOf_87 (by decide) ?_
          exact ih_3 (j_4 + 1) xB_5 (by omega) (by omega) (by rw [br_skip (fun q => by rw [h_14] at q; exact absurd q.1 (by decide))]; exact hxB_7) _ (lv_sub hl [0, 1, 2, 3] rfl)
  exact lp_1 ((8 - 0) + 1) 0 (-1) (Nat.lt_succ_self _) (Nat.zero_le _) rfl ls (lv_sub hl [0, 1, 2, 3] rfl)
