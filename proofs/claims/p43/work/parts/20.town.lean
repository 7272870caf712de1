theorem dX4_afterTelling_0 : decode cX4_afterTelling 0 = .ok (.iload_n 0, 1) := by decide +kernel
theorem dX4_afterTelling_1 : decode cX4_afterTelling 1 = .ok (.iload_n 1, 1) := by decide +kernel
theorem dX4_afterTelling_2 : decode cX4_afterTelling 2 = .ok (.imul, 1) := by decide +kernel
theorem dX4_afterTelling_3 : decode cX4_afterTelling 3 = .ok (.bipush 10, 2) := by decide +kernel
theorem dX4_afterTelling_5 : decode cX4_afterTelling 5 = .ok (.idiv, 1) := by decide +kernel
theorem dX4_afterTelling_6 : decode cX4_afterTelling 6 = .ok (.ireturn, 1) := by decide +kernel
theorem dX4_booksKnown_0 : decode cX4_booksKnown 0 = .ok (.iconst 0, 1) := by decide +kernel
theorem dX4_booksKnown_1 : decode cX4_booksKnown 1 = .ok (.istore_n 3, 1) := by decide +kernel
theorem dX4_booksKnown_2 : decode cX4_booksKnown 2 = .ok (.iconst 0, 1) := by decide +kernel
theorem dX4_booksKnown_3 : decode cX4_booksKnown 3 = .ok (.istore 4, 2) := by decide +kernel
theorem dX4_booksKnown_5 : decode cX4_booksKnown 5 = .ok (.iload 4, 2) := by decide +kernel
theorem dX4_booksKnown_7 : decode cX4_booksKnown 7 = .ok (.aload_n 0, 1) := by decide +kernel
theorem dX4_booksKnown_8 : decode cX4_booksKnown 8 = .ok (.getfield 40, 3) := by decide +kernel
theorem dX4_booksKnown_11 : decode cX4_booksKnown 11 = .ok (.if_icmp .ge 27, 3) := by decide +kernel
theorem dX4_booksKnown_14 : decode cX4_booksKnown 14 = .ok (.aload_n 0, 1) := by decide +kernel
theorem dX4_booksKnown_15 : decode cX4_booksKnown 15 = .ok (.iload 4, 2) := by decide +kernel
theorem dX4_booksKnown_17 : decode cX4_booksKnown 17 = .ok (.iload_n 1, 1) := by decide +kernel
theorem dX4_booksKnown_18 : decode cX4_booksKnown 18 = .ok (.invokevirtual 75, 3) := by decide +kernel
theorem dX4_booksKnown_21 : decode cX4_booksKnown 21 = .ok (.iload_n 2, 1) := by decide +kernel
theorem dX4_booksKnown_22 : decode cX4_booksKnown 22 = .ok (.if_icmp .lt 10, 3) := by decide +kernel
theorem dX4_booksKnown_25 : decode cX4_booksKnown 25 = .ok (.iload_n 3, 1) := by decide +kernel
theorem dX4_booksKnown_26 : decode cX4_booksKnown 26 = .ok (.iconst 1, 1) := by decide +kernel
theorem dX4_booksKnown_27 : decode cX4_booksKnown 27 = .ok (.iload 4, 2) := by decide +kernel
theorem dX4_booksKnown_29 : decode cX4_booksKnown 29 = .ok (.ishl, 1) := by decide +kernel
theorem dX4_booksKnown_30 : decode cX4_booksKnown 30 = .ok (.ior, 1) := by decide +kernel
theorem dX4_booksKnown_31 : decode cX4_booksKnown 31 = .ok (.istore_n 3, 1) := by decide +kernel
theorem dX4_booksKnown_32 : decode cX4_booksKnown 32 = .ok (.iinc 4 1, 3) := by decide +kernel
theorem dX4_booksKnown_35 : decode cX4_booksKnown 35 = .ok (.goto (-30), 3) := by decide +kernel
theorem dX4_booksKnown_38 : decode cX4_booksKnown 38 = .ok (.iload_n 3, 1) := by decide +kernel
theorem dX4_booksKnown_39 : decode cX4_booksKnown 39 = .ok (.ireturn, 1) := by decide +kernel
theorem dX4_gainByTelling_0 : decode cX4_gainByTelling 0 = .ok (.iconst 0, 1) := by decide +kernel
theorem dX4_gainByTelling_1 : decode cX4_gainByTelling 1 = .ok (.aload_n 0, 1) := by decide +kernel
theorem dX4_gainByTelling_2 : decode cX4_gainByTelling 2 = .ok (.iload_n 1, 1) := by decide +kernel
theorem dX4_gainByTelling_3 : decode cX4_gainByTelling 3 = .ok (.iload_n 3, 1) := by decide +kernel
theorem dX4_gainByTelling_4 : decode cX4_gainByTelling 4 = .ok (.invokevirtual 66, 3) := by decide +kernel
theorem dX4_gainByTelling_7 : decode cX4_gainByTelling 7 = .ok (.aload_n 0, 1) := by decide +kernel
theorem dX4_gainByTelling_8 : decode cX4_gainByTelling 8 = .ok (.getfield 34, 3) := by decide +kernel
theorem dX4_gainByTelling_11 : decode cX4_gainByTelling 11 = .ok (.iload_n 1, 1) := by decide +kernel
theorem dX4_gainByTelling_12 : decode cX4_gainByTelling 12 = .ok (.iaload, 1) := by decide +kernel
theorem dX4_gainByTelling_13 : decode cX4_gainByTelling 13 = .ok (.invokestatic 98, 3) := by decide +kernel
theorem dX4_gainByTelling_16 : decode cX4_gainByTelling 16 = .ok (.aload_n 0, 1) := by decide +kernel
theorem dX4_gainByTelling_17 : decode cX4_gainByTelling 17 = .ok (.iload_n 2, 1) := by decide +kernel
theorem dX4_gainByTelling_18 : decode cX4_gainByTelling 18 = .ok (.iload_n 3, 1) := by decide +kernel
theorem dX4_gainByTelling_19 : decode cX4_gainByTelling 19 = .ok (.invokevirtual 66, 3) := by decide +kernel
theorem dX4_gainByTelling_22 : decode cX4_gainByTelling 22 = .ok (.isub, 1) := by decide +kernel
theorem dX4_gainByTelling_23 : decode cX4_gainByTelling 23 = .ok (.invokestatic 70, 3) := by decide +kernel
theorem dX4_gainByTelling_26 : decode cX4_gainByTelling 26 = .ok (.ireturn, 1) := by decide +kernel
theorem dX4_grasped_0 : decode cX4_grasped 0 = .ok (.iload_n 0, 1) := by decide +kernel
theorem dX4_grasped_1 : decode cX4_grasped 1 = .ok (.iload_n 1, 1) := by decide +kernel
theorem dX4_grasped_2 : decode cX4_grasped 2 = .ok (.sipush 1000, 3) := by decide +kernel
theorem dX4_grasped_5 : decode cX4_grasped 5 = .ok (.iadd, 1) := by decide +kernel
theorem dX4_grasped_6 : decode cX4_grasped 6 = .ok (.imul, 1) := by decide +kernel
theorem dX4_grasped_7 : decode cX4_grasped 7 = .ok (.sipush 2000, 3) := by decide +kernel
theorem dX4_grasped_10 : decode cX4_grasped 10 = .ok (.idiv, 1) := by decide +kernel
theorem dX4_grasped_11 : decode cX4_grasped 11 = .ok (.ireturn, 1) := by decide +kernel
theorem dX4_groundOf_0 : decode cX4_groundOf 0 = .ok (.sipush 1000, 3) := by decide +kernel
theorem dX4_groundOf_3 : decode cX4_groundOf 3 = .ok (.istore_n 3, 1) := by decide +kernel
theorem dX4_groundOf_4 : decode cX4_groundOf 4 = .ok (.iconst 0, 1) := by decide +kernel
theorem dX4_groundOf_5 : decode cX4_groundOf 5 = .ok (.istore 4, 2) := by decide +kernel
theorem dX4_groundOf_7 : decode cX4_groundOf 7 = .ok (.iload 4, 2) := by decide +kernel
theorem dX4_groundOf_9 : decode cX4_groundOf 9 = .ok (.iload_n 2, 1) := by decide +kernel
theorem dX4_groundOf_10 : decode cX4_groundOf 10 = .ok (.if_icmp .ge 52, 3) := by decide +kernel
theorem dX4_groundOf_13 : decode cX4_groundOf 13 = .ok (.aload_n 0, 1) := by decide +kernel
theorem dX4_groundOf_14 : decode cX4_groundOf 14 = .ok (.getfield 19, 3) := by decide +kernel
theorem dX4_groundOf_17 : decode cX4_groundOf 17 = .ok (.iload_n 2, 1) := by decide +kernel
theorem dX4_groundOf_18 : decode cX4_groundOf 18 = .ok (.iaload, 1) := by decide +kernel
theorem dX4_groundOf_19 : decode cX4_groundOf 19 = .ok (.iload 4, 2) := by decide +kernel
theorem dX4_groundOf_21 : decode cX4_groundOf 21 = .ok (.ishr, 1) := by decide +kernel
theorem dX4_groundOf_22 : decode cX4_groundOf 22 = .ok (.iconst 1, 1) := by decide +kernel
theorem dX4_groundOf_23 : decode cX4_groundOf 23 = .ok (.iand, 1) := by decide +kernel
theorem dX4_groundOf_24 : decode cX4_groundOf 24 = .ok (.ifCond .eq 32, 3) := by decide +kernel
theorem dX4_groundOf_27 : decode cX4_groundOf 27 = .ok (.aload_n 0, 1) := by decide +kernel
theorem dX4_groundOf_28 : decode cX4_groundOf 28 = .ok (.getfield 37, 3) := by decide +kernel
theorem dX4_groundOf_31 : decode cX4_groundOf 31 = .ok (.iload_n 1, 1) := by decide +kernel
theorem dX4_groundOf_32 : decode cX4_groundOf 32 = .ok (.bipush 8, 2) := by decide +kernel
theorem dX4_groundOf_34 : decode cX4_groundOf 34 = .ok (.imul, 1) := by decide +kernel
theorem dX4_groundOf_35 : decode cX4_groundOf 35 = .ok (.iload 4, 2) := by decide +kernel
theorem dX4_groundOf_37 : decode cX4_groundOf 37 = .ok (.iadd, 1) := by decide +kernel
theorem dX4_groundOf_38 : decode cX4_groundOf 38 = .ok (.iaload, 1) := by decide +kernel
theorem dX4_groundOf_39 : decode cX4_groundOf 39 = .ok (.iload_n 3, 1) := by decide +kernel
theorem dX4_groundOf_40 : decode cX4_groundOf 40 = .ok (.if_icmp .ge 16, 3) := by decide +kernel
theorem dX4_groundOf_43 : decode cX4_groundOf 43 = .ok (.aload_n 0, 1) := by decide +kernel
theorem dX4_groundOf_44 : decode cX4_groundOf 44 = .ok (.getfield 37, 3) := by decide +kernel
theorem dX4_groundOf_47 : decode cX4_groundOf 47 = .ok (.iload_n 1, 1) := by decide +kernel
theorem dX4_groundOf_48 : decode cX4_groundOf 48 = .ok (.bipush 8, 2) := by decide +kernel
theorem dX4_groundOf_50 : decode cX4_groundOf 50 = .ok (.imul, 1) := by decide +kernel
theorem dX4_groundOf_51 : decode cX4_groundOf 51 = .ok (.iload 4, 2) := by decide +kernel
theorem dX4_groundOf_53 : decode cX4_groundOf 53 = .ok (.iadd, 1) := by decide +kernel
theorem dX4_groundOf_54 : decode cX4_groundOf 54 = .ok (.iaload, 1) := by decide +kernel
theorem dX4_groundOf_55 : decode cX4_groundOf 55 = .ok (.istore_n 3, 1) := by decide +kernel
theorem dX4_groundOf_56 : decode cX4_groundOf 56 = .ok (.iinc 4 1, 3) := by decide +kernel
theorem dX4_groundOf_59 : decode cX4_groundOf 59 = .ok (.goto (-52), 3) := by decide +kernel
theorem dX4_groundOf_62 : decode cX4_groundOf 62 = .ok (.iload_n 3, 1) := by decide +kernel
theorem dX4_groundOf_63 : decode cX4_groundOf 63 = .ok (.ireturn, 1) := by decide +kernel
theorem dX4_knows_0 : decode cX4_knows 0 = .ok (.aload_n 0, 1) := by decide +kernel
theorem dX4_knows_1 : decode cX4_knows 1 = .ok (.getfield 37, 3) := by decide +kernel
theorem dX4_knows_4 : decode cX4_knows 4 = .ok (.iload_n 1, 1) := by decide +kernel
theorem dX4_knows_5 : decode cX4_knows 5 = .ok (.bipush 8, 2) := by decide +kernel
theorem dX4_knows_7 : decode cX4_knows 7 = .ok (.imul, 1) := by decide +kernel
theorem dX4_knows_8 : decode cX4_knows 8 = .ok (.iload_n 2, 1) := by decide +kernel
theorem dX4_knows_9 : decode cX4_knows 9 = .ok (.iadd, 1) := by decide +kernel
theorem dX4_knows_10 : decode cX4_knows 10 = .ok (.iaload, 1) := by decide +kernel
theorem dX4_knows_11 : decode cX4_knows 11 = .ok (.ireturn, 1) := by decide +kernel
theorem dX4_learn_0 : decode cX4_learn 0 = .ok (.aload_n 0, 1) := by decide +kernel
theorem dX4_learn_1 : decode cX4_learn 1 = .ok (.getfield 37, 3) := by decide +kernel
theorem dX4_learn_4 : decode cX4_learn 4 = .ok (.iload_n 1, 1) := by decide +kernel
theorem dX4_learn_5 : decode cX4_learn 5 = .ok (.bipush 8, 2) := by decide +kernel
theorem dX4_learn_7 : decode cX4_learn 7 = .ok (.imul, 1) := by decide +kernel
theorem dX4_learn_8 : decode cX4_learn 8 = .ok (.iload_n 2, 1) := by decide +kernel
theorem dX4_learn_9 : decode cX4_learn 9 = .ok (.iadd, 1) := by decide +kernel
theorem dX4_learn_10 : decode cX4_learn 10 = .ok (.iload_n 3, 1) := by decide +kernel
theorem dX4_learn_11 : decode cX4_learn 11 = .ok (.iastore, 1) := by decide +kernel
theorem dX4_learn_12 : decode cX4_learn 12 = .ok (.return_, 1) := by decide +kernel
theorem dX4_mostKnown_0 : decode cX4_mostKnown 0 = .ok (.iconst 0, 1) := by decide +kernel
theorem dX4_mostKnown_1 : decode cX4_mostKnown 1 = .ok (.istore_n 3, 1) := by decide +kernel
theorem dX4_mostKnown_2 : decode cX4_mostKnown 2 = .ok (.iconst 0, 1) := by decide +kernel
theorem dX4_mostKnown_3 : decode cX4_mostKnown 3 = .ok (.istore 4, 2) := by decide +kernel
theorem dX4_mostKnown_5 : decode cX4_mostKnown 5 = .ok (.iload 4, 2) := by decide +kernel
theorem dX4_mostKnown_7 : decode cX4_mostKnown 7 = .ok (.aload_n 0, 1) := by decide +kernel
theorem dX4_mostKnown_8 : decode cX4_mostKnown 8 = .ok (.getfield 43, 3) := by decide +kernel
theorem dX4_mostKnown_11 : decode cX4_mostKnown 11 = .ok (.if_icmp .ge 30, 3) := by decide +kernel
theorem dX4_mostKnown_14 : decode cX4_mostKnown 14 = .ok (.iload_n 2, 1) := by decide +kernel
theorem dX4_mostKnown_15 : decode cX4_mostKnown 15 = .ok (.iload 4, 2) := by decide +kernel
theorem dX4_mostKnown_17 : decode cX4_mostKnown 17 = .ok (.invokestatic 62, 3) := by decide +kernel
theorem dX4_mostKnown_20 : decode cX4_mostKnown 20 = .ok (.ifCond .eq 15, 3) := by decide +kernel
theorem dX4_mostKnown_23 : decode cX4_mostKnown 23 = .ok (.iload_n 3, 1) := by decide +kernel
theorem dX4_mostKnown_24 : decode cX4_mostKnown 24 = .ok (.aload_n 0, 1) := by decide +kernel
theorem dX4_mostKnown_25 : decode cX4_mostKnown 25 = .ok (.iload 4, 2) := by decide +kernel
theorem dX4_mostKnown_27 : decode cX4_mostKnown 27 = .ok (.iload_n 1, 1) := by decide +kernel
theorem dX4_mostKnown_28 : decode cX4_mostKnown 28 = .ok (.invokevirtual 66, 3) := by decide +kernel
theorem dX4_mostKnown_31 : decode cX4_mostKnown 31 = .ok (.invokestatic 70, 3) := by decide +kernel
theorem dX4_mostKnown_34 : decode cX4_mostKnown 34 = .ok (.istore_n 3, 1) := by decide +kernel
theorem dX4_mostKnown_35 : decode cX4_mostKnown 35 = .ok (.iinc 4 1, 3) := by decide +kernel
theorem dX4_mostKnown_38 : decode cX4_mostKnown 38 = .ok (.goto (-33), 3) := by decide +kernel
theorem dX4_mostKnown_41 : decode cX4_mostKnown 41 = .ok (.iload_n 3, 1) := by decide +kernel
theorem dX4_mostKnown_42 : decode cX4_mostKnown 42 = .ok (.ireturn, 1) := by decide +kernel
theorem dX4_setThere_0 : decode cX4_setThere 0 = .ok (.aload_n 0, 1) := by decide +kernel
theorem dX4_setThere_1 : decode cX4_setThere 1 = .ok (.getfield 43, 3) := by decide +kernel
theorem dX4_setThere_4 : decode cX4_setThere 4 = .ok (.invokestatic 58, 3) := by decide +kernel
theorem dX4_setThere_7 : decode cX4_setThere 7 = .ok (.aload_n 0, 1) := by decide +kernel
theorem dX4_setThere_8 : decode cX4_setThere 8 = .ok (.getfield 49, 3) := by decide +kernel
theorem dX4_setThere_11 : decode cX4_setThere 11 = .ok (.iconst (-1), 1) := by decide +kernel
theorem dX4_setThere_12 : decode cX4_setThere 12 = .ok (.ixor, 1) := by decide +kernel
theorem dX4_setThere_13 : decode cX4_setThere 13 = .ok (.iand, 1) := by decide +kernel
theorem dX4_setThere_14 : decode cX4_setThere 14 = .ok (.ireturn, 1) := by decide +kernel
theorem dX4_tellTo_0 : decode cX4_tellTo 0 = .ok (.aload_n 0, 1) := by decide +kernel
theorem dX4_tellTo_1 : decode cX4_tellTo 1 = .ok (.iload_n 2, 1) := by decide +kernel
theorem dX4_tellTo_2 : decode cX4_tellTo 2 = .ok (.iload_n 3, 1) := by decide +kernel
theorem dX4_tellTo_3 : decode cX4_tellTo 3 = .ok (.aload_n 0, 1) := by decide +kernel
theorem dX4_tellTo_4 : decode cX4_tellTo 4 = .ok (.iload_n 2, 1) := by decide +kernel
theorem dX4_tellTo_5 : decode cX4_tellTo 5 = .ok (.iload_n 3, 1) := by decide +kernel
theorem dX4_tellTo_6 : decode cX4_tellTo 6 = .ok (.invokevirtual 66, 3) := by decide +kernel
theorem dX4_tellTo_9 : decode cX4_tellTo 9 = .ok (.aload_n 0, 1) := by decide +kernel
theorem dX4_tellTo_10 : decode cX4_tellTo 10 = .ok (.iload_n 1, 1) := by decide +kernel
theorem dX4_tellTo_11 : decode cX4_tellTo 11 = .ok (.iload_n 2, 1) := by decide +kernel
theorem dX4_tellTo_12 : decode cX4_tellTo 12 = .ok (.iload_n 3, 1) := by decide +kernel
theorem dX4_tellTo_13 : decode cX4_tellTo 13 = .ok (.invokevirtual 101, 3) := by decide +kernel
theorem dX4_tellTo_16 : decode cX4_tellTo 16 = .ok (.iadd, 1) := by decide +kernel
theorem dX4_tellTo_17 : decode cX4_tellTo 17 = .ok (.invokevirtual 94, 3) := by decide +kernel
theorem dX4_tellTo_20 : decode cX4_tellTo 20 = .ok (.return_, 1) := by decide +kernel
theorem dX4_worthAmong_0 : decode cX4_worthAmong 0 = .ok (.iconst 0, 1) := by decide +kernel
theorem dX4_worthAmong_1 : decode cX4_worthAmong 1 = .ok (.istore_n 2, 1) := by decide +kernel
theorem dX4_worthAmong_2 : decode cX4_worthAmong 2 = .ok (.iconst 0, 1) := by decide +kernel
theorem dX4_worthAmong_3 : decode cX4_worthAmong 3 = .ok (.istore_n 3, 1) := by decide +kernel
theorem dX4_worthAmong_4 : decode cX4_worthAmong 4 = .ok (.iload_n 3, 1) := by decide +kernel
theorem dX4_worthAmong_5 : decode cX4_worthAmong 5 = .ok (.aload_n 0, 1) := by decide +kernel
theorem dX4_worthAmong_6 : decode cX4_worthAmong 6 = .ok (.getfield 40, 3) := by decide +kernel
theorem dX4_worthAmong_9 : decode cX4_worthAmong 9 = .ok (.if_icmp .ge 25, 3) := by decide +kernel
theorem dX4_worthAmong_12 : decode cX4_worthAmong 12 = .ok (.iload_n 2, 1) := by decide +kernel
theorem dX4_worthAmong_13 : decode cX4_worthAmong 13 = .ok (.aload_n 0, 1) := by decide +kernel
theorem dX4_worthAmong_14 : decode cX4_worthAmong 14 = .ok (.getfield 15, 3) := by decide +kernel
theorem dX4_worthAmong_17 : decode cX4_worthAmong 17 = .ok (.iload_n 3, 1) := by decide +kernel
theorem dX4_worthAmong_18 : decode cX4_worthAmong 18 = .ok (.iaload, 1) := by decide +kernel
theorem dX4_worthAmong_19 : decode cX4_worthAmong 19 = .ok (.aload_n 0, 1) := by decide +kernel
theorem dX4_worthAmong_20 : decode cX4_worthAmong 20 = .ok (.iload_n 3, 1) := by decide +kernel
theorem dX4_worthAmong_21 : decode cX4_worthAmong 21 = .ok (.iload_n 1, 1) := by decide +kernel
theorem dX4_worthAmong_22 : decode cX4_worthAmong 22 = .ok (.invokevirtual 75, 3) := by decide +kernel
theorem dX4_worthAmong_25 : decode cX4_worthAmong 25 = .ok (.imul, 1) := by decide +kernel
theorem dX4_worthAmong_26 : decode cX4_worthAmong 26 = .ok (.iadd, 1) := by decide +kernel
theorem dX4_worthAmong_27 : decode cX4_worthAmong 27 = .ok (.istore_n 2, 1) := by decide +kernel
theorem dX4_worthAmong_28 : decode cX4_worthAmong 28 = .ok (.iinc 3 1, 3) := by decide +kernel
theorem dX4_worthAmong_31 : decode cX4_worthAmong 31 = .ok (.goto (-27), 3) := by decide +kernel
theorem dX4_worthAmong_34 : decode cX4_worthAmong 34 = .ok (.iload_n 2, 1) := by decide +kernel
theorem dX4_worthAmong_35 : decode cX4_worthAmong 35 = .ok (.ireturn, 1) := by decide +kernel
theorem dX4_worthNow_0 : decode cX4_worthNow 0 = .ok (.aload_n 0, 1) := by decide +kernel
theorem dX4_worthNow_1 : decode cX4_worthNow 1 = .ok (.aload_n 0, 1) := by decide +kernel
theorem dX4_worthNow_2 : decode cX4_worthNow 2 = .ok (.invokevirtual 78, 3) := by decide +kernel
theorem dX4_worthNow_5 : decode cX4_worthNow 5 = .ok (.invokevirtual 82, 3) := by decide +kernel
theorem dX4_worthNow_8 : decode cX4_worthNow 8 = .ok (.ireturn, 1) := by decide +kernel
theorem dX4_wouldKnow_0 : decode cX4_wouldKnow 0 = .ok (.aload_n 0, 1) := by decide +kernel
theorem dX4_wouldKnow_1 : decode cX4_wouldKnow 1 = .ok (.getfield 22, 3) := by decide +kernel
theorem dX4_wouldKnow_4 : decode cX4_wouldKnow 4 = .ok (.iload_n 2, 1) := by decide +kernel
theorem dX4_wouldKnow_5 : decode cX4_wouldKnow 5 = .ok (.iaload, 1) := by decide +kernel
theorem dX4_wouldKnow_6 : decode cX4_wouldKnow 6 = .ok (.aload_n 0, 1) := by decide +kernel
theorem dX4_wouldKnow_7 : decode cX4_wouldKnow 7 = .ok (.getfield 28, 3) := by decide +kernel
theorem dX4_wouldKnow_10 : decode cX4_wouldKnow 10 = .ok (.iload_n 1, 1) := by decide +kernel
theorem dX4_wouldKnow_11 : decode cX4_wouldKnow 11 = .ok (.iaload, 1) := by decide +kernel
theorem dX4_wouldKnow_12 : decode cX4_wouldKnow 12 = .ok (.imul, 1) := by decide +kernel
theorem dX4_wouldKnow_13 : decode cX4_wouldKnow 13 = .ok (.bipush 10, 2) := by decide +kernel
theorem dX4_wouldKnow_15 : decode cX4_wouldKnow 15 = .ok (.idiv, 1) := by decide +kernel
theorem dX4_wouldKnow_16 : decode cX4_wouldKnow 16 = .ok (.aload_n 0, 1) := by decide +kernel
theorem dX4_wouldKnow_17 : decode cX4_wouldKnow 17 = .ok (.iload_n 1, 1) := by decide +kernel
theorem dX4_wouldKnow_18 : decode cX4_wouldKnow 18 = .ok (.iload_n 2, 1) := by decide +kernel
theorem dX4_wouldKnow_19 : decode cX4_wouldKnow 19 = .ok (.invokevirtual 85, 3) := by decide +kernel
theorem dX4_wouldKnow_22 : decode cX4_wouldKnow 22 = .ok (.invokestatic 88, 3) := by decide +kernel
theorem dX4_wouldKnow_25 : decode cX4_wouldKnow 25 = .ok (.istore_n 3, 1) := by decide +kernel
theorem dX4_wouldKnow_26 : decode cX4_wouldKnow 26 = .ok (.iload_n 3, 1) := by decide +kernel
theorem dX4_wouldKnow_27 : decode cX4_wouldKnow 27 = .ok (.aload_n 0, 1) := by decide +kernel
theorem dX4_wouldKnow_28 : decode cX4_wouldKnow 28 = .ok (.iload_n 1, 1) := by decide +kernel
theorem dX4_wouldKnow_29 : decode cX4_wouldKnow 29 = .ok (.iload_n 2, 1) := by decide +kernel
theorem dX4_wouldKnow_30 : decode cX4_wouldKnow 30 = .ok (.invokevirtual 66, 3) := by decide +kernel
theorem dX4_wouldKnow_33 : decode cX4_wouldKnow 33 = .ok (.invokestatic 70, 3) := by decide +kernel
theorem dX4_wouldKnow_36 : decode cX4_wouldKnow 36 = .ok (.ireturn, 1) := by decide +kernel
theorem dX5_has_0 : decode cX5_has 0 = .ok (.iload_n 0, 1) := by decide +kernel
theorem dX5_has_1 : decode cX5_has 1 = .ok (.iload_n 1, 1) := by decide +kernel
theorem dX5_has_2 : decode cX5_has 2 = .ok (.ishr, 1) := by decide +kernel
theorem dX5_has_3 : decode cX5_has 3 = .ok (.iconst 1, 1) := by decide +kernel
theorem dX5_has_4 : decode cX5_has 4 = .ok (.iand, 1) := by decide +kernel
theorem dX5_has_5 : decode cX5_has 5 = .ok (.ifCond .eq 7, 3) := by decide +kernel
theorem dX5_has_8 : decode cX5_has 8 = .ok (.iconst 1, 1) := by decide +kernel
theorem dX5_has_9 : decode cX5_has 9 = .ok (.goto 4, 3) := by decide +kernel
theorem dX5_has_12 : decode cX5_has 12 = .ok (.iconst 0, 1) := by decide +kernel
theorem dX5_has_13 : decode cX5_has 13 = .ok (.ireturn, 1) := by decide +kernel
theorem dX5_setOfAll_0 : decode cX5_setOfAll 0 = .ok (.iconst 1, 1) := by decide +kernel
theorem dX5_setOfAll_1 : decode cX5_setOfAll 1 = .ok (.iload_n 0, 1) := by decide +kernel
theorem dX5_setOfAll_2 : decode cX5_setOfAll 2 = .ok (.ishl, 1) := by decide +kernel
theorem dX5_setOfAll_3 : decode cX5_setOfAll 3 = .ok (.iconst 1, 1) := by decide +kernel
theorem dX5_setOfAll_4 : decode cX5_setOfAll 4 = .ok (.isub, 1) := by decide +kernel
theorem dX5_setOfAll_5 : decode cX5_setOfAll 5 = .ok (.ireturn, 1) := by decide +kernel
theorem dX5_within_0 : decode cX5_within 0 = .ok (.lload_n 0, 1) := by decide +kernel
theorem dX5_within_1 : decode cX5_within 1 = .ok (.lload_n 2, 1) := by decide +kernel
theorem dX5_within_2 : decode cX5_within 2 = .ok (.lcmp, 1) := by decide +kernel
theorem dX5_within_3 : decode cX5_within 3 = .ok (.ifCond .lt 14, 3) := by decide +kernel
theorem dX5_within_6 : decode cX5_within 6 = .ok (.lload_n 0, 1) := by decide +kernel
theorem dX5_within_7 : decode cX5_within 7 = .ok (.lload 4, 2) := by decide +kernel
theorem dX5_within_9 : decode cX5_within 9 = .ok (.lcmp, 1) := by decide +kernel
theorem dX5_within_10 : decode cX5_within 10 = .ok (.ifCond .gt 7, 3) := by decide +kernel
theorem dX5_within_13 : decode cX5_within 13 = .ok (.iconst 1, 1) := by decide +kernel
theorem dX5_within_14 : decode cX5_within 14 = .ok (.goto 4, 3) := by decide +kernel
theorem dX5_within_17 : decode cX5_within 17 = .ok (.iconst 0, 1) := by decide +kernel
theorem dX5_within_18 : decode cX5_within 18 = .ok (.ireturn, 1) := by decide +kernel
set_option maxHeartbeats 4000000 in
set_option maxRecDepth 100000 in
theorem c_X5_within (l : Launch) (G : va_G) (cy : Nat → ClassId) (J1 : Int64) (J2 : Int64) (J3 : Int64)   : MR l yX5_within cX5_within 6 (some .boolean) 1 G cy [] [.long J1, .long J2, .long J3] (vp_Si (fun r => (r = 1 ∧ Iv J1 J2 J3) ∨ (r = 0 ∧ ¬ Iv J1 J2 J3))) := by
  refine enR RX5 (by decide) rfl (Nat.le_of_ble_eq_true rfl) (fun p e s m below meth c ls hx hb hml hown hts hr hlocks hP hN hl => ?_)
  have hK := hN.1
  replace hl : lv_has ls 6 [(0, .long J1), (2, .long J2), (4, .long J3)] := hl
  refine lv_lload_n hx hb dX5_within_0 rfl (lv_at hl 0 rfl) ?_
  refine lv_lload_n hx hb dX5_within_1 rfl (lv_at hl 1 rfl) ?_
  refine W.lcmp hx hb dX5_within_2 ?_
  refine lv_if_lt (tgt := 17) hx hb dX5_within_3 (by decide) (fun c_1 => ?_) (fun c_1 => ?_)
  · refine lv_iconst (v := 0) hx hb dX5_within_17 (by decide) ?_
    exact endR hx hb hr hlocks rfl (Or.inr (⟨rfl, in_no1 c_1⟩)) dX5_within_18
  · refine lv_lload_n hx hb dX5_within_6 rfl (lv_at hl 0 rfl) ?_
    refine lv_lload hx hb dX5_within_7 (lv_at hl 2 rfl) ?_
    refine W.lcmp hx hb dX5_within_9 ?_
    refine lv_if_gt (tgt := 17) hx hb dX5_within_10 (by decide) (fun c_2 => ?_) (fun c_2 => ?_)
    · refine lv_iconst (v := 0) hx hb dX5_within_17 (by decide) ?_
      exact endR hx hb hr hlocks rfl (Or.inr (⟨rfl, in_no2 c_2⟩)) dX5_within_18
    · refine lv_iconst (v := 1) hx hb dX5_within_13 (by decide) ?_
      refine lv_goto (tgt := 18) hx hb dX5_within_14 (by decide) ?_
      exact endR hx hb hr hlocks rfl (Or.inl (⟨rfl, in_yes c_1 c_2⟩)) dX5_within_18
set_option maxHeartbeats 4000000 in
set_option maxRecDepth 100000 in
theorem c_X5_has (l : Launch) (G : va_G) (cy : Nat → ClassId) (iA : Int32) (kI : Nat)   : MR l yX5_has cX5_has 2 (some .boolean) 1 G cy [] [.int iA, .int (nI kI)] (vp_Si (fun r => (r = 1 ∧ bitb iA kI = true) ∨ (r = 0 ∧ bitb iA kI = false))) := by
  refine enR RX5 (by decide) rfl (Nat.le_of_ble_eq_true rfl) (fun p e s m below meth c ls hx hb hml hown hts hr hlocks hP hN hl => ?_)
  have hK := hN.1
  replace hl : lv_has ls 2 [(0, .int iA), (1, .int (nI kI))] := hl
  refine lv_iload_n hx hb dX5_has_0 rfl (lv_at hl 0 rfl) ?_
  refine lv_iload_n hx hb dX5_has_1 rfl (lv_at hl 1 rfl) ?_
  refine lv_ishr hx hb dX5_has_2 ?_
  refine lv_iconst (v := 1) hx hb dX5_has_3 (by decide) ?_
  refine lv_iand hx hb dX5_has_4 ?_
  refine lv_if_eq (tgt := 12) hx hb dX5_has_5 (by decide) (fun c_1 => ?_) (fun c_1 => ?_)
  · refine lv_iconst (v := 0) hx hb dX5_has_12 (by decide) ?_
    exact endR hx hb hr hlocks rfl (Or.inr (⟨rfl, by unfold bitb; exact decide_eq_false (fun q => q c_1)⟩)) dX5_has_13
  · refine lv_iconst (v := 1) hx hb dX5_has_8 (by decide) ?_
    refine lv_goto (tgt := 13) hx hb dX5_has_9 (by decide) ?_
    exact endR hx hb hr hlocks rfl (Or.inl (⟨rfl, by unfold bitb; exact decide_eq_true c_1⟩)) dX5_has_13
set_option maxHeartbeats 4000000 in
set_option maxRecDepth 100000 in
theorem c_X5_setOfAll (l : Launch) (G : va_G) (cy : Nat → ClassId) (iA : Int32)   : MR l yX5_setOfAll cX5_setOfAll 1 (some .int) 1 G cy [] [.int iA] (vp_Si (fun r => (r = ((1 <<< (iA &&& 31)) - 1)))) := by
  refine enR RX5 (by decide) rfl (Nat.le_of_ble_eq_true rfl) (fun p e s m below meth c ls hx hb hml hown hts hr hlocks hP hN hl => ?_)
  have hK := hN.1
  replace hl : lv_has ls 1 [(0, .int iA)] := hl
  refine lv_iconst (v := 1) hx hb dX5_setOfAll_0 (by decide) ?_
  refine lv_iload_n hx hb dX5_setOfAll_1 rfl (lv_at hl 0 rfl) ?_
  refine lv_ishl hx hb dX5_setOfAll_2 ?_
  refine lv_iconst (v := 1) hx hb dX5_setOfAll_3 (by decide) ?_
  refine lv_isub hx hb dX5_setOfAll_4 ?_
  exact endR hx hb hr hlocks rfl rfl dX5_setOfAll_5
set_option maxHeartbeats 4000000 in
set_option maxRecDepth 100000 in
theorem c_X4_afterTelling (l : Launch) (G : va_G) (cy : Nat → ClassId) (iA : Int32) (iB : Int32)   : MR l yX4_afterTelling cX4_afterTelling 2 (some .int) 1 G cy [] [.int iA, .int iB] (vp_Si (fun r => (r = (iA * iB / 10)))) := by
  refine enR RX4 (by decide) rfl (Nat.le_of_ble_eq_true rfl) (fun p e s m below meth c ls hx hb hml hown hts hr hlocks hP hN hl => ?_)
  have hK := hN.1
  replace hl : lv_has ls 2 [(0, .int iA), (1, .int iB)] := hl
  refine lv_iload_n hx hb dX4_afterTelling_0 rfl (lv_at hl 0 rfl) ?_
  refine lv_iload_n hx hb dX4_afterTelling_1 rfl (lv_at hl 1 rfl) ?_
  refine lv_imul hx hb dX4_afterTelling_2 ?_
  refine lv_bipush (v := 10) hx hb dX4_afterTelling_3 (by decide) ?_
  refine lv_idiv hx hb dX4_afterTelling_5 (by decide) ?_
  exact endR hx hb hr hlocks rfl (by simp []) dX4_afterTelling_6
set_option maxHeartbeats 4000000 in
set_option maxRecDepth 100000 in
theorem c_X4_grasped (l : Launch) (G : va_G) (cy : Nat → ClassId) (iA : Int32) (iB : Int32)   : MR l yX4_grasped cX4_grasped 2 (some .int) 1 G cy [] [.int iA, .int iB] (vp_Si (fun r => (r = (zgr iA iB)))) := by
  refine enR RX4 (by decide) rfl (Nat.le_of_ble_eq_true rfl) (fun p e s m below meth c ls hx hb hml hown hts hr hlocks hP hN hl => ?_)
  have hK := hN.1
  replace hl : lv_has ls 2 [(0, .int iA), (1, .int iB)] := hl
  refine lv_iload_n hx hb dX4_grasped_0 rfl (lv_at hl 0 rfl) ?_
  refine lv_iload_n hx hb dX4_grasped_1 rfl (lv_at hl 1 rfl) ?_
  refine lv_sipush (v := 1000) hx hb dX4_grasped_2 (by decide) ?_
  refine lv_iadd hx hb dX4_grasped_5 ?_
  refine lv_imul hx hb dX4_grasped_6 ?_
  refine lv_sipush (v := 2000) hx hb dX4_grasped_7 (by decide) ?_
  refine lv_idiv hx hb dX4_grasped_10 (by decide) ?_
  exact endR hx hb hr hlocks rfl (by rfl) dX4_grasped_11
set_option maxHeartbeats 4000000 in
set_option maxRecDepth 100000 in
theorem c_X4_setThere (l : Launch) (G : va_G) (cy : Nat → ClassId) (qt : Nat) (tA : TA) (qtw : Nat) (qtn : Nat) (qtg : Nat) (qta : Nat) (qtr : Nat) (qtm : Nat) (qtt : Nat) (qts : Nat)  (hPp : T_np tA ≤ 8) : MR l yX4_setThere cX4_setThere 1 (some .int) 2 G cy [zzO qt 3 [.int (nI (T_nb tA)), .int (nI (T_np tA)), .int (wb (T_wh tA)), .int (wb (T_gn tA)), .int (T_sd tA), .ref qtw, .ref qtn, .ref qtg, .ref qta, .ref qtr, .ref qtm, .ref qtt, .ref qts]] [.ref qt] (vp_Si (fun r => (r = (zthere tA)))) := by
  refine enR RX4 (by decide) rfl (Nat.le_of_ble_eq_true rfl) (fun p e s m below meth c ls hx hb hml hown hts hr hlocks hP hN hl => ?_)
  have hK := hN.1
  replace hl : lv_has ls 1 [(0, .ref qt)] := hl
  refine lv_aload_n hx hb dX4_setThere_0 rfl (lv_at hl 0 rfl) ?_
  refine va_get (D := G) (ci := 3) (v := .int (nI (T_np tA))) (C := RX4) (T := TX4) (N := 13) hx hb hts iX_X4 hown hK hP 0 rfl rfl 1 (by decide) (hts _ m_t34) (fun _ h9 => h9) rfl dX4_setThere_1 ?_
  refine kRi (rSN (As := [.int (nI (T_np tA))]) (rest := []) ⟨hx, hb, hml, hown, hts⟩ hN (c_X5_setOfAll l G cy (nI (T_np tA))) L_X4_58 (preRS hN hP [] rfl) rfl ⟨Nat.le_of_ble_eq_true rfl, Nat.le_of_ble_eq_true rfl⟩ hl.1 (Nat.le_of_ble_eq_true rfl) dX4_setThere_4 ⟨Nat.le_of_ble_eq_true rfl, Nat.le_of_ble_eq_true rfl⟩) (fun r_1 h_2 => ?_)
  subst h_2
  refine lv_aload_n hx hb dX4_setThere_7 rfl (lv_at hl 0 rfl) ?_
  refine va_get (D := G) (ci := 3) (v := .int (wb (T_gn tA))) (C := RX4) (T := TX4) (N := 13) hx hb hts iX_X4 hown hK hP 0 rfl rfl 3 (by decide) (hts _ m_t43) (fun _ h9 => h9) rfl dX4_setThere_8 ?_
  refine lv_iconst (v := (-1)) hx hb dX4_setThere_11 (by decide) ?_
  refine lv_ixor hx hb dX4_setThere_12 ?_
  refine lv_iand hx hb dX4_setThere_13 ?_
  exact endR hx hb hr hlocks rfl (by exact wb_there _ hPp) dX4_setThere_14
set_option maxHeartbeats 4000000 in
set_option maxRecDepth 100000 in
theorem c_X4_knows (l : Launch) (G : va_G) (cy : Nat → ClassId) (qt : Nat) (tA : TA) (qtw : Nat) (qtn : Nat) (qtg : Nat) (qta : Nat) (qtr : Nat) (qtm : Nat) (qtt : Nat) (qts : Nat) (kI : Nat) (kJ : Nat)  (hI : kI < 8) (hJ : kJ < 8) : MR l yX4_knows cX4_knows 3 (some .int) 1 G cy [zzO qt 3 [.int (nI (T_nb tA)), .int (nI (T_np tA)), .int (wb (T_wh tA)), .int (wb (T_gn tA)), .int (T_sd tA), .ref qtw, .ref qtn, .ref qtg, .ref qta, .ref qtr, .ref qtm, .ref qtt, .ref qts], zzI cy qts 64 (shF (T_kn tA))] [.ref qt, .int (nI kI), .int (nI kJ)] (vp_Si (fun r => (r = (T_kn tA kI kJ)))) := by
  refine enR RX4 (by decide) rfl (Nat.le_of_ble_eq_true rfl) (fun p e s m below meth c ls hx hb hml hown hts hr hlocks hP hN hl => ?_)
  have hK := hN.1
  replace hl : lv_has ls 3 [(0, .ref qt), (1, .int (nI kI)), (2, .int (nI kJ))] := hl
  refine lv_aload_n hx hb dX4_knows_0 rfl (lv_at hl 0 rfl) ?_
  refine va_get (D := G) (ci := 3) (v := .ref qts) (C := RX4) (T := TX4) (N := 13) hx hb hts iX_X4 hown hK hP 0 rfl rfl 12 (by decide) (hts _ m_t64) (fun _ h9 => h9) rfl dX4_knows_1 ?_
  refine lv_iload_n hx hb dX4_knows_4 rfl (lv_at hl 1 rfl) ?_
  refine lv_bipush (v := 8) hx hb dX4_knows_5 (by decide) ?_
  refine lv_imul hx hb dX4_knows_7 ?_
  refine lv_iload_n hx hb dX4_knows_8 rfl (lv_at hl 2 rfl) ?_
  refine lv_iadd hx hb dX4_knows_9 ?_
  refine va_iald hx hb hK hP 1 0 rfl rfl (in64 (by omega) (by omega)) dX4_knows_10 ?_
  refine lv_seti (v := (T_kn tA) kI kJ) ((congrArg (shF (T_kn tA)) (cl64 (by omega) (by omega))).trans (shF_get _ (by omega))) ?_
  exact endR hx hb hr hlocks rfl (by simp [hI, hJ]) dX4_knows_11
set_option maxHeartbeats 4000000 in
set_option maxRecDepth 100000 in
theorem c_X4_learn (l : Launch) (G : va_G) (cy : Nat → ClassId) (sz : Nat) (qt : Nat) (tA : TA) (qtw : Nat) (qtn : Nat) (qtg : Nat) (qta : Nat) (qtr : Nat) (qtm : Nat) (qtt : Nat) (qts : Nat) (kI : Nat) (kJ : Nat) (iV : Int32)  (hI : kI < 8) (hJ : kJ < 8) : MW l yX4_learn cX4_learn 4 none 1 0 0 G cy [zzO qt 3 [.int (nI (T_nb tA)), .int (nI (T_np tA)), .int (wb (T_wh tA)), .int (wb (T_gn tA)), .int (T_sd tA), .ref qtw, .ref qtn, .ref qtg, .ref qta, .ref qtr, .ref qtm, .ref qtt, .ref qts], zzI cy qts 64 (shF (T_kn tA))] sz [.ref qt, .int (nI kI), .int (nI kJ), .int iV] (Wv G (fun u => u = [zzO qt 3 [.int (nI (T_nb (T_setkn tA (updM (T_kn tA) kI kJ iV)))), .int (nI (T_np (T_setkn tA (updM (T_kn tA) kI kJ iV)))), .int (wb (T_wh (T_setkn tA (updM (T_kn tA) kI kJ iV)))), .int (wb (T_gn (T_setkn tA (updM (T_kn tA) kI kJ iV)))), .int (T_sd (T_setkn tA (updM (T_kn tA) kI kJ iV))), .ref qtw, .ref qtn, .ref qtg, .ref qta, .ref qtr, .ref qtm, .ref qtt, .ref qts], zzI cy qts 64 (shF (T_kn (T_setkn tA (updM (T_kn tA) kI kJ iV))))])) := by
  refine enW RX4 (by decide) rfl (Nat.le_of_ble_eq_true rfl) (fun p e s m below meth c ls A hx hb hml hown hts hr hlocks hP hN hl hin hD hA hS => ?_)
  have hin : meth.name = _ := hin
  have hK := hN.1
  replace hl : lv_has ls 4 [(0, .ref qt), (1, .int (nI kI)), (2, .int (nI kJ)), (3, .int iV)] := hl
  refine lv_aload_n hx hb dX4_learn_0 rfl (lv_at hl 0 rfl) ?_
  refine va_get (D := G) (ci := 3) (v := .ref qts) (C := RX4) (T := TX4) (N := 13) hx hb hts iX_X4 hown hK hP 0 rfl rfl 12 (by decide) (hts _ m_t64) (fun _ h9 => h9) rfl dX4_learn_1 ?_
  refine lv_iload_n hx hb dX4_learn_4 rfl (lv_at hl 1 rfl) ?_
  refine lv_bipush (v := 8) hx hb dX4_learn_5 (by decide) ?_
  refine lv_imul hx hb dX4_learn_7 ?_
  refine lv_iload_n hx hb dX4_learn_8 rfl (lv_at hl 2 rfl) ?_
  refine lv_iadd hx hb dX4_learn_9 ?_
  refine lv_iload_n hx hb dX4_learn_10 rfl (lv_at hl 3 rfl) ?_
  refine va_iast hx hb hK hP hD hS 1 0 rfl rfl (in64 (by omega) (by omega)) dX4_learn_11 (fun H locs => ?_)
  clear hP hD hS
  intro hP hD hS
  rw [cl64 (p := kI) (b := kJ) (by omega) (by omega), shF_put _ (by omega)] at hP hD
  have hPD := pd_as [zzO qt 3 [.int (nI (T_nb tA)), .int (nI (T_np tA)), .int (wb (T_wh tA)), .int (wb (T_gn tA)), .int (T_sd tA), .ref qtw, .ref qtn, .ref qtg, .ref qta, .ref qtr, .ref qtm, .ref qtt, .ref qts], zzI cy qts 64 (shF (updM (T_kn tA) kI kJ iV))] hP hD rfl
  clear hP hD
  obtain ⟨hP, hD⟩ := hPD
  exact endV (u := [zzO qt 3 [.int (nI (T_nb tA)), .int (nI (T_np tA)), .int (wb (T_wh tA)), .int (wb (T_gn tA)), .int (T_sd tA), .ref qtw, .ref qtn, .ref qtg, .ref qta, .ref qtr, .ref qtm, .ref qtt, .ref qts], zzI cy qts 64 (shF (updM (T_kn tA) kI kJ iV))]) hx hb hr hlocks (hP.sub [0, 1] rfl) (hD.sub [0, 1] (by decide +kernel) rfl) hS rfl dX4_learn_12
set_option maxHeartbeats 4000000 in
set_option maxRecDepth 100000 in
theorem c_X4_mostKnown (l : Launch) (G : va_G) (cy : Nat → ClassId) (qt : Nat) (tA : TA) (qtw : Nat) (qtn : Nat) (qtg : Nat) (qta : Nat) (qtr : Nat) (qtm : Nat) (qtt : Nat) (qts : Nat) (kB : Nat) (iS : Int32)  (hPp : T_np tA ≤ 8) (hJ : kB < 8) : MR l yX4_mostKnown cX4_mostKnown 5 (some .int) 2 G cy [zzO qt 3 [.int (nI (T_nb tA)), .int (nI (T_np tA)), .int (wb (T_wh tA)), .int (wb (T_gn tA)), .int (T_sd tA), .ref qtw, .ref qtn, .ref qtg, .ref qta, .ref qtr, .ref qtm, .ref qtt, .ref qts], zzI cy qts 64 (shF (T_kn tA))] [.ref qt, .int (nI kB), .int iS] (vp_Si (fun r => (r = (mkn tA kB iS)))) := by
  refine enR RX4 (by decide) rfl (Nat.le_of_ble_eq_true rfl) (fun p e s m below meth c ls hx hb hml hown hts hr hlocks hP hN hl => ?_)
  have hK := hN.1
  replace hl : lv_has ls 5 [(0, .ref qt), (1, .int (nI kB)), (2, .int iS)] := hl
  refine lv_iconst (v := 0) hx hb dX4_mostKnown_0 (by decide) ?_
  refine lv_istore_n (lv' := [(3, .int 0), (0, .ref qt), (1, .int (nI kB)), (2, .int iS)]) hx hb dX4_mostKnown_1 rfl hl (by decide) rfl (fun ls => ?_)
  clear hl
  intro hl
  refine lv_iconst (v := 0) hx hb dX4_mostKnown_2 (by decide) ?_
  refine lv_istore (lv' := [(4, .int 0), (3, .int 0), (0, .ref qt), (1, .int (nI kB)), (2, .int iS)]) hx hb dX4_mostKnown_3 hl (by decide) rfl (fun ls => ?_)
  clear hl
  intro hl
  have lp_1 : ∀ (n_2 : Nat) (j_4 : Nat) (xM_5 : Int32), 8 - j_4 < n_2 → j_4 ≤ T_np tA → xM_5 = gA (bitb iS) (fun p => T_kn tA p kB) j_4 → ∀ (ls : Array Slot), lv_has ls 5 [(4, .int (nI j_4)), (3, .int xM_5), (0, .ref qt), (1, .int (nI kB)), (2, .int iS)] → W p l e (Rm 2 0 0) s m (List.toArray (α := Value) [.ref qt, .int (nI kB), .int iS]) below meth c s.heap [] 0 0 (MQ below (vp_Si (fun r => (r = (mkn tA kB iS)))) (List.toArray (α := Value) [.ref qt, .int (nI kB), .int iS]) s 0 0 (fun _ => False)) (F0 m 5 ls []) := by
    intro n_2
    induction n_2 with
    | zero => intro j_4 xM_5 hm9; exact absurd hm9 (Nat.not_lt_zero _)
    | succ n_2 ih_3 =>
      intro j_4 xM_5 hm_8 hj_6 hxM_7 ls hl
      refine lv_iload hx hb dX4_mostKnown_5 (lv_at hl 0 rfl) ?_
      refine lv_aload_n hx hb dX4_mostKnown_7 rfl (lv_at hl 2 rfl) ?_
      refine va_get (D := G) (ci := 3) (v := .int (nI (T_np tA))) (C := RX4) (T := TX4) (N := 13) hx hb hts iX_X4 hown hK hP 0 rfl rfl 1 (by decide) (hts _ m_t34) (fun _ h9 => h9) rfl dX4_mostKnown_8 ?_
      refine lv_icmp_ge (tgt := 41) hx hb dX4_mostKnown_11 (by decide) (fun c_9 => ?_) (fun c_9 => ?_)
      · have hlt_10 : j_4 = T_np tA := Nat.le_antisymm (by omega) (lp_ge rfl rfl (by omega) (by omega) c_9)
        refine lv_iload_n hx hb dX4_mostKnown_41 rfl (lv_at hl 1 rfl) ?_
        exact endR hx hb hr hlocks rfl (by rw [hxM_7, hlt_10]; rfl) dX4_mostKnown_42
      · have hlt_11 : j_4 < T_np tA := lp_lt rfl rfl (by omega) (by omega) c_9
        refine lv_iload_n hx hb dX4_mostKnown_14 rfl (lv_at hl 4 rfl) ?_
        refine lv_iload hx hb dX4_mostKnown_15 (lv_at hl 0 rfl) ?_
        refine kRi (rSN (As := [.int iS, .int (nI j_4)]) (rest := []) ⟨hx, hb, hml, hown, hts⟩ hN (c_X5_has l G cy iS j_4) L_X4_62 (preRS hN hP [] rfl) rfl ⟨Nat.le_of_ble_eq_true rfl, Nat.le_of_ble_eq_true rfl⟩ hl.1 (Nat.le_of_ble_eq_true rfl) dX4_mostKnown_17 ⟨Nat.le_of_ble_eq_true rfl, Nat.le_of_ble_eq_true rfl⟩) (fun r_12 h_13 => ?_)
        rcases h_13 with ⟨rfl, h_14⟩ | ⟨rfl, h_14⟩
        · refine lv_if_eq (tgt := 35) hx hb dX4_mostKnown_20 (by decide) (fun h9 => absurd h9 (by decide)) (fun _ => ?_)
          refine lv_iload_n hx hb dX4_mostKnown_23 rfl (lv_at hl 1 rfl) ?_
          refine lv_aload_n hx hb dX4_mostKnown_24 rfl (lv_at hl 2 rfl) ?_
          refine lv_iload hx hb dX4_mostKnown_25 (lv_at hl 0 rfl) ?_
          refine lv_iload_n hx hb dX4_mostKnown_27 rfl (lv_at hl 3 rfl) ?_
          refine kRi (rV (As := [.int (nI j_4), .int (nI kB)]) (rest := [.int xM_5]) (b := qt) ⟨hx, hb, hml, hown, hts⟩ (c_X4_knows l G cy qt tA qtw qtn qtg qta qtr qtm qtt qts j_4 kB (by omega) hJ) L_X4_66 (preRV (q := (RX4, TX4, 13)) hN hP [0, 1] rfl 0 3 rfl rfl) rfl ⟨Nat.le_of_ble_eq_true rfl, Nat.le_of_ble_eq_true rfl⟩ hl.1 (Nat.le_of_ble_eq_true rfl) dX4_mostKnown_28 ⟨Nat.le_of_ble_eq_true rfl, Nat.le_of_ble_eq_true rfl⟩) (fun r_16 h_17 => ?_)
          subst h_17
          refine va_mmax hx hb (hml.trans hl.1.symm) hown (hts _ m_max1) (hts _ m_max2) (hts _ m_t9) (hts _ m_max3) (Nat.le_of_ble_eq_true rfl) (Nat.le_of_ble_eq_true rfl) (Nat.le_of_ble_eq_true rfl) (Nat.le_of_ble_eq_true rfl) dX4_mostKnown_31 ?_
          refine lv_seti (v := mx xM_5 (T_kn tA j_4 kB)) rfl ?_
          refine lv_istore_n (lv' := [(3, .int (mx xM_5 (T_kn tA j_4 kB))), (4, .int (nI j_4)), (0, .ref qt), (1, .int (nI kB)), (2, .int iS)]) hx hb dX4_mostKnown_34 rfl hl (by decide) rfl (fun ls => ?_)
          clear hl
          intro hl
          refine lv_iinc (v := nI (j_4 + 1)) (lv' := [(4, .int (nI (j_4 + 1))), (3, .int (mx xM_5 (T_kn tA j_4 kB))), (0, .ref qt), (1, .int (nI kB)), (2, .int iS)]) hx hb dX4_mostKnown_35 hl (k := 1) rfl (nI_1 _) (by decide) rfl (fun ls => ?_)
          clear hl
          intro hl
          refine lv_goto (tgt := 5) hx hb dX4_mostKnown_38 (by decide) ?_
          exact ih_3 (j_4 + 1) (mx xM_5 (T_kn tA j_4 kB)) (by omega) (by omega) (by rw [hxM_7]; exact (if_pos h_14).symm) _ (lv_sub hl [0, 1, 2, 3, 4] rfl)
        · refine lv_if_eq (tgt := 35) hx hb dX4_mostKnown_20 (by decide) (fun _ => ?_) (fun h9 => absurd (by decide) h9)
          refine lv_iinc (v := nI (j_4 + 1)) (lv' := [(4, .int (nI (j_4 + 1))), (3, .int xM_5), (0, .ref qt), (1, .int (nI kB)), (2, .int iS)]) hx hb dX4_mostKnown_35 hl (k := 0) rfl (nI_1 _) (by decide) rfl (fun ls => ?_)
          clear hl
          intro hl
          refine lv_goto (tgt := 5) hx hb dX4_mostKnown_38 (by decide) ?_
          exact ih_3 (j_4 + 1) xM_5 (by omega) (by omega) (by rw [hxM_7]; exact (if_neg (by rw [h_14]; decide)).symm) _ (lv_sub hl [0, 1, 2, 3, 4] rfl)
  exact lp_1 ((8 - 0) + 1) 0 0 (Nat.lt_succ_self _) (Nat.zero_le _) rfl ls (lv_sub hl [0, 1, 2, 3, 4] rfl)
set_option maxHeartbeats 4000000 in
set_option maxRecDepth 100000 in
theorem c_X4_worthAmong (l : Launch) (G : va_G) (cy : Nat → ClassId) (qt : Nat) (tA : TA) (qtw : Nat) (qtn : Nat) (qtg : Nat) (qta : Nat) (qtr : Nat) (qtm : Nat) (qtt : Nat) (qts : Nat) (iS : Int32)  (hB : T_nb tA ≤ 8) (hPp : T_np tA ≤ 8) : MR l yX4_worthAmong cX4_worthAmong 4 (some .int) 3 G cy [zzO qt 3 [.int (nI (T_nb tA)), .int (nI (T_np tA)), .int (wb (T_wh tA)), .int (wb (T_gn tA)), .int (T_sd tA), .ref qtw, .ref qtn, .ref qtg, .ref qta, .ref qtr, .ref qtm, .ref qtt, .ref qts], zzI cy qtw 8 (T_wo tA), zzI cy qts 64 (shF (T_kn tA))] [.ref qt, .int iS] (vp_Si (fun r => (r = (waF tA iS)))) := by
  refine enR RX4 (by decide) rfl (Nat.le_of_ble_eq_true rfl) (fun p e s m below meth c ls hx hb hml hown hts hr hlocks hP hN hl => ?_)
  have hK := hN.1
  replace hl : lv_has ls 4 [(0, .ref qt), (1, .int iS)] := hl
  refine lv_iconst (v := 0) hx hb dX4_worthAmong_0 (by decide) ?_
  refine lv_istore_n (lv' := [(2, .int 0), (0, .ref qt), (1, .int iS)]) hx hb dX4_worthAmong_1 rfl hl (by decide) rfl (fun ls => ?_)
  clear hl
  intro hl
  refine lv_iconst (v := 0) hx hb dX4_worthAmong_2 (by decide) ?_
  refine lv_istore_n (lv' := [(3, .int 0), (2, .int 0), (0, .ref qt), (1, .int iS)]) hx hb dX4_worthAmong_3 rfl hl (by decide) rfl (fun ls => ?_)
  clear hl
  intro hl
  have lp_1 : ∀ (n_2 : Nat) (j_4 : Nat) (xM_5 : Int32), 8 - j_4 < n_2 → j_4 ≤ T_nb tA → xM_5 = wsum (fun b => T_wo tA b * mkn tA b iS) j_4 → ∀ (ls : Array Slot), lv_has ls 4 [(3, .int (nI j_4)), (2, .int xM_5), (0, .ref qt), (1, .int iS)] → W p l e (Rm 3 0 0) s m (List.toArray (α := Value) [.ref qt, .int iS]) below meth c s.heap [] 0 0 (MQ below (vp_Si (fun r => (r = (waF tA iS)))) (List.toArray (α := Value) [.ref qt, .int iS]) s 0 0 (fun _ => False)) (F0 m 4 ls []) := by
    intro n_2
    induction n_2 with
    | zero => intro j_4 xM_5 hm9; exact absurd hm9 (Nat.not_lt_zero _)
    | succ n_2 ih_3 =>
      intro j_4 xM_5 hm_8 hj_6 hxM_7 ls hl
      refine lv_iload_n hx hb dX4_worthAmong_4 rfl (lv_at hl 0 rfl) ?_
      refine lv_aload_n hx hb dX4_worthAmong_5 rfl (lv_at hl 2 rfl) ?_
      refine va_get (D := G) (ci := 3) (v := .int (nI (T_nb tA))) (C := RX4) (T := TX4) (N := 13) hx hb hts iX_X4 hown hK hP 0 rfl rfl 0 (by decide) (hts _ m_t29) (fun _ h9 => h9) rfl dX4_worthAmong_6 ?_
      refine lv_icmp_ge (tgt := 34) hx hb dX4_worthAmong_9 (by decide) (fun c_9 => ?_) (fun c_9 => ?_)
      · have hlt_10 : j_4 = T_nb tA := Nat.le_antisymm (by omega) (lp_ge rfl rfl (by omega) (by omega) c_9)
        refine lv_iload_n hx hb dX4_worthAmong_34 rfl (lv_at hl 1 rfl) ?_
        exact endR hx hb hr hlocks rfl (by rw [hxM_7, hlt_10]; rfl) dX4_worthAmong_35
      · have hlt_11 : j_4 < T_nb tA := lp_lt rfl rfl (by omega) (by omega) c_9
        refine lv_iload_n hx hb dX4_worthAmong_12 rfl (lv_at hl 1 rfl) ?_
        refine lv_aload_n hx hb dX4_worthAmong_13 rfl (lv_at hl 2 rfl) ?_
        refine va_get (D := G) (ci := 3) (v := .ref qtw) (C := RX4) (T := TX4) (N := 13) hx hb hts iX_X4 hown hK hP 0 rfl rfl 5 (by decide) (hts _ m_t48) (fun _ h9 => h9) rfl dX4_worthAmong_14 ?_
        refine lv_iload_n hx hb dX4_worthAmong_17 rfl (lv_at hl 0 rfl) ?_
        refine va_iald hx hb hK hP 1 0 rfl rfl (in8 (by omega)) dX4_worthAmong_18 ?_
        refine lv_seti (v := (T_wo tA) j_4) (congrArg (T_wo tA) (cl8 (by omega))) ?_
        refine lv_aload_n hx hb dX4_worthAmong_19 rfl (lv_at hl 2 rfl) ?_
        refine lv_iload_n hx hb dX4_worthAmong_20 rfl (lv_at hl 0 rfl) ?_
        refine lv_iload_n hx hb dX4_worthAmong_21 rfl (lv_at hl 3 rfl) ?_
        refine kRi (rV (As := [.int (nI j_4), .int iS]) (rest := [.int ((T_wo tA) j_4), .int xM_5]) (b := qt) ⟨hx, hb, hml, hown, hts⟩ (c_X4_mostKnown l G cy qt tA qtw qtn qtg qta qtr qtm qtt qts j_4 iS hPp (by omega)) L_X4_75 (preRV (q := (RX4, TX4, 13)) hN hP [0, 2] rfl 0 3 rfl rfl) rfl ⟨Nat.le_of_ble_eq_true rfl, Nat.le_of_ble_eq_true rfl⟩ hl.1 (Nat.le_of_ble_eq_true rfl) dX4_worthAmong_22 ⟨Nat.le_of_ble_eq_true rfl, Nat.le_of_ble_eq_true rfl⟩) (fun r_12 h_13 => ?_)
        subst h_13
        refine lv_imul hx hb dX4_worthAmong_25 ?_
        refine lv_iadd hx hb dX4_worthAmong_26 ?_
        refine lv_istore_n (lv' := [(2, .int (xM_5 + (((T_wo tA) j_4) * (mkn tA j_4 iS)))), (3, .int (nI j_4)), (0, .ref qt), (1, .int iS)]) hx hb dX4_worthAmong_27 rfl hl (by decide) rfl (fun ls => ?_)
        clear hl
        intro hl
        refine lv_iinc (v := nI (j_4 + 1)) (lv' := [(3, .int (nI (j_4 + 1))), (2, .int (xM_5 + (((T_wo tA) j_4) * (mkn tA j_4 iS)))), (0, .ref qt), (1, .int iS)]) hx hb dX4_worthAmong_28 hl (k := 1) rfl (nI_1 _) (by decide) rfl (fun ls => ?_)
        clear hl
        intro hl
        refine lv_goto (tgt := 4) hx hb dX4_worthAmong_31 (by decide) ?_
        exact ih_3 (j_4 + 1) (xM_5 + (((T_wo tA) j_4) * (mkn tA j_4 iS))) (by omega) (by omega) (by rw [hxM_7]; rfl) _ (lv_sub hl [0, 1, 2, 3] rfl)
  exact lp_1 ((8 - 0) + 1) 0 0 (Nat.lt_succ_self _) (Nat.zero_le _) rfl ls (lv_sub hl [0, 1, 2, 3] rfl)
set_option maxHeartbeats 4000000 in
set_option maxRecDepth 100000 in
theorem c_X4_worthNow (l : Launch) (G : va_G) (cy : Nat → ClassId) (qt : Nat) (tA : TA) (qtw : Nat) (qtn : Nat) (qtg : Nat) (qta : Nat) (qtr : Nat) (qtm : Nat) (qtt : Nat) (qts : Nat)  (hB : T_nb tA ≤ 8) (hPp : T_np tA ≤ 8) : MR l yX4_worthNow cX4_worthNow 1 (some .int) 4 G cy [zzO qt 3 [.int (nI (T_nb tA)), .int (nI (T_np tA)), .int (wb (T_wh tA)), .int (wb (T_gn tA)), .int (T_sd tA), .ref qtw, .ref qtn, .ref qtg, .ref qta, .ref qtr, .ref qtm, .ref qtt, .ref qts], zzI cy qtw 8 (T_wo tA), zzI cy qts 64 (shF (T_kn tA))] [.ref qt] (vp_Si (fun r => (r = (zval tA)))) := by
  refine enR RX4 (by decide) rfl (Nat.le_of_ble_eq_true rfl) (fun p e s m below meth c ls hx hb hml hown hts hr hlocks hP hN hl => ?_)
  have hK := hN.1
  replace hl : lv_has ls 1 [(0, .ref qt)] := hl
  refine lv_aload_n hx hb dX4_worthNow_0 rfl (lv_at hl 0 rfl) ?_
  refine lv_aload_n hx hb dX4_worthNow_1 rfl (lv_at hl 0 rfl) ?_
  refine kRi (rV (As := []) (rest := [.ref qt]) (b := qt) ⟨hx, hb, hml, hown, hts⟩ (c_X4_setThere l G cy qt tA qtw qtn qtg qta qtr qtm qtt qts hPp) L_X4_78 (preRV (q := (RX4, TX4, 13)) hN hP [0] rfl 0 3 rfl rfl) rfl ⟨Nat.le_of_ble_eq_true rfl, Nat.le_of_ble_eq_true rfl⟩ hl.1 (Nat.le_of_ble_eq_true rfl) dX4_worthNow_2 ⟨Nat.le_of_ble_eq_true rfl, Nat.le_of_ble_eq_true rfl⟩) (fun r_1 h_2 => ?_)
  subst h_2
  refine kRi (rV (As := [.int (zthere tA)]) (rest := []) (b := qt) ⟨hx, hb, hml, hown, hts⟩ (c_X4_worthAmong l G cy qt tA qtw qtn qtg qta qtr qtm qtt qts (zthere tA) hB hPp) L_X4_82 (preRV (q := (RX4, TX4, 13)) hN hP [0, 1, 2] rfl 0 3 rfl rfl) rfl ⟨Nat.le_of_ble_eq_true rfl, Nat.le_of_ble_eq_true rfl⟩ hl.1 (Nat.le_of_ble_eq_true rfl) dX4_worthNow_5 ⟨Nat.le_of_ble_eq_true rfl, Nat.le_of_ble_eq_true rfl⟩) (fun r_3 h_4 => ?_)
  subst h_4
  exact endR hx hb hr hlocks rfl (by rfl) dX4_worthNow_8
set_option maxHeartbeats 4000000 in
set_option maxRecDepth 100000 in
theorem c_X4_booksKnown (l : Launch) (G : va_G) (cy : Nat → ClassId) (qt : Nat) (tA : TA) (qtw : Nat) (qtn : Nat) (qtg : Nat) (qta : Nat) (qtr : Nat) (qtm : Nat) (qtt : Nat) (qts : Nat) (iS : Int32) (iV : Int32)  (hB : T_nb tA ≤ 8) (hPp : T_np tA ≤ 8) : MR l yX4_booksKnown cX4_booksKnown 5 (some .int) 3 G cy [zzO qt 3 [.int (nI (T_nb tA)), .int (nI (T_np tA)), .int (wb (T_wh tA)), .int (wb (T_gn tA)), .int (T_sd tA), .ref qtw, .ref qtn, .ref qtg, .ref qta, .ref qtr, .ref qtm, .ref qtt, .ref qts], zzI cy qts 64 (shF (T_kn tA))] [.ref qt, .int iS, .int iV] (vp_Si (fun r => (r = (bkn tA iS iV)))) := by
  refine enR RX4 (by decide) rfl (Nat.le_of_ble_eq_true rfl) (fun p e s m below meth c ls hx hb hml hown hts hr hlocks hP hN hl => ?_)
  have hK := hN.1
  replace hl : lv_has ls 5 [(0, .ref qt), (1, .int iS), (2, .int iV)] := hl
  refine lv_iconst (v := 0) hx hb dX4_booksKnown_0 (by decide) ?_
  refine lv_istore_n (lv' := [(3, .int 0), (0, .ref qt), (1, .int iS), (2, .int iV)]) hx hb dX4_booksKnown_1 rfl hl (by decide) rfl (fun ls => ?_)
  clear hl
  intro hl
  refine lv_iconst (v := 0) hx hb dX4_booksKnown_2 (by decide) ?_
  refine lv_istore (lv' := [(4, .int 0), (3, .int 0), (0, .ref qt), (1, .int iS), (2, .int iV)]) hx hb dX4_booksKnown_3 hl (by decide) rfl (fun ls => ?_)
  clear hl
  intro hl
  have lp_1 : ∀ (n_2 : Nat) (j_4 : Nat) (xM_5 : Int32), 8 - j_4 < n_2 → j_4 ≤ T_nb tA → xM_5 = orF (fun b => decide (iV ≤ mkn tA b iS)) j_4 → ∀ (ls : Array Slot), lv_has ls 5 [(4, .int (nI j_4)), (3, .int xM_5), (0, .ref qt), (1, .int iS), (2, .int iV)] → W p l e (Rm 3 0 0) s m (List.toArray (α := Value) [.ref qt, .int iS, .int iV]) below meth c s.heap [] 0 0 (MQ below (vp_Si (fun r => (r = (bkn tA iS iV)))) (List.toArray (α := Value) [.ref qt, .int iS, .int iV]) s 0 0 (fun _ => False)) (F0 m 5 ls []) := by
    intro n_2
    induction n_2 with
    | zero => intro j_4 xM_5 hm9; exact absurd hm9 (Nat.not_lt_zero _)
    | succ n_2 ih_3 =>
      intro j_4 xM_5 hm_8 hj_6 hxM_7 ls hl
      refine lv_iload hx hb dX4_booksKnown_5 (lv_at hl 0 rfl) ?_
      refine lv_aload_n hx hb dX4_booksKnown_7 rfl (lv_at hl 2 rfl) ?_
      refine va_get (D := G) (ci := 3) (v := .int (nI (T_nb tA))) (C := RX4) (T := TX4) (N := 13) hx hb hts iX_X4 hown hK hP 0 rfl rfl 0 (by decide) (hts _ m_t29) (fun _ h9 => h9) rfl dX4_booksKnown_8 ?_
      refine lv_icmp_ge (tgt := 38) hx hb dX4_booksKnown_11 (by decide) (fun c_9 => ?_) (fun c_9 => ?_)
      · have hlt_10 : j_4 = T_nb tA := Nat.le_antisymm (by omega) (lp_ge rfl rfl (by omega) (by omega) c_9)
        refine lv_iload_n hx hb dX4_booksKnown_38 rfl (lv_at hl 1 rfl) ?_
        exact endR hx hb hr hlocks rfl (by rw [hxM_7, hlt_10]; rfl) dX4_booksKnown_39
      · have hlt_11 : j_4 < T_nb tA := lp_lt rfl rfl (by omega) (by omega) c_9
        refine lv_aload_n hx hb dX4_booksKnown_14 rfl (lv_at hl 2 rfl) ?_
        refine lv_iload hx hb dX4_booksKnown_15 (lv_at hl 0 rfl) ?_
        refine lv_iload_n hx hb dX4_booksKnown_17 rfl (lv_at hl 3 rfl) ?_
        refine kRi (rV (As := [.int (nI j_4), .int iS]) (rest := []) (b := qt) ⟨hx, hb, hml, hown, hts⟩ (c_X4_mostKnown l G cy qt tA qtw qtn qtg qta qtr qtm qtt qts j_4 iS hPp (by omega)) L_X4_75 (preRV (q := (RX4, TX4, 13)) hN hP [0, 1] rfl 0 3 rfl rfl) rfl ⟨Nat.le_of_ble_eq_true rfl, Nat.le_of_ble_eq_true rfl⟩ hl.1 (Nat.le_of_ble_eq_true rfl) dX4_booksKnown_18 ⟨Nat.le_of_ble_eq_true rfl, Nat.le_of_ble_eq_true rfl⟩) (fun r_12 h_13 => ?_)
        subst h_13
        refine lv_iload_n hx hb dX4_booksKnown_21 rfl (lv_at hl 4 rfl) ?_
        refine lv_icmp_lt (tgt := 32) hx hb dX4_booksKnown_22 (by decide) (fun c_14 => ?_) (fun c_14 => ?_)
        · refine lv_iinc (v := nI (j_4 + 1)) (lv' := [(4, .int (nI (j_4 + 1))), (3, .int xM_5), (0, .ref qt), (1, .int iS), (2, .int iV)]) hx hb dX4_booksKnown_32 hl (k := 0) rfl (nI_1 _) (by decide) rfl (fun ls => ?_)
          clear hl
          intro hl
          refine lv_goto (tgt := 5) hx hb dX4_booksKnown_35 (by decide) ?_
          exact ih_3 (j_4 + 1) xM_5 (by omega) (by omega) (by rw [hxM_7]; exact (if_neg (by simp only [decide_eq_true_eq]; exact Int32.not_le.mpr c_14)).symm) _ (lv_sub hl [0, 1, 2, 3, 4] rfl)
        · refine lv_iload_n hx hb dX4_booksKnown_25 rfl (lv_at hl 1 rfl) ?_
          refine lv_iconst (v := 1) hx hb dX4_booksKnown_26 (by decide) ?_
          refine lv_iload hx hb dX4_booksKnown_27 (lv_at hl 0 rfl) ?_
          refine lv_ishl hx hb dX4_booksKnown_29 ?_
          refine lv_ior hx hb dX4_booksKnown_30 ?_
          refine lv_istore_n (lv' := [(3, .int (xM_5 ||| (1 <<< ((nI j_4) &&& 31)))), (4, .int (nI j_4)), (0, .ref qt), (1, .int iS), (2, .int iV)]) hx hb dX4_booksKnown_31 rfl hl (by decide) rfl (fun ls => ?_)
          clear hl
          intro hl
          refine lv_iinc (v := nI (j_4 + 1)) (lv' := [(4, .int (nI (j_4 + 1))), (3, .int (xM_5 ||| (1 <<< ((nI j_4) &&& 31)))), (0, .ref qt), (1, .int iS), (2, .int iV)]) hx hb dX4_booksKnown_32 hl (k := 1) rfl (nI_1 _) (by decide) rfl (fun ls => ?_)
          clear hl
          intro hl
          refine lv_goto (tgt := 5) hx hb dX4_booksKnown_35 (by decide) ?_
          exact ih_3 (j_4 + 1) (xM_5 ||| (1 <<< ((nI j_4) &&& 31))) (by omega) (by omega) (by rw [hxM_7]; exact (if_pos (by simp only [decide_eq_true_eq]; exact Int32.not_lt.mp c_14)).symm) _ (lv_sub hl [0, 1, 2, 3, 4] rfl)
  exact lp_1 ((8 - 0) + 1) 0 0 (Nat.lt_succ_self _) (Nat.zero_le _) rfl ls (lv_sub hl [0, 1, 2, 3, 4] rfl)
set_option maxHeartbeats 4000000 in
set_option maxRecDepth 100000 in
theorem c_X4_groundOf (l : Launch) (G : va_G) (cy : Nat → ClassId) (qt : Nat) (tA : TA) (qtw : Nat) (qtn : Nat) (qtg : Nat) (qta : Nat) (qtr : Nat) (qtm : Nat) (qtt : Nat) (qts : Nat) (kI : Nat) (kB : Nat)  (hI : kI < 8) (hJ : kB < 8) : MR l yX4_groundOf cX4_groundOf 5 (some .int) 1 G cy [zzO qt 3 [.int (nI (T_nb tA)), .int (nI (T_np tA)), .int (wb (T_wh tA)), .int (wb (T_gn tA)), .int (T_sd tA), .ref qtw, .ref qtn, .ref qtg, .ref qta, .ref qtr, .ref qtm, .ref qtt, .ref qts], zzI cy qtn 8 (T_ne tA), zzI cy qts 64 (shF (T_kn tA))] [.ref qt, .int (nI kI), .int (nI kB)] (vp_Si (fun r => (r = (zgd tA kI kB)))) := by
  refine enR RX4 (by decide) rfl (Nat.le_of_ble_eq_true rfl) (fun p e s m below meth c ls hx hb hml hown hts hr hlocks hP hN hl => ?_)
  have hK := hN.1
  replace hl : lv_has ls 5 [(0, .ref qt), (1, .int (nI kI)), (2, .int (nI kB))] := hl
  refine lv_sipush (v := 1000) hx hb dX4_groundOf_0 (by decide) ?_
  refine lv_istore_n (lv' := [(3, .int 1000), (0, .ref qt), (1, .int (nI kI)), (2, .int (nI kB))]) hx hb dX4_groundOf_3 rfl hl (by decide) rfl (fun ls => ?_)
  clear hl
  intro hl
  refine lv_iconst (v := 0) hx hb dX4_groundOf_4 (by decide) ?_
  refine lv_istore (lv' := [(4, .int 0), (3, .int 1000), (0, .ref qt), (1, .int (nI kI)), (2, .int (nI kB))]) hx hb dX4_groundOf_5 hl (by decide) rfl (fun ls => ?_)
  clear hl
  intro hl
  have lp_1 : ∀ (n_2 : Nat) (j_4 : Nat) (xM_5 : Int32), 8 - j_4 < n_2 → j_4 ≤ kB → xM_5 = gdF (T_ne tA kB) (T_kn tA kI) j_4 → ∀ (ls : Array Slot), lv_has ls 5 [(4, .int (nI j_4)), (3, .int xM_5), (0, .ref qt), (1, .int (nI kI)), (2, .int (nI kB))] → W p l e (Rm 1 0 0) s m (List.toArray (α := Value) [.ref qt, .int (nI kI), .int (nI kB)]) below meth c s.heap [] 0 0 (MQ below (vp_Si (fun r => (r = (zgd tA kI kB)))) (List.toArray (α := Value) [.ref qt, .int (nI kI), .int (nI kB)]) s 0 0 (fun _ => False)) (F0 m 7 ls []) := by
    intro n_2
    induction n_2 with
    | zero => intro j_4 xM_5 hm9; exact absurd hm9 (Nat.not_lt_zero _)
    | succ n_2 ih_3 =>
      intro j_4 xM_5 hm_8 hj_6 hxM_7 ls hl
      refine lv_iload hx hb dX4_groundOf_7 (lv_at hl 0 rfl) ?_
      refine lv_iload_n hx hb dX4_groundOf_9 rfl (lv_at hl 4 rfl) ?_
      refine lv_icmp_ge (tgt := 62) hx hb dX4_groundOf_10 (by decide) (fun c_9 => ?_) (fun c_9 => ?_)
      · have hlt_10 : j_4 = kB := Nat.le_antisymm (by omega) (lp_ge rfl rfl (by omega) (by omega) c_9)
        refine lv_iload_n hx hb dX4_groundOf_62 rfl (lv_at hl 1 rfl) ?_
        exact endR hx hb hr hlocks rfl (by rw [hxM_7, hlt_10]; rfl) dX4_groundOf_63
      · have hlt_11 : j_4 < kB := lp_lt rfl rfl (by omega) (by omega) c_9
        refine lv_aload_n hx hb dX4_groundOf_13 rfl (lv_at hl 2 rfl) ?_
        refine va_get (D := G) (ci := 3) (v := .ref qtn) (C := RX4) (T := TX4) (N := 13) hx hb hts iX_X4 hown hK hP 0 rfl rfl 6 (by decide) (hts _ m_t50) (fun _ h9 => h9) rfl dX4_groundOf_14 ?_
        refine lv_iload_n hx hb dX4_groundOf_17 rfl (lv_at hl 4 rfl) ?_
        refine va_iald hx hb hK hP 1 0 rfl rfl (in8 (by omega)) dX4_groundOf_18 ?_
        refine lv_seti (v := (T_ne tA) kB) (congrArg (T_ne tA) (cl8 (by omega))) ?_
        refine lv_iload hx hb dX4_groundOf_19 (lv_at hl 0 rfl) ?_
        refine lv_ishr hx hb dX4_groundOf_21 ?_
        refine lv_iconst (v := 1) hx hb dX4_groundOf_22 (by decide) ?_
        refine lv_iand hx hb dX4_groundOf_23 ?_
        refine lv_if_eq (tgt := 56) hx hb dX4_groundOf_24 (by decide) (fun c_12 => ?_) (fun c_12 => ?_)
        · refine lv_iinc (v := nI (j_4 + 1)) (lv' := [(4, .int (nI (j_4 + 1))), (3, .int xM_5), (0, .ref qt), (1, .int (nI kI)), (2, .int (nI kB))]) hx hb dX4_groundOf_56 hl (k := 0) rfl (nI_1 _) (by decide) rfl (fun ls => ?_)
          clear hl
          intro hl
          refine lv_goto (tgt := 7) hx hb dX4_groundOf_59 (by decide) ?_
          exact ih_3 (j_4 + 1) xM_5 (by omega) (by omega) (by rw [hxM_7]; exact (if_neg (fun q => absurd c_12 (by have := q.1; unfold bitb at this; exact of_decide_eq_true this))).symm) _ (lv_sub hl [0, 1, 2, 3, 4] rfl)
        · refine lv_aload_n hx hb dX4_groundOf_27 rfl (lv_at hl 2 rfl) ?_
          refine va_get (D := G) (ci := 3) (v := .ref qts) (C := RX4) (T := TX4) (N := 13) hx hb hts iX_X4 hown hK hP 0 rfl rfl 12 (by decide) (hts _ m_t64) (fun _ h9 => h9) rfl dX4_groundOf_28 ?_
          refine lv_iload_n hx hb dX4_groundOf_31 rfl (lv_at hl 3 rfl) ?_
          refine lv_bipush (v := 8) hx hb dX4_groundOf_32 (by decide) ?_
          refine lv_imul hx hb dX4_groundOf_34 ?_
          refine lv_iload hx hb dX4_groundOf_35 (lv_at hl 0 rfl) ?_
          refine lv_iadd hx hb dX4_groundOf_37 ?_
          refine va_iald hx hb hK hP 2 0 rfl rfl (in64 (by omega) (by omega)) dX4_groundOf_38 ?_
          refine lv_seti (v := (T_kn tA) kI j_4) ((congrArg (shF (T_kn tA)) (cl64 (by omega) (by omega))).trans (shF_get _ (by omega))) ?_
          refine lv_iload_n hx hb dX4_groundOf_39 rfl (lv_at hl 1 rfl) ?_
          refine lv_icmp_ge (tgt := 56) hx hb dX4_groundOf_40 (by decide) (fun c_13 => ?_) (fun c_13 => ?_)
          · refine lv_iinc (v := nI (j_4 + 1)) (lv' := [(4, .int (nI (j_4 + 1))), (3, .int xM_5), (0, .ref qt), (1, .int (nI kI)), (2, .int (nI kB))]) hx hb dX4_groundOf_56 hl (k := 0) rfl (nI_1 _) (by decide) rfl (fun ls => ?_)
            clear hl
            intro hl
            refine lv_goto (tgt := 7) hx hb dX4_groundOf_59 (by decide) ?_
            exact ih_3 (j_4 + 1) xM_5 (by omega) (by omega) (by rw [hxM_7] at c_13; rw [hxM_7]; exact (if_neg (fun q => Int32.not_lt.mpr c_13 q.2)).symm) _ (lv_sub hl [0, 1, 2, 3, 4] rfl)
          · refine lv_aload_n hx hb dX4_groundOf_43 rfl (lv_at hl 2 rfl) ?_
            refine va_get (D := G) (ci := 3) (v := .ref qts) (C := RX4) (T := TX4) (N := 13) hx hb hts iX_X4 hown hK hP 0 rfl rfl 12 (by decide) (hts _ m_t64) (fun _ h9 => h9) rfl dX4_groundOf_44 ?_
            refine lv_iload_n hx hb dX4_groundOf_47 rfl (lv_at hl 3 rfl) ?_
            refine lv_bipush (v := 8) hx hb dX4_groundOf_48 (by decide) ?_
            refine lv_imul hx hb dX4_groundOf_50 ?_
            refine lv_iload hx hb dX4_groundOf_51 (lv_at hl 0 rfl) ?_
            refine lv_iadd hx hb dX4_groundOf_53 ?_
            refine va_iald hx hb hK hP 2 0 rfl rfl (in64 (by omega) (by omega)) dX4_groundOf_54 ?_
            refine lv_seti (v := (T_kn tA) kI j_4) ((congrArg (shF (T_kn tA)) (cl64 (by omega) (by omega))).trans (shF_get _ (by omega))) ?_
            refine lv_istore_n (lv' := [(3, .int ((T_kn tA) kI j_4)), (4, .int (nI j_4)), (0, .ref qt), (1, .int (nI kI)), (2, .int (nI kB))]) hx hb dX4_groundOf_55 rfl hl (by decide) rfl (fun ls => ?_)
            clear hl
            intro hl
            refine lv_iinc (v := nI (j_4 + 1)) (lv' := [(4, .int (nI (j_4 + 1))), (3, .int ((T_kn tA) kI j_4)), (0, .ref qt), (1, .int (nI kI)), (2, .int (nI kB))]) hx hb dX4_groundOf_56 hl (k := 1) rfl (nI_1 _) (by decide) rfl (fun ls => ?_)
            clear hl
            intro hl
            refine lv_goto (tgt := 7) hx hb dX4_groundOf_59 (by decide) ?_
            exact ih_3 (j_4 + 1) ((T_kn tA) kI j_4) (by omega) (by omega) (by rw [hxM_7] at c_13; exact (if_pos ⟨by unfold bitb; exact decide_eq_true c_12, Int32.not_le.mp c_13⟩).symm) _ (lv_sub hl [0, 1, 2, 3, 4] rfl)
  exact lp_1 ((8 - 0) + 1) 0 1000 (Nat.lt_succ_self _) (Nat.zero_le _) rfl ls (lv_sub hl [0, 1, 2, 3, 4] rfl)
set_option maxHeartbeats 4000000 in
set_option maxRecDepth 100000 in
theorem c_X4_wouldKnow (l : Launch) (G : va_G) (cy : Nat → ClassId) (qt : Nat) (tA : TA) (qtw : Nat) (qtn : Nat) (qtg : Nat) (qta : Nat) (qtr : Nat) (qtm : Nat) (qtt : Nat) (qts : Nat) (kI : Nat) (kB : Nat)  (hI : kI < 8) (hJ : kB < 8) : MR l yX4_wouldKnow cX4_wouldKnow 4 (some .int) 2 G cy [zzO qt 3 [.int (nI (T_nb tA)), .int (nI (T_np tA)), .int (wb (T_wh tA)), .int (wb (T_gn tA)), .int (T_sd tA), .ref qtw, .ref qtn, .ref qtg, .ref qta, .ref qtr, .ref qtm, .ref qtt, .ref qts], zzI cy qtn 8 (T_ne tA), zzI cy qtg 8 (T_go tA), zzI cy qtr 8 (T_re tA), zzI cy qts 64 (shF (T_kn tA))] [.ref qt, .int (nI kI), .int (nI kB)] (vp_Si (fun r => (r = (zwk tA kI kB)))) := by
  refine enR RX4 (by decide) rfl (Nat.le_of_ble_eq_true rfl) (fun p e s m below meth c ls hx hb hml hown hts hr hlocks hP hN hl => ?_)
  have hK := hN.1
  replace hl : lv_has ls 4 [(0, .ref qt), (1, .int (nI kI)), (2, .int (nI kB))] := hl
  refine lv_aload_n hx hb dX4_wouldKnow_0 rfl (lv_at hl 0 rfl) ?_
  refine va_get (D := G) (ci := 3) (v := .ref qtg) (C := RX4) (T := TX4) (N := 13) hx hb hts iX_X4 hown hK hP 0 rfl rfl 7 (by decide) (hts _ m_t53) (fun _ h9 => h9) rfl dX4_wouldKnow_1 ?_
  refine lv_iload_n hx hb dX4_wouldKnow_4 rfl (lv_at hl 2 rfl) ?_
  refine va_iald hx hb hK hP 2 0 rfl rfl (in8 (by omega)) dX4_wouldKnow_5 ?_
  refine lv_seti (v := (T_go tA) kB) (congrArg (T_go tA) (cl8 (by omega))) ?_
  refine lv_aload_n hx hb dX4_wouldKnow_6 rfl (lv_at hl 0 rfl) ?_
  refine va_get (D := G) (ci := 3) (v := .ref qtr) (C := RX4) (T := TX4) (N := 13) hx hb hts iX_X4 hown hK hP 0 rfl rfl 9 (by decide) (hts _ m_t58) (fun _ h9 => h9) rfl dX4_wouldKnow_7 ?_
  refine lv_iload_n hx hb dX4_wouldKnow_10 rfl (lv_at hl 1 rfl) ?_
  refine va_iald hx hb hK hP 3 0 rfl rfl (in8 (by omega)) dX4_wouldKnow_11 ?_
  refine lv_seti (v := (T_re tA) kI) (congrArg (T_re tA) (cl8 (by omega))) ?_
  refine lv_imul hx hb dX4_wouldKnow_12 ?_
  refine lv_bipush (v := 10) hx hb dX4_wouldKnow_13 (by decide) ?_
  refine lv_idiv hx hb dX4_wouldKnow_15 (by decide) ?_
  refine lv_aload_n hx hb dX4_wouldKnow_16 rfl (lv_at hl 0 rfl) ?_
  refine lv_iload_n hx hb dX4_wouldKnow_17 rfl (lv_at hl 1 rfl) ?_
  refine lv_iload_n hx hb dX4_wouldKnow_18 rfl (lv_at hl 2 rfl) ?_
  refine kRi (rV (As := [.int (nI kI), .int (nI kB)]) (rest := [.int ((((T_go tA) kB) * ((T_re tA) kI)) / 10)]) (b := qt) ⟨hx, hb, hml, hown, hts⟩ (c_X4_groundOf l G cy qt tA qtw qtn qtg qta qtr qtm qtt qts kI kB hI hJ) L_X4_85 (preRV (q := (RX4, TX4, 13)) hN hP [0, 1, 4] rfl 0 3 rfl rfl) rfl ⟨Nat.le_of_ble_eq_true rfl, Nat.le_of_ble_eq_true rfl⟩ hl.1 (Nat.le_of_ble_eq_true rfl) dX4_wouldKnow_19 ⟨Nat.le_of_ble_eq_true rfl, Nat.le_of_ble_eq_true rfl⟩) (fun r_1 h_2 => ?_)
  subst h_2
  refine kRi (rS (As := [.int ((((T_go tA) kB) * ((T_re tA) kI)) / 10), .int (zgd tA kI kB)]) (rest := []) ⟨hx, hb, hml, hown, hts⟩ (c_X4_grasped l G cy ((((T_go tA) kB) * ((T_re tA) kI)) / 10) (zgd tA kI kB)) L_X4_88 (preRS hN hP [] rfl) rfl ⟨Nat.le_of_ble_eq_true rfl, Nat.le_of_ble_eq_true rfl⟩ hl.1 (Nat.le_of_ble_eq_true rfl) dX4_wouldKnow_22 ⟨Nat.le_of_ble_eq_true rfl, Nat.le_of_ble_eq_true rfl⟩) (fun r_3 h_4 => ?_)
  subst h_4
  refine lv_istore_n (lv' := [(3, .int (zgr ((((T_go tA) kB) * ((T_re tA) kI)) / 10) (zgd tA kI kB))), (0, .ref qt), (1, .int (nI kI)), (2, .int (nI kB))]) hx hb dX4_wouldKnow_25 rfl hl (by decide) rfl (fun ls => ?_)
  clear hl
  intro hl
  refine lv_iload_n hx hb dX4_wouldKnow_26 rfl (lv_at hl 0 rfl) ?_
  refine lv_aload_n hx hb dX4_wouldKnow_27 rfl (lv_at hl 1 rfl) ?_
  refine lv_iload_n hx hb dX4_wouldKnow_28 rfl (lv_at hl 2 rfl) ?_
  refine lv_iload_n hx hb dX4_wouldKnow_29 rfl (lv_at hl 3 rfl) ?_
  refine kRi (rV (As := [.int (nI kI), .int (nI kB)]) (rest := [.int (zgr ((((T_go tA) kB) * ((T_re tA) kI)) / 10) (zgd tA kI kB))]) (b := qt) ⟨hx, hb, hml, hown, hts⟩ (c_X4_knows l G cy qt tA qtw qtn qtg qta qtr qtm qtt qts kI kB hI hJ) L_X4_66 (preRV (q := (RX4, TX4, 13)) hN hP [0, 4] rfl 0 3 rfl rfl) rfl ⟨Nat.le_of_ble_eq_true rfl, Nat.le_of_ble_eq_true rfl⟩ hl.1 (Nat.le_of_ble_eq_true rfl) dX4_wouldKnow_30 ⟨Nat.le_of_ble_eq_true rfl, Nat.le_of_ble_eq_true rfl⟩) (fun r_5 h_6 => ?_)
  subst h_6
  refine va_mmax hx hb (hml.trans hl.1.symm) hown (hts _ m_max1) (hts _ m_max2) (hts _ m_t9) (hts _ m_max3) (Nat.le_of_ble_eq_true rfl) (Nat.le_of_ble_eq_true rfl) (Nat.le_of_ble_eq_true rfl) (Nat.le_of_ble_eq_true rfl) dX4_wouldKnow_33 ?_
  refine lv_seti (v := mx (zgr ((((T_go tA) kB) * ((T_re tA) kI)) / 10) (zgd tA kI kB)) (T_kn tA kI kB)) rfl ?_
  exact endR hx hb hr hlocks rfl (by rfl) dX4_wouldKnow_36
set_option maxHeartbeats 4000000 in
set_option maxRecDepth 100000 in
theorem c_X4_gainByTelling (l : Launch) (G : va_G) (cy : Nat → ClassId) (qt : Nat) (tA : TA) (qtw : Nat) (qtn : Nat) (qtg : Nat) (qta : Nat) (qtr : Nat) (qtm : Nat) (qtt : Nat) (qts : Nat) (kI : Nat) (kO : Nat) (kB : Nat)  (hI : kI < 8) (hO : kO < 8) (hJ : kB < 8) : MR l yX4_gainByTelling cX4_gainByTelling 4 (some .int) 2 G cy [zzO qt 3 [.int (nI (T_nb tA)), .int (nI (T_np tA)), .int (wb (T_wh tA)), .int (wb (T_gn tA)), .int (T_sd tA), .ref qtw, .ref qtn, .ref qtg, .ref qta, .ref qtr, .ref qtm, .ref qtt, .ref qts], zzI cy qtt 8 (T_te tA), zzI cy qts 64 (shF (T_kn tA))] [.ref qt, .int (nI kI), .int (nI kO), .int (nI kB)] (vp_Si (fun r => (r = (zgt tA kI kO kB)))) := by
  refine enR RX4 (by decide) rfl (Nat.le_of_ble_eq_true rfl) (fun p e s m below meth c ls hx hb hml hown hts hr hlocks hP hN hl => ?_)
  have hK := hN.1
  replace hl : lv_has ls 4 [(0, .ref qt), (1, .int (nI kI)), (2, .int (nI kO)), (3, .int (nI kB))] := hl
  refine lv_iconst (v := 0) hx hb dX4_gainByTelling_0 (by decide) ?_
  refine lv_aload_n hx hb dX4_gainByTelling_1 rfl (lv_at hl 0 rfl) ?_
  refine lv_iload_n hx hb dX4_gainByTelling_2 rfl (lv_at hl 1 rfl) ?_
  refine lv_iload_n hx hb dX4_gainByTelling_3 rfl (lv_at hl 3 rfl) ?_
  refine kRi (rV (As := [.int (nI kI), .int (nI kB)]) (rest := [.int 0]) (b := qt) ⟨hx, hb, hml, hown, hts⟩ (c_X4_knows l G cy qt tA qtw qtn qtg qta qtr qtm qtt qts kI kB hI hJ) L_X4_66 (preRV (q := (RX4, TX4, 13)) hN hP [0, 2] rfl 0 3 rfl rfl) rfl ⟨Nat.le_of_ble_eq_true rfl, Nat.le_of_ble_eq_true rfl⟩ hl.1 (Nat.le_of_ble_eq_true rfl) dX4_gainByTelling_4 ⟨Nat.le_of_ble_eq_true rfl, Nat.le_of_ble_eq_true rfl⟩) (fun r_1 h_2 => ?_)
  subst h_2
  refine lv_aload_n hx hb dX4_gainByTelling_7 rfl (lv_at hl 0 rfl) ?_
  refine va_get (D := G) (ci := 3) (v := .ref qtt) (C := RX4) (T := TX4) (N := 13) hx hb hts iX_X4 hown hK hP 0 rfl rfl 11 (by decide) (hts _ m_t62) (fun _ h9 => h9) rfl dX4_gainByTelling_8 ?_
  refine lv_iload_n hx hb dX4_gainByTelling_11 rfl (lv_at hl 1 rfl) ?_
  refine va_iald hx hb hK hP 1 0 rfl rfl (in8 (by omega)) dX4_gainByTelling_12 ?_
  refine lv_seti (v := (T_te tA) kI) (congrArg (T_te tA) (cl8 (by omega))) ?_
  refine kRi (rS (As := [.int (T_kn tA kI kB), .int ((T_te tA) kI)]) (rest := [.int 0]) ⟨hx, hb, hml, hown, hts⟩ (c_X4_afterTelling l G cy (T_kn tA kI kB) ((T_te tA) kI)) L_X4_98 (preRS hN hP [] rfl) rfl ⟨Nat.le_of_ble_eq_true rfl, Nat.le_of_ble_eq_true rfl⟩ hl.1 (Nat.le_of_ble_eq_true rfl) dX4_gainByTelling_13 ⟨Nat.le_of_ble_eq_true rfl, Nat.le_of_ble_eq_true rfl⟩) (fun r_3 h_4 => ?_)
  subst h_4
  refine lv_aload_n hx hb dX4_gainByTelling_16 rfl (lv_at hl 0 rfl) ?_
  refine lv_iload_n hx hb dX4_gainByTelling_17 rfl (lv_at hl 2 rfl) ?_
  refine lv_iload_n hx hb dX4_gainByTelling_18 rfl (lv_at hl 3 rfl) ?_
  refine kRi (rV (As := [.int (nI kO), .int (nI kB)]) (rest := [.int ((T_kn tA kI kB) * ((T_te tA) kI) / 10), .int 0]) (b := qt) ⟨hx, hb, hml, hown, hts⟩ (c_X4_knows l G cy qt tA qtw qtn qtg qta qtr qtm qtt qts kO kB hO hJ) L_X4_66 (preRV (q := (RX4, TX4, 13)) hN hP [0, 2] rfl 0 3 rfl rfl) rfl ⟨Nat.le_of_ble_eq_true rfl, Nat.le_of_ble_eq_true rfl⟩ hl.1 (Nat.le_of_ble_eq_true rfl) dX4_gainByTelling_19 ⟨Nat.le_of_ble_eq_true rfl, Nat.le_of_ble_eq_true rfl⟩) (fun r_5 h_6 => ?_)
  subst h_6
  refine lv_isub hx hb dX4_gainByTelling_22 ?_
  refine va_mmax hx hb (hml.trans hl.1.symm) hown (hts _ m_max1) (hts _ m_max2) (hts _ m_t9) (hts _ m_max3) (Nat.le_of_ble_eq_true rfl) (Nat.le_of_ble_eq_true rfl) (Nat.le_of_ble_eq_true rfl) (Nat.le_of_ble_eq_true rfl) dX4_gainByTelling_23 ?_
  refine lv_seti (v := mx 0 (((T_kn tA kI kB) * ((T_te tA) kI) / 10) - (T_kn tA kO kB))) rfl ?_
  exact endR hx hb hr hlocks rfl (by rfl) dX4_gainByTelling_26
set_option maxHeartbeats 4000000 in
set_option maxRecDepth 100000 in
theorem c_X4_tellTo (l : Launch) (G : va_G) (cy : Nat → ClassId) (sz : Nat) (qt : Nat) (tA : TA) (qtw : Nat) (qtn : Nat) (qtg : Nat) (qta : Nat) (qtr : Nat) (qtm : Nat) (qtt : Nat) (qts : Nat) (kI : Nat) (kO : Nat) (kB : Nat)  (hI : kI < 8) (hO : kO < 8) (hJ : kB < 8) : MW l yX4_tellTo cX4_tellTo 4 none 3 0 0 G cy [zzO qt 3 [.int (nI (T_nb tA)), .int (nI (T_np tA)), .int (wb (T_wh tA)), .int (wb (T_gn tA)), .int (T_sd tA), .ref qtw, .ref qtn, .ref qtg, .ref qta, .ref qtr, .ref qtm, .ref qtt, .ref qts], zzI cy qtt 8 (T_te tA), zzI cy qts 64 (shF (T_kn tA))] sz [.ref qt, .int (nI kI), .int (nI kO), .int (nI kB)] (Wv G (fun u => u = [zzO qt 3 [.int (nI (T_nb (T_setkn tA (updM (T_kn tA) kO kB (T_kn tA kO kB + zgt tA kI kO kB))))), .int (nI (T_np (T_setkn tA (updM (T_kn tA) kO kB (T_kn tA kO kB + zgt tA kI kO kB))))), .int (wb (T_wh (T_setkn tA (updM (T_kn tA) kO kB (T_kn tA kO kB + zgt tA kI kO kB))))), .int (wb (T_gn (T_setkn tA (updM (T_kn tA) kO kB (T_kn tA kO kB + zgt tA kI kO kB))))), .int (T_sd (T_setkn tA (updM (T_kn tA) kO kB (T_kn tA kO kB + zgt tA kI kO kB)))), .ref qtw, .ref qtn, .ref qtg, .ref qta, .ref qtr, .ref qtm, .ref qtt, .ref qts], zzI cy qtt 8 (T_te (T_setkn tA (updM (T_kn tA) kO kB (T_kn tA kO kB + zgt tA kI kO kB)))), zzI cy qts 64 (shF (T_kn (T_setkn tA (updM (T_kn tA) kO kB (T_kn tA kO kB + zgt tA kI kO kB)))))])) := by
  refine enW RX4 (by decide) rfl (Nat.le_of_ble_eq_true rfl) (fun p e s m below meth c ls A hx hb hml hown hts hr hlocks hP hN hl hin hD hA hS => ?_)
  have hin : meth.name = _ := hin
  have hK := hN.1
  replace hl : lv_has ls 4 [(0, .ref qt), (1, .int (nI kI)), (2, .int (nI kO)), (3, .int (nI kB))] := hl
  refine lv_aload_n hx hb dX4_tellTo_0 rfl (lv_at hl 0 rfl) ?_
  refine lv_iload_n hx hb dX4_tellTo_1 rfl (lv_at hl 2 rfl) ?_
  refine lv_iload_n hx hb dX4_tellTo_2 rfl (lv_at hl 3 rfl) ?_
  refine lv_aload_n hx hb dX4_tellTo_3 rfl (lv_at hl 0 rfl) ?_
  refine lv_iload_n hx hb dX4_tellTo_4 rfl (lv_at hl 2 rfl) ?_
  refine lv_iload_n hx hb dX4_tellTo_5 rfl (lv_at hl 3 rfl) ?_
  refine kRi (rV (As := [.int (nI kO), .int (nI kB)]) (rest := [.int (nI kB), .int (nI kO), .ref qt]) (b := qt) ⟨hx, hb, hml, hown, hts⟩ (c_X4_knows l G cy qt tA qtw qtn qtg qta qtr qtm qtt qts kO kB hO hJ) L_X4_66 (preRV (q := (RX4, TX4, 13)) hN hP [0, 2] rfl 0 3 rfl rfl) rfl ⟨Nat.le_of_ble_eq_true rfl, Nat.le_of_ble_eq_true rfl⟩ hl.1 (Nat.le_of_ble_eq_true rfl) dX4_tellTo_6 ⟨Nat.le_of_ble_eq_true rfl, Nat.le_of_ble_eq_true rfl⟩) (fun r_1 h_2 => ?_)
  subst h_2
  refine lv_aload_n hx hb dX4_tellTo_9 rfl (lv_at hl 0 rfl) ?_
  refine lv_iload_n hx hb dX4_tellTo_10 rfl (lv_at hl 1 rfl) ?_
  refine lv_iload_n hx hb dX4_tellTo_11 rfl (lv_at hl 2 rfl) ?_
  refine lv_iload_n hx hb dX4_tellTo_12 rfl (lv_at hl 3 rfl) ?_
  refine kRi (rV (As := [.int (nI kI), .int (nI kO), .int (nI kB)]) (rest := [.int (T_kn tA kO kB), .int (nI kB), .int (nI kO), .ref qt]) (b := qt) ⟨hx, hb, hml, hown, hts⟩ (c_X4_gainByTelling l G cy qt tA qtw qtn qtg qta qtr qtm qtt qts kI kO kB hI hO hJ) L_X4_101 (preRV (q := (RX4, TX4, 13)) hN hP [0, 1, 2] rfl 0 3 rfl rfl) rfl ⟨Nat.le_of_ble_eq_true rfl, Nat.le_of_ble_eq_true rfl⟩ hl.1 (Nat.le_of_ble_eq_true rfl) dX4_tellTo_13 ⟨Nat.le_of_ble_eq_true rfl, Nat.le_of_ble_eq_true rfl⟩) (fun r_3 h_4 => ?_)
  subst h_4
  refine lv_iadd hx hb dX4_tellTo_16 ?_
  refine cVv (As := [.int (nI kO), .int (nI kB), .int ((T_kn tA kO kB) + (zgt tA kI kO kB))]) (rest := []) (b := qt) (q := (RX4, TX4, 13)) ⟨hx, hb, hml, hown, hts⟩ (c_X4_learn l G cy (s.heap).size qt tA qtw qtn qtg qta qtr qtm qtt qts kO kB ((T_kn tA kO kB) + (zgt tA kI kO kB)) hO hJ) L_X4_94 hN hP hD hS hA [0, 2] [false, true, false] rfl (by decide +kernel) rfl 0 3 rfl rfl rfl ⟨Nat.le_of_ble_eq_true rfl, Nat.le_of_ble_eq_true rfl⟩ hl.1 (Nat.le_of_ble_eq_true rfl) dX4_tellTo_17 ⟨Nat.le_of_ble_eq_true rfl, Nat.le_of_ble_eq_true rfl⟩ (fun u_7 H locs h_6 => ?_)
  clear hP hD hS
  intro hP hD hS
  subst h_6
  have hPD := pd_as [zzI cy qtt 8 (T_te (T_setkn tA (updM (T_kn tA) kO kB ((T_kn tA kO kB) + (zgt tA kI kO kB))))), zzO qt 3 [.int (nI (T_nb (T_setkn tA (updM (T_kn tA) kO kB ((T_kn tA kO kB) + (zgt tA kI kO kB)))))), .int (nI (T_np (T_setkn tA (updM (T_kn tA) kO kB ((T_kn tA kO kB) + (zgt tA kI kO kB)))))), .int (wb (T_wh (T_setkn tA (updM (T_kn tA) kO kB ((T_kn tA kO kB) + (zgt tA kI kO kB)))))), .int (wb (T_gn (T_setkn tA (updM (T_kn tA) kO kB ((T_kn tA kO kB) + (zgt tA kI kO kB)))))), .int (T_sd (T_setkn tA (updM (T_kn tA) kO kB ((T_kn tA kO kB) + (zgt tA kI kO kB))))), .ref qtw, .ref qtn, .ref qtg, .ref qta, .ref qtr, .ref qtm, .ref qtt, .ref qts], zzI cy qts 64 (shF (T_kn (T_setkn tA (updM (T_kn tA) kO kB ((T_kn tA kO kB) + (zgt tA kI kO kB))))))] hP hD rfl
  clear hP hD
  obtain ⟨hP, hD⟩ := hPD
  exact endV (u := [zzO qt 3 [.int (nI (T_nb (T_setkn tA (updM (T_kn tA) kO kB ((T_kn tA kO kB) + (zgt tA kI kO kB)))))), .int (nI (T_np (T_setkn tA (updM (T_kn tA) kO kB ((T_kn tA kO kB) + (zgt tA kI kO kB)))))), .int (wb (T_wh (T_setkn tA (updM (T_kn tA) kO kB ((T_kn tA kO kB) + (zgt tA kI kO kB)))))), .int (wb (T_gn (T_setkn tA (updM (T_kn tA) kO kB ((T_kn tA kO kB) + (zgt tA kI kO kB)))))), .int (T_sd (T_setkn tA (updM (T_kn tA) kO kB ((T_kn tA kO kB) + (zgt tA kI kO kB))))), .ref qtw, .ref qtn, .ref qtg, .ref qta, .ref qtr, .ref qtm, .ref qtt, .ref qts], zzI cy qtt 8 (T_te (T_setkn tA (updM (T_kn tA) kO kB ((T_kn tA kO kB) + (zgt tA kI kO kB))))), zzI cy qts 64 (shF (T_kn (T_setkn tA (updM (T_kn tA) kO kB ((T_kn tA kO kB) + (zgt tA kI kO kB))))))]) hx hb hr hlocks (hP.sub [1, 0, 2] rfl) (hD.sub [1, 0, 2] (by decide +kernel) rfl) hS rfl dX4_tellTo_20
