theorem dX4_afterTelling_0 : decode cX4_afterTelling 0 = .ok (.iload_n 0, 1) := g_26 bX4_afterTelling rfl
theorem dX4_afterTelling_1 : decode cX4_afterTelling 1 = .ok (.iload_n 1, 1) := g_27 bX4_afterTelling rfl
theorem dX4_afterTelling_2 : decode cX4_afterTelling 2 = .ok (.imul, 1) := g_104 bX4_afterTelling rfl
theorem dX4_afterTelling_3 : decode cX4_afterTelling 3 = .ok (.bipush 10, 2) := g_16 10 bX4_afterTelling rfl rfl
theorem dX4_afterTelling_5 : decode cX4_afterTelling 5 = .ok (.idiv, 1) := g_108 bX4_afterTelling rfl
theorem dX4_afterTelling_6 : decode cX4_afterTelling 6 = .ok (.ireturn, 1) := g_172 bX4_afterTelling rfl
theorem dX4_booksKnown_0 : decode cX4_booksKnown 0 = .ok (.iconst 0, 1) := g_3 bX4_booksKnown rfl
theorem dX4_booksKnown_1 : decode cX4_booksKnown 1 = .ok (.istore_n 3, 1) := g_62 bX4_booksKnown rfl
theorem dX4_booksKnown_2 : decode cX4_booksKnown 2 = .ok (.iconst 0, 1) := g_3 bX4_booksKnown rfl
theorem dX4_booksKnown_3 : decode cX4_booksKnown 3 = .ok (.istore 4, 2) := g_54 bX4_booksKnown rfl
theorem dX4_booksKnown_5 : decode cX4_booksKnown 5 = .ok (.iload 4, 2) := g_21 bX4_booksKnown rfl
theorem dX4_booksKnown_7 : decode cX4_booksKnown 7 = .ok (.aload_n 0, 1) := g_42 bX4_booksKnown rfl
theorem dX4_booksKnown_8 : decode cX4_booksKnown 8 = .ok (.getfield 40, 3) := g_180 bX4_booksKnown rfl
theorem dX4_booksKnown_11 : decode cX4_booksKnown 11 = .ok (.if_icmp .ge 27, 3) := g_162 27 bX4_booksKnown rfl rfl
theorem dX4_booksKnown_14 : decode cX4_booksKnown 14 = .ok (.aload_n 0, 1) := g_42 bX4_booksKnown rfl
theorem dX4_booksKnown_15 : decode cX4_booksKnown 15 = .ok (.iload 4, 2) := g_21 bX4_booksKnown rfl
theorem dX4_booksKnown_17 : decode cX4_booksKnown 17 = .ok (.iload_n 1, 1) := g_27 bX4_booksKnown rfl
theorem dX4_booksKnown_18 : decode cX4_booksKnown 18 = .ok (.invokevirtual 75, 3) := g_182 bX4_booksKnown rfl
theorem dX4_booksKnown_21 : decode cX4_booksKnown 21 = .ok (.iload_n 2, 1) := g_28 bX4_booksKnown rfl
theorem dX4_booksKnown_22 : decode cX4_booksKnown 22 = .ok (.if_icmp .lt 10, 3) := g_161 10 bX4_booksKnown rfl rfl
theorem dX4_booksKnown_25 : decode cX4_booksKnown 25 = .ok (.iload_n 3, 1) := g_29 bX4_booksKnown rfl
theorem dX4_booksKnown_26 : decode cX4_booksKnown 26 = .ok (.iconst 1, 1) := g_4 bX4_booksKnown rfl
theorem dX4_booksKnown_27 : decode cX4_booksKnown 27 = .ok (.iload 4, 2) := g_21 bX4_booksKnown rfl
theorem dX4_booksKnown_29 : decode cX4_booksKnown 29 = .ok (.ishl, 1) := g_120 bX4_booksKnown rfl
theorem dX4_booksKnown_30 : decode cX4_booksKnown 30 = .ok (.ior, 1) := g_128 bX4_booksKnown rfl
theorem dX4_booksKnown_31 : decode cX4_booksKnown 31 = .ok (.istore_n 3, 1) := g_62 bX4_booksKnown rfl
theorem dX4_booksKnown_32 : decode cX4_booksKnown 32 = .ok (.iinc 4 1, 3) := g_132 1 bX4_booksKnown rfl rfl
theorem dX4_booksKnown_35 : decode cX4_booksKnown 35 = .ok (.goto (-30), 3) := g_167 65506 bX4_booksKnown rfl rfl
theorem dX4_booksKnown_38 : decode cX4_booksKnown 38 = .ok (.iload_n 3, 1) := g_29 bX4_booksKnown rfl
theorem dX4_booksKnown_39 : decode cX4_booksKnown 39 = .ok (.ireturn, 1) := g_172 bX4_booksKnown rfl
theorem dX4_gainByTelling_0 : decode cX4_gainByTelling 0 = .ok (.iconst 0, 1) := g_3 bX4_gainByTelling rfl
theorem dX4_gainByTelling_1 : decode cX4_gainByTelling 1 = .ok (.aload_n 0, 1) := g_42 bX4_gainByTelling rfl
theorem dX4_gainByTelling_2 : decode cX4_gainByTelling 2 = .ok (.iload_n 1, 1) := g_27 bX4_gainByTelling rfl
theorem dX4_gainByTelling_3 : decode cX4_gainByTelling 3 = .ok (.iload_n 3, 1) := g_29 bX4_gainByTelling rfl
theorem dX4_gainByTelling_4 : decode cX4_gainByTelling 4 = .ok (.invokevirtual 66, 3) := g_182 bX4_gainByTelling rfl
theorem dX4_gainByTelling_7 : decode cX4_gainByTelling 7 = .ok (.aload_n 0, 1) := g_42 bX4_gainByTelling rfl
theorem dX4_gainByTelling_8 : decode cX4_gainByTelling 8 = .ok (.getfield 34, 3) := g_180 bX4_gainByTelling rfl
theorem dX4_gainByTelling_11 : decode cX4_gainByTelling 11 = .ok (.iload_n 1, 1) := g_27 bX4_gainByTelling rfl
theorem dX4_gainByTelling_12 : decode cX4_gainByTelling 12 = .ok (.iaload, 1) := g_46 bX4_gainByTelling rfl
theorem dX4_gainByTelling_13 : decode cX4_gainByTelling 13 = .ok (.invokestatic 98, 3) := g_184 bX4_gainByTelling rfl
theorem dX4_gainByTelling_16 : decode cX4_gainByTelling 16 = .ok (.aload_n 0, 1) := g_42 bX4_gainByTelling rfl
theorem dX4_gainByTelling_17 : decode cX4_gainByTelling 17 = .ok (.iload_n 2, 1) := g_28 bX4_gainByTelling rfl
theorem dX4_gainByTelling_18 : decode cX4_gainByTelling 18 = .ok (.iload_n 3, 1) := g_29 bX4_gainByTelling rfl
theorem dX4_gainByTelling_19 : decode cX4_gainByTelling 19 = .ok (.invokevirtual 66, 3) := g_182 bX4_gainByTelling rfl
theorem dX4_gainByTelling_22 : decode cX4_gainByTelling 22 = .ok (.isub, 1) := g_100 bX4_gainByTelling rfl
theorem dX4_gainByTelling_23 : decode cX4_gainByTelling 23 = .ok (.invokestatic 70, 3) := g_184 bX4_gainByTelling rfl
theorem dX4_gainByTelling_26 : decode cX4_gainByTelling 26 = .ok (.ireturn, 1) := g_172 bX4_gainByTelling rfl
theorem dX4_grasped_0 : decode cX4_grasped 0 = .ok (.iload_n 0, 1) := g_26 bX4_grasped rfl
theorem dX4_grasped_1 : decode cX4_grasped 1 = .ok (.iload_n 1, 1) := g_27 bX4_grasped rfl
theorem dX4_grasped_2 : decode cX4_grasped 2 = .ok (.sipush 1000, 3) := g_17 1000 bX4_grasped rfl rfl
theorem dX4_grasped_5 : decode cX4_grasped 5 = .ok (.iadd, 1) := g_96 bX4_grasped rfl
theorem dX4_grasped_6 : decode cX4_grasped 6 = .ok (.imul, 1) := g_104 bX4_grasped rfl
theorem dX4_grasped_7 : decode cX4_grasped 7 = .ok (.sipush 2000, 3) := g_17 2000 bX4_grasped rfl rfl
theorem dX4_grasped_10 : decode cX4_grasped 10 = .ok (.idiv, 1) := g_108 bX4_grasped rfl
theorem dX4_grasped_11 : decode cX4_grasped 11 = .ok (.ireturn, 1) := g_172 bX4_grasped rfl
theorem dX4_groundOf_0 : decode cX4_groundOf 0 = .ok (.sipush 1000, 3) := g_17 1000 bX4_groundOf rfl rfl
theorem dX4_groundOf_3 : decode cX4_groundOf 3 = .ok (.istore_n 3, 1) := g_62 bX4_groundOf rfl
theorem dX4_groundOf_4 : decode cX4_groundOf 4 = .ok (.iconst 0, 1) := g_3 bX4_groundOf rfl
theorem dX4_groundOf_5 : decode cX4_groundOf 5 = .ok (.istore 4, 2) := g_54 bX4_groundOf rfl
theorem dX4_groundOf_7 : decode cX4_groundOf 7 = .ok (.iload 4, 2) := g_21 bX4_groundOf rfl
theorem dX4_groundOf_9 : decode cX4_groundOf 9 = .ok (.iload_n 2, 1) := g_28 bX4_groundOf rfl
theorem dX4_groundOf_10 : decode cX4_groundOf 10 = .ok (.if_icmp .ge 52, 3) := g_162 52 bX4_groundOf rfl rfl
theorem dX4_groundOf_13 : decode cX4_groundOf 13 = .ok (.aload_n 0, 1) := g_42 bX4_groundOf rfl
theorem dX4_groundOf_14 : decode cX4_groundOf 14 = .ok (.getfield 19, 3) := g_180 bX4_groundOf rfl
theorem dX4_groundOf_17 : decode cX4_groundOf 17 = .ok (.iload_n 2, 1) := g_28 bX4_groundOf rfl
theorem dX4_groundOf_18 : decode cX4_groundOf 18 = .ok (.iaload, 1) := g_46 bX4_groundOf rfl
theorem dX4_groundOf_19 : decode cX4_groundOf 19 = .ok (.iload 4, 2) := g_21 bX4_groundOf rfl
theorem dX4_groundOf_21 : decode cX4_groundOf 21 = .ok (.ishr, 1) := g_122 bX4_groundOf rfl
theorem dX4_groundOf_22 : decode cX4_groundOf 22 = .ok (.iconst 1, 1) := g_4 bX4_groundOf rfl
theorem dX4_groundOf_23 : decode cX4_groundOf 23 = .ok (.iand, 1) := g_126 bX4_groundOf rfl
theorem dX4_groundOf_24 : decode cX4_groundOf 24 = .ok (.ifCond .eq 32, 3) := g_153 32 bX4_groundOf rfl rfl
theorem dX4_groundOf_27 : decode cX4_groundOf 27 = .ok (.aload_n 0, 1) := g_42 bX4_groundOf rfl
theorem dX4_groundOf_28 : decode cX4_groundOf 28 = .ok (.getfield 37, 3) := g_180 bX4_groundOf rfl
theorem dX4_groundOf_31 : decode cX4_groundOf 31 = .ok (.iload_n 1, 1) := g_27 bX4_groundOf rfl
theorem dX4_groundOf_32 : decode cX4_groundOf 32 = .ok (.bipush 8, 2) := g_16 8 bX4_groundOf rfl rfl
theorem dX4_groundOf_34 : decode cX4_groundOf 34 = .ok (.imul, 1) := g_104 bX4_groundOf rfl
theorem dX4_groundOf_35 : decode cX4_groundOf 35 = .ok (.iload 4, 2) := g_21 bX4_groundOf rfl
theorem dX4_groundOf_37 : decode cX4_groundOf 37 = .ok (.iadd, 1) := g_96 bX4_groundOf rfl
theorem dX4_groundOf_38 : decode cX4_groundOf 38 = .ok (.iaload, 1) := g_46 bX4_groundOf rfl
theorem dX4_groundOf_39 : decode cX4_groundOf 39 = .ok (.iload_n 3, 1) := g_29 bX4_groundOf rfl
theorem dX4_groundOf_40 : decode cX4_groundOf 40 = .ok (.if_icmp .ge 16, 3) := g_162 16 bX4_groundOf rfl rfl
theorem dX4_groundOf_43 : decode cX4_groundOf 43 = .ok (.aload_n 0, 1) := g_42 bX4_groundOf rfl
theorem dX4_groundOf_44 : decode cX4_groundOf 44 = .ok (.getfield 37, 3) := g_180 bX4_groundOf rfl
theorem dX4_groundOf_47 : decode cX4_groundOf 47 = .ok (.iload_n 1, 1) := g_27 bX4_groundOf rfl
theorem dX4_groundOf_48 : decode cX4_groundOf 48 = .ok (.bipush 8, 2) := g_16 8 bX4_groundOf rfl rfl
theorem dX4_groundOf_50 : decode cX4_groundOf 50 = .ok (.imul, 1) := g_104 bX4_groundOf rfl
theorem dX4_groundOf_51 : decode cX4_groundOf 51 = .ok (.iload 4, 2) := g_21 bX4_groundOf rfl
theorem dX4_groundOf_53 : decode cX4_groundOf 53 = .ok (.iadd, 1) := g_96 bX4_groundOf rfl
theorem dX4_groundOf_54 : decode cX4_groundOf 54 = .ok (.iaload, 1) := g_46 bX4_groundOf rfl
theorem dX4_groundOf_55 : decode cX4_groundOf 55 = .ok (.istore_n 3, 1) := g_62 bX4_groundOf rfl
theorem dX4_groundOf_56 : decode cX4_groundOf 56 = .ok (.iinc 4 1, 3) := g_132 1 bX4_groundOf rfl rfl
theorem dX4_groundOf_59 : decode cX4_groundOf 59 = .ok (.goto (-52), 3) := g_167 65484 bX4_groundOf rfl rfl
theorem dX4_groundOf_62 : decode cX4_groundOf 62 = .ok (.iload_n 3, 1) := g_29 bX4_groundOf rfl
theorem dX4_groundOf_63 : decode cX4_groundOf 63 = .ok (.ireturn, 1) := g_172 bX4_groundOf rfl
theorem dX4_knows_0 : decode cX4_knows 0 = .ok (.aload_n 0, 1) := g_42 bX4_knows rfl
theorem dX4_knows_1 : decode cX4_knows 1 = .ok (.getfield 37, 3) := g_180 bX4_knows rfl
theorem dX4_knows_4 : decode cX4_knows 4 = .ok (.iload_n 1, 1) := g_27 bX4_knows rfl
theorem dX4_knows_5 : decode cX4_knows 5 = .ok (.bipush 8, 2) := g_16 8 bX4_knows rfl rfl
theorem dX4_knows_7 : decode cX4_knows 7 = .ok (.imul, 1) := g_104 bX4_knows rfl
theorem dX4_knows_8 : decode cX4_knows 8 = .ok (.iload_n 2, 1) := g_28 bX4_knows rfl
theorem dX4_knows_9 : decode cX4_knows 9 = .ok (.iadd, 1) := g_96 bX4_knows rfl
theorem dX4_knows_10 : decode cX4_knows 10 = .ok (.iaload, 1) := g_46 bX4_knows rfl
theorem dX4_knows_11 : decode cX4_knows 11 = .ok (.ireturn, 1) := g_172 bX4_knows rfl
theorem dX4_learn_0 : decode cX4_learn 0 = .ok (.aload_n 0, 1) := g_42 bX4_learn rfl
theorem dX4_learn_1 : decode cX4_learn 1 = .ok (.getfield 37, 3) := g_180 bX4_learn rfl
theorem dX4_learn_4 : decode cX4_learn 4 = .ok (.iload_n 1, 1) := g_27 bX4_learn rfl
theorem dX4_learn_5 : decode cX4_learn 5 = .ok (.bipush 8, 2) := g_16 8 bX4_learn rfl rfl
theorem dX4_learn_7 : decode cX4_learn 7 = .ok (.imul, 1) := g_104 bX4_learn rfl
theorem dX4_learn_8 : decode cX4_learn 8 = .ok (.iload_n 2, 1) := g_28 bX4_learn rfl
theorem dX4_learn_9 : decode cX4_learn 9 = .ok (.iadd, 1) := g_96 bX4_learn rfl
theorem dX4_learn_10 : decode cX4_learn 10 = .ok (.iload_n 3, 1) := g_29 bX4_learn rfl
theorem dX4_learn_11 : decode cX4_learn 11 = .ok (.iastore, 1) := g_79 bX4_learn rfl
theorem dX4_learn_12 : decode cX4_learn 12 = .ok (.return_, 1) := g_177 bX4_learn rfl
theorem dX4_mostKnown_0 : decode cX4_mostKnown 0 = .ok (.iconst 0, 1) := g_3 bX4_mostKnown rfl
theorem dX4_mostKnown_1 : decode cX4_mostKnown 1 = .ok (.istore_n 3, 1) := g_62 bX4_mostKnown rfl
theorem dX4_mostKnown_2 : decode cX4_mostKnown 2 = .ok (.iconst 0, 1) := g_3 bX4_mostKnown rfl
theorem dX4_mostKnown_3 : decode cX4_mostKnown 3 = .ok (.istore 4, 2) := g_54 bX4_mostKnown rfl
theorem dX4_mostKnown_5 : decode cX4_mostKnown 5 = .ok (.iload 4, 2) := g_21 bX4_mostKnown rfl
theorem dX4_mostKnown_7 : decode cX4_mostKnown 7 = .ok (.aload_n 0, 1) := g_42 bX4_mostKnown rfl
theorem dX4_mostKnown_8 : decode cX4_mostKnown 8 = .ok (.getfield 43, 3) := g_180 bX4_mostKnown rfl
theorem dX4_mostKnown_11 : decode cX4_mostKnown 11 = .ok (.if_icmp .ge 30, 3) := g_162 30 bX4_mostKnown rfl rfl
theorem dX4_mostKnown_14 : decode cX4_mostKnown 14 = .ok (.iload_n 2, 1) := g_28 bX4_mostKnown rfl
theorem dX4_mostKnown_15 : decode cX4_mostKnown 15 = .ok (.iload 4, 2) := g_21 bX4_mostKnown rfl
theorem dX4_mostKnown_17 : decode cX4_mostKnown 17 = .ok (.invokestatic 62, 3) := g_184 bX4_mostKnown rfl
theorem dX4_mostKnown_20 : decode cX4_mostKnown 20 = .ok (.ifCond .eq 15, 3) := g_153 15 bX4_mostKnown rfl rfl
theorem dX4_mostKnown_23 : decode cX4_mostKnown 23 = .ok (.iload_n 3, 1) := g_29 bX4_mostKnown rfl
theorem dX4_mostKnown_24 : decode cX4_mostKnown 24 = .ok (.aload_n 0, 1) := g_42 bX4_mostKnown rfl
theorem dX4_mostKnown_25 : decode cX4_mostKnown 25 = .ok (.iload 4, 2) := g_21 bX4_mostKnown rfl
theorem dX4_mostKnown_27 : decode cX4_mostKnown 27 = .ok (.iload_n 1, 1) := g_27 bX4_mostKnown rfl
theorem dX4_mostKnown_28 : decode cX4_mostKnown 28 = .ok (.invokevirtual 66, 3) := g_182 bX4_mostKnown rfl
theorem dX4_mostKnown_31 : decode cX4_mostKnown 31 = .ok (.invokestatic 70, 3) := g_184 bX4_mostKnown rfl
theorem dX4_mostKnown_34 : decode cX4_mostKnown 34 = .ok (.istore_n 3, 1) := g_62 bX4_mostKnown rfl
theorem dX4_mostKnown_35 : decode cX4_mostKnown 35 = .ok (.iinc 4 1, 3) := g_132 1 bX4_mostKnown rfl rfl
theorem dX4_mostKnown_38 : decode cX4_mostKnown 38 = .ok (.goto (-33), 3) := g_167 65503 bX4_mostKnown rfl rfl
theorem dX4_mostKnown_41 : decode cX4_mostKnown 41 = .ok (.iload_n 3, 1) := g_29 bX4_mostKnown rfl
theorem dX4_mostKnown_42 : decode cX4_mostKnown 42 = .ok (.ireturn, 1) := g_172 bX4_mostKnown rfl
theorem dX4_setThere_0 : decode cX4_setThere 0 = .ok (.aload_n 0, 1) := g_42 bX4_setThere rfl
theorem dX4_setThere_1 : decode cX4_setThere 1 = .ok (.getfield 43, 3) := g_180 bX4_setThere rfl
theorem dX4_setThere_4 : decode cX4_setThere 4 = .ok (.invokestatic 58, 3) := g_184 bX4_setThere rfl
theorem dX4_setThere_7 : decode cX4_setThere 7 = .ok (.aload_n 0, 1) := g_42 bX4_setThere rfl
theorem dX4_setThere_8 : decode cX4_setThere 8 = .ok (.getfield 49, 3) := g_180 bX4_setThere rfl
theorem dX4_setThere_11 : decode cX4_setThere 11 = .ok (.iconst (-1), 1) := g_2 bX4_setThere rfl
theorem dX4_setThere_12 : decode cX4_setThere 12 = .ok (.ixor, 1) := g_130 bX4_setThere rfl
theorem dX4_setThere_13 : decode cX4_setThere 13 = .ok (.iand, 1) := g_126 bX4_setThere rfl
theorem dX4_setThere_14 : decode cX4_setThere 14 = .ok (.ireturn, 1) := g_172 bX4_setThere rfl
theorem dX4_tellTo_0 : decode cX4_tellTo 0 = .ok (.aload_n 0, 1) := g_42 bX4_tellTo rfl
theorem dX4_tellTo_1 : decode cX4_tellTo 1 = .ok (.iload_n 2, 1) := g_28 bX4_tellTo rfl
theorem dX4_tellTo_2 : decode cX4_tellTo 2 = .ok (.iload_n 3, 1) := g_29 bX4_tellTo rfl
theorem dX4_tellTo_3 : decode cX4_tellTo 3 = .ok (.aload_n 0, 1) := g_42 bX4_tellTo rfl
theorem dX4_tellTo_4 : decode cX4_tellTo 4 = .ok (.iload_n 2, 1) := g_28 bX4_tellTo rfl
theorem dX4_tellTo_5 : decode cX4_tellTo 5 = .ok (.iload_n 3, 1) := g_29 bX4_tellTo rfl
theorem dX4_tellTo_6 : decode cX4_tellTo 6 = .ok (.invokevirtual 66, 3) := g_182 bX4_tellTo rfl
theorem dX4_tellTo_9 : decode cX4_tellTo 9 = .ok (.aload_n 0, 1) := g_42 bX4_tellTo rfl
theorem dX4_tellTo_10 : decode cX4_tellTo 10 = .ok (.iload_n 1, 1) := g_27 bX4_tellTo rfl
theorem dX4_tellTo_11 : decode cX4_tellTo 11 = .ok (.iload_n 2, 1) := g_28 bX4_tellTo rfl
theorem dX4_tellTo_12 : decode cX4_tellTo 12 = .ok (.iload_n 3, 1) := g_29 bX4_tellTo rfl
theorem dX4_tellTo_13 : decode cX4_tellTo 13 = .ok (.invokevirtual 101, 3) := g_182 bX4_tellTo rfl
theorem dX4_tellTo_16 : decode cX4_tellTo 16 = .ok (.iadd, 1) := g_96 bX4_tellTo rfl
theorem dX4_tellTo_17 : decode cX4_tellTo 17 = .ok (.invokevirtual 94, 3) := g_182 bX4_tellTo rfl
theorem dX4_tellTo_20 : decode cX4_tellTo 20 = .ok (.return_, 1) := g_177 bX4_tellTo rfl
theorem dX4_worthAmong_0 : decode cX4_worthAmong 0 = .ok (.iconst 0, 1) := g_3 bX4_worthAmong rfl
theorem dX4_worthAmong_1 : decode cX4_worthAmong 1 = .ok (.istore_n 2, 1) := g_61 bX4_worthAmong rfl
theorem dX4_worthAmong_2 : decode cX4_worthAmong 2 = .ok (.iconst 0, 1) := g_3 bX4_worthAmong rfl
theorem dX4_worthAmong_3 : decode cX4_worthAmong 3 = .ok (.istore_n 3, 1) := g_62 bX4_worthAmong rfl
theorem dX4_worthAmong_4 : decode cX4_worthAmong 4 = .ok (.iload_n 3, 1) := g_29 bX4_worthAmong rfl
theorem dX4_worthAmong_5 : decode cX4_worthAmong 5 = .ok (.aload_n 0, 1) := g_42 bX4_worthAmong rfl
theorem dX4_worthAmong_6 : decode cX4_worthAmong 6 = .ok (.getfield 40, 3) := g_180 bX4_worthAmong rfl
theorem dX4_worthAmong_9 : decode cX4_worthAmong 9 = .ok (.if_icmp .ge 25, 3) := g_162 25 bX4_worthAmong rfl rfl
theorem dX4_worthAmong_12 : decode cX4_worthAmong 12 = .ok (.iload_n 2, 1) := g_28 bX4_worthAmong rfl
theorem dX4_worthAmong_13 : decode cX4_worthAmong 13 = .ok (.aload_n 0, 1) := g_42 bX4_worthAmong rfl
theorem dX4_worthAmong_14 : decode cX4_worthAmong 14 = .ok (.getfield 15, 3) := g_180 bX4_worthAmong rfl
theorem dX4_worthAmong_17 : decode cX4_worthAmong 17 = .ok (.iload_n 3, 1) := g_29 bX4_worthAmong rfl
theorem dX4_worthAmong_18 : decode cX4_worthAmong 18 = .ok (.iaload, 1) := g_46 bX4_worthAmong rfl
theorem dX4_worthAmong_19 : decode cX4_worthAmong 19 = .ok (.aload_n 0, 1) := g_42 bX4_worthAmong rfl
theorem dX4_worthAmong_20 : decode cX4_worthAmong 20 = .ok (.iload_n 3, 1) := g_29 bX4_worthAmong rfl
theorem dX4_worthAmong_21 : decode cX4_worthAmong 21 = .ok (.iload_n 1, 1) := g_27 bX4_worthAmong rfl
theorem dX4_worthAmong_22 : decode cX4_worthAmong 22 = .ok (.invokevirtual 75, 3) := g_182 bX4_worthAmong rfl
theorem dX4_worthAmong_25 : decode cX4_worthAmong 25 = .ok (.imul, 1) := g_104 bX4_worthAmong rfl
theorem dX4_worthAmong_26 : decode cX4_worthAmong 26 = .ok (.iadd, 1) := g_96 bX4_worthAmong rfl
theorem dX4_worthAmong_27 : decode cX4_worthAmong 27 = .ok (.istore_n 2, 1) := g_61 bX4_worthAmong rfl
theorem dX4_worthAmong_28 : decode cX4_worthAmong 28 = .ok (.iinc 3 1, 3) := g_132 1 bX4_worthAmong rfl rfl
theorem dX4_worthAmong_31 : decode cX4_worthAmong 31 = .ok (.goto (-27), 3) := g_167 65509 bX4_worthAmong rfl rfl
theorem dX4_worthAmong_34 : decode cX4_worthAmong 34 = .ok (.iload_n 2, 1) := g_28 bX4_worthAmong rfl
theorem dX4_worthAmong_35 : decode cX4_worthAmong 35 = .ok (.ireturn, 1) := g_172 bX4_worthAmong rfl
theorem dX4_worthNow_0 : decode cX4_worthNow 0 = .ok (.aload_n 0, 1) := g_42 bX4_worthNow rfl
theorem dX4_worthNow_1 : decode cX4_worthNow 1 = .ok (.aload_n 0, 1) := g_42 bX4_worthNow rfl
theorem dX4_worthNow_2 : decode cX4_worthNow 2 = .ok (.invokevirtual 78, 3) := g_182 bX4_worthNow rfl
theorem dX4_worthNow_5 : decode cX4_worthNow 5 = .ok (.invokevirtual 82, 3) := g_182 bX4_worthNow rfl
theorem dX4_worthNow_8 : decode cX4_worthNow 8 = .ok (.ireturn, 1) := g_172 bX4_worthNow rfl
theorem dX4_wouldKnow_0 : decode cX4_wouldKnow 0 = .ok (.aload_n 0, 1) := g_42 bX4_wouldKnow rfl
theorem dX4_wouldKnow_1 : decode cX4_wouldKnow 1 = .ok (.getfield 22, 3) := g_180 bX4_wouldKnow rfl
theorem dX4_wouldKnow_4 : decode cX4_wouldKnow 4 = .ok (.iload_n 2, 1) := g_28 bX4_wouldKnow rfl
theorem dX4_wouldKnow_5 : decode cX4_wouldKnow 5 = .ok (.iaload, 1) := g_46 bX4_wouldKnow rfl
theorem dX4_wouldKnow_6 : decode cX4_wouldKnow 6 = .ok (.aload_n 0, 1) := g_42 bX4_wouldKnow rfl
theorem dX4_wouldKnow_7 : decode cX4_wouldKnow 7 = .ok (.getfield 28, 3) := g_180 bX4_wouldKnow rfl
theorem dX4_wouldKnow_10 : decode cX4_wouldKnow 10 = .ok (.iload_n 1, 1) := g_27 bX4_wouldKnow rfl
theorem dX4_wouldKnow_11 : decode cX4_wouldKnow 11 = .ok (.iaload, 1) := g_46 bX4_wouldKnow rfl
theorem dX4_wouldKnow_12 : decode cX4_wouldKnow 12 = .ok (.imul, 1) := g_104 bX4_wouldKnow rfl
theorem dX4_wouldKnow_13 : decode cX4_wouldKnow 13 = .ok (.bipush 10, 2) := g_16 10 bX4_wouldKnow rfl rfl
theorem dX4_wouldKnow_15 : decode cX4_wouldKnow 15 = .ok (.idiv, 1) := g_108 bX4_wouldKnow rfl
theorem dX4_wouldKnow_16 : decode cX4_wouldKnow 16 = .ok (.aload_n 0, 1) := g_42 bX4_wouldKnow rfl
theorem dX4_wouldKnow_17 : decode cX4_wouldKnow 17 = .ok (.iload_n 1, 1) := g_27 bX4_wouldKnow rfl
theorem dX4_wouldKnow_18 : decode cX4_wouldKnow 18 = .ok (.iload_n 2, 1) := g_28 bX4_wouldKnow rfl
theorem dX4_wouldKnow_19 : decode cX4_wouldKnow 19 = .ok (.invokevirtual 85, 3) := g_182 bX4_wouldKnow rfl
theorem dX4_wouldKnow_22 : decode cX4_wouldKnow 22 = .ok (.invokestatic 88, 3) := g_184 bX4_wouldKnow rfl
theorem dX4_wouldKnow_25 : decode cX4_wouldKnow 25 = .ok (.istore_n 3, 1) := g_62 bX4_wouldKnow rfl
theorem dX4_wouldKnow_26 : decode cX4_wouldKnow 26 = .ok (.iload_n 3, 1) := g_29 bX4_wouldKnow rfl
theorem dX4_wouldKnow_27 : decode cX4_wouldKnow 27 = .ok (.aload_n 0, 1) := g_42 bX4_wouldKnow rfl
theorem dX4_wouldKnow_28 : decode cX4_wouldKnow 28 = .ok (.iload_n 1, 1) := g_27 bX4_wouldKnow rfl
theorem dX4_wouldKnow_29 : decode cX4_wouldKnow 29 = .ok (.iload_n 2, 1) := g_28 bX4_wouldKnow rfl
theorem dX4_wouldKnow_30 : decode cX4_wouldKnow 30 = .ok (.invokevirtual 66, 3) := g_182 bX4_wouldKnow rfl
theorem dX4_wouldKnow_33 : decode cX4_wouldKnow 33 = .ok (.invokestatic 70, 3) := g_184 bX4_wouldKnow rfl
theorem dX4_wouldKnow_36 : decode cX4_wouldKnow 36 = .ok (.ireturn, 1) := g_172 bX4_wouldKnow rfl
theorem dX5_has_0 : decode cX5_has 0 = .ok (.iload_n 0, 1) := g_26 bX5_has rfl
theorem dX5_has_1 : decode cX5_has 1 = .ok (.iload_n 1, 1) := g_27 bX5_has rfl
theorem dX5_has_2 : decode cX5_has 2 = .ok (.ishr, 1) := g_122 bX5_has rfl
theorem dX5_has_3 : decode cX5_has 3 = .ok (.iconst 1, 1) := g_4 bX5_has rfl
theorem dX5_has_4 : decode cX5_has 4 = .ok (.iand, 1) := g_126 bX5_has rfl
theorem dX5_has_5 : decode cX5_has 5 = .ok (.ifCond .eq 7, 3) := g_153 7 bX5_has rfl rfl
theorem dX5_has_8 : decode cX5_has 8 = .ok (.iconst 1, 1) := g_4 bX5_has rfl
theorem dX5_has_9 : decode cX5_has 9 = .ok (.goto 4, 3) := g_167 4 bX5_has rfl rfl
theorem dX5_has_12 : decode cX5_has 12 = .ok (.iconst 0, 1) := g_3 bX5_has rfl
theorem dX5_has_13 : decode cX5_has 13 = .ok (.ireturn, 1) := g_172 bX5_has rfl
theorem dX5_setOfAll_0 : decode cX5_setOfAll 0 = .ok (.iconst 1, 1) := g_4 bX5_setOfAll rfl
theorem dX5_setOfAll_1 : decode cX5_setOfAll 1 = .ok (.iload_n 0, 1) := g_26 bX5_setOfAll rfl
theorem dX5_setOfAll_2 : decode cX5_setOfAll 2 = .ok (.ishl, 1) := g_120 bX5_setOfAll rfl
theorem dX5_setOfAll_3 : decode cX5_setOfAll 3 = .ok (.iconst 1, 1) := g_4 bX5_setOfAll rfl
theorem dX5_setOfAll_4 : decode cX5_setOfAll 4 = .ok (.isub, 1) := g_100 bX5_setOfAll rfl
theorem dX5_setOfAll_5 : decode cX5_setOfAll 5 = .ok (.ireturn, 1) := g_172 bX5_setOfAll rfl
theorem dX5_within_0 : decode cX5_within 0 = .ok (.lload_n 0, 1) := g_30 bX5_within rfl
theorem dX5_within_1 : decode cX5_within 1 = .ok (.lload_n 2, 1) := g_32 bX5_within rfl
theorem dX5_within_2 : decode cX5_within 2 = .ok (.lcmp, 1) := g_148 bX5_within rfl
theorem dX5_within_3 : decode cX5_within 3 = .ok (.ifCond .lt 14, 3) := g_155 14 bX5_within rfl rfl
theorem dX5_within_6 : decode cX5_within 6 = .ok (.lload_n 0, 1) := g_30 bX5_within rfl
theorem dX5_within_7 : decode cX5_within 7 = .ok (.lload 4, 2) := g_22 bX5_within rfl
theorem dX5_within_9 : decode cX5_within 9 = .ok (.lcmp, 1) := g_148 bX5_within rfl
theorem dX5_within_10 : decode cX5_within 10 = .ok (.ifCond .gt 7, 3) := g_157 7 bX5_within rfl rfl
theorem dX5_within_13 : decode cX5_within 13 = .ok (.iconst 1, 1) := g_4 bX5_within rfl
theorem dX5_within_14 : decode cX5_within 14 = .ok (.goto 4, 3) := g_167 4 bX5_within rfl rfl
theorem dX5_within_17 : decode cX5_within 17 = .ok (.iconst 0, 1) := g_3 bX5_within rfl
theorem dX5_within_18 : decode cX5_within 18 = .ok (.ireturn, 1) := g_172 bX5_within rfl
theorem dX4_addBook_0 : decode cX4_addBook 0 = .ok (.aload_n 0, 1) := g_42 bX4_addBook rfl
theorem dX4_addBook_1 : decode cX4_addBook 1 = .ok (.getfield 40, 3) := g_180 bX4_addBook rfl
theorem dX4_addBook_4 : decode cX4_addBook 4 = .ok (.istore_n 3, 1) := g_62 bX4_addBook rfl
theorem dX4_addBook_5 : decode cX4_addBook 5 = .ok (.aload_n 0, 1) := g_42 bX4_addBook rfl
theorem dX4_addBook_6 : decode cX4_addBook 6 = .ok (.getfield 15, 3) := g_180 bX4_addBook rfl
theorem dX4_addBook_9 : decode cX4_addBook 9 = .ok (.iload_n 3, 1) := g_29 bX4_addBook rfl
theorem dX4_addBook_10 : decode cX4_addBook 10 = .ok (.iload_n 1, 1) := g_27 bX4_addBook rfl
theorem dX4_addBook_11 : decode cX4_addBook 11 = .ok (.iastore, 1) := g_79 bX4_addBook rfl
theorem dX4_addBook_12 : decode cX4_addBook 12 = .ok (.aload_n 0, 1) := g_42 bX4_addBook rfl
theorem dX4_addBook_13 : decode cX4_addBook 13 = .ok (.getfield 19, 3) := g_180 bX4_addBook rfl
theorem dX4_addBook_16 : decode cX4_addBook 16 = .ok (.iload_n 3, 1) := g_29 bX4_addBook rfl
theorem dX4_addBook_17 : decode cX4_addBook 17 = .ok (.iload_n 2, 1) := g_28 bX4_addBook rfl
theorem dX4_addBook_18 : decode cX4_addBook 18 = .ok (.iastore, 1) := g_79 bX4_addBook rfl
theorem dX4_addBook_19 : decode cX4_addBook 19 = .ok (.aload_n 0, 1) := g_42 bX4_addBook rfl
theorem dX4_addBook_20 : decode cX4_addBook 20 = .ok (.getfield 22, 3) := g_180 bX4_addBook rfl
theorem dX4_addBook_23 : decode cX4_addBook 23 = .ok (.iload_n 3, 1) := g_29 bX4_addBook rfl
theorem dX4_addBook_24 : decode cX4_addBook 24 = .ok (.sipush 1000, 3) := g_17 1000 bX4_addBook rfl rfl
theorem dX4_addBook_27 : decode cX4_addBook 27 = .ok (.iastore, 1) := g_79 bX4_addBook rfl
theorem dX4_addBook_28 : decode cX4_addBook 28 = .ok (.aload_n 0, 1) := g_42 bX4_addBook rfl
theorem dX4_addBook_29 : decode cX4_addBook 29 = .ok (.dup, 1) := g_89 bX4_addBook rfl
theorem dX4_addBook_30 : decode cX4_addBook 30 = .ok (.getfield 40, 3) := g_180 bX4_addBook rfl
theorem dX4_addBook_33 : decode cX4_addBook 33 = .ok (.iconst 1, 1) := g_4 bX4_addBook rfl
theorem dX4_addBook_34 : decode cX4_addBook 34 = .ok (.iadd, 1) := g_96 bX4_addBook rfl
theorem dX4_addBook_35 : decode cX4_addBook 35 = .ok (.putfield 40, 3) := g_181 bX4_addBook rfl
theorem dX4_addBook_38 : decode cX4_addBook 38 = .ok (.iload_n 3, 1) := g_29 bX4_addBook rfl
theorem dX4_addBook_39 : decode cX4_addBook 39 = .ok (.ireturn, 1) := g_172 bX4_addBook rfl
theorem dX4_addOne_0 : decode cX4_addOne 0 = .ok (.aload_n 0, 1) := g_42 bX4_addOne rfl
theorem dX4_addOne_1 : decode cX4_addOne 1 = .ok (.getfield 43, 3) := g_180 bX4_addOne rfl
theorem dX4_addOne_4 : decode cX4_addOne 4 = .ok (.istore 5, 2) := g_54 bX4_addOne rfl
theorem dX4_addOne_6 : decode cX4_addOne 6 = .ok (.aload_n 0, 1) := g_42 bX4_addOne rfl
theorem dX4_addOne_7 : decode cX4_addOne 7 = .ok (.getfield 25, 3) := g_180 bX4_addOne rfl
theorem dX4_addOne_10 : decode cX4_addOne 10 = .ok (.iload 5, 2) := g_21 bX4_addOne rfl
theorem dX4_addOne_12 : decode cX4_addOne 12 = .ok (.iload_n 1, 1) := g_27 bX4_addOne rfl
theorem dX4_addOne_13 : decode cX4_addOne 13 = .ok (.iastore, 1) := g_79 bX4_addOne rfl
theorem dX4_addOne_14 : decode cX4_addOne 14 = .ok (.aload_n 0, 1) := g_42 bX4_addOne rfl
theorem dX4_addOne_15 : decode cX4_addOne 15 = .ok (.getfield 28, 3) := g_180 bX4_addOne rfl
theorem dX4_addOne_18 : decode cX4_addOne 18 = .ok (.iload 5, 2) := g_21 bX4_addOne rfl
theorem dX4_addOne_20 : decode cX4_addOne 20 = .ok (.iload_n 2, 1) := g_28 bX4_addOne rfl
theorem dX4_addOne_21 : decode cX4_addOne 21 = .ok (.iastore, 1) := g_79 bX4_addOne rfl
theorem dX4_addOne_22 : decode cX4_addOne 22 = .ok (.aload_n 0, 1) := g_42 bX4_addOne rfl
theorem dX4_addOne_23 : decode cX4_addOne 23 = .ok (.getfield 31, 3) := g_180 bX4_addOne rfl
theorem dX4_addOne_26 : decode cX4_addOne 26 = .ok (.iload 5, 2) := g_21 bX4_addOne rfl
theorem dX4_addOne_28 : decode cX4_addOne 28 = .ok (.iload_n 3, 1) := g_29 bX4_addOne rfl
theorem dX4_addOne_29 : decode cX4_addOne 29 = .ok (.iastore, 1) := g_79 bX4_addOne rfl
theorem dX4_addOne_30 : decode cX4_addOne 30 = .ok (.aload_n 0, 1) := g_42 bX4_addOne rfl
theorem dX4_addOne_31 : decode cX4_addOne 31 = .ok (.getfield 34, 3) := g_180 bX4_addOne rfl
theorem dX4_addOne_34 : decode cX4_addOne 34 = .ok (.iload 5, 2) := g_21 bX4_addOne rfl
theorem dX4_addOne_36 : decode cX4_addOne 36 = .ok (.iload 4, 2) := g_21 bX4_addOne rfl
theorem dX4_addOne_38 : decode cX4_addOne 38 = .ok (.iastore, 1) := g_79 bX4_addOne rfl
theorem dX4_addOne_39 : decode cX4_addOne 39 = .ok (.aload_n 0, 1) := g_42 bX4_addOne rfl
theorem dX4_addOne_40 : decode cX4_addOne 40 = .ok (.dup, 1) := g_89 bX4_addOne rfl
theorem dX4_addOne_41 : decode cX4_addOne 41 = .ok (.getfield 43, 3) := g_180 bX4_addOne rfl
theorem dX4_addOne_44 : decode cX4_addOne 44 = .ok (.iconst 1, 1) := g_4 bX4_addOne rfl
theorem dX4_addOne_45 : decode cX4_addOne 45 = .ok (.iadd, 1) := g_96 bX4_addOne rfl
theorem dX4_addOne_46 : decode cX4_addOne 46 = .ok (.putfield 43, 3) := g_181 bX4_addOne rfl
theorem dX4_addOne_49 : decode cX4_addOne 49 = .ok (.iload 5, 2) := g_21 bX4_addOne rfl
theorem dX4_addOne_51 : decode cX4_addOne 51 = .ok (.ireturn, 1) := g_172 bX4_addOne rfl
theorem dX4_bestReader_0 : decode cX4_bestReader 0 = .ok (.iconst (-1), 1) := g_2 bX4_bestReader rfl
theorem dX4_bestReader_1 : decode cX4_bestReader 1 = .ok (.istore_n 2, 1) := g_61 bX4_bestReader rfl
theorem dX4_bestReader_2 : decode cX4_bestReader 2 = .ok (.iconst 0, 1) := g_3 bX4_bestReader rfl
theorem dX4_bestReader_3 : decode cX4_bestReader 3 = .ok (.istore_n 3, 1) := g_62 bX4_bestReader rfl
theorem dX4_bestReader_4 : decode cX4_bestReader 4 = .ok (.iconst 0, 1) := g_3 bX4_bestReader rfl
theorem dX4_bestReader_5 : decode cX4_bestReader 5 = .ok (.istore 4, 2) := g_54 bX4_bestReader rfl
theorem dX4_bestReader_7 : decode cX4_bestReader 7 = .ok (.iload 4, 2) := g_21 bX4_bestReader rfl
theorem dX4_bestReader_9 : decode cX4_bestReader 9 = .ok (.aload_n 0, 1) := g_42 bX4_bestReader rfl
theorem dX4_bestReader_10 : decode cX4_bestReader 10 = .ok (.getfield 43, 3) := g_180 bX4_bestReader rfl
theorem dX4_bestReader_13 : decode cX4_bestReader 13 = .ok (.if_icmp .ge 79, 3) := g_162 79 bX4_bestReader rfl rfl
theorem dX4_bestReader_16 : decode cX4_bestReader 16 = .ok (.aload_n 0, 1) := g_42 bX4_bestReader rfl
theorem dX4_bestReader_17 : decode cX4_bestReader 17 = .ok (.getfield 49, 3) := g_180 bX4_bestReader rfl
theorem dX4_bestReader_20 : decode cX4_bestReader 20 = .ok (.iload 4, 2) := g_21 bX4_bestReader rfl
theorem dX4_bestReader_22 : decode cX4_bestReader 22 = .ok (.invokestatic 62, 3) := g_184 bX4_bestReader rfl
theorem dX4_bestReader_25 : decode cX4_bestReader 25 = .ok (.ifCond .eq 7, 3) := g_153 7 bX4_bestReader rfl rfl
theorem dX4_bestReader_28 : decode cX4_bestReader 28 = .ok (.iconst (-1), 1) := g_2 bX4_bestReader rfl
theorem dX4_bestReader_29 : decode cX4_bestReader 29 = .ok (.goto 10, 3) := g_167 10 bX4_bestReader rfl rfl
theorem dX4_bestReader_32 : decode cX4_bestReader 32 = .ok (.aload_n 0, 1) := g_42 bX4_bestReader rfl
theorem dX4_bestReader_33 : decode cX4_bestReader 33 = .ok (.iload 4, 2) := g_21 bX4_bestReader rfl
theorem dX4_bestReader_35 : decode cX4_bestReader 35 = .ok (.iload_n 1, 1) := g_27 bX4_bestReader rfl
theorem dX4_bestReader_36 : decode cX4_bestReader 36 = .ok (.invokevirtual 91, 3) := g_182 bX4_bestReader rfl
theorem dX4_bestReader_39 : decode cX4_bestReader 39 = .ok (.istore 5, 2) := g_54 bX4_bestReader rfl
theorem dX4_bestReader_41 : decode cX4_bestReader 41 = .ok (.iload 5, 2) := g_21 bX4_bestReader rfl
theorem dX4_bestReader_43 : decode cX4_bestReader 43 = .ok (.iconst (-1), 1) := g_2 bX4_bestReader rfl
theorem dX4_bestReader_44 : decode cX4_bestReader 44 = .ok (.if_icmp .eq 42, 3) := g_159 42 bX4_bestReader rfl rfl
theorem dX4_bestReader_47 : decode cX4_bestReader 47 = .ok (.iload_n 2, 1) := g_28 bX4_bestReader rfl
theorem dX4_bestReader_48 : decode cX4_bestReader 48 = .ok (.iconst (-1), 1) := g_2 bX4_bestReader rfl
theorem dX4_bestReader_49 : decode cX4_bestReader 49 = .ok (.if_icmp .eq 31, 3) := g_159 31 bX4_bestReader rfl rfl
theorem dX4_bestReader_52 : decode cX4_bestReader 52 = .ok (.iload 5, 2) := g_21 bX4_bestReader rfl
theorem dX4_bestReader_54 : decode cX4_bestReader 54 = .ok (.iload_n 3, 1) := g_29 bX4_bestReader rfl
theorem dX4_bestReader_55 : decode cX4_bestReader 55 = .ok (.if_icmp .gt 25, 3) := g_163 25 bX4_bestReader rfl rfl
theorem dX4_bestReader_58 : decode cX4_bestReader 58 = .ok (.iload 5, 2) := g_21 bX4_bestReader rfl
theorem dX4_bestReader_60 : decode cX4_bestReader 60 = .ok (.iload_n 3, 1) := g_29 bX4_bestReader rfl
theorem dX4_bestReader_61 : decode cX4_bestReader 61 = .ok (.if_icmp .ne 25, 3) := g_160 25 bX4_bestReader rfl rfl
theorem dX4_bestReader_64 : decode cX4_bestReader 64 = .ok (.aload_n 0, 1) := g_42 bX4_bestReader rfl
theorem dX4_bestReader_65 : decode cX4_bestReader 65 = .ok (.getfield 25, 3) := g_180 bX4_bestReader rfl
theorem dX4_bestReader_68 : decode cX4_bestReader 68 = .ok (.iload 4, 2) := g_21 bX4_bestReader rfl
theorem dX4_bestReader_70 : decode cX4_bestReader 70 = .ok (.iaload, 1) := g_46 bX4_bestReader rfl
theorem dX4_bestReader_71 : decode cX4_bestReader 71 = .ok (.aload_n 0, 1) := g_42 bX4_bestReader rfl
theorem dX4_bestReader_72 : decode cX4_bestReader 72 = .ok (.getfield 25, 3) := g_180 bX4_bestReader rfl
theorem dX4_bestReader_75 : decode cX4_bestReader 75 = .ok (.iload_n 2, 1) := g_28 bX4_bestReader rfl
theorem dX4_bestReader_76 : decode cX4_bestReader 76 = .ok (.iaload, 1) := g_46 bX4_bestReader rfl
theorem dX4_bestReader_77 : decode cX4_bestReader 77 = .ok (.if_icmp .ge 9, 3) := g_162 9 bX4_bestReader rfl rfl
theorem dX4_bestReader_80 : decode cX4_bestReader 80 = .ok (.iload 4, 2) := g_21 bX4_bestReader rfl
theorem dX4_bestReader_82 : decode cX4_bestReader 82 = .ok (.istore_n 2, 1) := g_61 bX4_bestReader rfl
theorem dX4_bestReader_83 : decode cX4_bestReader 83 = .ok (.iload 5, 2) := g_21 bX4_bestReader rfl
theorem dX4_bestReader_85 : decode cX4_bestReader 85 = .ok (.istore_n 3, 1) := g_62 bX4_bestReader rfl
theorem dX4_bestReader_86 : decode cX4_bestReader 86 = .ok (.iinc 4 1, 3) := g_132 1 bX4_bestReader rfl rfl
theorem dX4_bestReader_89 : decode cX4_bestReader 89 = .ok (.goto (-82), 3) := g_167 65454 bX4_bestReader rfl rfl
theorem dX4_bestReader_92 : decode cX4_bestReader 92 = .ok (.iload_n 2, 1) := g_28 bX4_bestReader rfl
theorem dX4_bestReader_93 : decode cX4_bestReader 93 = .ok (.ireturn, 1) := g_172 bX4_bestReader rfl
theorem dX4_dearestUnread_0 : decode cX4_dearestUnread 0 = .ok (.iconst (-1), 1) := g_2 bX4_dearestUnread rfl
theorem dX4_dearestUnread_1 : decode cX4_dearestUnread 1 = .ok (.istore_n 1, 1) := g_60 bX4_dearestUnread rfl
theorem dX4_dearestUnread_2 : decode cX4_dearestUnread 2 = .ok (.iconst 0, 1) := g_3 bX4_dearestUnread rfl
theorem dX4_dearestUnread_3 : decode cX4_dearestUnread 3 = .ok (.istore_n 2, 1) := g_61 bX4_dearestUnread rfl
theorem dX4_dearestUnread_4 : decode cX4_dearestUnread 4 = .ok (.iload_n 2, 1) := g_28 bX4_dearestUnread rfl
theorem dX4_dearestUnread_5 : decode cX4_dearestUnread 5 = .ok (.aload_n 0, 1) := g_42 bX4_dearestUnread rfl
theorem dX4_dearestUnread_6 : decode cX4_dearestUnread 6 = .ok (.getfield 40, 3) := g_180 bX4_dearestUnread rfl
theorem dX4_dearestUnread_9 : decode cX4_dearestUnread 9 = .ok (.if_icmp .ge 42, 3) := g_162 42 bX4_dearestUnread rfl rfl
theorem dX4_dearestUnread_12 : decode cX4_dearestUnread 12 = .ok (.aload_n 0, 1) := g_42 bX4_dearestUnread rfl
theorem dX4_dearestUnread_13 : decode cX4_dearestUnread 13 = .ok (.getfield 46, 3) := g_180 bX4_dearestUnread rfl
theorem dX4_dearestUnread_16 : decode cX4_dearestUnread 16 = .ok (.iload_n 2, 1) := g_28 bX4_dearestUnread rfl
theorem dX4_dearestUnread_17 : decode cX4_dearestUnread 17 = .ok (.invokestatic 62, 3) := g_184 bX4_dearestUnread rfl
theorem dX4_dearestUnread_20 : decode cX4_dearestUnread 20 = .ok (.ifCond .ne 25, 3) := g_154 25 bX4_dearestUnread rfl rfl
theorem dX4_dearestUnread_23 : decode cX4_dearestUnread 23 = .ok (.iload_n 1, 1) := g_27 bX4_dearestUnread rfl
theorem dX4_dearestUnread_24 : decode cX4_dearestUnread 24 = .ok (.iconst (-1), 1) := g_2 bX4_dearestUnread rfl
theorem dX4_dearestUnread_25 : decode cX4_dearestUnread 25 = .ok (.if_icmp .eq 18, 3) := g_159 18 bX4_dearestUnread rfl rfl
theorem dX4_dearestUnread_28 : decode cX4_dearestUnread 28 = .ok (.aload_n 0, 1) := g_42 bX4_dearestUnread rfl
theorem dX4_dearestUnread_29 : decode cX4_dearestUnread 29 = .ok (.getfield 15, 3) := g_180 bX4_dearestUnread rfl
theorem dX4_dearestUnread_32 : decode cX4_dearestUnread 32 = .ok (.iload_n 2, 1) := g_28 bX4_dearestUnread rfl
theorem dX4_dearestUnread_33 : decode cX4_dearestUnread 33 = .ok (.iaload, 1) := g_46 bX4_dearestUnread rfl
theorem dX4_dearestUnread_34 : decode cX4_dearestUnread 34 = .ok (.aload_n 0, 1) := g_42 bX4_dearestUnread rfl
theorem dX4_dearestUnread_35 : decode cX4_dearestUnread 35 = .ok (.getfield 15, 3) := g_180 bX4_dearestUnread rfl
theorem dX4_dearestUnread_38 : decode cX4_dearestUnread 38 = .ok (.iload_n 1, 1) := g_27 bX4_dearestUnread rfl
theorem dX4_dearestUnread_39 : decode cX4_dearestUnread 39 = .ok (.iaload, 1) := g_46 bX4_dearestUnread rfl
theorem dX4_dearestUnread_40 : decode cX4_dearestUnread 40 = .ok (.if_icmp .le 5, 3) := g_164 5 bX4_dearestUnread rfl rfl
theorem dX4_dearestUnread_43 : decode cX4_dearestUnread 43 = .ok (.iload_n 2, 1) := g_28 bX4_dearestUnread rfl
theorem dX4_dearestUnread_44 : decode cX4_dearestUnread 44 = .ok (.istore_n 1, 1) := g_60 bX4_dearestUnread rfl
theorem dX4_dearestUnread_45 : decode cX4_dearestUnread 45 = .ok (.iinc 2 1, 3) := g_132 1 bX4_dearestUnread rfl rfl
theorem dX4_dearestUnread_48 : decode cX4_dearestUnread 48 = .ok (.goto (-44), 3) := g_167 65492 bX4_dearestUnread rfl rfl
theorem dX4_dearestUnread_51 : decode cX4_dearestUnread 51 = .ok (.iload_n 1, 1) := g_27 bX4_dearestUnread rfl
theorem dX4_dearestUnread_52 : decode cX4_dearestUnread 52 = .ok (.ireturn, 1) := g_172 bX4_dearestUnread rfl
theorem dX4_isBook_0 : decode cX4_isBook 0 = .ok (.iload_n 1, 1) := g_27 bX4_isBook rfl
theorem dX4_isBook_1 : decode cX4_isBook 1 = .ok (.ifCond .lt 15, 3) := g_155 15 bX4_isBook rfl rfl
theorem dX4_isBook_4 : decode cX4_isBook 4 = .ok (.iload_n 1, 1) := g_27 bX4_isBook rfl
theorem dX4_isBook_5 : decode cX4_isBook 5 = .ok (.aload_n 0, 1) := g_42 bX4_isBook rfl
theorem dX4_isBook_6 : decode cX4_isBook 6 = .ok (.getfield 40, 3) := g_180 bX4_isBook rfl
theorem dX4_isBook_9 : decode cX4_isBook 9 = .ok (.if_icmp .ge 7, 3) := g_162 7 bX4_isBook rfl rfl
theorem dX4_isBook_12 : decode cX4_isBook 12 = .ok (.iconst 1, 1) := g_4 bX4_isBook rfl
theorem dX4_isBook_13 : decode cX4_isBook 13 = .ok (.goto 4, 3) := g_167 4 bX4_isBook rfl rfl
theorem dX4_isBook_16 : decode cX4_isBook 16 = .ok (.iconst 0, 1) := g_3 bX4_isBook rfl
theorem dX4_isBook_17 : decode cX4_isBook 17 = .ok (.ireturn, 1) := g_172 bX4_isBook rfl
theorem dX4_isOne_0 : decode cX4_isOne 0 = .ok (.iload_n 1, 1) := g_27 bX4_isOne rfl
theorem dX4_isOne_1 : decode cX4_isOne 1 = .ok (.ifCond .lt 15, 3) := g_155 15 bX4_isOne rfl rfl
theorem dX4_isOne_4 : decode cX4_isOne 4 = .ok (.iload_n 1, 1) := g_27 bX4_isOne rfl
theorem dX4_isOne_5 : decode cX4_isOne 5 = .ok (.aload_n 0, 1) := g_42 bX4_isOne rfl
theorem dX4_isOne_6 : decode cX4_isOne 6 = .ok (.getfield 43, 3) := g_180 bX4_isOne rfl
theorem dX4_isOne_9 : decode cX4_isOne 9 = .ok (.if_icmp .ge 7, 3) := g_162 7 bX4_isOne rfl rfl
theorem dX4_isOne_12 : decode cX4_isOne 12 = .ok (.iconst 1, 1) := g_4 bX4_isOne rfl
theorem dX4_isOne_13 : decode cX4_isOne 13 = .ok (.goto 4, 3) := g_167 4 bX4_isOne rfl rfl
theorem dX4_isOne_16 : decode cX4_isOne 16 = .ok (.iconst 0, 1) := g_3 bX4_isOne rfl
theorem dX4_isOne_17 : decode cX4_isOne 17 = .ok (.ireturn, 1) := g_172 bX4_isOne rfl
theorem dX4_readBy_0 : decode cX4_readBy 0 = .ok (.aload_n 0, 1) := g_42 bX4_readBy rfl
theorem dX4_readBy_1 : decode cX4_readBy 1 = .ok (.iload_n 1, 1) := g_27 bX4_readBy rfl
theorem dX4_readBy_2 : decode cX4_readBy 2 = .ok (.iload_n 2, 1) := g_28 bX4_readBy rfl
theorem dX4_readBy_3 : decode cX4_readBy 3 = .ok (.aload_n 0, 1) := g_42 bX4_readBy rfl
theorem dX4_readBy_4 : decode cX4_readBy 4 = .ok (.iload_n 1, 1) := g_27 bX4_readBy rfl
theorem dX4_readBy_5 : decode cX4_readBy 5 = .ok (.iload_n 2, 1) := g_28 bX4_readBy rfl
theorem dX4_readBy_6 : decode cX4_readBy 6 = .ok (.invokevirtual 91, 3) := g_182 bX4_readBy rfl
theorem dX4_readBy_9 : decode cX4_readBy 9 = .ok (.invokevirtual 94, 3) := g_182 bX4_readBy rfl
theorem dX4_readBy_12 : decode cX4_readBy 12 = .ok (.aload_n 0, 1) := g_42 bX4_readBy rfl
theorem dX4_readBy_13 : decode cX4_readBy 13 = .ok (.dup, 1) := g_89 bX4_readBy rfl
theorem dX4_readBy_14 : decode cX4_readBy 14 = .ok (.getfield 46, 3) := g_180 bX4_readBy rfl
theorem dX4_readBy_17 : decode cX4_readBy 17 = .ok (.iconst 1, 1) := g_4 bX4_readBy rfl
theorem dX4_readBy_18 : decode cX4_readBy 18 = .ok (.iload_n 2, 1) := g_28 bX4_readBy rfl
theorem dX4_readBy_19 : decode cX4_readBy 19 = .ok (.ishl, 1) := g_120 bX4_readBy rfl
theorem dX4_readBy_20 : decode cX4_readBy 20 = .ok (.ior, 1) := g_128 bX4_readBy rfl
theorem dX4_readBy_21 : decode cX4_readBy 21 = .ok (.putfield 46, 3) := g_181 bX4_readBy rfl
theorem dX4_readBy_24 : decode cX4_readBy 24 = .ok (.return_, 1) := g_177 bX4_readBy rfl
theorem dX4_writeBy_0 : decode cX4_writeBy 0 = .ok (.aload_n 0, 1) := g_42 bX4_writeBy rfl
theorem dX4_writeBy_1 : decode cX4_writeBy 1 = .ok (.dup, 1) := g_89 bX4_writeBy rfl
theorem dX4_writeBy_2 : decode cX4_writeBy 2 = .ok (.getfield 46, 3) := g_180 bX4_writeBy rfl
theorem dX4_writeBy_5 : decode cX4_writeBy 5 = .ok (.iconst 1, 1) := g_4 bX4_writeBy rfl
theorem dX4_writeBy_6 : decode cX4_writeBy 6 = .ok (.iload_n 2, 1) := g_28 bX4_writeBy rfl
theorem dX4_writeBy_7 : decode cX4_writeBy 7 = .ok (.ishl, 1) := g_120 bX4_writeBy rfl
theorem dX4_writeBy_8 : decode cX4_writeBy 8 = .ok (.iconst (-1), 1) := g_2 bX4_writeBy rfl
theorem dX4_writeBy_9 : decode cX4_writeBy 9 = .ok (.ixor, 1) := g_130 bX4_writeBy rfl
theorem dX4_writeBy_10 : decode cX4_writeBy 10 = .ok (.iand, 1) := g_126 bX4_writeBy rfl
theorem dX4_writeBy_11 : decode cX4_writeBy 11 = .ok (.putfield 46, 3) := g_181 bX4_writeBy rfl
theorem dX4_writeBy_14 : decode cX4_writeBy 14 = .ok (.aload_n 0, 1) := g_42 bX4_writeBy rfl
theorem dX4_writeBy_15 : decode cX4_writeBy 15 = .ok (.getfield 22, 3) := g_180 bX4_writeBy rfl
theorem dX4_writeBy_18 : decode cX4_writeBy 18 = .ok (.iload_n 2, 1) := g_28 bX4_writeBy rfl
theorem dX4_writeBy_19 : decode cX4_writeBy 19 = .ok (.aload_n 0, 1) := g_42 bX4_writeBy rfl
theorem dX4_writeBy_20 : decode cX4_writeBy 20 = .ok (.iload_n 1, 1) := g_27 bX4_writeBy rfl
theorem dX4_writeBy_21 : decode cX4_writeBy 21 = .ok (.iload_n 2, 1) := g_28 bX4_writeBy rfl
theorem dX4_writeBy_22 : decode cX4_writeBy 22 = .ok (.invokevirtual 66, 3) := g_182 bX4_writeBy rfl
theorem dX4_writeBy_25 : decode cX4_writeBy 25 = .ok (.iastore, 1) := g_79 bX4_writeBy rfl
theorem dX4_writeBy_26 : decode cX4_writeBy 26 = .ok (.aload_n 0, 1) := g_42 bX4_writeBy rfl
theorem dX4_writeBy_27 : decode cX4_writeBy 27 = .ok (.getfield 22, 3) := g_180 bX4_writeBy rfl
theorem dX4_writeBy_30 : decode cX4_writeBy 30 = .ok (.iload_n 2, 1) := g_28 bX4_writeBy rfl
theorem dX4_writeBy_31 : decode cX4_writeBy 31 = .ok (.iaload, 1) := g_46 bX4_writeBy rfl
theorem dX4_writeBy_32 : decode cX4_writeBy 32 = .ok (.ireturn, 1) := g_172 bX4_writeBy rfl
theorem dX4_youngestBut_0 : decode cX4_youngestBut 0 = .ok (.iconst (-1), 1) := g_2 bX4_youngestBut rfl
theorem dX4_youngestBut_1 : decode cX4_youngestBut 1 = .ok (.istore_n 2, 1) := g_61 bX4_youngestBut rfl
theorem dX4_youngestBut_2 : decode cX4_youngestBut 2 = .ok (.iconst 0, 1) := g_3 bX4_youngestBut rfl
theorem dX4_youngestBut_3 : decode cX4_youngestBut 3 = .ok (.istore_n 3, 1) := g_62 bX4_youngestBut rfl
theorem dX4_youngestBut_4 : decode cX4_youngestBut 4 = .ok (.iload_n 3, 1) := g_29 bX4_youngestBut rfl
theorem dX4_youngestBut_5 : decode cX4_youngestBut 5 = .ok (.aload_n 0, 1) := g_42 bX4_youngestBut rfl
theorem dX4_youngestBut_6 : decode cX4_youngestBut 6 = .ok (.getfield 43, 3) := g_180 bX4_youngestBut rfl
theorem dX4_youngestBut_9 : decode cX4_youngestBut 9 = .ok (.if_icmp .ge 47, 3) := g_162 47 bX4_youngestBut rfl rfl
theorem dX4_youngestBut_12 : decode cX4_youngestBut 12 = .ok (.iload_n 3, 1) := g_29 bX4_youngestBut rfl
theorem dX4_youngestBut_13 : decode cX4_youngestBut 13 = .ok (.iload_n 1, 1) := g_27 bX4_youngestBut rfl
theorem dX4_youngestBut_14 : decode cX4_youngestBut 14 = .ok (.if_icmp .eq 36, 3) := g_159 36 bX4_youngestBut rfl rfl
theorem dX4_youngestBut_17 : decode cX4_youngestBut 17 = .ok (.aload_n 0, 1) := g_42 bX4_youngestBut rfl
theorem dX4_youngestBut_18 : decode cX4_youngestBut 18 = .ok (.getfield 49, 3) := g_180 bX4_youngestBut rfl
theorem dX4_youngestBut_21 : decode cX4_youngestBut 21 = .ok (.iload_n 3, 1) := g_29 bX4_youngestBut rfl
theorem dX4_youngestBut_22 : decode cX4_youngestBut 22 = .ok (.invokestatic 62, 3) := g_184 bX4_youngestBut rfl
theorem dX4_youngestBut_25 : decode cX4_youngestBut 25 = .ok (.ifCond .ne 25, 3) := g_154 25 bX4_youngestBut rfl rfl
theorem dX4_youngestBut_28 : decode cX4_youngestBut 28 = .ok (.iload_n 2, 1) := g_28 bX4_youngestBut rfl
theorem dX4_youngestBut_29 : decode cX4_youngestBut 29 = .ok (.iconst (-1), 1) := g_2 bX4_youngestBut rfl
theorem dX4_youngestBut_30 : decode cX4_youngestBut 30 = .ok (.if_icmp .eq 18, 3) := g_159 18 bX4_youngestBut rfl rfl
theorem dX4_youngestBut_33 : decode cX4_youngestBut 33 = .ok (.aload_n 0, 1) := g_42 bX4_youngestBut rfl
theorem dX4_youngestBut_34 : decode cX4_youngestBut 34 = .ok (.getfield 25, 3) := g_180 bX4_youngestBut rfl
theorem dX4_youngestBut_37 : decode cX4_youngestBut 37 = .ok (.iload_n 3, 1) := g_29 bX4_youngestBut rfl
theorem dX4_youngestBut_38 : decode cX4_youngestBut 38 = .ok (.iaload, 1) := g_46 bX4_youngestBut rfl
theorem dX4_youngestBut_39 : decode cX4_youngestBut 39 = .ok (.aload_n 0, 1) := g_42 bX4_youngestBut rfl
theorem dX4_youngestBut_40 : decode cX4_youngestBut 40 = .ok (.getfield 25, 3) := g_180 bX4_youngestBut rfl
theorem dX4_youngestBut_43 : decode cX4_youngestBut 43 = .ok (.iload_n 2, 1) := g_28 bX4_youngestBut rfl
theorem dX4_youngestBut_44 : decode cX4_youngestBut 44 = .ok (.iaload, 1) := g_46 bX4_youngestBut rfl
theorem dX4_youngestBut_45 : decode cX4_youngestBut 45 = .ok (.if_icmp .ge 5, 3) := g_162 5 bX4_youngestBut rfl rfl
theorem dX4_youngestBut_48 : decode cX4_youngestBut 48 = .ok (.iload_n 3, 1) := g_29 bX4_youngestBut rfl
theorem dX4_youngestBut_49 : decode cX4_youngestBut 49 = .ok (.istore_n 2, 1) := g_61 bX4_youngestBut rfl
theorem dX4_youngestBut_50 : decode cX4_youngestBut 50 = .ok (.iinc 3 1, 3) := g_132 1 bX4_youngestBut rfl rfl
theorem dX4_youngestBut_53 : decode cX4_youngestBut 53 = .ok (.goto (-49), 3) := g_167 65487 bX4_youngestBut rfl rfl
theorem dX4_youngestBut_56 : decode cX4_youngestBut 56 = .ok (.iload_n 2, 1) := g_28 bX4_youngestBut rfl
theorem dX4_youngestBut_57 : decode cX4_youngestBut 57 = .ok (.ireturn, 1) := g_172 bX4_youngestBut rfl
theorem dJ6_bitCount_0f7a4_0 : decode cJ6_bitCount_0f7a4 0 = .ok (.iload_n 0, 1) := g_26 bJ6_bitCount_0f7a4 rfl
theorem dJ6_bitCount_0f7a4_1 : decode cJ6_bitCount_0f7a4 1 = .ok (.iload_n 0, 1) := g_26 bJ6_bitCount_0f7a4 rfl
theorem dJ6_bitCount_0f7a4_2 : decode cJ6_bitCount_0f7a4 2 = .ok (.iconst 1, 1) := g_4 bJ6_bitCount_0f7a4 rfl
theorem dJ6_bitCount_0f7a4_3 : decode cJ6_bitCount_0f7a4 3 = .ok (.iushr, 1) := g_124 bJ6_bitCount_0f7a4 rfl
theorem dJ6_bitCount_0f7a4_4 : decode cJ6_bitCount_0f7a4 4 = .ok (.ldc_w 265, 3) := g_19 bJ6_bitCount_0f7a4 rfl
theorem dJ6_bitCount_0f7a4_7 : decode cJ6_bitCount_0f7a4 7 = .ok (.iand, 1) := g_126 bJ6_bitCount_0f7a4 rfl
theorem dJ6_bitCount_0f7a4_8 : decode cJ6_bitCount_0f7a4 8 = .ok (.isub, 1) := g_100 bJ6_bitCount_0f7a4 rfl
theorem dJ6_bitCount_0f7a4_9 : decode cJ6_bitCount_0f7a4 9 = .ok (.istore_n 0, 1) := g_59 bJ6_bitCount_0f7a4 rfl
theorem dJ6_bitCount_0f7a4_10 : decode cJ6_bitCount_0f7a4 10 = .ok (.iload_n 0, 1) := g_26 bJ6_bitCount_0f7a4 rfl
theorem dJ6_bitCount_0f7a4_11 : decode cJ6_bitCount_0f7a4 11 = .ok (.ldc_w 266, 3) := g_19 bJ6_bitCount_0f7a4 rfl
theorem dJ6_bitCount_0f7a4_14 : decode cJ6_bitCount_0f7a4 14 = .ok (.iand, 1) := g_126 bJ6_bitCount_0f7a4 rfl
theorem dJ6_bitCount_0f7a4_15 : decode cJ6_bitCount_0f7a4 15 = .ok (.iload_n 0, 1) := g_26 bJ6_bitCount_0f7a4 rfl
theorem dJ6_bitCount_0f7a4_16 : decode cJ6_bitCount_0f7a4 16 = .ok (.iconst 2, 1) := g_5 bJ6_bitCount_0f7a4 rfl
theorem dJ6_bitCount_0f7a4_17 : decode cJ6_bitCount_0f7a4 17 = .ok (.iushr, 1) := g_124 bJ6_bitCount_0f7a4 rfl
theorem dJ6_bitCount_0f7a4_18 : decode cJ6_bitCount_0f7a4 18 = .ok (.ldc_w 266, 3) := g_19 bJ6_bitCount_0f7a4 rfl
theorem dJ6_bitCount_0f7a4_21 : decode cJ6_bitCount_0f7a4 21 = .ok (.iand, 1) := g_126 bJ6_bitCount_0f7a4 rfl
theorem dJ6_bitCount_0f7a4_22 : decode cJ6_bitCount_0f7a4 22 = .ok (.iadd, 1) := g_96 bJ6_bitCount_0f7a4 rfl
theorem dJ6_bitCount_0f7a4_23 : decode cJ6_bitCount_0f7a4 23 = .ok (.istore_n 0, 1) := g_59 bJ6_bitCount_0f7a4 rfl
theorem dJ6_bitCount_0f7a4_24 : decode cJ6_bitCount_0f7a4 24 = .ok (.iload_n 0, 1) := g_26 bJ6_bitCount_0f7a4 rfl
theorem dJ6_bitCount_0f7a4_25 : decode cJ6_bitCount_0f7a4 25 = .ok (.iload_n 0, 1) := g_26 bJ6_bitCount_0f7a4 rfl
theorem dJ6_bitCount_0f7a4_26 : decode cJ6_bitCount_0f7a4 26 = .ok (.iconst 4, 1) := g_7 bJ6_bitCount_0f7a4 rfl
theorem dJ6_bitCount_0f7a4_27 : decode cJ6_bitCount_0f7a4 27 = .ok (.iushr, 1) := g_124 bJ6_bitCount_0f7a4 rfl
theorem dJ6_bitCount_0f7a4_28 : decode cJ6_bitCount_0f7a4 28 = .ok (.iadd, 1) := g_96 bJ6_bitCount_0f7a4 rfl
theorem dJ6_bitCount_0f7a4_29 : decode cJ6_bitCount_0f7a4 29 = .ok (.ldc_w 267, 3) := g_19 bJ6_bitCount_0f7a4 rfl
theorem dJ6_bitCount_0f7a4_32 : decode cJ6_bitCount_0f7a4 32 = .ok (.iand, 1) := g_126 bJ6_bitCount_0f7a4 rfl
theorem dJ6_bitCount_0f7a4_33 : decode cJ6_bitCount_0f7a4 33 = .ok (.istore_n 0, 1) := g_59 bJ6_bitCount_0f7a4 rfl
theorem dJ6_bitCount_0f7a4_34 : decode cJ6_bitCount_0f7a4 34 = .ok (.iload_n 0, 1) := g_26 bJ6_bitCount_0f7a4 rfl
theorem dJ6_bitCount_0f7a4_35 : decode cJ6_bitCount_0f7a4 35 = .ok (.iload_n 0, 1) := g_26 bJ6_bitCount_0f7a4 rfl
theorem dJ6_bitCount_0f7a4_36 : decode cJ6_bitCount_0f7a4 36 = .ok (.bipush 8, 2) := g_16 8 bJ6_bitCount_0f7a4 rfl rfl
theorem dJ6_bitCount_0f7a4_38 : decode cJ6_bitCount_0f7a4 38 = .ok (.iushr, 1) := g_124 bJ6_bitCount_0f7a4 rfl
theorem dJ6_bitCount_0f7a4_39 : decode cJ6_bitCount_0f7a4 39 = .ok (.iadd, 1) := g_96 bJ6_bitCount_0f7a4 rfl
theorem dJ6_bitCount_0f7a4_40 : decode cJ6_bitCount_0f7a4 40 = .ok (.istore_n 0, 1) := g_59 bJ6_bitCount_0f7a4 rfl
theorem dJ6_bitCount_0f7a4_41 : decode cJ6_bitCount_0f7a4 41 = .ok (.iload_n 0, 1) := g_26 bJ6_bitCount_0f7a4 rfl
theorem dJ6_bitCount_0f7a4_42 : decode cJ6_bitCount_0f7a4 42 = .ok (.iload_n 0, 1) := g_26 bJ6_bitCount_0f7a4 rfl
theorem dJ6_bitCount_0f7a4_43 : decode cJ6_bitCount_0f7a4 43 = .ok (.bipush 16, 2) := g_16 16 bJ6_bitCount_0f7a4 rfl rfl
theorem dJ6_bitCount_0f7a4_45 : decode cJ6_bitCount_0f7a4 45 = .ok (.iushr, 1) := g_124 bJ6_bitCount_0f7a4 rfl
theorem dJ6_bitCount_0f7a4_46 : decode cJ6_bitCount_0f7a4 46 = .ok (.iadd, 1) := g_96 bJ6_bitCount_0f7a4 rfl
theorem dJ6_bitCount_0f7a4_47 : decode cJ6_bitCount_0f7a4 47 = .ok (.istore_n 0, 1) := g_59 bJ6_bitCount_0f7a4 rfl
theorem dJ6_bitCount_0f7a4_48 : decode cJ6_bitCount_0f7a4 48 = .ok (.iload_n 0, 1) := g_26 bJ6_bitCount_0f7a4 rfl
theorem dJ6_bitCount_0f7a4_49 : decode cJ6_bitCount_0f7a4 49 = .ok (.bipush 63, 2) := g_16 63 bJ6_bitCount_0f7a4 rfl rfl
theorem dJ6_bitCount_0f7a4_51 : decode cJ6_bitCount_0f7a4 51 = .ok (.iand, 1) := g_126 bJ6_bitCount_0f7a4 rfl
theorem dJ6_bitCount_0f7a4_52 : decode cJ6_bitCount_0f7a4 52 = .ok (.ireturn, 1) := g_172 bJ6_bitCount_0f7a4 rfl
theorem dX4_allNeededBy_0 : decode cX4_allNeededBy 0 = .ok (.aload_n 0, 1) := g_42 bX4_allNeededBy rfl
theorem dX4_allNeededBy_1 : decode cX4_allNeededBy 1 = .ok (.getfield 19, 3) := g_180 bX4_allNeededBy rfl
theorem dX4_allNeededBy_4 : decode cX4_allNeededBy 4 = .ok (.iload_n 1, 1) := g_27 bX4_allNeededBy rfl
theorem dX4_allNeededBy_5 : decode cX4_allNeededBy 5 = .ok (.iaload, 1) := g_46 bX4_allNeededBy rfl
theorem dX4_allNeededBy_6 : decode cX4_allNeededBy 6 = .ok (.istore_n 2, 1) := g_61 bX4_allNeededBy rfl
theorem dX4_allNeededBy_7 : decode cX4_allNeededBy 7 = .ok (.iload_n 1, 1) := g_27 bX4_allNeededBy rfl
theorem dX4_allNeededBy_8 : decode cX4_allNeededBy 8 = .ok (.iconst 1, 1) := g_4 bX4_allNeededBy rfl
theorem dX4_allNeededBy_9 : decode cX4_allNeededBy 9 = .ok (.isub, 1) := g_100 bX4_allNeededBy rfl
theorem dX4_allNeededBy_10 : decode cX4_allNeededBy 10 = .ok (.istore_n 3, 1) := g_62 bX4_allNeededBy rfl
theorem dX4_allNeededBy_11 : decode cX4_allNeededBy 11 = .ok (.iload_n 3, 1) := g_29 bX4_allNeededBy rfl
theorem dX4_allNeededBy_12 : decode cX4_allNeededBy 12 = .ok (.ifCond .lt 26, 3) := g_155 26 bX4_allNeededBy rfl rfl
theorem dX4_allNeededBy_15 : decode cX4_allNeededBy 15 = .ok (.iload_n 2, 1) := g_28 bX4_allNeededBy rfl
theorem dX4_allNeededBy_16 : decode cX4_allNeededBy 16 = .ok (.iload_n 3, 1) := g_29 bX4_allNeededBy rfl
theorem dX4_allNeededBy_17 : decode cX4_allNeededBy 17 = .ok (.invokestatic 62, 3) := g_184 bX4_allNeededBy rfl
theorem dX4_allNeededBy_20 : decode cX4_allNeededBy 20 = .ok (.ifCond .eq 12, 3) := g_153 12 bX4_allNeededBy rfl rfl
theorem dX4_allNeededBy_23 : decode cX4_allNeededBy 23 = .ok (.iload_n 2, 1) := g_28 bX4_allNeededBy rfl
theorem dX4_allNeededBy_24 : decode cX4_allNeededBy 24 = .ok (.aload_n 0, 1) := g_42 bX4_allNeededBy rfl
theorem dX4_allNeededBy_25 : decode cX4_allNeededBy 25 = .ok (.getfield 19, 3) := g_180 bX4_allNeededBy rfl
theorem dX4_allNeededBy_28 : decode cX4_allNeededBy 28 = .ok (.iload_n 3, 1) := g_29 bX4_allNeededBy rfl
theorem dX4_allNeededBy_29 : decode cX4_allNeededBy 29 = .ok (.iaload, 1) := g_46 bX4_allNeededBy rfl
theorem dX4_allNeededBy_30 : decode cX4_allNeededBy 30 = .ok (.ior, 1) := g_128 bX4_allNeededBy rfl
theorem dX4_allNeededBy_31 : decode cX4_allNeededBy 31 = .ok (.istore_n 2, 1) := g_61 bX4_allNeededBy rfl
theorem dX4_allNeededBy_32 : decode cX4_allNeededBy 32 = .ok (.iinc 3 (-1), 3) := g_132 255 bX4_allNeededBy rfl rfl
theorem dX4_allNeededBy_35 : decode cX4_allNeededBy 35 = .ok (.goto (-24), 3) := g_167 65512 bX4_allNeededBy rfl rfl
theorem dX4_allNeededBy_38 : decode cX4_allNeededBy 38 = .ok (.iload_n 2, 1) := g_28 bX4_allNeededBy rfl
theorem dX4_allNeededBy_39 : decode cX4_allNeededBy 39 = .ok (.ireturn, 1) := g_172 bX4_allNeededBy rfl
theorem dX4_allThatNeed_0 : decode cX4_allThatNeed 0 = .ok (.iconst 0, 1) := g_3 bX4_allThatNeed rfl
theorem dX4_allThatNeed_1 : decode cX4_allThatNeed 1 = .ok (.istore_n 2, 1) := g_61 bX4_allThatNeed rfl
theorem dX4_allThatNeed_2 : decode cX4_allThatNeed 2 = .ok (.iload_n 1, 1) := g_27 bX4_allThatNeed rfl
theorem dX4_allThatNeed_3 : decode cX4_allThatNeed 3 = .ok (.iconst 1, 1) := g_4 bX4_allThatNeed rfl
theorem dX4_allThatNeed_4 : decode cX4_allThatNeed 4 = .ok (.iadd, 1) := g_96 bX4_allThatNeed rfl
theorem dX4_allThatNeed_5 : decode cX4_allThatNeed 5 = .ok (.istore_n 3, 1) := g_62 bX4_allThatNeed rfl
theorem dX4_allThatNeed_6 : decode cX4_allThatNeed 6 = .ok (.iload_n 3, 1) := g_29 bX4_allThatNeed rfl
theorem dX4_allThatNeed_7 : decode cX4_allThatNeed 7 = .ok (.aload_n 0, 1) := g_42 bX4_allThatNeed rfl
theorem dX4_allThatNeed_8 : decode cX4_allThatNeed 8 = .ok (.getfield 40, 3) := g_180 bX4_allThatNeed rfl
theorem dX4_allThatNeed_11 : decode cX4_allThatNeed 11 = .ok (.if_icmp .ge 27, 3) := g_162 27 bX4_allThatNeed rfl rfl
theorem dX4_allThatNeed_14 : decode cX4_allThatNeed 14 = .ok (.aload_n 0, 1) := g_42 bX4_allThatNeed rfl
theorem dX4_allThatNeed_15 : decode cX4_allThatNeed 15 = .ok (.iload_n 3, 1) := g_29 bX4_allThatNeed rfl
theorem dX4_allThatNeed_16 : decode cX4_allThatNeed 16 = .ok (.invokevirtual 108, 3) := g_182 bX4_allThatNeed rfl
theorem dX4_allThatNeed_19 : decode cX4_allThatNeed 19 = .ok (.iload_n 1, 1) := g_27 bX4_allThatNeed rfl
theorem dX4_allThatNeed_20 : decode cX4_allThatNeed 20 = .ok (.invokestatic 62, 3) := g_184 bX4_allThatNeed rfl
theorem dX4_allThatNeed_23 : decode cX4_allThatNeed 23 = .ok (.ifCond .eq 9, 3) := g_153 9 bX4_allThatNeed rfl rfl
theorem dX4_allThatNeed_26 : decode cX4_allThatNeed 26 = .ok (.iload_n 2, 1) := g_28 bX4_allThatNeed rfl
theorem dX4_allThatNeed_27 : decode cX4_allThatNeed 27 = .ok (.iconst 1, 1) := g_4 bX4_allThatNeed rfl
theorem dX4_allThatNeed_28 : decode cX4_allThatNeed 28 = .ok (.iload_n 3, 1) := g_29 bX4_allThatNeed rfl
theorem dX4_allThatNeed_29 : decode cX4_allThatNeed 29 = .ok (.ishl, 1) := g_120 bX4_allThatNeed rfl
theorem dX4_allThatNeed_30 : decode cX4_allThatNeed 30 = .ok (.ior, 1) := g_128 bX4_allThatNeed rfl
theorem dX4_allThatNeed_31 : decode cX4_allThatNeed 31 = .ok (.istore_n 2, 1) := g_61 bX4_allThatNeed rfl
theorem dX4_allThatNeed_32 : decode cX4_allThatNeed 32 = .ok (.iinc 3 1, 3) := g_132 1 bX4_allThatNeed rfl rfl
theorem dX4_allThatNeed_35 : decode cX4_allThatNeed 35 = .ok (.goto (-29), 3) := g_167 65507 bX4_allThatNeed rfl rfl
theorem dX4_allThatNeed_38 : decode cX4_allThatNeed 38 = .ok (.iload_n 2, 1) := g_28 bX4_allThatNeed rfl
theorem dX4_allThatNeed_39 : decode cX4_allThatNeed 39 = .ok (.ireturn, 1) := g_172 bX4_allThatNeed rfl
theorem dX4_drawBelow20_0 : decode cX4_drawBelow20 0 = .ok (.aload_n 0, 1) := g_42 bX4_drawBelow20 rfl
theorem dX4_drawBelow20_1 : decode cX4_drawBelow20 1 = .ok (.aload_n 0, 1) := g_42 bX4_drawBelow20 rfl
theorem dX4_drawBelow20_2 : decode cX4_drawBelow20 2 = .ok (.getfield 9, 3) := g_180 bX4_drawBelow20 rfl
theorem dX4_drawBelow20_5 : decode cX4_drawBelow20 5 = .ok (.ldc 123, 2) := g_18 bX4_drawBelow20 rfl
theorem dX4_drawBelow20_7 : decode cX4_drawBelow20 7 = .ok (.imul, 1) := g_104 bX4_drawBelow20 rfl
theorem dX4_drawBelow20_8 : decode cX4_drawBelow20 8 = .ok (.sipush 12345, 3) := g_17 12345 bX4_drawBelow20 rfl rfl
theorem dX4_drawBelow20_11 : decode cX4_drawBelow20 11 = .ok (.iadd, 1) := g_96 bX4_drawBelow20 rfl
theorem dX4_drawBelow20_12 : decode cX4_drawBelow20 12 = .ok (.putfield 9, 3) := g_181 bX4_drawBelow20 rfl
theorem dX4_drawBelow20_15 : decode cX4_drawBelow20 15 = .ok (.aload_n 0, 1) := g_42 bX4_drawBelow20 rfl
theorem dX4_drawBelow20_16 : decode cX4_drawBelow20 16 = .ok (.getfield 9, 3) := g_180 bX4_drawBelow20 rfl
theorem dX4_drawBelow20_19 : decode cX4_drawBelow20 19 = .ok (.bipush 16, 2) := g_16 16 bX4_drawBelow20 rfl rfl
theorem dX4_drawBelow20_21 : decode cX4_drawBelow20 21 = .ok (.iushr, 1) := g_124 bX4_drawBelow20 rfl
theorem dX4_drawBelow20_22 : decode cX4_drawBelow20 22 = .ok (.bipush 20, 2) := g_16 20 bX4_drawBelow20 rfl rfl
theorem dX4_drawBelow20_24 : decode cX4_drawBelow20 24 = .ok (.irem, 1) := g_112 bX4_drawBelow20 rfl
theorem dX4_drawBelow20_25 : decode cX4_drawBelow20 25 = .ok (.ireturn, 1) := g_172 bX4_drawBelow20 rfl
theorem dX4_forget_0 : decode cX4_forget 0 = .ok (.aload_n 0, 1) := g_42 bX4_forget rfl
theorem dX4_forget_1 : decode cX4_forget 1 = .ok (.getfield 49, 3) := g_180 bX4_forget rfl
theorem dX4_forget_4 : decode cX4_forget 4 = .ok (.iload_n 1, 1) := g_27 bX4_forget rfl
theorem dX4_forget_5 : decode cX4_forget 5 = .ok (.invokestatic 62, 3) := g_184 bX4_forget rfl
theorem dX4_forget_8 : decode cX4_forget 8 = .ok (.ifCond .eq 7, 3) := g_153 7 bX4_forget rfl rfl
theorem dX4_forget_11 : decode cX4_forget 11 = .ok (.iconst 0, 1) := g_3 bX4_forget rfl
theorem dX4_forget_12 : decode cX4_forget 12 = .ok (.goto 12, 3) := g_167 12 bX4_forget rfl rfl
theorem dX4_forget_15 : decode cX4_forget 15 = .ok (.bipush 90, 2) := g_16 90 bX4_forget rfl rfl
theorem dX4_forget_17 : decode cX4_forget 17 = .ok (.aload_n 0, 1) := g_42 bX4_forget rfl
theorem dX4_forget_18 : decode cX4_forget 18 = .ok (.getfield 31, 3) := g_180 bX4_forget rfl
theorem dX4_forget_21 : decode cX4_forget 21 = .ok (.iload_n 1, 1) := g_27 bX4_forget rfl
theorem dX4_forget_22 : decode cX4_forget 22 = .ok (.iaload, 1) := g_46 bX4_forget rfl
theorem dX4_forget_23 : decode cX4_forget 23 = .ok (.iadd, 1) := g_96 bX4_forget rfl
theorem dX4_forget_24 : decode cX4_forget 24 = .ok (.istore_n 2, 1) := g_61 bX4_forget rfl
theorem dX4_forget_25 : decode cX4_forget 25 = .ok (.iconst 0, 1) := g_3 bX4_forget rfl
theorem dX4_forget_26 : decode cX4_forget 26 = .ok (.istore_n 3, 1) := g_62 bX4_forget rfl
theorem dX4_forget_27 : decode cX4_forget 27 = .ok (.iload_n 3, 1) := g_29 bX4_forget rfl
theorem dX4_forget_28 : decode cX4_forget 28 = .ok (.aload_n 0, 1) := g_42 bX4_forget rfl
theorem dX4_forget_29 : decode cX4_forget 29 = .ok (.getfield 40, 3) := g_180 bX4_forget rfl
theorem dX4_forget_32 : decode cX4_forget 32 = .ok (.if_icmp .ge 26, 3) := g_162 26 bX4_forget rfl rfl
theorem dX4_forget_35 : decode cX4_forget 35 = .ok (.aload_n 0, 1) := g_42 bX4_forget rfl
theorem dX4_forget_36 : decode cX4_forget 36 = .ok (.iload_n 1, 1) := g_27 bX4_forget rfl
theorem dX4_forget_37 : decode cX4_forget 37 = .ok (.iload_n 3, 1) := g_29 bX4_forget rfl
theorem dX4_forget_38 : decode cX4_forget 38 = .ok (.aload_n 0, 1) := g_42 bX4_forget rfl
theorem dX4_forget_39 : decode cX4_forget 39 = .ok (.iload_n 1, 1) := g_27 bX4_forget rfl
theorem dX4_forget_40 : decode cX4_forget 40 = .ok (.iload_n 3, 1) := g_29 bX4_forget rfl
theorem dX4_forget_41 : decode cX4_forget 41 = .ok (.invokevirtual 66, 3) := g_182 bX4_forget rfl
theorem dX4_forget_44 : decode cX4_forget 44 = .ok (.iload_n 2, 1) := g_28 bX4_forget rfl
theorem dX4_forget_45 : decode cX4_forget 45 = .ok (.imul, 1) := g_104 bX4_forget rfl
theorem dX4_forget_46 : decode cX4_forget 46 = .ok (.bipush 100, 2) := g_16 100 bX4_forget rfl rfl
theorem dX4_forget_48 : decode cX4_forget 48 = .ok (.idiv, 1) := g_108 bX4_forget rfl
theorem dX4_forget_49 : decode cX4_forget 49 = .ok (.invokevirtual 94, 3) := g_182 bX4_forget rfl
theorem dX4_forget_52 : decode cX4_forget 52 = .ok (.iinc 3 1, 3) := g_132 1 bX4_forget rfl rfl
theorem dX4_forget_55 : decode cX4_forget 55 = .ok (.goto (-28), 3) := g_167 65508 bX4_forget rfl rfl
theorem dX4_forget_58 : decode cX4_forget 58 = .ok (.return_, 1) := g_177 bX4_forget rfl
theorem dX4_gainByReading_0 : decode cX4_gainByReading 0 = .ok (.aload_n 0, 1) := g_42 bX4_gainByReading rfl
theorem dX4_gainByReading_1 : decode cX4_gainByReading 1 = .ok (.iload_n 1, 1) := g_27 bX4_gainByReading rfl
theorem dX4_gainByReading_2 : decode cX4_gainByReading 2 = .ok (.invokevirtual 105, 3) := g_182 bX4_gainByReading rfl
theorem dX4_gainByReading_5 : decode cX4_gainByReading 5 = .ok (.istore_n 2, 1) := g_61 bX4_gainByReading rfl
theorem dX4_gainByReading_6 : decode cX4_gainByReading 6 = .ok (.iload_n 2, 1) := g_28 bX4_gainByReading rfl
theorem dX4_gainByReading_7 : decode cX4_gainByReading 7 = .ok (.iconst (-1), 1) := g_2 bX4_gainByReading rfl
theorem dX4_gainByReading_8 : decode cX4_gainByReading 8 = .ok (.if_icmp .ne 7, 3) := g_160 7 bX4_gainByReading rfl rfl
theorem dX4_gainByReading_11 : decode cX4_gainByReading 11 = .ok (.iconst 0, 1) := g_3 bX4_gainByReading rfl
theorem dX4_gainByReading_12 : decode cX4_gainByReading 12 = .ok (.goto 26, 3) := g_167 26 bX4_gainByReading rfl rfl
theorem dX4_gainByReading_15 : decode cX4_gainByReading 15 = .ok (.aload_n 0, 1) := g_42 bX4_gainByReading rfl
theorem dX4_gainByReading_16 : decode cX4_gainByReading 16 = .ok (.getfield 15, 3) := g_180 bX4_gainByReading rfl
theorem dX4_gainByReading_19 : decode cX4_gainByReading 19 = .ok (.iload_n 1, 1) := g_27 bX4_gainByReading rfl
theorem dX4_gainByReading_20 : decode cX4_gainByReading 20 = .ok (.iaload, 1) := g_46 bX4_gainByReading rfl
theorem dX4_gainByReading_21 : decode cX4_gainByReading 21 = .ok (.aload_n 0, 1) := g_42 bX4_gainByReading rfl
theorem dX4_gainByReading_22 : decode cX4_gainByReading 22 = .ok (.iload_n 2, 1) := g_28 bX4_gainByReading rfl
theorem dX4_gainByReading_23 : decode cX4_gainByReading 23 = .ok (.iload_n 1, 1) := g_27 bX4_gainByReading rfl
theorem dX4_gainByReading_24 : decode cX4_gainByReading 24 = .ok (.invokevirtual 91, 3) := g_182 bX4_gainByReading rfl
theorem dX4_gainByReading_27 : decode cX4_gainByReading 27 = .ok (.aload_n 0, 1) := g_42 bX4_gainByReading rfl
theorem dX4_gainByReading_28 : decode cX4_gainByReading 28 = .ok (.iload_n 1, 1) := g_27 bX4_gainByReading rfl
theorem dX4_gainByReading_29 : decode cX4_gainByReading 29 = .ok (.aload_n 0, 1) := g_42 bX4_gainByReading rfl
theorem dX4_gainByReading_30 : decode cX4_gainByReading 30 = .ok (.invokevirtual 78, 3) := g_182 bX4_gainByReading rfl
theorem dX4_gainByReading_33 : decode cX4_gainByReading 33 = .ok (.invokevirtual 75, 3) := g_182 bX4_gainByReading rfl
theorem dX4_gainByReading_36 : decode cX4_gainByReading 36 = .ok (.isub, 1) := g_100 bX4_gainByReading rfl
theorem dX4_gainByReading_37 : decode cX4_gainByReading 37 = .ok (.imul, 1) := g_104 bX4_gainByReading rfl
theorem dX4_gainByReading_38 : decode cX4_gainByReading 38 = .ok (.ireturn, 1) := g_172 bX4_gainByReading rfl
theorem dX4_unreadAt_0 : decode cX4_unreadAt 0 = .ok (.iconst 0, 1) := g_3 bX4_unreadAt rfl
theorem dX4_unreadAt_1 : decode cX4_unreadAt 1 = .ok (.istore_n 2, 1) := g_61 bX4_unreadAt rfl
theorem dX4_unreadAt_2 : decode cX4_unreadAt 2 = .ok (.iconst 0, 1) := g_3 bX4_unreadAt rfl
theorem dX4_unreadAt_3 : decode cX4_unreadAt 3 = .ok (.istore_n 3, 1) := g_62 bX4_unreadAt rfl
theorem dX4_unreadAt_4 : decode cX4_unreadAt 4 = .ok (.iload_n 3, 1) := g_29 bX4_unreadAt rfl
theorem dX4_unreadAt_5 : decode cX4_unreadAt 5 = .ok (.aload_n 0, 1) := g_42 bX4_unreadAt rfl
theorem dX4_unreadAt_6 : decode cX4_unreadAt 6 = .ok (.getfield 40, 3) := g_180 bX4_unreadAt rfl
theorem dX4_unreadAt_9 : decode cX4_unreadAt 9 = .ok (.if_icmp .ge 30, 3) := g_162 30 bX4_unreadAt rfl rfl
theorem dX4_unreadAt_12 : decode cX4_unreadAt 12 = .ok (.aload_n 0, 1) := g_42 bX4_unreadAt rfl
theorem dX4_unreadAt_13 : decode cX4_unreadAt 13 = .ok (.getfield 46, 3) := g_180 bX4_unreadAt rfl
theorem dX4_unreadAt_16 : decode cX4_unreadAt 16 = .ok (.iload_n 3, 1) := g_29 bX4_unreadAt rfl
theorem dX4_unreadAt_17 : decode cX4_unreadAt 17 = .ok (.invokestatic 62, 3) := g_184 bX4_unreadAt rfl
theorem dX4_unreadAt_20 : decode cX4_unreadAt 20 = .ok (.ifCond .ne 13, 3) := g_154 13 bX4_unreadAt rfl rfl
theorem dX4_unreadAt_23 : decode cX4_unreadAt 23 = .ok (.iload_n 2, 1) := g_28 bX4_unreadAt rfl
theorem dX4_unreadAt_24 : decode cX4_unreadAt 24 = .ok (.iload_n 1, 1) := g_27 bX4_unreadAt rfl
theorem dX4_unreadAt_25 : decode cX4_unreadAt 25 = .ok (.if_icmp .ne 5, 3) := g_160 5 bX4_unreadAt rfl rfl
theorem dX4_unreadAt_28 : decode cX4_unreadAt 28 = .ok (.iload_n 3, 1) := g_29 bX4_unreadAt rfl
theorem dX4_unreadAt_29 : decode cX4_unreadAt 29 = .ok (.ireturn, 1) := g_172 bX4_unreadAt rfl
theorem dX4_unreadAt_30 : decode cX4_unreadAt 30 = .ok (.iinc 2 1, 3) := g_132 1 bX4_unreadAt rfl rfl
theorem dX4_unreadAt_33 : decode cX4_unreadAt 33 = .ok (.iinc 3 1, 3) := g_132 1 bX4_unreadAt rfl rfl
theorem dX4_unreadAt_36 : decode cX4_unreadAt 36 = .ok (.goto (-32), 3) := g_167 65504 bX4_unreadAt rfl rfl
theorem dX4_unreadAt_39 : decode cX4_unreadAt 39 = .ok (.iconst (-1), 1) := g_2 bX4_unreadAt rfl
theorem dX4_unreadAt_40 : decode cX4_unreadAt 40 = .ok (.ireturn, 1) := g_172 bX4_unreadAt rfl
theorem dX4_become_0 : decode cX4_become 0 = .ok (.aload_n 0, 1) := g_42 bX4_become rfl
theorem dX4_become_1 : decode cX4_become 1 = .ok (.aload_n 1, 1) := g_43 bX4_become rfl
theorem dX4_become_2 : decode cX4_become 2 = .ok (.getfield 40, 3) := g_180 bX4_become rfl
theorem dX4_become_5 : decode cX4_become 5 = .ok (.putfield 40, 3) := g_181 bX4_become rfl
theorem dX4_become_8 : decode cX4_become 8 = .ok (.aload_n 0, 1) := g_42 bX4_become rfl
theorem dX4_become_9 : decode cX4_become 9 = .ok (.aload_n 1, 1) := g_43 bX4_become rfl
theorem dX4_become_10 : decode cX4_become 10 = .ok (.getfield 43, 3) := g_180 bX4_become rfl
theorem dX4_become_13 : decode cX4_become 13 = .ok (.putfield 43, 3) := g_181 bX4_become rfl
theorem dX4_become_16 : decode cX4_become 16 = .ok (.aload_n 0, 1) := g_42 bX4_become rfl
theorem dX4_become_17 : decode cX4_become 17 = .ok (.aload_n 1, 1) := g_43 bX4_become rfl
theorem dX4_become_18 : decode cX4_become 18 = .ok (.getfield 46, 3) := g_180 bX4_become rfl
theorem dX4_become_21 : decode cX4_become 21 = .ok (.putfield 46, 3) := g_181 bX4_become rfl
theorem dX4_become_24 : decode cX4_become 24 = .ok (.aload_n 0, 1) := g_42 bX4_become rfl
theorem dX4_become_25 : decode cX4_become 25 = .ok (.aload_n 1, 1) := g_43 bX4_become rfl
theorem dX4_become_26 : decode cX4_become 26 = .ok (.getfield 49, 3) := g_180 bX4_become rfl
theorem dX4_become_29 : decode cX4_become 29 = .ok (.putfield 49, 3) := g_181 bX4_become rfl
theorem dX4_become_32 : decode cX4_become 32 = .ok (.aload_n 0, 1) := g_42 bX4_become rfl
theorem dX4_become_33 : decode cX4_become 33 = .ok (.aload_n 1, 1) := g_43 bX4_become rfl
theorem dX4_become_34 : decode cX4_become 34 = .ok (.getfield 9, 3) := g_180 bX4_become rfl
theorem dX4_become_37 : decode cX4_become 37 = .ok (.putfield 9, 3) := g_181 bX4_become rfl
theorem dX4_become_40 : decode cX4_become 40 = .ok (.aload_n 1, 1) := g_43 bX4_become rfl
theorem dX4_become_41 : decode cX4_become 41 = .ok (.getfield 15, 3) := g_180 bX4_become rfl
theorem dX4_become_44 : decode cX4_become 44 = .ok (.iconst 0, 1) := g_3 bX4_become rfl
theorem dX4_become_45 : decode cX4_become 45 = .ok (.aload_n 0, 1) := g_42 bX4_become rfl
theorem dX4_become_46 : decode cX4_become 46 = .ok (.getfield 15, 3) := g_180 bX4_become rfl
theorem dX4_become_49 : decode cX4_become 49 = .ok (.iconst 0, 1) := g_3 bX4_become rfl
theorem dX4_become_50 : decode cX4_become 50 = .ok (.bipush 8, 2) := g_16 8 bX4_become rfl rfl
theorem dX4_become_52 : decode cX4_become 52 = .ok (.invokestatic 52, 3) := g_184 bX4_become rfl
theorem dX4_become_55 : decode cX4_become 55 = .ok (.aload_n 1, 1) := g_43 bX4_become rfl
theorem dX4_become_56 : decode cX4_become 56 = .ok (.getfield 19, 3) := g_180 bX4_become rfl
theorem dX4_become_59 : decode cX4_become 59 = .ok (.iconst 0, 1) := g_3 bX4_become rfl
theorem dX4_become_60 : decode cX4_become 60 = .ok (.aload_n 0, 1) := g_42 bX4_become rfl
theorem dX4_become_61 : decode cX4_become 61 = .ok (.getfield 19, 3) := g_180 bX4_become rfl
theorem dX4_become_64 : decode cX4_become 64 = .ok (.iconst 0, 1) := g_3 bX4_become rfl
theorem dX4_become_65 : decode cX4_become 65 = .ok (.bipush 8, 2) := g_16 8 bX4_become rfl rfl
theorem dX4_become_67 : decode cX4_become 67 = .ok (.invokestatic 52, 3) := g_184 bX4_become rfl
theorem dX4_become_70 : decode cX4_become 70 = .ok (.aload_n 1, 1) := g_43 bX4_become rfl
theorem dX4_become_71 : decode cX4_become 71 = .ok (.getfield 22, 3) := g_180 bX4_become rfl
theorem dX4_become_74 : decode cX4_become 74 = .ok (.iconst 0, 1) := g_3 bX4_become rfl
theorem dX4_become_75 : decode cX4_become 75 = .ok (.aload_n 0, 1) := g_42 bX4_become rfl
theorem dX4_become_76 : decode cX4_become 76 = .ok (.getfield 22, 3) := g_180 bX4_become rfl
theorem dX4_become_79 : decode cX4_become 79 = .ok (.iconst 0, 1) := g_3 bX4_become rfl
theorem dX4_become_80 : decode cX4_become 80 = .ok (.bipush 8, 2) := g_16 8 bX4_become rfl rfl
theorem dX4_become_82 : decode cX4_become 82 = .ok (.invokestatic 52, 3) := g_184 bX4_become rfl
theorem dX4_become_85 : decode cX4_become 85 = .ok (.aload_n 1, 1) := g_43 bX4_become rfl
theorem dX4_become_86 : decode cX4_become 86 = .ok (.getfield 25, 3) := g_180 bX4_become rfl
theorem dX4_become_89 : decode cX4_become 89 = .ok (.iconst 0, 1) := g_3 bX4_become rfl
theorem dX4_become_90 : decode cX4_become 90 = .ok (.aload_n 0, 1) := g_42 bX4_become rfl
theorem dX4_become_91 : decode cX4_become 91 = .ok (.getfield 25, 3) := g_180 bX4_become rfl
theorem dX4_become_94 : decode cX4_become 94 = .ok (.iconst 0, 1) := g_3 bX4_become rfl
theorem dX4_become_95 : decode cX4_become 95 = .ok (.bipush 8, 2) := g_16 8 bX4_become rfl rfl
theorem dX4_become_97 : decode cX4_become 97 = .ok (.invokestatic 52, 3) := g_184 bX4_become rfl
theorem dX4_become_100 : decode cX4_become 100 = .ok (.aload_n 1, 1) := g_43 bX4_become rfl
theorem dX4_become_101 : decode cX4_become 101 = .ok (.getfield 28, 3) := g_180 bX4_become rfl
theorem dX4_become_104 : decode cX4_become 104 = .ok (.iconst 0, 1) := g_3 bX4_become rfl
theorem dX4_become_105 : decode cX4_become 105 = .ok (.aload_n 0, 1) := g_42 bX4_become rfl
theorem dX4_become_106 : decode cX4_become 106 = .ok (.getfield 28, 3) := g_180 bX4_become rfl
theorem dX4_become_109 : decode cX4_become 109 = .ok (.iconst 0, 1) := g_3 bX4_become rfl
theorem dX4_become_110 : decode cX4_become 110 = .ok (.bipush 8, 2) := g_16 8 bX4_become rfl rfl
theorem dX4_become_112 : decode cX4_become 112 = .ok (.invokestatic 52, 3) := g_184 bX4_become rfl
theorem dX4_become_115 : decode cX4_become 115 = .ok (.aload_n 1, 1) := g_43 bX4_become rfl
theorem dX4_become_116 : decode cX4_become 116 = .ok (.getfield 31, 3) := g_180 bX4_become rfl
theorem dX4_become_119 : decode cX4_become 119 = .ok (.iconst 0, 1) := g_3 bX4_become rfl
theorem dX4_become_120 : decode cX4_become 120 = .ok (.aload_n 0, 1) := g_42 bX4_become rfl
theorem dX4_become_121 : decode cX4_become 121 = .ok (.getfield 31, 3) := g_180 bX4_become rfl
theorem dX4_become_124 : decode cX4_become 124 = .ok (.iconst 0, 1) := g_3 bX4_become rfl
theorem dX4_become_125 : decode cX4_become 125 = .ok (.bipush 8, 2) := g_16 8 bX4_become rfl rfl
theorem dX4_become_127 : decode cX4_become 127 = .ok (.invokestatic 52, 3) := g_184 bX4_become rfl
theorem dX4_become_130 : decode cX4_become 130 = .ok (.aload_n 1, 1) := g_43 bX4_become rfl
theorem dX4_become_131 : decode cX4_become 131 = .ok (.getfield 34, 3) := g_180 bX4_become rfl
theorem dX4_become_134 : decode cX4_become 134 = .ok (.iconst 0, 1) := g_3 bX4_become rfl
theorem dX4_become_135 : decode cX4_become 135 = .ok (.aload_n 0, 1) := g_42 bX4_become rfl
theorem dX4_become_136 : decode cX4_become 136 = .ok (.getfield 34, 3) := g_180 bX4_become rfl
theorem dX4_become_139 : decode cX4_become 139 = .ok (.iconst 0, 1) := g_3 bX4_become rfl
theorem dX4_become_140 : decode cX4_become 140 = .ok (.bipush 8, 2) := g_16 8 bX4_become rfl rfl
theorem dX4_become_142 : decode cX4_become 142 = .ok (.invokestatic 52, 3) := g_184 bX4_become rfl
theorem dX4_become_145 : decode cX4_become 145 = .ok (.aload_n 1, 1) := g_43 bX4_become rfl
theorem dX4_become_146 : decode cX4_become 146 = .ok (.getfield 37, 3) := g_180 bX4_become rfl
theorem dX4_become_149 : decode cX4_become 149 = .ok (.iconst 0, 1) := g_3 bX4_become rfl
theorem dX4_become_150 : decode cX4_become 150 = .ok (.aload_n 0, 1) := g_42 bX4_become rfl
theorem dX4_become_151 : decode cX4_become 151 = .ok (.getfield 37, 3) := g_180 bX4_become rfl
theorem dX4_become_154 : decode cX4_become 154 = .ok (.iconst 0, 1) := g_3 bX4_become rfl
theorem dX4_become_155 : decode cX4_become 155 = .ok (.bipush 64, 2) := g_16 64 bX4_become rfl rfl
theorem dX4_become_157 : decode cX4_become 157 = .ok (.invokestatic 52, 3) := g_184 bX4_become rfl
theorem dX4_become_160 : decode cX4_become 160 = .ok (.return_, 1) := g_177 bX4_become rfl
theorem dX4_drawDeaths_0 : decode cX4_drawDeaths 0 = .ok (.iconst 0, 1) := g_3 bX4_drawDeaths rfl
theorem dX4_drawDeaths_1 : decode cX4_drawDeaths 1 = .ok (.istore_n 1, 1) := g_60 bX4_drawDeaths rfl
theorem dX4_drawDeaths_2 : decode cX4_drawDeaths 2 = .ok (.iload_n 1, 1) := g_27 bX4_drawDeaths rfl
theorem dX4_drawDeaths_3 : decode cX4_drawDeaths 3 = .ok (.aload_n 0, 1) := g_42 bX4_drawDeaths rfl
theorem dX4_drawDeaths_4 : decode cX4_drawDeaths 4 = .ok (.getfield 43, 3) := g_180 bX4_drawDeaths rfl
theorem dX4_drawDeaths_7 : decode cX4_drawDeaths 7 = .ok (.if_icmp .ge 45, 3) := g_162 45 bX4_drawDeaths rfl rfl
theorem dX4_drawDeaths_10 : decode cX4_drawDeaths 10 = .ok (.aload_n 0, 1) := g_42 bX4_drawDeaths rfl
theorem dX4_drawDeaths_11 : decode cX4_drawDeaths 11 = .ok (.getfield 49, 3) := g_180 bX4_drawDeaths rfl
theorem dX4_drawDeaths_14 : decode cX4_drawDeaths 14 = .ok (.iload_n 1, 1) := g_27 bX4_drawDeaths rfl
theorem dX4_drawDeaths_15 : decode cX4_drawDeaths 15 = .ok (.invokestatic 62, 3) := g_184 bX4_drawDeaths rfl
theorem dX4_drawDeaths_18 : decode cX4_drawDeaths 18 = .ok (.ifCond .ne 28, 3) := g_154 28 bX4_drawDeaths rfl rfl
theorem dX4_drawDeaths_21 : decode cX4_drawDeaths 21 = .ok (.aload_n 0, 1) := g_42 bX4_drawDeaths rfl
theorem dX4_drawDeaths_22 : decode cX4_drawDeaths 22 = .ok (.invokevirtual 120, 3) := g_182 bX4_drawDeaths rfl
theorem dX4_drawDeaths_25 : decode cX4_drawDeaths 25 = .ok (.aload_n 0, 1) := g_42 bX4_drawDeaths rfl
theorem dX4_drawDeaths_26 : decode cX4_drawDeaths 26 = .ok (.getfield 25, 3) := g_180 bX4_drawDeaths rfl
theorem dX4_drawDeaths_29 : decode cX4_drawDeaths 29 = .ok (.iload_n 1, 1) := g_27 bX4_drawDeaths rfl
theorem dX4_drawDeaths_30 : decode cX4_drawDeaths 30 = .ok (.iaload, 1) := g_46 bX4_drawDeaths rfl
theorem dX4_drawDeaths_31 : decode cX4_drawDeaths 31 = .ok (.if_icmp .ge 15, 3) := g_162 15 bX4_drawDeaths rfl rfl
theorem dX4_drawDeaths_34 : decode cX4_drawDeaths 34 = .ok (.aload_n 0, 1) := g_42 bX4_drawDeaths rfl
theorem dX4_drawDeaths_35 : decode cX4_drawDeaths 35 = .ok (.dup, 1) := g_89 bX4_drawDeaths rfl
theorem dX4_drawDeaths_36 : decode cX4_drawDeaths 36 = .ok (.getfield 49, 3) := g_180 bX4_drawDeaths rfl
theorem dX4_drawDeaths_39 : decode cX4_drawDeaths 39 = .ok (.iconst 1, 1) := g_4 bX4_drawDeaths rfl
theorem dX4_drawDeaths_40 : decode cX4_drawDeaths 40 = .ok (.iload_n 1, 1) := g_27 bX4_drawDeaths rfl
theorem dX4_drawDeaths_41 : decode cX4_drawDeaths 41 = .ok (.ishl, 1) := g_120 bX4_drawDeaths rfl
theorem dX4_drawDeaths_42 : decode cX4_drawDeaths 42 = .ok (.ior, 1) := g_128 bX4_drawDeaths rfl
theorem dX4_drawDeaths_43 : decode cX4_drawDeaths 43 = .ok (.putfield 49, 3) := g_181 bX4_drawDeaths rfl
theorem dX4_drawDeaths_46 : decode cX4_drawDeaths 46 = .ok (.iinc 1 1, 3) := g_132 1 bX4_drawDeaths rfl rfl
theorem dX4_drawDeaths_49 : decode cX4_drawDeaths 49 = .ok (.goto (-47), 3) := g_167 65489 bX4_drawDeaths rfl rfl
theorem dX4_drawDeaths_52 : decode cX4_drawDeaths 52 = .ok (.return_, 1) := g_177 bX4_drawDeaths rfl
theorem dX4_endYear_0 : decode cX4_endYear 0 = .ok (.aload_n 0, 1) := g_42 bX4_endYear rfl
theorem dX4_endYear_1 : decode cX4_endYear 1 = .ok (.invokevirtual 78, 3) := g_182 bX4_endYear rfl
theorem dX4_endYear_4 : decode cX4_endYear 4 = .ok (.istore_n 1, 1) := g_60 bX4_endYear rfl
theorem dX4_endYear_5 : decode cX4_endYear 5 = .ok (.iconst 0, 1) := g_3 bX4_endYear rfl
theorem dX4_endYear_6 : decode cX4_endYear 6 = .ok (.istore_n 2, 1) := g_61 bX4_endYear rfl
theorem dX4_endYear_7 : decode cX4_endYear 7 = .ok (.iload_n 2, 1) := g_28 bX4_endYear rfl
theorem dX4_endYear_8 : decode cX4_endYear 8 = .ok (.aload_n 0, 1) := g_42 bX4_endYear rfl
theorem dX4_endYear_9 : decode cX4_endYear 9 = .ok (.getfield 43, 3) := g_180 bX4_endYear rfl
theorem dX4_endYear_12 : decode cX4_endYear 12 = .ok (.if_icmp .ge 55, 3) := g_162 55 bX4_endYear rfl rfl
theorem dX4_endYear_15 : decode cX4_endYear 15 = .ok (.iload_n 1, 1) := g_27 bX4_endYear rfl
theorem dX4_endYear_16 : decode cX4_endYear 16 = .ok (.iload_n 2, 1) := g_28 bX4_endYear rfl
theorem dX4_endYear_17 : decode cX4_endYear 17 = .ok (.invokestatic 62, 3) := g_184 bX4_endYear rfl
theorem dX4_endYear_20 : decode cX4_endYear 20 = .ok (.ifCond .eq 41, 3) := g_153 41 bX4_endYear rfl rfl
theorem dX4_endYear_23 : decode cX4_endYear 23 = .ok (.aload_n 0, 1) := g_42 bX4_endYear rfl
theorem dX4_endYear_24 : decode cX4_endYear 24 = .ok (.getfield 25, 3) := g_180 bX4_endYear rfl
theorem dX4_endYear_27 : decode cX4_endYear 27 = .ok (.iload_n 2, 1) := g_28 bX4_endYear rfl
theorem dX4_endYear_28 : decode cX4_endYear 28 = .ok (.dup2, 1) := g_92 bX4_endYear rfl
theorem dX4_endYear_29 : decode cX4_endYear 29 = .ok (.iaload, 1) := g_46 bX4_endYear rfl
theorem dX4_endYear_30 : decode cX4_endYear 30 = .ok (.iconst 1, 1) := g_4 bX4_endYear rfl
theorem dX4_endYear_31 : decode cX4_endYear 31 = .ok (.iadd, 1) := g_96 bX4_endYear rfl
theorem dX4_endYear_32 : decode cX4_endYear 32 = .ok (.iastore, 1) := g_79 bX4_endYear rfl
theorem dX4_endYear_33 : decode cX4_endYear 33 = .ok (.aload_n 0, 1) := g_42 bX4_endYear rfl
theorem dX4_endYear_34 : decode cX4_endYear 34 = .ok (.getfield 25, 3) := g_180 bX4_endYear rfl
theorem dX4_endYear_37 : decode cX4_endYear 37 = .ok (.iload_n 2, 1) := g_28 bX4_endYear rfl
theorem dX4_endYear_38 : decode cX4_endYear 38 = .ok (.iaload, 1) := g_46 bX4_endYear rfl
theorem dX4_endYear_39 : decode cX4_endYear 39 = .ok (.bipush 9, 2) := g_16 9 bX4_endYear rfl rfl
theorem dX4_endYear_41 : decode cX4_endYear 41 = .ok (.if_icmp .le 15, 3) := g_164 15 bX4_endYear rfl rfl
theorem dX4_endYear_44 : decode cX4_endYear 44 = .ok (.aload_n 0, 1) := g_42 bX4_endYear rfl
theorem dX4_endYear_45 : decode cX4_endYear 45 = .ok (.dup, 1) := g_89 bX4_endYear rfl
theorem dX4_endYear_46 : decode cX4_endYear 46 = .ok (.getfield 49, 3) := g_180 bX4_endYear rfl
theorem dX4_endYear_49 : decode cX4_endYear 49 = .ok (.iconst 1, 1) := g_4 bX4_endYear rfl
theorem dX4_endYear_50 : decode cX4_endYear 50 = .ok (.iload_n 2, 1) := g_28 bX4_endYear rfl
theorem dX4_endYear_51 : decode cX4_endYear 51 = .ok (.ishl, 1) := g_120 bX4_endYear rfl
theorem dX4_endYear_52 : decode cX4_endYear 52 = .ok (.ior, 1) := g_128 bX4_endYear rfl
theorem dX4_endYear_53 : decode cX4_endYear 53 = .ok (.putfield 49, 3) := g_181 bX4_endYear rfl
theorem dX4_endYear_56 : decode cX4_endYear 56 = .ok (.aload_n 0, 1) := g_42 bX4_endYear rfl
theorem dX4_endYear_57 : decode cX4_endYear 57 = .ok (.iload_n 2, 1) := g_28 bX4_endYear rfl
theorem dX4_endYear_58 : decode cX4_endYear 58 = .ok (.invokevirtual 111, 3) := g_182 bX4_endYear rfl
theorem dX4_endYear_61 : decode cX4_endYear 61 = .ok (.iinc 2 1, 3) := g_132 1 bX4_endYear rfl rfl
theorem dX4_endYear_64 : decode cX4_endYear 64 = .ok (.goto (-57), 3) := g_167 65479 bX4_endYear rfl rfl
theorem dX4_endYear_67 : decode cX4_endYear 67 = .ok (.iload_n 1, 1) := g_27 bX4_endYear rfl
theorem dX4_endYear_68 : decode cX4_endYear 68 = .ok (.aload_n 0, 1) := g_42 bX4_endYear rfl
theorem dX4_endYear_69 : decode cX4_endYear 69 = .ok (.getfield 49, 3) := g_180 bX4_endYear rfl
theorem dX4_endYear_72 : decode cX4_endYear 72 = .ok (.iand, 1) := g_126 bX4_endYear rfl
theorem dX4_endYear_73 : decode cX4_endYear 73 = .ok (.invokestatic 115, 3) := g_184 bX4_endYear rfl
theorem dX4_endYear_76 : decode cX4_endYear 76 = .ok (.ireturn, 1) := g_172 bX4_endYear rfl
theorem dX4_hearFrom_0 : decode cX4_hearFrom 0 = .ok (.aload_n 0, 1) := g_42 bX4_hearFrom rfl
theorem dX4_hearFrom_1 : decode cX4_hearFrom 1 = .ok (.iload_n 1, 1) := g_27 bX4_hearFrom rfl
theorem dX4_hearFrom_2 : decode cX4_hearFrom 2 = .ok (.iload_n 2, 1) := g_28 bX4_hearFrom rfl
theorem dX4_hearFrom_3 : decode cX4_hearFrom 3 = .ok (.invokevirtual 66, 3) := g_182 bX4_hearFrom rfl
theorem dX4_hearFrom_6 : decode cX4_hearFrom 6 = .ok (.iconst 2, 1) := g_5 bX4_hearFrom rfl
theorem dX4_hearFrom_7 : decode cX4_hearFrom 7 = .ok (.idiv, 1) := g_108 bX4_hearFrom rfl
theorem dX4_hearFrom_8 : decode cX4_hearFrom 8 = .ok (.istore 4, 2) := g_54 bX4_hearFrom rfl
theorem dX4_hearFrom_10 : decode cX4_hearFrom 10 = .ok (.iload_n 3, 1) := g_29 bX4_hearFrom rfl
theorem dX4_hearFrom_11 : decode cX4_hearFrom 11 = .ok (.aload_n 0, 1) := g_42 bX4_hearFrom rfl
theorem dX4_hearFrom_12 : decode cX4_hearFrom 12 = .ok (.invokevirtual 78, 3) := g_182 bX4_hearFrom rfl
theorem dX4_hearFrom_15 : decode cX4_hearFrom 15 = .ok (.iand, 1) := g_126 bX4_hearFrom rfl
theorem dX4_hearFrom_16 : decode cX4_hearFrom 16 = .ok (.iconst 1, 1) := g_4 bX4_hearFrom rfl
theorem dX4_hearFrom_17 : decode cX4_hearFrom 17 = .ok (.iload_n 1, 1) := g_27 bX4_hearFrom rfl
theorem dX4_hearFrom_18 : decode cX4_hearFrom 18 = .ok (.ishl, 1) := g_120 bX4_hearFrom rfl
theorem dX4_hearFrom_19 : decode cX4_hearFrom 19 = .ok (.iconst (-1), 1) := g_2 bX4_hearFrom rfl
theorem dX4_hearFrom_20 : decode cX4_hearFrom 20 = .ok (.ixor, 1) := g_130 bX4_hearFrom rfl
theorem dX4_hearFrom_21 : decode cX4_hearFrom 21 = .ok (.iand, 1) := g_126 bX4_hearFrom rfl
theorem dX4_hearFrom_22 : decode cX4_hearFrom 22 = .ok (.istore 5, 2) := g_54 bX4_hearFrom rfl
theorem dX4_hearFrom_24 : decode cX4_hearFrom 24 = .ok (.iconst 0, 1) := g_3 bX4_hearFrom rfl
theorem dX4_hearFrom_25 : decode cX4_hearFrom 25 = .ok (.istore 6, 2) := g_54 bX4_hearFrom rfl
theorem dX4_hearFrom_27 : decode cX4_hearFrom 27 = .ok (.iconst 0, 1) := g_3 bX4_hearFrom rfl
theorem dX4_hearFrom_28 : decode cX4_hearFrom 28 = .ok (.istore 7, 2) := g_54 bX4_hearFrom rfl
theorem dX4_hearFrom_30 : decode cX4_hearFrom 30 = .ok (.iload 7, 2) := g_21 bX4_hearFrom rfl
theorem dX4_hearFrom_32 : decode cX4_hearFrom 32 = .ok (.aload_n 0, 1) := g_42 bX4_hearFrom rfl
theorem dX4_hearFrom_33 : decode cX4_hearFrom 33 = .ok (.getfield 43, 3) := g_180 bX4_hearFrom rfl
theorem dX4_hearFrom_36 : decode cX4_hearFrom 36 = .ok (.if_icmp .ge 57, 3) := g_162 57 bX4_hearFrom rfl rfl
theorem dX4_hearFrom_39 : decode cX4_hearFrom 39 = .ok (.iload 4, 2) := g_21 bX4_hearFrom rfl
theorem dX4_hearFrom_41 : decode cX4_hearFrom 41 = .ok (.aload_n 0, 1) := g_42 bX4_hearFrom rfl
theorem dX4_hearFrom_42 : decode cX4_hearFrom 42 = .ok (.iload 7, 2) := g_21 bX4_hearFrom rfl
theorem dX4_hearFrom_44 : decode cX4_hearFrom 44 = .ok (.iload_n 2, 1) := g_28 bX4_hearFrom rfl
theorem dX4_hearFrom_45 : decode cX4_hearFrom 45 = .ok (.invokevirtual 85, 3) := g_182 bX4_hearFrom rfl
theorem dX4_hearFrom_48 : decode cX4_hearFrom 48 = .ok (.invokestatic 88, 3) := g_184 bX4_hearFrom rfl
theorem dX4_hearFrom_51 : decode cX4_hearFrom 51 = .ok (.istore 8, 2) := g_54 bX4_hearFrom rfl
theorem dX4_hearFrom_53 : decode cX4_hearFrom 53 = .ok (.iload 5, 2) := g_21 bX4_hearFrom rfl
theorem dX4_hearFrom_55 : decode cX4_hearFrom 55 = .ok (.iload 7, 2) := g_21 bX4_hearFrom rfl
theorem dX4_hearFrom_57 : decode cX4_hearFrom 57 = .ok (.invokestatic 62, 3) := g_184 bX4_hearFrom rfl
theorem dX4_hearFrom_60 : decode cX4_hearFrom 60 = .ok (.ifCond .eq 27, 3) := g_153 27 bX4_hearFrom rfl rfl
theorem dX4_hearFrom_63 : decode cX4_hearFrom 63 = .ok (.iload 8, 2) := g_21 bX4_hearFrom rfl
theorem dX4_hearFrom_65 : decode cX4_hearFrom 65 = .ok (.aload_n 0, 1) := g_42 bX4_hearFrom rfl
theorem dX4_hearFrom_66 : decode cX4_hearFrom 66 = .ok (.iload 7, 2) := g_21 bX4_hearFrom rfl
theorem dX4_hearFrom_68 : decode cX4_hearFrom 68 = .ok (.iload_n 2, 1) := g_28 bX4_hearFrom rfl
theorem dX4_hearFrom_69 : decode cX4_hearFrom 69 = .ok (.invokevirtual 66, 3) := g_182 bX4_hearFrom rfl
theorem dX4_hearFrom_72 : decode cX4_hearFrom 72 = .ok (.if_icmp .le 15, 3) := g_164 15 bX4_hearFrom rfl rfl
theorem dX4_hearFrom_75 : decode cX4_hearFrom 75 = .ok (.aload_n 0, 1) := g_42 bX4_hearFrom rfl
theorem dX4_hearFrom_76 : decode cX4_hearFrom 76 = .ok (.iload 7, 2) := g_21 bX4_hearFrom rfl
theorem dX4_hearFrom_78 : decode cX4_hearFrom 78 = .ok (.iload_n 2, 1) := g_28 bX4_hearFrom rfl
theorem dX4_hearFrom_79 : decode cX4_hearFrom 79 = .ok (.iload 8, 2) := g_21 bX4_hearFrom rfl
theorem dX4_hearFrom_81 : decode cX4_hearFrom 81 = .ok (.invokevirtual 94, 3) := g_182 bX4_hearFrom rfl
theorem dX4_hearFrom_84 : decode cX4_hearFrom 84 = .ok (.iinc 6 1, 3) := g_132 1 bX4_hearFrom rfl rfl
theorem dX4_hearFrom_87 : decode cX4_hearFrom 87 = .ok (.iinc 7 1, 3) := g_132 1 bX4_hearFrom rfl rfl
theorem dX4_hearFrom_90 : decode cX4_hearFrom 90 = .ok (.goto (-60), 3) := g_167 65476 bX4_hearFrom rfl rfl
theorem dX4_hearFrom_93 : decode cX4_hearFrom 93 = .ok (.iload 6, 2) := g_21 bX4_hearFrom rfl
theorem dX4_hearFrom_95 : decode cX4_hearFrom 95 = .ok (.ireturn, 1) := g_172 bX4_hearFrom rfl
theorem dX1_tellChain_0 : decode cX1_tellChain 0 = .ok (.iconst 0, 1) := g_3 bX1_tellChain rfl
theorem dX1_tellChain_1 : decode cX1_tellChain 1 = .ok (.istore_n 1, 1) := g_60 bX1_tellChain rfl
theorem dX1_tellChain_2 : decode cX1_tellChain 2 = .ok (.iload_n 1, 1) := g_27 bX1_tellChain rfl
theorem dX1_tellChain_3 : decode cX1_tellChain 3 = .ok (.aload_n 0, 1) := g_42 bX1_tellChain rfl
theorem dX1_tellChain_4 : decode cX1_tellChain 4 = .ok (.getfield 40, 3) := g_180 bX1_tellChain rfl
theorem dX1_tellChain_7 : decode cX1_tellChain 7 = .ok (.if_icmp .ge 58, 3) := g_162 58 bX1_tellChain rfl rfl
theorem dX1_tellChain_10 : decode cX1_tellChain 10 = .ok (.aload_n 0, 1) := g_42 bX1_tellChain rfl
theorem dX1_tellChain_11 : decode cX1_tellChain 11 = .ok (.getfield 44, 3) := g_180 bX1_tellChain rfl
theorem dX1_tellChain_14 : decode cX1_tellChain 14 = .ok (.iload_n 1, 1) := g_27 bX1_tellChain rfl
theorem dX1_tellChain_15 : decode cX1_tellChain 15 = .ok (.invokestatic 47, 3) := g_184 bX1_tellChain rfl
theorem dX1_tellChain_18 : decode cX1_tellChain 18 = .ok (.ifCond .eq 7, 3) := g_153 7 bX1_tellChain rfl rfl
theorem dX1_tellChain_21 : decode cX1_tellChain 21 = .ok (.iconst (-1), 1) := g_2 bX1_tellChain rfl
theorem dX1_tellChain_22 : decode cX1_tellChain 22 = .ok (.goto 8, 3) := g_167 8 bX1_tellChain rfl rfl
theorem dX1_tellChain_25 : decode cX1_tellChain 25 = .ok (.aload_n 0, 1) := g_42 bX1_tellChain rfl
theorem dX1_tellChain_26 : decode cX1_tellChain 26 = .ok (.iload_n 1, 1) := g_27 bX1_tellChain rfl
theorem dX1_tellChain_27 : decode cX1_tellChain 27 = .ok (.invokevirtual 51, 3) := g_182 bX1_tellChain rfl
theorem dX1_tellChain_30 : decode cX1_tellChain 30 = .ok (.istore_n 2, 1) := g_61 bX1_tellChain rfl
theorem dX1_tellChain_31 : decode cX1_tellChain 31 = .ok (.iconst 0, 1) := g_3 bX1_tellChain rfl
theorem dX1_tellChain_32 : decode cX1_tellChain 32 = .ok (.istore_n 3, 1) := g_62 bX1_tellChain rfl
theorem dX1_tellChain_33 : decode cX1_tellChain 33 = .ok (.iload_n 3, 1) := g_29 bX1_tellChain rfl
theorem dX1_tellChain_34 : decode cX1_tellChain 34 = .ok (.aload_n 0, 1) := g_42 bX1_tellChain rfl
theorem dX1_tellChain_35 : decode cX1_tellChain 35 = .ok (.getfield 54, 3) := g_180 bX1_tellChain rfl
theorem dX1_tellChain_38 : decode cX1_tellChain 38 = .ok (.if_icmp .ge 21, 3) := g_162 21 bX1_tellChain rfl rfl
theorem dX1_tellChain_41 : decode cX1_tellChain 41 = .ok (.iload_n 2, 1) := g_28 bX1_tellChain rfl
theorem dX1_tellChain_42 : decode cX1_tellChain 42 = .ok (.iconst (-1), 1) := g_2 bX1_tellChain rfl
theorem dX1_tellChain_43 : decode cX1_tellChain 43 = .ok (.if_icmp .eq 16, 3) := g_159 16 bX1_tellChain rfl rfl
theorem dX1_tellChain_46 : decode cX1_tellChain 46 = .ok (.aload_n 0, 1) := g_42 bX1_tellChain rfl
theorem dX1_tellChain_47 : decode cX1_tellChain 47 = .ok (.iload_n 1, 1) := g_27 bX1_tellChain rfl
theorem dX1_tellChain_48 : decode cX1_tellChain 48 = .ok (.iload_n 2, 1) := g_28 bX1_tellChain rfl
theorem dX1_tellChain_49 : decode cX1_tellChain 49 = .ok (.iload_n 3, 1) := g_29 bX1_tellChain rfl
theorem dX1_tellChain_50 : decode cX1_tellChain 50 = .ok (.invokevirtual 57, 3) := g_182 bX1_tellChain rfl
theorem dX1_tellChain_53 : decode cX1_tellChain 53 = .ok (.iinc 3 1, 3) := g_132 1 bX1_tellChain rfl rfl
theorem dX1_tellChain_56 : decode cX1_tellChain 56 = .ok (.goto (-23), 3) := g_167 65513 bX1_tellChain rfl rfl
theorem dX1_tellChain_59 : decode cX1_tellChain 59 = .ok (.iinc 1 1, 3) := g_132 1 bX1_tellChain rfl rfl
theorem dX1_tellChain_62 : decode cX1_tellChain 62 = .ok (.goto (-60), 3) := g_167 65476 bX1_tellChain rfl rfl
theorem dX1_tellChain_65 : decode cX1_tellChain 65 = .ok (.return_, 1) := g_177 bX1_tellChain rfl
theorem dX1_act_0 : decode cX1_act 0 = .ok (.iload_n 1, 1) := g_27 bX1_act rfl
theorem dX1_act_1 : decode cX1_act 1 = .ok (.tableswitch 89 1 6 #[39, 47, 54, 62, 68, 78], 39) := by decide +kernel
theorem dX1_act_40 : decode cX1_act 40 = .ok (.aload_n 0, 1) := g_42 bX1_act rfl
theorem dX1_act_41 : decode cX1_act 41 = .ok (.bipush 8, 2) := g_16 8 bX1_act rfl rfl
theorem dX1_act_43 : decode cX1_act 43 = .ok (.iconst 0, 1) := g_3 bX1_act rfl
theorem dX1_act_44 : decode cX1_act 44 = .ok (.invokestatic 9, 3) := g_184 bX1_act rfl
theorem dX1_act_47 : decode cX1_act 47 = .ok (.ireturn, 1) := g_172 bX1_act rfl
theorem dX1_act_48 : decode cX1_act 48 = .ok (.aload_n 0, 1) := g_42 bX1_act rfl
theorem dX1_act_49 : decode cX1_act 49 = .ok (.iload_n 2, 1) := g_28 bX1_act rfl
theorem dX1_act_50 : decode cX1_act 50 = .ok (.iconst 0, 1) := g_3 bX1_act rfl
theorem dX1_act_51 : decode cX1_act 51 = .ok (.invokestatic 9, 3) := g_184 bX1_act rfl
theorem dX1_act_54 : decode cX1_act 54 = .ok (.ireturn, 1) := g_172 bX1_act rfl
theorem dX1_act_55 : decode cX1_act 55 = .ok (.aload_n 0, 1) := g_42 bX1_act rfl
theorem dX1_act_56 : decode cX1_act 56 = .ok (.bipush 8, 2) := g_16 8 bX1_act rfl rfl
theorem dX1_act_58 : decode cX1_act 58 = .ok (.iconst 1, 1) := g_4 bX1_act rfl
theorem dX1_act_59 : decode cX1_act 59 = .ok (.invokestatic 9, 3) := g_184 bX1_act rfl
theorem dX1_act_62 : decode cX1_act 62 = .ok (.ireturn, 1) := g_172 bX1_act rfl
theorem dX1_act_63 : decode cX1_act 63 = .ok (.aload_n 0, 1) := g_42 bX1_act rfl
theorem dX1_act_64 : decode cX1_act 64 = .ok (.invokestatic 15, 3) := g_184 bX1_act rfl
theorem dX1_act_67 : decode cX1_act 67 = .ok (.iconst 0, 1) := g_3 bX1_act rfl
theorem dX1_act_68 : decode cX1_act 68 = .ok (.ireturn, 1) := g_172 bX1_act rfl
theorem dX1_act_69 : decode cX1_act 69 = .ok (.aload_n 0, 1) := g_42 bX1_act rfl
theorem dX1_act_70 : decode cX1_act 70 = .ok (.invokestatic 15, 3) := g_184 bX1_act rfl
theorem dX1_act_73 : decode cX1_act 73 = .ok (.aload_n 0, 1) := g_42 bX1_act rfl
theorem dX1_act_74 : decode cX1_act 74 = .ok (.invokestatic 15, 3) := g_184 bX1_act rfl
theorem dX1_act_77 : decode cX1_act 77 = .ok (.iconst 0, 1) := g_3 bX1_act rfl
theorem dX1_act_78 : decode cX1_act 78 = .ok (.ireturn, 1) := g_172 bX1_act rfl
theorem dX1_act_79 : decode cX1_act 79 = .ok (.aload_n 0, 1) := g_42 bX1_act rfl
theorem dX1_act_80 : decode cX1_act 80 = .ok (.invokestatic 15, 3) := g_184 bX1_act rfl
theorem dX1_act_83 : decode cX1_act 83 = .ok (.aload_n 0, 1) := g_42 bX1_act rfl
theorem dX1_act_84 : decode cX1_act 84 = .ok (.iconst 1, 1) := g_4 bX1_act rfl
theorem dX1_act_85 : decode cX1_act 85 = .ok (.iconst 0, 1) := g_3 bX1_act rfl
theorem dX1_act_86 : decode cX1_act 86 = .ok (.invokestatic 9, 3) := g_184 bX1_act rfl
theorem dX1_act_89 : decode cX1_act 89 = .ok (.ireturn, 1) := g_172 bX1_act rfl
theorem dX1_act_90 : decode cX1_act 90 = .ok (.iconst 0, 1) := g_3 bX1_act rfl
theorem dX1_act_91 : decode cX1_act 91 = .ok (.ireturn, 1) := g_172 bX1_act rfl
theorem dX1_readDearest_0 : decode cX1_readDearest 0 = .ok (.iconst 0, 1) := g_3 bX1_readDearest rfl
theorem dX1_readDearest_1 : decode cX1_readDearest 1 = .ok (.istore_n 3, 1) := g_62 bX1_readDearest rfl
theorem dX1_readDearest_2 : decode cX1_readDearest 2 = .ok (.iconst 0, 1) := g_3 bX1_readDearest rfl
theorem dX1_readDearest_3 : decode cX1_readDearest 3 = .ok (.istore 4, 2) := g_54 bX1_readDearest rfl
theorem dX1_readDearest_5 : decode cX1_readDearest 5 = .ok (.iload 4, 2) := g_21 bX1_readDearest rfl
theorem dX1_readDearest_7 : decode cX1_readDearest 7 = .ok (.bipush 8, 2) := g_16 8 bX1_readDearest rfl rfl
theorem dX1_readDearest_9 : decode cX1_readDearest 9 = .ok (.if_icmp .ge 76, 3) := g_162 76 bX1_readDearest rfl rfl
theorem dX1_readDearest_12 : decode cX1_readDearest 12 = .ok (.iload 4, 2) := g_21 bX1_readDearest rfl
theorem dX1_readDearest_14 : decode cX1_readDearest 14 = .ok (.iload_n 1, 1) := g_27 bX1_readDearest rfl
theorem dX1_readDearest_15 : decode cX1_readDearest 15 = .ok (.if_icmp .ge 70, 3) := g_162 70 bX1_readDearest rfl rfl
theorem dX1_readDearest_18 : decode cX1_readDearest 18 = .ok (.aload_n 0, 1) := g_42 bX1_readDearest rfl
theorem dX1_readDearest_19 : decode cX1_readDearest 19 = .ok (.invokevirtual 19, 3) := g_182 bX1_readDearest rfl
theorem dX1_readDearest_22 : decode cX1_readDearest 22 = .ok (.istore 5, 2) := g_54 bX1_readDearest rfl
theorem dX1_readDearest_24 : decode cX1_readDearest 24 = .ok (.iload 5, 2) := g_21 bX1_readDearest rfl
theorem dX1_readDearest_26 : decode cX1_readDearest 26 = .ok (.iconst (-1), 1) := g_2 bX1_readDearest rfl
theorem dX1_readDearest_27 : decode cX1_readDearest 27 = .ok (.if_icmp .ne 7, 3) := g_160 7 bX1_readDearest rfl rfl
theorem dX1_readDearest_30 : decode cX1_readDearest 30 = .ok (.iconst (-1), 1) := g_2 bX1_readDearest rfl
theorem dX1_readDearest_31 : decode cX1_readDearest 31 = .ok (.goto 9, 3) := g_167 9 bX1_readDearest rfl rfl
theorem dX1_readDearest_34 : decode cX1_readDearest 34 = .ok (.aload_n 0, 1) := g_42 bX1_readDearest rfl
theorem dX1_readDearest_35 : decode cX1_readDearest 35 = .ok (.iload 5, 2) := g_21 bX1_readDearest rfl
theorem dX1_readDearest_37 : decode cX1_readDearest 37 = .ok (.invokevirtual 25, 3) := g_182 bX1_readDearest rfl
theorem dX1_readDearest_40 : decode cX1_readDearest 40 = .ok (.istore 6, 2) := g_54 bX1_readDearest rfl
theorem dX1_readDearest_42 : decode cX1_readDearest 42 = .ok (.iload 6, 2) := g_21 bX1_readDearest rfl
theorem dX1_readDearest_44 : decode cX1_readDearest 44 = .ok (.iconst (-1), 1) := g_2 bX1_readDearest rfl
theorem dX1_readDearest_45 : decode cX1_readDearest 45 = .ok (.if_icmp .ne 6, 3) := g_160 6 bX1_readDearest rfl rfl
theorem dX1_readDearest_48 : decode cX1_readDearest 48 = .ok (.goto 37, 3) := g_167 37 bX1_readDearest rfl rfl
theorem dX1_readDearest_51 : decode cX1_readDearest 51 = .ok (.aload_n 0, 1) := g_42 bX1_readDearest rfl
theorem dX1_readDearest_52 : decode cX1_readDearest 52 = .ok (.iload 6, 2) := g_21 bX1_readDearest rfl
theorem dX1_readDearest_54 : decode cX1_readDearest 54 = .ok (.iload 5, 2) := g_21 bX1_readDearest rfl
theorem dX1_readDearest_56 : decode cX1_readDearest 56 = .ok (.invokevirtual 29, 3) := g_182 bX1_readDearest rfl
theorem dX1_readDearest_59 : decode cX1_readDearest 59 = .ok (.iload_n 2, 1) := g_28 bX1_readDearest rfl
theorem dX1_readDearest_60 : decode cX1_readDearest 60 = .ok (.ifCond .eq 16, 3) := g_153 16 bX1_readDearest rfl rfl
theorem dX1_readDearest_63 : decode cX1_readDearest 63 = .ok (.aload_n 0, 1) := g_42 bX1_readDearest rfl
theorem dX1_readDearest_64 : decode cX1_readDearest 64 = .ok (.iload 6, 2) := g_21 bX1_readDearest rfl
theorem dX1_readDearest_66 : decode cX1_readDearest 66 = .ok (.iload 5, 2) := g_21 bX1_readDearest rfl
theorem dX1_readDearest_68 : decode cX1_readDearest 68 = .ok (.aload_n 0, 1) := g_42 bX1_readDearest rfl
theorem dX1_readDearest_69 : decode cX1_readDearest 69 = .ok (.invokevirtual 33, 3) := g_182 bX1_readDearest rfl
theorem dX1_readDearest_72 : decode cX1_readDearest 72 = .ok (.invokevirtual 36, 3) := g_182 bX1_readDearest rfl
theorem dX1_readDearest_75 : decode cX1_readDearest 75 = .ok (.pop, 1) := g_87 bX1_readDearest rfl
theorem dX1_readDearest_76 : decode cX1_readDearest 76 = .ok (.iinc 3 1, 3) := g_132 1 bX1_readDearest rfl rfl
theorem dX1_readDearest_79 : decode cX1_readDearest 79 = .ok (.iinc 4 1, 3) := g_132 1 bX1_readDearest rfl rfl
theorem dX1_readDearest_82 : decode cX1_readDearest 82 = .ok (.goto (-77), 3) := g_167 65459 bX1_readDearest rfl rfl
theorem dX1_readDearest_85 : decode cX1_readDearest 85 = .ok (.iload_n 3, 1) := g_29 bX1_readDearest rfl
theorem dX1_readDearest_86 : decode cX1_readDearest 86 = .ok (.ireturn, 1) := g_172 bX1_readDearest rfl
theorem dX0_bestWho_0 : decode cX0_bestWho 0 = .ok (.iconst (-1), 1) := g_2 bX0_bestWho rfl
theorem dX0_bestWho_1 : decode cX0_bestWho 1 = .ok (.istore 4, 2) := g_54 bX0_bestWho rfl
theorem dX0_bestWho_3 : decode cX0_bestWho 3 = .ok (.iconst 0, 1) := g_3 bX0_bestWho rfl
theorem dX0_bestWho_4 : decode cX0_bestWho 4 = .ok (.istore 5, 2) := g_54 bX0_bestWho rfl
theorem dX0_bestWho_6 : decode cX0_bestWho 6 = .ok (.iload 5, 2) := g_21 bX0_bestWho rfl
theorem dX0_bestWho_8 : decode cX0_bestWho 8 = .ok (.aload_n 1, 1) := g_43 bX0_bestWho rfl
theorem dX0_bestWho_9 : decode cX0_bestWho 9 = .ok (.getfield 49, 3) := g_180 bX0_bestWho rfl
theorem dX0_bestWho_12 : decode cX0_bestWho 12 = .ok (.if_icmp .ge 74, 3) := g_162 74 bX0_bestWho rfl rfl
theorem dX0_bestWho_15 : decode cX0_bestWho 15 = .ok (.aload_n 1, 1) := g_43 bX0_bestWho rfl
theorem dX0_bestWho_16 : decode cX0_bestWho 16 = .ok (.invokevirtual 25, 3) := g_182 bX0_bestWho rfl
theorem dX0_bestWho_19 : decode cX0_bestWho 19 = .ok (.iload 5, 2) := g_21 bX0_bestWho rfl
theorem dX0_bestWho_21 : decode cX0_bestWho 21 = .ok (.invokestatic 52, 3) := g_184 bX0_bestWho rfl
theorem dX0_bestWho_24 : decode cX0_bestWho 24 = .ok (.ifCond .eq 56, 3) := g_153 56 bX0_bestWho rfl rfl
theorem dX0_bestWho_27 : decode cX0_bestWho 27 = .ok (.aload_n 0, 1) := g_42 bX0_bestWho rfl
theorem dX0_bestWho_28 : decode cX0_bestWho 28 = .ok (.getfield 12, 3) := g_180 bX0_bestWho rfl
theorem dX0_bestWho_31 : decode cX0_bestWho 31 = .ok (.aload_n 1, 1) := g_43 bX0_bestWho rfl
theorem dX0_bestWho_32 : decode cX0_bestWho 32 = .ok (.invokevirtual 21, 3) := g_182 bX0_bestWho rfl
theorem dX0_bestWho_35 : decode cX0_bestWho 35 = .ok (.aload_n 0, 1) := g_42 bX0_bestWho rfl
theorem dX0_bestWho_36 : decode cX0_bestWho 36 = .ok (.getfield 12, 3) := g_180 bX0_bestWho rfl
theorem dX0_bestWho_39 : decode cX0_bestWho 39 = .ok (.iload 5, 2) := g_21 bX0_bestWho rfl
theorem dX0_bestWho_41 : decode cX0_bestWho 41 = .ok (.iload_n 2, 1) := g_28 bX0_bestWho rfl
theorem dX0_bestWho_42 : decode cX0_bestWho 42 = .ok (.invokevirtual 56, 3) := g_182 bX0_bestWho rfl
theorem dX0_bestWho_45 : decode cX0_bestWho 45 = .ok (.aload_n 0, 1) := g_42 bX0_bestWho rfl
theorem dX0_bestWho_46 : decode cX0_bestWho 46 = .ok (.getfield 12, 3) := g_180 bX0_bestWho rfl
theorem dX0_bestWho_49 : decode cX0_bestWho 49 = .ok (.iload_n 3, 1) := g_29 bX0_bestWho rfl
theorem dX0_bestWho_50 : decode cX0_bestWho 50 = .ok (.invokestatic 60, 3) := g_184 bX0_bestWho rfl
theorem dX0_bestWho_53 : decode cX0_bestWho 53 = .ok (.istore 6, 2) := g_54 bX0_bestWho rfl
theorem dX0_bestWho_55 : decode cX0_bestWho 55 = .ok (.iload 4, 2) := g_21 bX0_bestWho rfl
theorem dX0_bestWho_57 : decode cX0_bestWho 57 = .ok (.iconst (-1), 1) := g_2 bX0_bestWho rfl
theorem dX0_bestWho_58 : decode cX0_bestWho 58 = .ok (.if_icmp .eq 12, 3) := g_159 12 bX0_bestWho rfl rfl
theorem dX0_bestWho_61 : decode cX0_bestWho 61 = .ok (.iload 6, 2) := g_21 bX0_bestWho rfl
theorem dX0_bestWho_63 : decode cX0_bestWho 63 = .ok (.aload_n 0, 1) := g_42 bX0_bestWho rfl
theorem dX0_bestWho_64 : decode cX0_bestWho 64 = .ok (.getfield 64, 3) := g_180 bX0_bestWho rfl
theorem dX0_bestWho_67 : decode cX0_bestWho 67 = .ok (.if_icmp .le 13, 3) := g_164 13 bX0_bestWho rfl rfl
theorem dX0_bestWho_70 : decode cX0_bestWho 70 = .ok (.iload 5, 2) := g_21 bX0_bestWho rfl
theorem dX0_bestWho_72 : decode cX0_bestWho 72 = .ok (.istore 4, 2) := g_54 bX0_bestWho rfl
theorem dX0_bestWho_74 : decode cX0_bestWho 74 = .ok (.aload_n 0, 1) := g_42 bX0_bestWho rfl
theorem dX0_bestWho_75 : decode cX0_bestWho 75 = .ok (.iload 6, 2) := g_21 bX0_bestWho rfl
theorem dX0_bestWho_77 : decode cX0_bestWho 77 = .ok (.putfield 64, 3) := g_181 bX0_bestWho rfl
theorem dX0_bestWho_80 : decode cX0_bestWho 80 = .ok (.iinc 5 1, 3) := g_132 1 bX0_bestWho rfl rfl
theorem dX0_bestWho_83 : decode cX0_bestWho 83 = .ok (.goto (-77), 3) := g_167 65459 bX0_bestWho rfl rfl
theorem dX0_bestWho_86 : decode cX0_bestWho 86 = .ok (.iload 4, 2) := g_21 bX0_bestWho rfl
theorem dX0_bestWho_88 : decode cX0_bestWho 88 = .ok (.ireturn, 1) := g_172 bX0_bestWho rfl
theorem dX0_findKeeping_0 : decode cX0_findKeeping 0 = .ok (.aload_n 0, 1) := g_42 bX0_findKeeping rfl
theorem dX0_findKeeping_1 : decode cX0_findKeeping 1 = .ok (.aload_n 1, 1) := g_43 bX0_findKeeping rfl
theorem dX0_findKeeping_2 : decode cX0_findKeeping 2 = .ok (.iload_n 2, 1) := g_28 bX0_findKeeping rfl
theorem dX0_findKeeping_3 : decode cX0_findKeeping 3 = .ok (.iload_n 3, 1) := g_29 bX0_findKeeping rfl
theorem dX0_findKeeping_4 : decode cX0_findKeeping 4 = .ok (.invokevirtual 67, 3) := g_182 bX0_findKeeping rfl
theorem dX0_findKeeping_7 : decode cX0_findKeeping 7 = .ok (.iconst (-1), 1) := g_2 bX0_findKeeping rfl
theorem dX0_findKeeping_8 : decode cX0_findKeeping 8 = .ok (.if_icmp .ne 5, 3) := g_160 5 bX0_findKeeping rfl rfl
theorem dX0_findKeeping_11 : decode cX0_findKeeping 11 = .ok (.iconst 0, 1) := g_3 bX0_findKeeping rfl
theorem dX0_findKeeping_12 : decode cX0_findKeeping 12 = .ok (.ireturn, 1) := g_172 bX0_findKeeping rfl
theorem dX0_findKeeping_13 : decode cX0_findKeeping 13 = .ok (.aload_n 0, 1) := g_42 bX0_findKeeping rfl
theorem dX0_findKeeping_14 : decode cX0_findKeeping 14 = .ok (.getfield 64, 3) := g_180 bX0_findKeeping rfl
theorem dX0_findKeeping_17 : decode cX0_findKeeping 17 = .ok (.istore 4, 2) := g_54 bX0_findKeeping rfl
theorem dX0_findKeeping_19 : decode cX0_findKeeping 19 = .ok (.aload_n 0, 1) := g_42 bX0_findKeeping rfl
theorem dX0_findKeeping_20 : decode cX0_findKeeping 20 = .ok (.getfield 18, 3) := g_180 bX0_findKeeping rfl
theorem dX0_findKeeping_23 : decode cX0_findKeeping 23 = .ok (.aload_n 1, 1) := g_43 bX0_findKeeping rfl
theorem dX0_findKeeping_24 : decode cX0_findKeeping 24 = .ok (.invokevirtual 21, 3) := g_182 bX0_findKeeping rfl
theorem dX0_findKeeping_27 : decode cX0_findKeeping 27 = .ok (.aload_n 0, 1) := g_42 bX0_findKeeping rfl
theorem dX0_findKeeping_28 : decode cX0_findKeeping 28 = .ok (.getfield 18, 3) := g_180 bX0_findKeeping rfl
theorem dX0_findKeeping_31 : decode cX0_findKeeping 31 = .ok (.iconst 1, 1) := g_4 bX0_findKeeping rfl
theorem dX0_findKeeping_32 : decode cX0_findKeeping 32 = .ok (.invokestatic 60, 3) := g_184 bX0_findKeeping rfl
theorem dX0_findKeeping_35 : decode cX0_findKeeping 35 = .ok (.istore 5, 2) := g_54 bX0_findKeeping rfl
theorem dX0_findKeeping_37 : decode cX0_findKeeping 37 = .ok (.aload_n 0, 1) := g_42 bX0_findKeeping rfl
theorem dX0_findKeeping_38 : decode cX0_findKeeping 38 = .ok (.aload_n 0, 1) := g_42 bX0_findKeeping rfl
theorem dX0_findKeeping_39 : decode cX0_findKeeping 39 = .ok (.getfield 18, 3) := g_180 bX0_findKeeping rfl
theorem dX0_findKeeping_42 : decode cX0_findKeeping 42 = .ok (.iload_n 2, 1) := g_28 bX0_findKeeping rfl
theorem dX0_findKeeping_43 : decode cX0_findKeeping 43 = .ok (.iload_n 3, 1) := g_29 bX0_findKeeping rfl
theorem dX0_findKeeping_44 : decode cX0_findKeeping 44 = .ok (.iconst 1, 1) := g_4 bX0_findKeeping rfl
theorem dX0_findKeeping_45 : decode cX0_findKeeping 45 = .ok (.isub, 1) := g_100 bX0_findKeeping rfl
theorem dX0_findKeeping_46 : decode cX0_findKeeping 46 = .ok (.invokevirtual 67, 3) := g_182 bX0_findKeeping rfl
theorem dX0_findKeeping_49 : decode cX0_findKeeping 49 = .ok (.iconst (-1), 1) := g_2 bX0_findKeeping rfl
theorem dX0_findKeeping_50 : decode cX0_findKeeping 50 = .ok (.if_icmp .ne 5, 3) := g_160 5 bX0_findKeeping rfl rfl
theorem dX0_findKeeping_53 : decode cX0_findKeeping 53 = .ok (.iconst 0, 1) := g_3 bX0_findKeeping rfl
theorem dX0_findKeeping_54 : decode cX0_findKeeping 54 = .ok (.ireturn, 1) := g_172 bX0_findKeeping rfl
theorem dX0_findKeeping_55 : decode cX0_findKeeping 55 = .ok (.aload_n 0, 1) := g_42 bX0_findKeeping rfl
theorem dX0_findKeeping_56 : decode cX0_findKeeping 56 = .ok (.iload 5, 2) := g_21 bX0_findKeeping rfl
theorem dX0_findKeeping_58 : decode cX0_findKeeping 58 = .ok (.aload_n 0, 1) := g_42 bX0_findKeeping rfl
theorem dX0_findKeeping_59 : decode cX0_findKeeping 59 = .ok (.getfield 64, 3) := g_180 bX0_findKeeping rfl
theorem dX0_findKeeping_62 : decode cX0_findKeeping 62 = .ok (.iadd, 1) := g_96 bX0_findKeeping rfl
theorem dX0_findKeeping_63 : decode cX0_findKeeping 63 = .ok (.iload 4, 2) := g_21 bX0_findKeeping rfl
theorem dX0_findKeeping_65 : decode cX0_findKeeping 65 = .ok (.isub, 1) := g_100 bX0_findKeeping rfl
theorem dX0_findKeeping_66 : decode cX0_findKeeping 66 = .ok (.putfield 64, 3) := g_181 bX0_findKeeping rfl
theorem dX0_findKeeping_69 : decode cX0_findKeeping 69 = .ok (.iconst 1, 1) := g_4 bX0_findKeeping rfl
theorem dX0_findKeeping_70 : decode cX0_findKeeping 70 = .ok (.ireturn, 1) := g_172 bX0_findKeeping rfl
theorem dX0_sumOfRest_0 : decode cX0_sumOfRest 0 = .ok (.iconst 0, 1) := g_3 bX0_sumOfRest rfl
theorem dX0_sumOfRest_1 : decode cX0_sumOfRest 1 = .ok (.istore_n 2, 1) := g_61 bX0_sumOfRest rfl
theorem dX0_sumOfRest_2 : decode cX0_sumOfRest 2 = .ok (.iconst 0, 1) := g_3 bX0_sumOfRest rfl
theorem dX0_sumOfRest_3 : decode cX0_sumOfRest 3 = .ok (.istore_n 3, 1) := g_62 bX0_sumOfRest rfl
theorem dX0_sumOfRest_4 : decode cX0_sumOfRest 4 = .ok (.iload_n 3, 1) := g_29 bX0_sumOfRest rfl
theorem dX0_sumOfRest_5 : decode cX0_sumOfRest 5 = .ok (.iload_n 1, 1) := g_27 bX0_sumOfRest rfl
theorem dX0_sumOfRest_6 : decode cX0_sumOfRest 6 = .ok (.if_icmp .ge 32, 3) := g_162 32 bX0_sumOfRest rfl rfl
theorem dX0_sumOfRest_9 : decode cX0_sumOfRest 9 = .ok (.aload_n 0, 1) := g_42 bX0_sumOfRest rfl
theorem dX0_sumOfRest_10 : decode cX0_sumOfRest 10 = .ok (.invokevirtual 25, 3) := g_182 bX0_sumOfRest rfl
theorem dX0_sumOfRest_13 : decode cX0_sumOfRest 13 = .ok (.ifCond .eq 25, 3) := g_153 25 bX0_sumOfRest rfl rfl
theorem dX0_sumOfRest_16 : decode cX0_sumOfRest 16 = .ok (.iload_n 2, 1) := g_28 bX0_sumOfRest rfl
theorem dX0_sumOfRest_17 : decode cX0_sumOfRest 17 = .ok (.aload_n 0, 1) := g_42 bX0_sumOfRest rfl
theorem dX0_sumOfRest_18 : decode cX0_sumOfRest 18 = .ok (.aload_n 0, 1) := g_42 bX0_sumOfRest rfl
theorem dX0_sumOfRest_19 : decode cX0_sumOfRest 19 = .ok (.invokevirtual 25, 3) := g_182 bX0_sumOfRest rfl
theorem dX0_sumOfRest_22 : decode cX0_sumOfRest 22 = .ok (.invokevirtual 45, 3) := g_182 bX0_sumOfRest rfl
theorem dX0_sumOfRest_25 : decode cX0_sumOfRest 25 = .ok (.iadd, 1) := g_96 bX0_sumOfRest rfl
theorem dX0_sumOfRest_26 : decode cX0_sumOfRest 26 = .ok (.istore_n 2, 1) := g_61 bX0_sumOfRest rfl
theorem dX0_sumOfRest_27 : decode cX0_sumOfRest 27 = .ok (.aload_n 0, 1) := g_42 bX0_sumOfRest rfl
theorem dX0_sumOfRest_28 : decode cX0_sumOfRest 28 = .ok (.invokevirtual 42, 3) := g_182 bX0_sumOfRest rfl
theorem dX0_sumOfRest_31 : decode cX0_sumOfRest 31 = .ok (.pop, 1) := g_87 bX0_sumOfRest rfl
theorem dX0_sumOfRest_32 : decode cX0_sumOfRest 32 = .ok (.iinc 3 1, 3) := g_132 1 bX0_sumOfRest rfl rfl
theorem dX0_sumOfRest_35 : decode cX0_sumOfRest 35 = .ok (.goto (-31), 3) := g_167 65505 bX0_sumOfRest rfl rfl
theorem dX0_sumOfRest_38 : decode cX0_sumOfRest 38 = .ok (.iload_n 2, 1) := g_28 bX0_sumOfRest rfl
theorem dX0_sumOfRest_39 : decode cX0_sumOfRest 39 = .ok (.ireturn, 1) := g_172 bX0_sumOfRest rfl
theorem dX0_sumOfRun_0 : decode cX0_sumOfRun 0 = .ok (.iconst 0, 1) := g_3 bX0_sumOfRun rfl
theorem dX0_sumOfRun_1 : decode cX0_sumOfRun 1 = .ok (.istore 5, 2) := g_54 bX0_sumOfRun rfl
theorem dX0_sumOfRun_3 : decode cX0_sumOfRun 3 = .ok (.iconst 0, 1) := g_3 bX0_sumOfRun rfl
theorem dX0_sumOfRun_4 : decode cX0_sumOfRun 4 = .ok (.istore 6, 2) := g_54 bX0_sumOfRun rfl
theorem dX0_sumOfRun_6 : decode cX0_sumOfRun 6 = .ok (.iload 6, 2) := g_21 bX0_sumOfRun rfl
theorem dX0_sumOfRun_8 : decode cX0_sumOfRun 8 = .ok (.iload 4, 2) := g_21 bX0_sumOfRun rfl
theorem dX0_sumOfRun_10 : decode cX0_sumOfRun 10 = .ok (.if_icmp .ge 53, 3) := g_162 53 bX0_sumOfRun rfl rfl
theorem dX0_sumOfRun_13 : decode cX0_sumOfRun 13 = .ok (.aload_n 1, 1) := g_43 bX0_sumOfRun rfl
theorem dX0_sumOfRun_14 : decode cX0_sumOfRun 14 = .ok (.invokevirtual 25, 3) := g_182 bX0_sumOfRun rfl
theorem dX0_sumOfRun_17 : decode cX0_sumOfRun 17 = .ok (.ifCond .ne 11, 3) := g_154 11 bX0_sumOfRun rfl rfl
theorem dX0_sumOfRun_20 : decode cX0_sumOfRun 20 = .ok (.aload_n 0, 1) := g_42 bX0_sumOfRun rfl
theorem dX0_sumOfRun_21 : decode cX0_sumOfRun 21 = .ok (.iconst 0, 1) := g_3 bX0_sumOfRun rfl
theorem dX0_sumOfRun_22 : decode cX0_sumOfRun 22 = .ok (.putfield 29, 3) := g_181 bX0_sumOfRun rfl
theorem dX0_sumOfRun_25 : decode cX0_sumOfRun 25 = .ok (.goto 38, 3) := g_167 38 bX0_sumOfRun rfl rfl
theorem dX0_sumOfRun_28 : decode cX0_sumOfRun 28 = .ok (.aload_n 1, 1) := g_43 bX0_sumOfRun rfl
theorem dX0_sumOfRun_29 : decode cX0_sumOfRun 29 = .ok (.iload_n 2, 1) := g_28 bX0_sumOfRun rfl
theorem dX0_sumOfRun_30 : decode cX0_sumOfRun 30 = .ok (.iload_n 3, 1) := g_29 bX0_sumOfRun rfl
theorem dX0_sumOfRun_31 : decode cX0_sumOfRun 31 = .ok (.invokestatic 33, 3) := g_184 bX0_sumOfRun rfl
theorem dX0_sumOfRun_34 : decode cX0_sumOfRun 34 = .ok (.pop, 1) := g_87 bX0_sumOfRun rfl
theorem dX0_sumOfRun_35 : decode cX0_sumOfRun 35 = .ok (.aload_n 0, 1) := g_42 bX0_sumOfRun rfl
theorem dX0_sumOfRun_36 : decode cX0_sumOfRun 36 = .ok (.aload_n 1, 1) := g_43 bX0_sumOfRun rfl
theorem dX0_sumOfRun_37 : decode cX0_sumOfRun 37 = .ok (.invokevirtual 39, 3) := g_182 bX0_sumOfRun rfl
theorem dX0_sumOfRun_40 : decode cX0_sumOfRun 40 = .ok (.putfield 29, 3) := g_181 bX0_sumOfRun rfl
theorem dX0_sumOfRun_43 : decode cX0_sumOfRun 43 = .ok (.iload 5, 2) := g_21 bX0_sumOfRun rfl
theorem dX0_sumOfRun_45 : decode cX0_sumOfRun 45 = .ok (.aload_n 0, 1) := g_42 bX0_sumOfRun rfl
theorem dX0_sumOfRun_46 : decode cX0_sumOfRun 46 = .ok (.getfield 29, 3) := g_180 bX0_sumOfRun rfl
theorem dX0_sumOfRun_49 : decode cX0_sumOfRun 49 = .ok (.iadd, 1) := g_96 bX0_sumOfRun rfl
theorem dX0_sumOfRun_50 : decode cX0_sumOfRun 50 = .ok (.istore 5, 2) := g_54 bX0_sumOfRun rfl
theorem dX0_sumOfRun_52 : decode cX0_sumOfRun 52 = .ok (.aload_n 1, 1) := g_43 bX0_sumOfRun rfl
theorem dX0_sumOfRun_53 : decode cX0_sumOfRun 53 = .ok (.invokevirtual 42, 3) := g_182 bX0_sumOfRun rfl
theorem dX0_sumOfRun_56 : decode cX0_sumOfRun 56 = .ok (.pop, 1) := g_87 bX0_sumOfRun rfl
theorem dX0_sumOfRun_57 : decode cX0_sumOfRun 57 = .ok (.iinc 6 1, 3) := g_132 1 bX0_sumOfRun rfl rfl
theorem dX0_sumOfRun_60 : decode cX0_sumOfRun 60 = .ok (.goto (-54), 3) := g_167 65482 bX0_sumOfRun rfl rfl
theorem dX0_sumOfRun_63 : decode cX0_sumOfRun 63 = .ok (.iload 5, 2) := g_21 bX0_sumOfRun rfl
theorem dX0_sumOfRun_65 : decode cX0_sumOfRun 65 = .ok (.ireturn, 1) := g_172 bX0_sumOfRun rfl
theorem dX0_trialOf_0 : decode cX0_trialOf 0 = .ok (.aload_n 0, 1) := g_42 bX0_trialOf rfl
theorem dX0_trialOf_1 : decode cX0_trialOf 1 = .ok (.getfield 12, 3) := g_180 bX0_trialOf rfl
theorem dX0_trialOf_4 : decode cX0_trialOf 4 = .ok (.aload_n 1, 1) := g_43 bX0_trialOf rfl
theorem dX0_trialOf_5 : decode cX0_trialOf 5 = .ok (.invokevirtual 21, 3) := g_182 bX0_trialOf rfl
theorem dX0_trialOf_8 : decode cX0_trialOf 8 = .ok (.aload_n 0, 1) := g_42 bX0_trialOf rfl
theorem dX0_trialOf_9 : decode cX0_trialOf 9 = .ok (.getfield 12, 3) := g_180 bX0_trialOf rfl
theorem dX0_trialOf_12 : decode cX0_trialOf 12 = .ok (.areturn, 1) := g_176 bX0_trialOf rfl
theorem dX0_worthByRising_0 : decode cX0_worthByRising 0 = .ok (.aload_n 0, 1) := g_42 bX0_worthByRising rfl
theorem dX0_worthByRising_1 : decode cX0_worthByRising 1 = .ok (.getfield 12, 3) := g_180 bX0_worthByRising rfl
theorem dX0_worthByRising_4 : decode cX0_worthByRising 4 = .ok (.aload_n 1, 1) := g_43 bX0_worthByRising rfl
theorem dX0_worthByRising_5 : decode cX0_worthByRising 5 = .ok (.invokevirtual 21, 3) := g_182 bX0_worthByRising rfl
theorem dX0_worthByRising_8 : decode cX0_worthByRising 8 = .ok (.iconst 0, 1) := g_3 bX0_worthByRising rfl
theorem dX0_worthByRising_9 : decode cX0_worthByRising 9 = .ok (.istore_n 3, 1) := g_62 bX0_worthByRising rfl
theorem dX0_worthByRising_10 : decode cX0_worthByRising 10 = .ok (.iload_n 3, 1) := g_29 bX0_worthByRising rfl
theorem dX0_worthByRising_11 : decode cX0_worthByRising 11 = .ok (.aload_n 0, 1) := g_42 bX0_worthByRising rfl
theorem dX0_worthByRising_12 : decode cX0_worthByRising 12 = .ok (.getfield 12, 3) := g_180 bX0_worthByRising rfl
theorem dX0_worthByRising_15 : decode cX0_worthByRising 15 = .ok (.getfield 70, 3) := g_180 bX0_worthByRising rfl
theorem dX0_worthByRising_18 : decode cX0_worthByRising 18 = .ok (.if_icmp .ge 32, 3) := g_162 32 bX0_worthByRising rfl rfl
theorem dX0_worthByRising_21 : decode cX0_worthByRising 21 = .ok (.aload_n 0, 1) := g_42 bX0_worthByRising rfl
theorem dX0_worthByRising_22 : decode cX0_worthByRising 22 = .ok (.getfield 12, 3) := g_180 bX0_worthByRising rfl
theorem dX0_worthByRising_25 : decode cX0_worthByRising 25 = .ok (.getfield 73, 3) := g_180 bX0_worthByRising rfl
theorem dX0_worthByRising_28 : decode cX0_worthByRising 28 = .ok (.iload_n 3, 1) := g_29 bX0_worthByRising rfl
theorem dX0_worthByRising_29 : decode cX0_worthByRising 29 = .ok (.invokestatic 52, 3) := g_184 bX0_worthByRising rfl
theorem dX0_worthByRising_32 : decode cX0_worthByRising 32 = .ok (.ifCond .ne 12, 3) := g_154 12 bX0_worthByRising rfl rfl
theorem dX0_worthByRising_35 : decode cX0_worthByRising 35 = .ok (.aload_n 0, 1) := g_42 bX0_worthByRising rfl
theorem dX0_worthByRising_36 : decode cX0_worthByRising 36 = .ok (.getfield 12, 3) := g_180 bX0_worthByRising rfl
theorem dX0_worthByRising_39 : decode cX0_worthByRising 39 = .ok (.iload_n 2, 1) := g_28 bX0_worthByRising rfl
theorem dX0_worthByRising_40 : decode cX0_worthByRising 40 = .ok (.iload_n 3, 1) := g_29 bX0_worthByRising rfl
theorem dX0_worthByRising_41 : decode cX0_worthByRising 41 = .ok (.invokevirtual 56, 3) := g_182 bX0_worthByRising rfl
theorem dX0_worthByRising_44 : decode cX0_worthByRising 44 = .ok (.iinc 3 1, 3) := g_132 1 bX0_worthByRising rfl rfl
theorem dX0_worthByRising_47 : decode cX0_worthByRising 47 = .ok (.goto (-37), 3) := g_167 65499 bX0_worthByRising rfl rfl
theorem dX0_worthByRising_50 : decode cX0_worthByRising 50 = .ok (.aload_n 0, 1) := g_42 bX0_worthByRising rfl
theorem dX0_worthByRising_51 : decode cX0_worthByRising 51 = .ok (.getfield 12, 3) := g_180 bX0_worthByRising rfl
theorem dX0_worthByRising_54 : decode cX0_worthByRising 54 = .ok (.iconst 1, 1) := g_4 bX0_worthByRising rfl
theorem dX0_worthByRising_55 : decode cX0_worthByRising 55 = .ok (.iload_n 2, 1) := g_28 bX0_worthByRising rfl
theorem dX0_worthByRising_56 : decode cX0_worthByRising 56 = .ok (.ishl, 1) := g_120 bX0_worthByRising rfl
theorem dX0_worthByRising_57 : decode cX0_worthByRising 57 = .ok (.invokevirtual 45, 3) := g_182 bX0_worthByRising rfl
theorem dX0_worthByRising_60 : decode cX0_worthByRising 60 = .ok (.ireturn, 1) := g_172 bX0_worthByRising rfl
theorem dX1_isUnder_0 : decode cX1_isUnder 0 = .ok (.iload_n 1, 1) := g_27 bX1_isUnder rfl
theorem dX1_isUnder_1 : decode cX1_isUnder 1 = .ok (.tableswitch 70 0 4 #[35, 37, 70, 70, 53], 35) := by decide +kernel
theorem dX1_isUnder_36 : decode cX1_isUnder 36 = .ok (.iconst 1, 1) := g_4 bX1_isUnder rfl
theorem dX1_isUnder_37 : decode cX1_isUnder 37 = .ok (.ireturn, 1) := g_172 bX1_isUnder rfl
theorem dX1_isUnder_38 : decode cX1_isUnder 38 = .ok (.iload_n 0, 1) := g_26 bX1_isUnder rfl
theorem dX1_isUnder_39 : decode cX1_isUnder 39 = .ok (.iconst 1, 1) := g_4 bX1_isUnder rfl
theorem dX1_isUnder_40 : decode cX1_isUnder 40 = .ok (.if_icmp .lt 12, 3) := g_161 12 bX1_isUnder rfl rfl
theorem dX1_isUnder_43 : decode cX1_isUnder 43 = .ok (.iload_n 0, 1) := g_26 bX1_isUnder rfl
theorem dX1_isUnder_44 : decode cX1_isUnder 44 = .ok (.iconst 3, 1) := g_6 bX1_isUnder rfl
theorem dX1_isUnder_45 : decode cX1_isUnder 45 = .ok (.if_icmp .gt 7, 3) := g_163 7 bX1_isUnder rfl rfl
theorem dX1_isUnder_48 : decode cX1_isUnder 48 = .ok (.iconst 1, 1) := g_4 bX1_isUnder rfl
theorem dX1_isUnder_49 : decode cX1_isUnder 49 = .ok (.goto 4, 3) := g_167 4 bX1_isUnder rfl rfl
theorem dX1_isUnder_52 : decode cX1_isUnder 52 = .ok (.iconst 0, 1) := g_3 bX1_isUnder rfl
theorem dX1_isUnder_53 : decode cX1_isUnder 53 = .ok (.ireturn, 1) := g_172 bX1_isUnder rfl
theorem dX1_isUnder_54 : decode cX1_isUnder 54 = .ok (.iload_n 0, 1) := g_26 bX1_isUnder rfl
theorem dX1_isUnder_55 : decode cX1_isUnder 55 = .ok (.iconst 4, 1) := g_7 bX1_isUnder rfl
theorem dX1_isUnder_56 : decode cX1_isUnder 56 = .ok (.if_icmp .lt 13, 3) := g_161 13 bX1_isUnder rfl rfl
theorem dX1_isUnder_59 : decode cX1_isUnder 59 = .ok (.iload_n 0, 1) := g_26 bX1_isUnder rfl
theorem dX1_isUnder_60 : decode cX1_isUnder 60 = .ok (.bipush 6, 2) := g_16 6 bX1_isUnder rfl rfl
theorem dX1_isUnder_62 : decode cX1_isUnder 62 = .ok (.if_icmp .gt 7, 3) := g_163 7 bX1_isUnder rfl rfl
theorem dX1_isUnder_65 : decode cX1_isUnder 65 = .ok (.iconst 1, 1) := g_4 bX1_isUnder rfl
theorem dX1_isUnder_66 : decode cX1_isUnder 66 = .ok (.goto 4, 3) := g_167 4 bX1_isUnder rfl rfl
theorem dX1_isUnder_69 : decode cX1_isUnder 69 = .ok (.iconst 0, 1) := g_3 bX1_isUnder rfl
theorem dX1_isUnder_70 : decode cX1_isUnder 70 = .ok (.ireturn, 1) := g_172 bX1_isUnder rfl
theorem dX1_isUnder_71 : decode cX1_isUnder 71 = .ok (.iload_n 0, 1) := g_26 bX1_isUnder rfl
theorem dX1_isUnder_72 : decode cX1_isUnder 72 = .ok (.iload_n 1, 1) := g_27 bX1_isUnder rfl
theorem dX1_isUnder_73 : decode cX1_isUnder 73 = .ok (.if_icmp .ne 7, 3) := g_160 7 bX1_isUnder rfl rfl
theorem dX1_isUnder_76 : decode cX1_isUnder 76 = .ok (.iconst 1, 1) := g_4 bX1_isUnder rfl
theorem dX1_isUnder_77 : decode cX1_isUnder 77 = .ok (.goto 4, 3) := g_167 4 bX1_isUnder rfl rfl
theorem dX1_isUnder_80 : decode cX1_isUnder 80 = .ok (.iconst 0, 1) := g_3 bX1_isUnder rfl
theorem dX1_isUnder_81 : decode cX1_isUnder 81 = .ok (.ireturn, 1) := g_172 bX1_isUnder rfl
theorem dX2_at_0 : decode cX2_at 0 = .ok (.aload_n 0, 1) := g_42 bX2_at rfl
theorem dX2_at_1 : decode cX2_at 1 = .ok (.getfield 21, 3) := g_180 bX2_at rfl
theorem dX2_at_4 : decode cX2_at 4 = .ok (.iload_n 1, 1) := g_27 bX2_at rfl
theorem dX2_at_5 : decode cX2_at 5 = .ok (.bipush 40, 2) := g_16 40 bX2_at rfl rfl
theorem dX2_at_7 : decode cX2_at 7 = .ok (.imul, 1) := g_104 bX2_at rfl
theorem dX2_at_8 : decode cX2_at 8 = .ok (.iload_n 2, 1) := g_28 bX2_at rfl
theorem dX2_at_9 : decode cX2_at 9 = .ok (.iadd, 1) := g_96 bX2_at rfl
theorem dX2_at_10 : decode cX2_at 10 = .ok (.laload, 1) := g_47 bX2_at rfl
theorem dX2_at_11 : decode cX2_at 11 = .ok (.lreturn, 1) := g_173 bX2_at rfl
theorem dX2_countHolding_0 : decode cX2_countHolding 0 = .ok (.iconst 0, 1) := g_3 bX2_countHolding rfl
theorem dX2_countHolding_1 : decode cX2_countHolding 1 = .ok (.istore_n 1, 1) := g_60 bX2_countHolding rfl
theorem dX2_countHolding_2 : decode cX2_countHolding 2 = .ok (.iconst 0, 1) := g_3 bX2_countHolding rfl
theorem dX2_countHolding_3 : decode cX2_countHolding 3 = .ok (.istore_n 2, 1) := g_61 bX2_countHolding rfl
theorem dX2_countHolding_4 : decode cX2_countHolding 4 = .ok (.iload_n 2, 1) := g_28 bX2_countHolding rfl
theorem dX2_countHolding_5 : decode cX2_countHolding 5 = .ok (.bipush 8, 2) := g_16 8 bX2_countHolding rfl rfl
theorem dX2_countHolding_7 : decode cX2_countHolding 7 = .ok (.if_icmp .ge 22, 3) := g_162 22 bX2_countHolding rfl rfl
theorem dX2_countHolding_10 : decode cX2_countHolding 10 = .ok (.aload_n 0, 1) := g_42 bX2_countHolding rfl
theorem dX2_countHolding_11 : decode cX2_countHolding 11 = .ok (.getfield 9, 3) := g_180 bX2_countHolding rfl
theorem dX2_countHolding_14 : decode cX2_countHolding 14 = .ok (.iload_n 2, 1) := g_28 bX2_countHolding rfl
theorem dX2_countHolding_15 : decode cX2_countHolding 15 = .ok (.iaload, 1) := g_46 bX2_countHolding rfl
theorem dX2_countHolding_16 : decode cX2_countHolding 16 = .ok (.iconst (-1), 1) := g_2 bX2_countHolding rfl
theorem dX2_countHolding_17 : decode cX2_countHolding 17 = .ok (.if_icmp .eq 6, 3) := g_159 6 bX2_countHolding rfl rfl
theorem dX2_countHolding_20 : decode cX2_countHolding 20 = .ok (.iinc 1 1, 3) := g_132 1 bX2_countHolding rfl rfl
theorem dX2_countHolding_23 : decode cX2_countHolding 23 = .ok (.iinc 2 1, 3) := g_132 1 bX2_countHolding rfl rfl
theorem dX2_countHolding_26 : decode cX2_countHolding 26 = .ok (.goto (-22), 3) := g_167 65514 bX2_countHolding rfl rfl
theorem dX2_countHolding_29 : decode cX2_countHolding 29 = .ok (.iload_n 1, 1) := g_27 bX2_countHolding rfl
theorem dX2_countHolding_30 : decode cX2_countHolding 30 = .ok (.ireturn, 1) := g_172 bX2_countHolding rfl
theorem dX2_hasRow_0 : decode cX2_hasRow 0 = .ok (.aload_n 0, 1) := g_42 bX2_hasRow rfl
theorem dX2_hasRow_1 : decode cX2_hasRow 1 = .ok (.getfield 9, 3) := g_180 bX2_hasRow rfl
theorem dX2_hasRow_4 : decode cX2_hasRow 4 = .ok (.iload_n 1, 1) := g_27 bX2_hasRow rfl
theorem dX2_hasRow_5 : decode cX2_hasRow 5 = .ok (.iaload, 1) := g_46 bX2_hasRow rfl
theorem dX2_hasRow_6 : decode cX2_hasRow 6 = .ok (.ifCond .lt 17, 3) := g_155 17 bX2_hasRow rfl rfl
theorem dX2_hasRow_9 : decode cX2_hasRow 9 = .ok (.aload_n 0, 1) := g_42 bX2_hasRow rfl
theorem dX2_hasRow_10 : decode cX2_hasRow 10 = .ok (.getfield 9, 3) := g_180 bX2_hasRow rfl
theorem dX2_hasRow_13 : decode cX2_hasRow 13 = .ok (.iload_n 1, 1) := g_27 bX2_hasRow rfl
theorem dX2_hasRow_14 : decode cX2_hasRow 14 = .ok (.iaload, 1) := g_46 bX2_hasRow rfl
theorem dX2_hasRow_15 : decode cX2_hasRow 15 = .ok (.iconst 4, 1) := g_7 bX2_hasRow rfl
theorem dX2_hasRow_16 : decode cX2_hasRow 16 = .ok (.if_icmp .gt 7, 3) := g_163 7 bX2_hasRow rfl rfl
theorem dX2_hasRow_19 : decode cX2_hasRow 19 = .ok (.iconst 1, 1) := g_4 bX2_hasRow rfl
theorem dX2_hasRow_20 : decode cX2_hasRow 20 = .ok (.goto 4, 3) := g_167 4 bX2_hasRow rfl rfl
theorem dX2_hasRow_23 : decode cX2_hasRow 23 = .ok (.iconst 0, 1) := g_3 bX2_hasRow rfl
theorem dX2_hasRow_24 : decode cX2_hasRow 24 = .ok (.ireturn, 1) := g_172 bX2_hasRow rfl
theorem dX2_hasRule_0 : decode cX2_hasRule 0 = .ok (.aload_n 0, 1) := g_42 bX2_hasRule rfl
theorem dX2_hasRule_1 : decode cX2_hasRule 1 = .ok (.getfield 9, 3) := g_180 bX2_hasRule rfl
theorem dX2_hasRule_4 : decode cX2_hasRule 4 = .ok (.iload_n 1, 1) := g_27 bX2_hasRule rfl
theorem dX2_hasRule_5 : decode cX2_hasRule 5 = .ok (.iaload, 1) := g_46 bX2_hasRule rfl
theorem dX2_hasRule_6 : decode cX2_hasRule 6 = .ok (.bipush 10, 2) := g_16 10 bX2_hasRule rfl rfl
theorem dX2_hasRule_8 : decode cX2_hasRule 8 = .ok (.if_icmp .lt 7, 3) := g_161 7 bX2_hasRule rfl rfl
theorem dX2_hasRule_11 : decode cX2_hasRule 11 = .ok (.iconst 1, 1) := g_4 bX2_hasRule rfl
theorem dX2_hasRule_12 : decode cX2_hasRule 12 = .ok (.goto 4, 3) := g_167 4 bX2_hasRule rfl rfl
theorem dX2_hasRule_15 : decode cX2_hasRule 15 = .ok (.iconst 0, 1) := g_3 bX2_hasRule rfl
theorem dX2_hasRule_16 : decode cX2_hasRule 16 = .ok (.ireturn, 1) := g_172 bX2_hasRule rfl
theorem dX2_kindIn_0 : decode cX2_kindIn 0 = .ok (.aload_n 0, 1) := g_42 bX2_kindIn rfl
theorem dX2_kindIn_1 : decode cX2_kindIn 1 = .ok (.getfield 9, 3) := g_180 bX2_kindIn rfl
theorem dX2_kindIn_4 : decode cX2_kindIn 4 = .ok (.iload_n 1, 1) := g_27 bX2_kindIn rfl
theorem dX2_kindIn_5 : decode cX2_kindIn 5 = .ok (.iaload, 1) := g_46 bX2_kindIn rfl
theorem dX2_kindIn_6 : decode cX2_kindIn 6 = .ok (.bipush 10, 2) := g_16 10 bX2_kindIn rfl rfl
theorem dX2_kindIn_8 : decode cX2_kindIn 8 = .ok (.isub, 1) := g_100 bX2_kindIn rfl
theorem dX2_kindIn_9 : decode cX2_kindIn 9 = .ok (.ireturn, 1) := g_172 bX2_kindIn rfl
theorem dX2_lowestBits_0 : decode cX2_lowestBits 0 = .ok (.iload_n 0, 1) := g_26 bX2_lowestBits rfl
theorem dX2_lowestBits_1 : decode cX2_lowestBits 1 = .ok (.tableswitch 61 0 4 #[35, 40, 45, 61, 49], 35) := by decide +kernel
theorem dX2_lowestBits_36 : decode cX2_lowestBits 36 = .ok (.lload_n 1, 1) := g_31 bX2_lowestBits rfl
theorem dX2_lowestBits_37 : decode cX2_lowestBits 37 = .ok (.l2i, 1) := g_136 bX2_lowestBits rfl
theorem dX2_lowestBits_38 : decode cX2_lowestBits 38 = .ok (.i2b, 1) := g_145 bX2_lowestBits rfl
theorem dX2_lowestBits_39 : decode cX2_lowestBits 39 = .ok (.i2l, 1) := g_133 bX2_lowestBits rfl
theorem dX2_lowestBits_40 : decode cX2_lowestBits 40 = .ok (.lreturn, 1) := g_173 bX2_lowestBits rfl
theorem dX2_lowestBits_41 : decode cX2_lowestBits 41 = .ok (.lload_n 1, 1) := g_31 bX2_lowestBits rfl
theorem dX2_lowestBits_42 : decode cX2_lowestBits 42 = .ok (.l2i, 1) := g_136 bX2_lowestBits rfl
theorem dX2_lowestBits_43 : decode cX2_lowestBits 43 = .ok (.i2s, 1) := g_147 bX2_lowestBits rfl
theorem dX2_lowestBits_44 : decode cX2_lowestBits 44 = .ok (.i2l, 1) := g_133 bX2_lowestBits rfl
theorem dX2_lowestBits_45 : decode cX2_lowestBits 45 = .ok (.lreturn, 1) := g_173 bX2_lowestBits rfl
theorem dX2_lowestBits_46 : decode cX2_lowestBits 46 = .ok (.lload_n 1, 1) := g_31 bX2_lowestBits rfl
theorem dX2_lowestBits_47 : decode cX2_lowestBits 47 = .ok (.l2i, 1) := g_136 bX2_lowestBits rfl
theorem dX2_lowestBits_48 : decode cX2_lowestBits 48 = .ok (.i2l, 1) := g_133 bX2_lowestBits rfl
theorem dX2_lowestBits_49 : decode cX2_lowestBits 49 = .ok (.lreturn, 1) := g_173 bX2_lowestBits rfl
theorem dX2_lowestBits_50 : decode cX2_lowestBits 50 = .ok (.lload_n 1, 1) := g_31 bX2_lowestBits rfl
theorem dX2_lowestBits_51 : decode cX2_lowestBits 51 = .ok (.lconst 0, 1) := g_9 bX2_lowestBits rfl
theorem dX2_lowestBits_52 : decode cX2_lowestBits 52 = .ok (.lcmp, 1) := g_148 bX2_lowestBits rfl
theorem dX2_lowestBits_53 : decode cX2_lowestBits 53 = .ok (.ifCond .eq 7, 3) := g_153 7 bX2_lowestBits rfl rfl
theorem dX2_lowestBits_56 : decode cX2_lowestBits 56 = .ok (.lconst 1, 1) := g_10 bX2_lowestBits rfl
theorem dX2_lowestBits_57 : decode cX2_lowestBits 57 = .ok (.goto 4, 3) := g_167 4 bX2_lowestBits rfl rfl
theorem dX2_lowestBits_60 : decode cX2_lowestBits 60 = .ok (.lconst 0, 1) := g_9 bX2_lowestBits rfl
theorem dX2_lowestBits_61 : decode cX2_lowestBits 61 = .ok (.lreturn, 1) := g_173 bX2_lowestBits rfl
theorem dX2_lowestBits_62 : decode cX2_lowestBits 62 = .ok (.lload_n 1, 1) := g_31 bX2_lowestBits rfl
theorem dX2_lowestBits_63 : decode cX2_lowestBits 63 = .ok (.lreturn, 1) := g_173 bX2_lowestBits rfl
theorem dX2_move_0 : decode cX2_move 0 = .ok (.aload_n 0, 1) := g_42 bX2_move rfl
theorem dX2_move_1 : decode cX2_move 1 = .ok (.getfield 21, 3) := g_180 bX2_move rfl
theorem dX2_move_4 : decode cX2_move 4 = .ok (.iload_n 1, 1) := g_27 bX2_move rfl
theorem dX2_move_5 : decode cX2_move 5 = .ok (.bipush 40, 2) := g_16 40 bX2_move rfl rfl
theorem dX2_move_7 : decode cX2_move 7 = .ok (.imul, 1) := g_104 bX2_move rfl
theorem dX2_move_8 : decode cX2_move 8 = .ok (.iload_n 3, 1) := g_29 bX2_move rfl
theorem dX2_move_9 : decode cX2_move 9 = .ok (.iadd, 1) := g_96 bX2_move rfl
theorem dX2_move_10 : decode cX2_move 10 = .ok (.aload_n 0, 1) := g_42 bX2_move rfl
theorem dX2_move_11 : decode cX2_move 11 = .ok (.getfield 21, 3) := g_180 bX2_move rfl
theorem dX2_move_14 : decode cX2_move 14 = .ok (.iload_n 2, 1) := g_28 bX2_move rfl
theorem dX2_move_15 : decode cX2_move 15 = .ok (.bipush 40, 2) := g_16 40 bX2_move rfl rfl
theorem dX2_move_17 : decode cX2_move 17 = .ok (.imul, 1) := g_104 bX2_move rfl
theorem dX2_move_18 : decode cX2_move 18 = .ok (.iload 4, 2) := g_21 bX2_move rfl
theorem dX2_move_20 : decode cX2_move 20 = .ok (.iadd, 1) := g_96 bX2_move rfl
theorem dX2_move_21 : decode cX2_move 21 = .ok (.iload 5, 2) := g_21 bX2_move rfl
theorem dX2_move_23 : decode cX2_move 23 = .ok (.invokestatic 29, 3) := g_184 bX2_move rfl
theorem dX2_move_26 : decode cX2_move 26 = .ok (.return_, 1) := g_177 bX2_move rfl
theorem dX2_put_0 : decode cX2_put 0 = .ok (.aload_n 0, 1) := g_42 bX2_put rfl
theorem dX2_put_1 : decode cX2_put 1 = .ok (.getfield 21, 3) := g_180 bX2_put rfl
theorem dX2_put_4 : decode cX2_put 4 = .ok (.iload_n 1, 1) := g_27 bX2_put rfl
theorem dX2_put_5 : decode cX2_put 5 = .ok (.bipush 40, 2) := g_16 40 bX2_put rfl rfl
theorem dX2_put_7 : decode cX2_put 7 = .ok (.imul, 1) := g_104 bX2_put rfl
theorem dX2_put_8 : decode cX2_put 8 = .ok (.iload_n 2, 1) := g_28 bX2_put rfl
theorem dX2_put_9 : decode cX2_put 9 = .ok (.iadd, 1) := g_96 bX2_put rfl
theorem dX2_put_10 : decode cX2_put 10 = .ok (.aload_n 0, 1) := g_42 bX2_put rfl
theorem dX2_put_11 : decode cX2_put 11 = .ok (.getfield 9, 3) := g_180 bX2_put rfl
theorem dX2_put_14 : decode cX2_put 14 = .ok (.iload_n 1, 1) := g_27 bX2_put rfl
theorem dX2_put_15 : decode cX2_put 15 = .ok (.iaload, 1) := g_46 bX2_put rfl
theorem dX2_put_16 : decode cX2_put 16 = .ok (.lload_n 3, 1) := g_33 bX2_put rfl
theorem dX2_put_17 : decode cX2_put 17 = .ok (.invokestatic 25, 3) := g_184 bX2_put rfl
theorem dX2_put_20 : decode cX2_put 20 = .ok (.lastore, 1) := g_80 bX2_put rfl
theorem dX2_put_21 : decode cX2_put 21 = .ok (.return_, 1) := g_177 bX2_put rfl
theorem dX2_putRow_0 : decode cX2_putRow 0 = .ok (.aload_n 0, 1) := g_42 bX2_putRow rfl
theorem dX2_putRow_1 : decode cX2_putRow 1 = .ok (.getfield 9, 3) := g_180 bX2_putRow rfl
theorem dX2_putRow_4 : decode cX2_putRow 4 = .ok (.iload_n 1, 1) := g_27 bX2_putRow rfl
theorem dX2_putRow_5 : decode cX2_putRow 5 = .ok (.iload_n 2, 1) := g_28 bX2_putRow rfl
theorem dX2_putRow_6 : decode cX2_putRow 6 = .ok (.iastore, 1) := g_79 bX2_putRow rfl
theorem dX2_putRow_7 : decode cX2_putRow 7 = .ok (.aload_n 0, 1) := g_42 bX2_putRow rfl
theorem dX2_putRow_8 : decode cX2_putRow 8 = .ok (.getfield 15, 3) := g_180 bX2_putRow rfl
theorem dX2_putRow_11 : decode cX2_putRow 11 = .ok (.iload_n 1, 1) := g_27 bX2_putRow rfl
theorem dX2_putRow_12 : decode cX2_putRow 12 = .ok (.iload_n 3, 1) := g_29 bX2_putRow rfl
theorem dX2_putRow_13 : decode cX2_putRow 13 = .ok (.iastore, 1) := g_79 bX2_putRow rfl
theorem dX2_putRow_14 : decode cX2_putRow 14 = .ok (.iconst 0, 1) := g_3 bX2_putRow rfl
theorem dX2_putRow_15 : decode cX2_putRow 15 = .ok (.istore 4, 2) := g_54 bX2_putRow rfl
theorem dX2_putRow_17 : decode cX2_putRow 17 = .ok (.iload 4, 2) := g_21 bX2_putRow rfl
theorem dX2_putRow_19 : decode cX2_putRow 19 = .ok (.iload_n 3, 1) := g_29 bX2_putRow rfl
theorem dX2_putRow_20 : decode cX2_putRow 20 = .ok (.if_icmp .ge 22, 3) := g_162 22 bX2_putRow rfl rfl
theorem dX2_putRow_23 : decode cX2_putRow 23 = .ok (.aload_n 0, 1) := g_42 bX2_putRow rfl
theorem dX2_putRow_24 : decode cX2_putRow 24 = .ok (.getfield 21, 3) := g_180 bX2_putRow rfl
theorem dX2_putRow_27 : decode cX2_putRow 27 = .ok (.iload_n 1, 1) := g_27 bX2_putRow rfl
theorem dX2_putRow_28 : decode cX2_putRow 28 = .ok (.bipush 40, 2) := g_16 40 bX2_putRow rfl rfl
theorem dX2_putRow_30 : decode cX2_putRow 30 = .ok (.imul, 1) := g_104 bX2_putRow rfl
theorem dX2_putRow_31 : decode cX2_putRow 31 = .ok (.iload 4, 2) := g_21 bX2_putRow rfl
theorem dX2_putRow_33 : decode cX2_putRow 33 = .ok (.iadd, 1) := g_96 bX2_putRow rfl
theorem dX2_putRow_34 : decode cX2_putRow 34 = .ok (.lconst 0, 1) := g_9 bX2_putRow rfl
theorem dX2_putRow_35 : decode cX2_putRow 35 = .ok (.lastore, 1) := g_80 bX2_putRow rfl
theorem dX2_putRow_36 : decode cX2_putRow 36 = .ok (.iinc 4 1, 3) := g_132 1 bX2_putRow rfl rfl
theorem dX2_putRow_39 : decode cX2_putRow 39 = .ok (.goto (-22), 3) := g_167 65514 bX2_putRow rfl rfl
theorem dX2_putRow_42 : decode cX2_putRow 42 = .ok (.return_, 1) := g_177 bX2_putRow rfl
theorem dX2_putRule_0 : decode cX2_putRule 0 = .ok (.aload_n 0, 1) := g_42 bX2_putRule rfl
theorem dX2_putRule_1 : decode cX2_putRule 1 = .ok (.getfield 9, 3) := g_180 bX2_putRule rfl
theorem dX2_putRule_4 : decode cX2_putRule 4 = .ok (.iload_n 1, 1) := g_27 bX2_putRule rfl
theorem dX2_putRule_5 : decode cX2_putRule 5 = .ok (.bipush 10, 2) := g_16 10 bX2_putRule rfl rfl
theorem dX2_putRule_7 : decode cX2_putRule 7 = .ok (.iload_n 2, 1) := g_28 bX2_putRule rfl
theorem dX2_putRule_8 : decode cX2_putRule 8 = .ok (.iadd, 1) := g_96 bX2_putRule rfl
theorem dX2_putRule_9 : decode cX2_putRule 9 = .ok (.iastore, 1) := g_79 bX2_putRule rfl
theorem dX2_putRule_10 : decode cX2_putRule 10 = .ok (.aload_n 0, 1) := g_42 bX2_putRule rfl
theorem dX2_putRule_11 : decode cX2_putRule 11 = .ok (.getfield 18, 3) := g_180 bX2_putRule rfl
theorem dX2_putRule_14 : decode cX2_putRule 14 = .ok (.iload_n 1, 1) := g_27 bX2_putRule rfl
theorem dX2_putRule_15 : decode cX2_putRule 15 = .ok (.iload_n 3, 1) := g_29 bX2_putRule rfl
theorem dX2_putRule_16 : decode cX2_putRule 16 = .ok (.iastore, 1) := g_79 bX2_putRule rfl
theorem dX2_putRule_17 : decode cX2_putRule 17 = .ok (.return_, 1) := g_177 bX2_putRule rfl
theorem dX5_canBeOne_0 : decode cX5_canBeOne 0 = .ok (.lload_n 0, 1) := g_30 bX5_canBeOne rfl
theorem dX5_canBeOne_1 : decode cX5_canBeOne 1 = .ok (.lconst 0, 1) := g_9 bX5_canBeOne rfl
theorem dX5_canBeOne_2 : decode cX5_canBeOne 2 = .ok (.ldc2_w 357, 3) := g_20 bX5_canBeOne rfl
theorem dX5_canBeOne_5 : decode cX5_canBeOne 5 = .ok (.invokestatic 50, 3) := g_184 bX5_canBeOne rfl
theorem dX5_canBeOne_8 : decode cX5_canBeOne 8 = .ok (.ifCond .eq 42, 3) := g_153 42 bX5_canBeOne rfl rfl
theorem dX5_canBeOne_11 : decode cX5_canBeOne 11 = .ok (.lload_n 2, 1) := g_32 bX5_canBeOne rfl
theorem dX5_canBeOne_12 : decode cX5_canBeOne 12 = .ok (.lconst 0, 1) := g_9 bX5_canBeOne rfl
theorem dX5_canBeOne_13 : decode cX5_canBeOne 13 = .ok (.ldc2_w 359, 3) := g_20 bX5_canBeOne rfl
theorem dX5_canBeOne_16 : decode cX5_canBeOne 16 = .ok (.invokestatic 50, 3) := g_184 bX5_canBeOne rfl
theorem dX5_canBeOne_19 : decode cX5_canBeOne 19 = .ok (.ifCond .eq 31, 3) := g_153 31 bX5_canBeOne rfl rfl
theorem dX5_canBeOne_22 : decode cX5_canBeOne 22 = .ok (.lload 4, 2) := g_22 bX5_canBeOne rfl
theorem dX5_canBeOne_24 : decode cX5_canBeOne 24 = .ok (.lconst 0, 1) := g_9 bX5_canBeOne rfl
theorem dX5_canBeOne_25 : decode cX5_canBeOne 25 = .ok (.ldc2_w 359, 3) := g_20 bX5_canBeOne rfl
theorem dX5_canBeOne_28 : decode cX5_canBeOne 28 = .ok (.invokestatic 50, 3) := g_184 bX5_canBeOne rfl
theorem dX5_canBeOne_31 : decode cX5_canBeOne 31 = .ok (.ifCond .eq 19, 3) := g_153 19 bX5_canBeOne rfl rfl
theorem dX5_canBeOne_34 : decode cX5_canBeOne 34 = .ok (.lload 6, 2) := g_22 bX5_canBeOne rfl
theorem dX5_canBeOne_36 : decode cX5_canBeOne 36 = .ok (.lconst 0, 1) := g_9 bX5_canBeOne rfl
theorem dX5_canBeOne_37 : decode cX5_canBeOne 37 = .ok (.ldc2_w 359, 3) := g_20 bX5_canBeOne rfl
theorem dX5_canBeOne_40 : decode cX5_canBeOne 40 = .ok (.invokestatic 50, 3) := g_184 bX5_canBeOne rfl
theorem dX5_canBeOne_43 : decode cX5_canBeOne 43 = .ok (.ifCond .eq 7, 3) := g_153 7 bX5_canBeOne rfl rfl
theorem dX5_canBeOne_46 : decode cX5_canBeOne 46 = .ok (.iconst 1, 1) := g_4 bX5_canBeOne rfl
theorem dX5_canBeOne_47 : decode cX5_canBeOne 47 = .ok (.goto 4, 3) := g_167 4 bX5_canBeOne rfl rfl
theorem dX5_canBeOne_50 : decode cX5_canBeOne 50 = .ok (.iconst 0, 1) := g_3 bX5_canBeOne rfl
theorem dX5_canBeOne_51 : decode cX5_canBeOne 51 = .ok (.ireturn, 1) := g_172 bX5_canBeOne rfl
theorem dX5_canBeTold_0 : decode cX5_canBeTold 0 = .ok (.iload_n 0, 1) := g_26 bX5_canBeTold rfl
theorem dX5_canBeTold_1 : decode cX5_canBeTold 1 = .ok (.i2l, 1) := g_133 bX5_canBeTold rfl
theorem dX5_canBeTold_2 : decode cX5_canBeTold 2 = .ok (.lconst 0, 1) := g_9 bX5_canBeTold rfl
theorem dX5_canBeTold_3 : decode cX5_canBeTold 3 = .ok (.ldc2_w 216, 3) := g_20 bX5_canBeTold rfl
theorem dX5_canBeTold_6 : decode cX5_canBeTold 6 = .ok (.invokestatic 50, 3) := g_184 bX5_canBeTold rfl
theorem dX5_canBeTold_9 : decode cX5_canBeTold 9 = .ok (.ifCond .eq 19, 3) := g_153 19 bX5_canBeTold rfl rfl
theorem dX5_canBeTold_12 : decode cX5_canBeTold 12 = .ok (.iload_n 1, 1) := g_27 bX5_canBeTold rfl
theorem dX5_canBeTold_13 : decode cX5_canBeTold 13 = .ok (.i2l, 1) := g_133 bX5_canBeTold rfl
theorem dX5_canBeTold_14 : decode cX5_canBeTold 14 = .ok (.lconst 0, 1) := g_9 bX5_canBeTold rfl
theorem dX5_canBeTold_15 : decode cX5_canBeTold 15 = .ok (.ldc2_w 359, 3) := g_20 bX5_canBeTold rfl
theorem dX5_canBeTold_18 : decode cX5_canBeTold 18 = .ok (.invokestatic 50, 3) := g_184 bX5_canBeTold rfl
theorem dX5_canBeTold_21 : decode cX5_canBeTold 21 = .ok (.ifCond .eq 7, 3) := g_153 7 bX5_canBeTold rfl rfl
theorem dX5_canBeTold_24 : decode cX5_canBeTold 24 = .ok (.iconst 1, 1) := g_4 bX5_canBeTold rfl
theorem dX5_canBeTold_25 : decode cX5_canBeTold 25 = .ok (.goto 4, 3) := g_167 4 bX5_canBeTold rfl rfl
theorem dX5_canBeTold_28 : decode cX5_canBeTold 28 = .ok (.iconst 0, 1) := g_3 bX5_canBeTold rfl
theorem dX5_canBeTold_29 : decode cX5_canBeTold 29 = .ok (.ireturn, 1) := g_172 bX5_canBeTold rfl
theorem dX5_copyFit_0 : decode cX5_copyFit 0 = .ok (.iload_n 1, 1) := g_27 bX5_copyFit rfl
theorem dX5_copyFit_1 : decode cX5_copyFit 1 = .ok (.invokestatic 44, 3) := g_184 bX5_copyFit rfl
theorem dX5_copyFit_4 : decode cX5_copyFit 4 = .ok (.ifCond .eq 10, 3) := g_153 10 bX5_copyFit rfl rfl
theorem dX5_copyFit_7 : decode cX5_copyFit 7 = .ok (.iload_n 2, 1) := g_28 bX5_copyFit rfl
theorem dX5_copyFit_8 : decode cX5_copyFit 8 = .ok (.invokestatic 44, 3) := g_184 bX5_copyFit rfl
theorem dX5_copyFit_11 : decode cX5_copyFit 11 = .ok (.ifCond .ne 6, 3) := g_154 6 bX5_copyFit rfl rfl
theorem dX5_copyFit_14 : decode cX5_copyFit 14 = .ok (.bipush (-2), 2) := g_16 254 bX5_copyFit rfl rfl
theorem dX5_copyFit_16 : decode cX5_copyFit 16 = .ok (.ireturn, 1) := g_172 bX5_copyFit rfl
theorem dX5_copyFit_17 : decode cX5_copyFit 17 = .ok (.aload_n 0, 1) := g_42 bX5_copyFit rfl
theorem dX5_copyFit_18 : decode cX5_copyFit 18 = .ok (.getfield 29, 3) := g_180 bX5_copyFit rfl
theorem dX5_copyFit_21 : decode cX5_copyFit 21 = .ok (.iload_n 1, 1) := g_27 bX5_copyFit rfl
theorem dX5_copyFit_22 : decode cX5_copyFit 22 = .ok (.invokevirtual 361, 3) := g_182 bX5_copyFit rfl
theorem dX5_copyFit_25 : decode cX5_copyFit 25 = .ok (.ifCond .ne 14, 3) := g_154 14 bX5_copyFit rfl rfl
theorem dX5_copyFit_28 : decode cX5_copyFit 28 = .ok (.aload_n 0, 1) := g_42 bX5_copyFit rfl
theorem dX5_copyFit_29 : decode cX5_copyFit 29 = .ok (.getfield 29, 3) := g_180 bX5_copyFit rfl
theorem dX5_copyFit_32 : decode cX5_copyFit 32 = .ok (.iload_n 2, 1) := g_28 bX5_copyFit rfl
theorem dX5_copyFit_33 : decode cX5_copyFit 33 = .ok (.invokevirtual 361, 3) := g_182 bX5_copyFit rfl
theorem dX5_copyFit_36 : decode cX5_copyFit 36 = .ok (.ifCond .eq 6, 3) := g_153 6 bX5_copyFit rfl rfl
theorem dX5_copyFit_39 : decode cX5_copyFit 39 = .ok (.bipush (-3), 2) := g_16 253 bX5_copyFit rfl rfl
theorem dX5_copyFit_41 : decode cX5_copyFit 41 = .ok (.ireturn, 1) := g_172 bX5_copyFit rfl
theorem dX5_copyFit_42 : decode cX5_copyFit 42 = .ok (.aload_n 0, 1) := g_42 bX5_copyFit rfl
theorem dX5_copyFit_43 : decode cX5_copyFit 43 = .ok (.getfield 29, 3) := g_180 bX5_copyFit rfl
theorem dX5_copyFit_46 : decode cX5_copyFit 46 = .ok (.iload_n 1, 1) := g_27 bX5_copyFit rfl
theorem dX5_copyFit_47 : decode cX5_copyFit 47 = .ok (.invokevirtual 364, 3) := g_182 bX5_copyFit rfl
theorem dX5_copyFit_50 : decode cX5_copyFit 50 = .ok (.ifCond .eq 14, 3) := g_153 14 bX5_copyFit rfl rfl
theorem dX5_copyFit_53 : decode cX5_copyFit 53 = .ok (.aload_n 0, 1) := g_42 bX5_copyFit rfl
theorem dX5_copyFit_54 : decode cX5_copyFit 54 = .ok (.getfield 29, 3) := g_180 bX5_copyFit rfl
theorem dX5_copyFit_57 : decode cX5_copyFit 57 = .ok (.iload_n 2, 1) := g_28 bX5_copyFit rfl
theorem dX5_copyFit_58 : decode cX5_copyFit 58 = .ok (.invokevirtual 364, 3) := g_182 bX5_copyFit rfl
theorem dX5_copyFit_61 : decode cX5_copyFit 61 = .ok (.ifCond .ne 6, 3) := g_154 6 bX5_copyFit rfl rfl
theorem dX5_copyFit_64 : decode cX5_copyFit 64 = .ok (.bipush (-4), 2) := g_16 252 bX5_copyFit rfl rfl
theorem dX5_copyFit_66 : decode cX5_copyFit 66 = .ok (.ireturn, 1) := g_172 bX5_copyFit rfl
theorem dX5_copyFit_67 : decode cX5_copyFit 67 = .ok (.aload_n 0, 1) := g_42 bX5_copyFit rfl
theorem dX5_copyFit_68 : decode cX5_copyFit 68 = .ok (.getfield 29, 3) := g_180 bX5_copyFit rfl
theorem dX5_copyFit_71 : decode cX5_copyFit 71 = .ok (.getfield 90, 3) := g_180 bX5_copyFit rfl
theorem dX5_copyFit_74 : decode cX5_copyFit 74 = .ok (.iload_n 1, 1) := g_27 bX5_copyFit rfl
theorem dX5_copyFit_75 : decode cX5_copyFit 75 = .ok (.iaload, 1) := g_46 bX5_copyFit rfl
theorem dX5_copyFit_76 : decode cX5_copyFit 76 = .ok (.aload_n 0, 1) := g_42 bX5_copyFit rfl
theorem dX5_copyFit_77 : decode cX5_copyFit 77 = .ok (.getfield 29, 3) := g_180 bX5_copyFit rfl
theorem dX5_copyFit_80 : decode cX5_copyFit 80 = .ok (.getfield 90, 3) := g_180 bX5_copyFit rfl
theorem dX5_copyFit_83 : decode cX5_copyFit 83 = .ok (.iload_n 2, 1) := g_28 bX5_copyFit rfl
theorem dX5_copyFit_84 : decode cX5_copyFit 84 = .ok (.iaload, 1) := g_46 bX5_copyFit rfl
theorem dX5_copyFit_85 : decode cX5_copyFit 85 = .ok (.if_icmp .ne 7, 3) := g_160 7 bX5_copyFit rfl rfl
theorem dX5_copyFit_88 : decode cX5_copyFit 88 = .ok (.iconst 0, 1) := g_3 bX5_copyFit rfl
theorem dX5_copyFit_89 : decode cX5_copyFit 89 = .ok (.goto 5, 3) := g_167 5 bX5_copyFit rfl rfl
theorem dX5_copyFit_92 : decode cX5_copyFit 92 = .ok (.bipush (-3), 2) := g_16 253 bX5_copyFit rfl rfl
theorem dX5_copyFit_94 : decode cX5_copyFit 94 = .ok (.ireturn, 1) := g_172 bX5_copyFit rfl
theorem dX5_hasSpan_0 : decode cX5_hasSpan 0 = .ok (.iload_n 2, 1) := g_28 bX5_hasSpan rfl
theorem dX5_hasSpan_1 : decode cX5_hasSpan 1 = .ok (.ifCond .lt 30, 3) := g_155 30 bX5_hasSpan rfl rfl
theorem dX5_hasSpan_4 : decode cX5_hasSpan 4 = .ok (.iload_n 3, 1) := g_29 bX5_hasSpan rfl
theorem dX5_hasSpan_5 : decode cX5_hasSpan 5 = .ok (.ifCond .lt 26, 3) := g_155 26 bX5_hasSpan rfl rfl
theorem dX5_hasSpan_8 : decode cX5_hasSpan 8 = .ok (.iload_n 2, 1) := g_28 bX5_hasSpan rfl
theorem dX5_hasSpan_9 : decode cX5_hasSpan 9 = .ok (.i2l, 1) := g_133 bX5_hasSpan rfl
theorem dX5_hasSpan_10 : decode cX5_hasSpan 10 = .ok (.iload_n 3, 1) := g_29 bX5_hasSpan rfl
theorem dX5_hasSpan_11 : decode cX5_hasSpan 11 = .ok (.i2l, 1) := g_133 bX5_hasSpan rfl
theorem dX5_hasSpan_12 : decode cX5_hasSpan 12 = .ok (.ladd, 1) := g_97 bX5_hasSpan rfl
theorem dX5_hasSpan_13 : decode cX5_hasSpan 13 = .ok (.aload_n 0, 1) := g_42 bX5_hasSpan rfl
theorem dX5_hasSpan_14 : decode cX5_hasSpan 14 = .ok (.getfield 29, 3) := g_180 bX5_hasSpan rfl
theorem dX5_hasSpan_17 : decode cX5_hasSpan 17 = .ok (.getfield 67, 3) := g_180 bX5_hasSpan rfl
theorem dX5_hasSpan_20 : decode cX5_hasSpan 20 = .ok (.iload_n 1, 1) := g_27 bX5_hasSpan rfl
theorem dX5_hasSpan_21 : decode cX5_hasSpan 21 = .ok (.iaload, 1) := g_46 bX5_hasSpan rfl
theorem dX5_hasSpan_22 : decode cX5_hasSpan 22 = .ok (.i2l, 1) := g_133 bX5_hasSpan rfl
theorem dX5_hasSpan_23 : decode cX5_hasSpan 23 = .ok (.lcmp, 1) := g_148 bX5_hasSpan rfl
theorem dX5_hasSpan_24 : decode cX5_hasSpan 24 = .ok (.ifCond .gt 7, 3) := g_157 7 bX5_hasSpan rfl rfl
theorem dX5_hasSpan_27 : decode cX5_hasSpan 27 = .ok (.iconst 1, 1) := g_4 bX5_hasSpan rfl
theorem dX5_hasSpan_28 : decode cX5_hasSpan 28 = .ok (.goto 4, 3) := g_167 4 bX5_hasSpan rfl rfl
theorem dX5_hasSpan_31 : decode cX5_hasSpan 31 = .ok (.iconst 0, 1) := g_3 bX5_hasSpan rfl
theorem dX5_hasSpan_32 : decode cX5_hasSpan 32 = .ok (.ireturn, 1) := g_172 bX5_hasSpan rfl
theorem dX5_isPair_0 : decode cX5_isPair 0 = .ok (.aload_n 0, 1) := g_42 bX5_isPair rfl
theorem dX5_isPair_1 : decode cX5_isPair 1 = .ok (.getfield 10, 3) := g_180 bX5_isPair rfl
theorem dX5_isPair_4 : decode cX5_isPair 4 = .ok (.iload_n 1, 1) := g_27 bX5_isPair rfl
theorem dX5_isPair_5 : decode cX5_isPair 5 = .ok (.invokevirtual 192, 3) := g_182 bX5_isPair rfl
theorem dX5_isPair_8 : decode cX5_isPair 8 = .ok (.ifCond .eq 18, 3) := g_153 18 bX5_isPair rfl rfl
theorem dX5_isPair_11 : decode cX5_isPair 11 = .ok (.aload_n 0, 1) := g_42 bX5_isPair rfl
theorem dX5_isPair_12 : decode cX5_isPair 12 = .ok (.getfield 10, 3) := g_180 bX5_isPair rfl
theorem dX5_isPair_15 : decode cX5_isPair 15 = .ok (.iload_n 2, 1) := g_28 bX5_isPair rfl
theorem dX5_isPair_16 : decode cX5_isPair 16 = .ok (.invokevirtual 168, 3) := g_182 bX5_isPair rfl
theorem dX5_isPair_19 : decode cX5_isPair 19 = .ok (.ifCond .eq 7, 3) := g_153 7 bX5_isPair rfl rfl
theorem dX5_isPair_22 : decode cX5_isPair 22 = .ok (.iconst 1, 1) := g_4 bX5_isPair rfl
theorem dX5_isPair_23 : decode cX5_isPair 23 = .ok (.goto 4, 3) := g_167 4 bX5_isPair rfl rfl
theorem dX5_isPair_26 : decode cX5_isPair 26 = .ok (.iconst 0, 1) := g_3 bX5_isPair rfl
theorem dX5_isPair_27 : decode cX5_isPair 27 = .ok (.ireturn, 1) := g_172 bX5_isPair rfl
theorem dX5_isSetOf_0 : decode cX5_isSetOf 0 = .ok (.iload_n 0, 1) := g_26 bX5_isSetOf rfl
theorem dX5_isSetOf_1 : decode cX5_isSetOf 1 = .ok (.iload_n 1, 1) := g_27 bX5_isSetOf rfl
theorem dX5_isSetOf_2 : decode cX5_isSetOf 2 = .ok (.invokestatic 186, 3) := g_184 bX5_isSetOf rfl
theorem dX5_isSetOf_5 : decode cX5_isSetOf 5 = .ok (.iconst (-1), 1) := g_2 bX5_isSetOf rfl
theorem dX5_isSetOf_6 : decode cX5_isSetOf 6 = .ok (.ixor, 1) := g_130 bX5_isSetOf rfl
theorem dX5_isSetOf_7 : decode cX5_isSetOf 7 = .ok (.iand, 1) := g_126 bX5_isSetOf rfl
theorem dX5_isSetOf_8 : decode cX5_isSetOf 8 = .ok (.ifCond .ne 7, 3) := g_154 7 bX5_isSetOf rfl rfl
theorem dX5_isSetOf_11 : decode cX5_isSetOf 11 = .ok (.iconst 1, 1) := g_4 bX5_isSetOf rfl
theorem dX5_isSetOf_12 : decode cX5_isSetOf 12 = .ok (.goto 4, 3) := g_167 4 bX5_isSetOf rfl rfl
theorem dX5_isSetOf_15 : decode cX5_isSetOf 15 = .ok (.iconst 0, 1) := g_3 bX5_isSetOf rfl
theorem dX5_isSetOf_16 : decode cX5_isSetOf 16 = .ok (.ireturn, 1) := g_172 bX5_isSetOf rfl
theorem dX5_isShelf_0 : decode cX5_isShelf 0 = .ok (.iload_n 0, 1) := g_26 bX5_isShelf rfl
theorem dX5_isShelf_1 : decode cX5_isShelf 1 = .ok (.i2l, 1) := g_133 bX5_isShelf rfl
theorem dX5_isShelf_2 : decode cX5_isShelf 2 = .ok (.lconst 0, 1) := g_9 bX5_isShelf rfl
theorem dX5_isShelf_3 : decode cX5_isShelf 3 = .ok (.ldc2_w 355, 3) := g_20 bX5_isShelf rfl
theorem dX5_isShelf_6 : decode cX5_isShelf 6 = .ok (.invokestatic 50, 3) := g_184 bX5_isShelf rfl
theorem dX5_isShelf_9 : decode cX5_isShelf 9 = .ok (.ireturn, 1) := g_172 bX5_isShelf rfl
theorem dX5_readFit_0 : decode cX5_readFit 0 = .ok (.aload_n 0, 1) := g_42 bX5_readFit rfl
theorem dX5_readFit_1 : decode cX5_readFit 1 = .ok (.iload_n 1, 1) := g_27 bX5_readFit rfl
theorem dX5_readFit_2 : decode cX5_readFit 2 = .ok (.iload_n 2, 1) := g_28 bX5_readFit rfl
theorem dX5_readFit_3 : decode cX5_readFit 3 = .ok (.invokevirtual 210, 3) := g_182 bX5_readFit rfl
theorem dX5_readFit_6 : decode cX5_readFit 6 = .ok (.ifCond .ne 6, 3) := g_154 6 bX5_readFit rfl rfl
theorem dX5_readFit_9 : decode cX5_readFit 9 = .ok (.bipush (-2), 2) := g_16 254 bX5_readFit rfl rfl
theorem dX5_readFit_11 : decode cX5_readFit 11 = .ok (.ireturn, 1) := g_172 bX5_readFit rfl
theorem dX5_readFit_12 : decode cX5_readFit 12 = .ok (.aload_n 0, 1) := g_42 bX5_readFit rfl
theorem dX5_readFit_13 : decode cX5_readFit 13 = .ok (.getfield 10, 3) := g_180 bX5_readFit rfl
theorem dX5_readFit_16 : decode cX5_readFit 16 = .ok (.getfield 180, 3) := g_180 bX5_readFit rfl
theorem dX5_readFit_19 : decode cX5_readFit 19 = .ok (.iload_n 2, 1) := g_28 bX5_readFit rfl
theorem dX5_readFit_20 : decode cX5_readFit 20 = .ok (.invokestatic 183, 3) := g_184 bX5_readFit rfl
theorem dX5_readFit_23 : decode cX5_readFit 23 = .ok (.ifCond .ne 17, 3) := g_154 17 bX5_readFit rfl rfl
theorem dX5_readFit_26 : decode cX5_readFit 26 = .ok (.aload_n 0, 1) := g_42 bX5_readFit rfl
theorem dX5_readFit_27 : decode cX5_readFit 27 = .ok (.getfield 10, 3) := g_180 bX5_readFit rfl
theorem dX5_readFit_30 : decode cX5_readFit 30 = .ok (.getfield 207, 3) := g_180 bX5_readFit rfl
theorem dX5_readFit_33 : decode cX5_readFit 33 = .ok (.iload_n 1, 1) := g_27 bX5_readFit rfl
theorem dX5_readFit_34 : decode cX5_readFit 34 = .ok (.invokestatic 183, 3) := g_184 bX5_readFit rfl
theorem dX5_readFit_37 : decode cX5_readFit 37 = .ok (.ifCond .eq 8, 3) := g_153 8 bX5_readFit rfl rfl
theorem dX5_readFit_40 : decode cX5_readFit 40 = .ok (.bipush (-5), 2) := g_16 251 bX5_readFit rfl rfl
theorem dX5_readFit_42 : decode cX5_readFit 42 = .ok (.goto 4, 3) := g_167 4 bX5_readFit rfl rfl
theorem dX5_readFit_45 : decode cX5_readFit 45 = .ok (.iconst 0, 1) := g_3 bX5_readFit rfl
theorem dX5_readFit_46 : decode cX5_readFit 46 = .ok (.ireturn, 1) := g_172 bX5_readFit rfl
theorem dX5_refuse_0 : decode cX5_refuse 0 = .ok (.bipush (-2), 2) := g_16 254 bX5_refuse rfl rfl
theorem dX5_refuse_2 : decode cX5_refuse 2 = .ok (.iload_n 1, 1) := g_27 bX5_refuse rfl
theorem dX5_refuse_3 : decode cX5_refuse 3 = .ok (.isub, 1) := g_100 bX5_refuse rfl
theorem dX5_refuse_4 : decode cX5_refuse 4 = .ok (.istore_n 2, 1) := g_61 bX5_refuse rfl
theorem dX5_refuse_5 : decode cX5_refuse 5 = .ok (.iload_n 2, 1) := g_28 bX5_refuse rfl
theorem dX5_refuse_6 : decode cX5_refuse 6 = .ok (.i2l, 1) := g_133 bX5_refuse rfl
theorem dX5_refuse_7 : decode cX5_refuse 7 = .ok (.lconst 0, 1) := g_9 bX5_refuse rfl
theorem dX5_refuse_8 : decode cX5_refuse 8 = .ok (.aload_n 0, 1) := g_42 bX5_refuse rfl
theorem dX5_refuse_9 : decode cX5_refuse 9 = .ok (.getfield 40, 3) := g_180 bX5_refuse rfl
theorem dX5_refuse_12 : decode cX5_refuse 12 = .ok (.arraylength, 1) := g_190 bX5_refuse rfl
theorem dX5_refuse_13 : decode cX5_refuse 13 = .ok (.iconst 1, 1) := g_4 bX5_refuse rfl
theorem dX5_refuse_14 : decode cX5_refuse 14 = .ok (.isub, 1) := g_100 bX5_refuse rfl
theorem dX5_refuse_15 : decode cX5_refuse 15 = .ok (.i2l, 1) := g_133 bX5_refuse rfl
theorem dX5_refuse_16 : decode cX5_refuse 16 = .ok (.invokestatic 50, 3) := g_184 bX5_refuse rfl
theorem dX5_refuse_19 : decode cX5_refuse 19 = .ok (.ifCond .eq 13, 3) := g_153 13 bX5_refuse rfl rfl
theorem dX5_refuse_22 : decode cX5_refuse 22 = .ok (.aload_n 0, 1) := g_42 bX5_refuse rfl
theorem dX5_refuse_23 : decode cX5_refuse 23 = .ok (.getfield 40, 3) := g_180 bX5_refuse rfl
theorem dX5_refuse_26 : decode cX5_refuse 26 = .ok (.iload_n 2, 1) := g_28 bX5_refuse rfl
theorem dX5_refuse_27 : decode cX5_refuse 27 = .ok (.dup2, 1) := g_92 bX5_refuse rfl
theorem dX5_refuse_28 : decode cX5_refuse 28 = .ok (.iaload, 1) := g_46 bX5_refuse rfl
theorem dX5_refuse_29 : decode cX5_refuse 29 = .ok (.iconst 1, 1) := g_4 bX5_refuse rfl
theorem dX5_refuse_30 : decode cX5_refuse 30 = .ok (.iadd, 1) := g_96 bX5_refuse rfl
theorem dX5_refuse_31 : decode cX5_refuse 31 = .ok (.iastore, 1) := g_79 bX5_refuse rfl
theorem dX5_refuse_32 : decode cX5_refuse 32 = .ok (.iload_n 1, 1) := g_27 bX5_refuse rfl
theorem dX5_refuse_33 : decode cX5_refuse 33 = .ok (.ireturn, 1) := g_172 bX5_refuse rfl
theorem dX5_rowFit_0 : decode cX5_rowFit 0 = .ok (.iload_n 1, 1) := g_27 bX5_rowFit rfl
theorem dX5_rowFit_1 : decode cX5_rowFit 1 = .ok (.invokestatic 44, 3) := g_184 bX5_rowFit rfl
theorem dX5_rowFit_4 : decode cX5_rowFit 4 = .ok (.ifCond .ne 6, 3) := g_154 6 bX5_rowFit rfl rfl
theorem dX5_rowFit_7 : decode cX5_rowFit 7 = .ok (.bipush (-2), 2) := g_16 254 bX5_rowFit rfl rfl
theorem dX5_rowFit_9 : decode cX5_rowFit 9 = .ok (.ireturn, 1) := g_172 bX5_rowFit rfl
theorem dX5_rowFit_10 : decode cX5_rowFit 10 = .ok (.aload_n 0, 1) := g_42 bX5_rowFit rfl
theorem dX5_rowFit_11 : decode cX5_rowFit 11 = .ok (.getfield 29, 3) := g_180 bX5_rowFit rfl
theorem dX5_rowFit_14 : decode cX5_rowFit 14 = .ok (.iload_n 1, 1) := g_27 bX5_rowFit rfl
theorem dX5_rowFit_15 : decode cX5_rowFit 15 = .ok (.invokevirtual 361, 3) := g_182 bX5_rowFit rfl
theorem dX5_rowFit_18 : decode cX5_rowFit 18 = .ok (.ifCond .eq 6, 3) := g_153 6 bX5_rowFit rfl rfl
theorem dX5_rowFit_21 : decode cX5_rowFit 21 = .ok (.bipush (-3), 2) := g_16 253 bX5_rowFit rfl rfl
theorem dX5_rowFit_23 : decode cX5_rowFit 23 = .ok (.ireturn, 1) := g_172 bX5_rowFit rfl
theorem dX5_rowFit_24 : decode cX5_rowFit 24 = .ok (.aload_n 0, 1) := g_42 bX5_rowFit rfl
theorem dX5_rowFit_25 : decode cX5_rowFit 25 = .ok (.getfield 29, 3) := g_180 bX5_rowFit rfl
theorem dX5_rowFit_28 : decode cX5_rowFit 28 = .ok (.iload_n 1, 1) := g_27 bX5_rowFit rfl
theorem dX5_rowFit_29 : decode cX5_rowFit 29 = .ok (.invokevirtual 364, 3) := g_182 bX5_rowFit rfl
theorem dX5_rowFit_32 : decode cX5_rowFit 32 = .ok (.ifCond .eq 7, 3) := g_153 7 bX5_rowFit rfl rfl
theorem dX5_rowFit_35 : decode cX5_rowFit 35 = .ok (.iconst 0, 1) := g_3 bX5_rowFit rfl
theorem dX5_rowFit_36 : decode cX5_rowFit 36 = .ok (.goto 5, 3) := g_167 5 bX5_rowFit rfl rfl
theorem dX5_rowFit_39 : decode cX5_rowFit 39 = .ok (.bipush (-4), 2) := g_16 252 bX5_rowFit rfl rfl
theorem dX5_rowFit_41 : decode cX5_rowFit 41 = .ok (.ireturn, 1) := g_172 bX5_rowFit rfl
theorem dX5_ruleFit_0 : decode cX5_ruleFit 0 = .ok (.iload_n 1, 1) := g_27 bX5_ruleFit rfl
theorem dX5_ruleFit_1 : decode cX5_ruleFit 1 = .ok (.invokestatic 44, 3) := g_184 bX5_ruleFit rfl
theorem dX5_ruleFit_4 : decode cX5_ruleFit 4 = .ok (.ifCond .ne 6, 3) := g_154 6 bX5_ruleFit rfl rfl
theorem dX5_ruleFit_7 : decode cX5_ruleFit 7 = .ok (.bipush (-2), 2) := g_16 254 bX5_ruleFit rfl rfl
theorem dX5_ruleFit_9 : decode cX5_ruleFit 9 = .ok (.ireturn, 1) := g_172 bX5_ruleFit rfl
theorem dX5_ruleFit_10 : decode cX5_ruleFit 10 = .ok (.aload_n 0, 1) := g_42 bX5_ruleFit rfl
theorem dX5_ruleFit_11 : decode cX5_ruleFit 11 = .ok (.getfield 29, 3) := g_180 bX5_ruleFit rfl
theorem dX5_ruleFit_14 : decode cX5_ruleFit 14 = .ok (.iload_n 1, 1) := g_27 bX5_ruleFit rfl
theorem dX5_ruleFit_15 : decode cX5_ruleFit 15 = .ok (.invokevirtual 364, 3) := g_182 bX5_ruleFit rfl
theorem dX5_ruleFit_18 : decode cX5_ruleFit 18 = .ok (.ifCond .eq 6, 3) := g_153 6 bX5_ruleFit rfl rfl
theorem dX5_ruleFit_21 : decode cX5_ruleFit 21 = .ok (.bipush (-3), 2) := g_16 253 bX5_ruleFit rfl rfl
theorem dX5_ruleFit_23 : decode cX5_ruleFit 23 = .ok (.ireturn, 1) := g_172 bX5_ruleFit rfl
theorem dX5_ruleFit_24 : decode cX5_ruleFit 24 = .ok (.aload_n 0, 1) := g_42 bX5_ruleFit rfl
theorem dX5_ruleFit_25 : decode cX5_ruleFit 25 = .ok (.getfield 29, 3) := g_180 bX5_ruleFit rfl
theorem dX5_ruleFit_28 : decode cX5_ruleFit 28 = .ok (.iload_n 1, 1) := g_27 bX5_ruleFit rfl
theorem dX5_ruleFit_29 : decode cX5_ruleFit 29 = .ok (.invokevirtual 361, 3) := g_182 bX5_ruleFit rfl
theorem dX5_ruleFit_32 : decode cX5_ruleFit 32 = .ok (.ifCond .eq 7, 3) := g_153 7 bX5_ruleFit rfl rfl
theorem dX5_ruleFit_35 : decode cX5_ruleFit 35 = .ok (.iconst 0, 1) := g_3 bX5_ruleFit rfl
theorem dX5_ruleFit_36 : decode cX5_ruleFit 36 = .ok (.goto 5, 3) := g_167 5 bX5_ruleFit rfl rfl
theorem dX5_ruleFit_39 : decode cX5_ruleFit 39 = .ok (.bipush (-4), 2) := g_16 252 bX5_ruleFit rfl rfl
theorem dX5_ruleFit_41 : decode cX5_ruleFit 41 = .ok (.ireturn, 1) := g_172 bX5_ruleFit rfl
theorem dX5_toldFit_0 : decode cX5_toldFit 0 = .ok (.iload_n 2, 1) := g_28 bX5_toldFit rfl
theorem dX5_toldFit_1 : decode cX5_toldFit 1 = .ok (.i2l, 1) := g_133 bX5_toldFit rfl
theorem dX5_toldFit_2 : decode cX5_toldFit 2 = .ok (.lconst 0, 1) := g_9 bX5_toldFit rfl
theorem dX5_toldFit_3 : decode cX5_toldFit 3 = .ok (.ldc2_w 327, 3) := g_20 bX5_toldFit rfl
theorem dX5_toldFit_6 : decode cX5_toldFit 6 = .ok (.invokestatic 50, 3) := g_184 bX5_toldFit rfl
theorem dX5_toldFit_9 : decode cX5_toldFit 9 = .ok (.ifCond .eq 11, 3) := g_153 11 bX5_toldFit rfl rfl
theorem dX5_toldFit_12 : decode cX5_toldFit 12 = .ok (.aload_n 0, 1) := g_42 bX5_toldFit rfl
theorem dX5_toldFit_13 : decode cX5_toldFit 13 = .ok (.iload_n 1, 1) := g_27 bX5_toldFit rfl
theorem dX5_toldFit_14 : decode cX5_toldFit 14 = .ok (.invokevirtual 64, 3) := g_182 bX5_toldFit rfl
theorem dX5_toldFit_17 : decode cX5_toldFit 17 = .ok (.goto 5, 3) := g_167 5 bX5_toldFit rfl rfl
theorem dX5_toldFit_20 : decode cX5_toldFit 20 = .ok (.bipush (-2), 2) := g_16 254 bX5_toldFit rfl rfl
theorem dX5_toldFit_22 : decode cX5_toldFit 22 = .ok (.istore_n 3, 1) := g_62 bX5_toldFit rfl
theorem dX5_toldFit_23 : decode cX5_toldFit 23 = .ok (.iload_n 3, 1) := g_29 bX5_toldFit rfl
theorem dX5_toldFit_24 : decode cX5_toldFit 24 = .ok (.ifCond .ne 21, 3) := g_154 21 bX5_toldFit rfl rfl
theorem dX5_toldFit_27 : decode cX5_toldFit 27 = .ok (.iload_n 2, 1) := g_28 bX5_toldFit rfl
theorem dX5_toldFit_28 : decode cX5_toldFit 28 = .ok (.aload_n 0, 1) := g_42 bX5_toldFit rfl
theorem dX5_toldFit_29 : decode cX5_toldFit 29 = .ok (.getfield 29, 3) := g_180 bX5_toldFit rfl
theorem dX5_toldFit_32 : decode cX5_toldFit 32 = .ok (.getfield 67, 3) := g_180 bX5_toldFit rfl
theorem dX5_toldFit_35 : decode cX5_toldFit 35 = .ok (.iload_n 1, 1) := g_27 bX5_toldFit rfl
theorem dX5_toldFit_36 : decode cX5_toldFit 36 = .ok (.iaload, 1) := g_46 bX5_toldFit rfl
theorem dX5_toldFit_37 : decode cX5_toldFit 37 = .ok (.if_icmp .le 8, 3) := g_164 8 bX5_toldFit rfl rfl
theorem dX5_toldFit_40 : decode cX5_toldFit 40 = .ok (.bipush (-2), 2) := g_16 254 bX5_toldFit rfl rfl
theorem dX5_toldFit_42 : decode cX5_toldFit 42 = .ok (.goto 4, 3) := g_167 4 bX5_toldFit rfl rfl
theorem dX5_toldFit_45 : decode cX5_toldFit 45 = .ok (.iload_n 3, 1) := g_29 bX5_toldFit rfl
theorem dX5_toldFit_46 : decode cX5_toldFit 46 = .ok (.ireturn, 1) := g_172 bX5_toldFit rfl
theorem dX3_append_0 : decode cX3_append 0 = .ok (.aload_n 0, 1) := g_42 bX3_append rfl
theorem dX3_append_1 : decode cX3_append 1 = .ok (.getfield 11, 3) := g_180 bX3_append rfl
theorem dX3_append_4 : decode cX3_append 4 = .ok (.aload_n 0, 1) := g_42 bX3_append rfl
theorem dX3_append_5 : decode cX3_append 5 = .ok (.getfield 22, 3) := g_180 bX3_append rfl
theorem dX3_append_8 : decode cX3_append 8 = .ok (.iload_n 1, 1) := g_27 bX3_append rfl
theorem dX3_append_9 : decode cX3_append 9 = .ok (.bastore, 1) := g_84 bX3_append rfl
theorem dX3_append_10 : decode cX3_append 10 = .ok (.aload_n 0, 1) := g_42 bX3_append rfl
theorem dX3_append_11 : decode cX3_append 11 = .ok (.dup, 1) := g_89 bX3_append rfl
theorem dX3_append_12 : decode cX3_append 12 = .ok (.getfield 22, 3) := g_180 bX3_append rfl
theorem dX3_append_15 : decode cX3_append 15 = .ok (.iconst 1, 1) := g_4 bX3_append rfl
theorem dX3_append_16 : decode cX3_append 16 = .ok (.iadd, 1) := g_96 bX3_append rfl
theorem dX3_append_17 : decode cX3_append 17 = .ok (.putfield 22, 3) := g_181 bX3_append rfl
theorem dX3_append_20 : decode cX3_append 20 = .ok (.return_, 1) := g_177 bX3_append rfl
theorem dX5_aloud_0 : decode cX5_aloud 0 = .ok (.iload_n 3, 1) := g_29 bX5_aloud rfl
theorem dX5_aloud_1 : decode cX5_aloud 1 = .ok (.aload_n 0, 1) := g_42 bX5_aloud rfl
theorem dX5_aloud_2 : decode cX5_aloud 2 = .ok (.getfield 10, 3) := g_180 bX5_aloud rfl
theorem dX5_aloud_5 : decode cX5_aloud 5 = .ok (.getfield 141, 3) := g_180 bX5_aloud rfl
theorem dX5_aloud_8 : decode cX5_aloud 8 = .ok (.invokestatic 131, 3) := g_184 bX5_aloud rfl
theorem dX5_aloud_11 : decode cX5_aloud 11 = .ok (.ifCond .eq 12, 3) := g_153 12 bX5_aloud rfl rfl
theorem dX5_aloud_14 : decode cX5_aloud 14 = .ok (.aload_n 0, 1) := g_42 bX5_aloud rfl
theorem dX5_aloud_15 : decode cX5_aloud 15 = .ok (.iload_n 1, 1) := g_27 bX5_aloud rfl
theorem dX5_aloud_16 : decode cX5_aloud 16 = .ok (.iload_n 2, 1) := g_28 bX5_aloud rfl
theorem dX5_aloud_17 : decode cX5_aloud 17 = .ok (.invokevirtual 224, 3) := g_182 bX5_aloud rfl
theorem dX5_aloud_20 : decode cX5_aloud 20 = .ok (.goto 5, 3) := g_167 5 bX5_aloud rfl rfl
theorem dX5_aloud_23 : decode cX5_aloud 23 = .ok (.bipush (-2), 2) := g_16 254 bX5_aloud rfl rfl
theorem dX5_aloud_25 : decode cX5_aloud 25 = .ok (.istore 4, 2) := g_54 bX5_aloud rfl
theorem dX5_aloud_27 : decode cX5_aloud 27 = .ok (.iload 4, 2) := g_21 bX5_aloud rfl
theorem dX5_aloud_29 : decode cX5_aloud 29 = .ok (.ifCond .eq 10, 3) := g_153 10 bX5_aloud rfl rfl
theorem dX5_aloud_32 : decode cX5_aloud 32 = .ok (.aload_n 0, 1) := g_42 bX5_aloud rfl
theorem dX5_aloud_33 : decode cX5_aloud 33 = .ok (.iload 4, 2) := g_21 bX5_aloud rfl
theorem dX5_aloud_35 : decode cX5_aloud 35 = .ok (.invokevirtual 56, 3) := g_182 bX5_aloud rfl
theorem dX5_aloud_38 : decode cX5_aloud 38 = .ok (.ireturn, 1) := g_172 bX5_aloud rfl
theorem dX5_aloud_39 : decode cX5_aloud 39 = .ok (.aload_n 0, 1) := g_42 bX5_aloud rfl
theorem dX5_aloud_40 : decode cX5_aloud 40 = .ok (.getfield 10, 3) := g_180 bX5_aloud rfl
theorem dX5_aloud_43 : decode cX5_aloud 43 = .ok (.iload_n 1, 1) := g_27 bX5_aloud rfl
theorem dX5_aloud_44 : decode cX5_aloud 44 = .ok (.iload_n 2, 1) := g_28 bX5_aloud rfl
theorem dX5_aloud_45 : decode cX5_aloud 45 = .ok (.invokevirtual 230, 3) := g_182 bX5_aloud rfl
theorem dX5_aloud_48 : decode cX5_aloud 48 = .ok (.aload_n 0, 1) := g_42 bX5_aloud rfl
theorem dX5_aloud_49 : decode cX5_aloud 49 = .ok (.getfield 10, 3) := g_180 bX5_aloud rfl
theorem dX5_aloud_52 : decode cX5_aloud 52 = .ok (.iload_n 1, 1) := g_27 bX5_aloud rfl
theorem dX5_aloud_53 : decode cX5_aloud 53 = .ok (.iload_n 2, 1) := g_28 bX5_aloud rfl
theorem dX5_aloud_54 : decode cX5_aloud 54 = .ok (.iload_n 3, 1) := g_29 bX5_aloud rfl
theorem dX5_aloud_55 : decode cX5_aloud 55 = .ok (.invokevirtual 234, 3) := g_182 bX5_aloud rfl
theorem dX5_aloud_58 : decode cX5_aloud 58 = .ok (.ireturn, 1) := g_172 bX5_aloud rfl
theorem dX5_alter_0 : decode cX5_alter 0 = .ok (.aload_n 0, 1) := g_42 bX5_alter rfl
theorem dX5_alter_1 : decode cX5_alter 1 = .ok (.iload_n 1, 1) := g_27 bX5_alter rfl
theorem dX5_alter_2 : decode cX5_alter 2 = .ok (.iload_n 2, 1) := g_28 bX5_alter rfl
theorem dX5_alter_3 : decode cX5_alter 3 = .ok (.invokevirtual 210, 3) := g_182 bX5_alter rfl
theorem dX5_alter_6 : decode cX5_alter 6 = .ok (.ifCond .eq 15, 3) := g_153 15 bX5_alter rfl rfl
theorem dX5_alter_9 : decode cX5_alter 9 = .ok (.iload_n 3, 1) := g_29 bX5_alter rfl
theorem dX5_alter_10 : decode cX5_alter 10 = .ok (.i2l, 1) := g_133 bX5_alter rfl
theorem dX5_alter_11 : decode cX5_alter 11 = .ok (.lconst 0, 1) := g_9 bX5_alter rfl
theorem dX5_alter_12 : decode cX5_alter 12 = .ok (.ldc2_w 216, 3) := g_20 bX5_alter rfl
theorem dX5_alter_15 : decode cX5_alter 15 = .ok (.invokestatic 50, 3) := g_184 bX5_alter rfl
theorem dX5_alter_18 : decode cX5_alter 18 = .ok (.ifCond .ne 10, 3) := g_154 10 bX5_alter rfl rfl
theorem dX5_alter_21 : decode cX5_alter 21 = .ok (.aload_n 0, 1) := g_42 bX5_alter rfl
theorem dX5_alter_22 : decode cX5_alter 22 = .ok (.bipush (-2), 2) := g_16 254 bX5_alter rfl rfl
theorem dX5_alter_24 : decode cX5_alter 24 = .ok (.invokevirtual 56, 3) := g_182 bX5_alter rfl
theorem dX5_alter_27 : decode cX5_alter 27 = .ok (.ireturn, 1) := g_172 bX5_alter rfl
theorem dX5_alter_28 : decode cX5_alter 28 = .ok (.aload_n 0, 1) := g_42 bX5_alter rfl
theorem dX5_alter_29 : decode cX5_alter 29 = .ok (.getfield 10, 3) := g_180 bX5_alter rfl
theorem dX5_alter_32 : decode cX5_alter 32 = .ok (.getfield 207, 3) := g_180 bX5_alter rfl
theorem dX5_alter_35 : decode cX5_alter 35 = .ok (.iload_n 1, 1) := g_27 bX5_alter rfl
theorem dX5_alter_36 : decode cX5_alter 36 = .ok (.invokestatic 183, 3) := g_184 bX5_alter rfl
theorem dX5_alter_39 : decode cX5_alter 39 = .ok (.ifCond .eq 10, 3) := g_153 10 bX5_alter rfl rfl
theorem dX5_alter_42 : decode cX5_alter 42 = .ok (.aload_n 0, 1) := g_42 bX5_alter rfl
theorem dX5_alter_43 : decode cX5_alter 43 = .ok (.bipush (-5), 2) := g_16 251 bX5_alter rfl rfl
theorem dX5_alter_45 : decode cX5_alter 45 = .ok (.invokevirtual 56, 3) := g_182 bX5_alter rfl
theorem dX5_alter_48 : decode cX5_alter 48 = .ok (.ireturn, 1) := g_172 bX5_alter rfl
theorem dX5_alter_49 : decode cX5_alter 49 = .ok (.aload_n 0, 1) := g_42 bX5_alter rfl
theorem dX5_alter_50 : decode cX5_alter 50 = .ok (.getfield 10, 3) := g_180 bX5_alter rfl
theorem dX5_alter_53 : decode cX5_alter 53 = .ok (.iload_n 1, 1) := g_27 bX5_alter rfl
theorem dX5_alter_54 : decode cX5_alter 54 = .ok (.iload_n 2, 1) := g_28 bX5_alter rfl
theorem dX5_alter_55 : decode cX5_alter 55 = .ok (.invokevirtual 213, 3) := g_182 bX5_alter rfl
theorem dX5_alter_58 : decode cX5_alter 58 = .ok (.istore 4, 2) := g_54 bX5_alter rfl
theorem dX5_alter_60 : decode cX5_alter 60 = .ok (.aload_n 0, 1) := g_42 bX5_alter rfl
theorem dX5_alter_61 : decode cX5_alter 61 = .ok (.getfield 10, 3) := g_180 bX5_alter rfl
theorem dX5_alter_64 : decode cX5_alter 64 = .ok (.iload_n 1, 1) := g_27 bX5_alter rfl
theorem dX5_alter_65 : decode cX5_alter 65 = .ok (.iload_n 2, 1) := g_28 bX5_alter rfl
theorem dX5_alter_66 : decode cX5_alter 66 = .ok (.iload_n 3, 1) := g_29 bX5_alter rfl
theorem dX5_alter_67 : decode cX5_alter 67 = .ok (.invokevirtual 218, 3) := g_182 bX5_alter rfl
theorem dX5_alter_70 : decode cX5_alter 70 = .ok (.iload 4, 2) := g_21 bX5_alter rfl
theorem dX5_alter_72 : decode cX5_alter 72 = .ok (.ireturn, 1) := g_172 bX5_alter rfl
theorem dX5_book_0 : decode cX5_book 0 = .ok (.iload_n 1, 1) := g_27 bX5_book rfl
theorem dX5_book_1 : decode cX5_book 1 = .ok (.i2l, 1) := g_133 bX5_book rfl
theorem dX5_book_2 : decode cX5_book 2 = .ok (.lconst 1, 1) := g_10 bX5_book rfl
theorem dX5_book_3 : decode cX5_book 3 = .ok (.ldc2_w 95, 3) := g_20 bX5_book rfl
theorem dX5_book_6 : decode cX5_book 6 = .ok (.invokestatic 50, 3) := g_184 bX5_book rfl
theorem dX5_book_9 : decode cX5_book 9 = .ok (.ifCond .eq 17, 3) := g_153 17 bX5_book rfl rfl
theorem dX5_book_12 : decode cX5_book 12 = .ok (.iload_n 2, 1) := g_28 bX5_book rfl
theorem dX5_book_13 : decode cX5_book 13 = .ok (.aload_n 0, 1) := g_42 bX5_book rfl
theorem dX5_book_14 : decode cX5_book 14 = .ok (.getfield 10, 3) := g_180 bX5_book rfl
theorem dX5_book_17 : decode cX5_book 17 = .ok (.getfield 127, 3) := g_180 bX5_book rfl
theorem dX5_book_20 : decode cX5_book 20 = .ok (.invokestatic 131, 3) := g_184 bX5_book rfl
theorem dX5_book_23 : decode cX5_book 23 = .ok (.ifCond .ne 10, 3) := g_154 10 bX5_book rfl rfl
theorem dX5_book_26 : decode cX5_book 26 = .ok (.aload_n 0, 1) := g_42 bX5_book rfl
theorem dX5_book_27 : decode cX5_book 27 = .ok (.bipush (-2), 2) := g_16 254 bX5_book rfl rfl
theorem dX5_book_29 : decode cX5_book 29 = .ok (.invokevirtual 56, 3) := g_182 bX5_book rfl
theorem dX5_book_32 : decode cX5_book 32 = .ok (.ireturn, 1) := g_172 bX5_book rfl
theorem dX5_book_33 : decode cX5_book 33 = .ok (.aload_n 0, 1) := g_42 bX5_book rfl
theorem dX5_book_34 : decode cX5_book 34 = .ok (.getfield 10, 3) := g_180 bX5_book rfl
theorem dX5_book_37 : decode cX5_book 37 = .ok (.getfield 127, 3) := g_180 bX5_book rfl
theorem dX5_book_40 : decode cX5_book 40 = .ok (.bipush 8, 2) := g_16 8 bX5_book rfl rfl
theorem dX5_book_42 : decode cX5_book 42 = .ok (.if_icmp .lt 10, 3) := g_161 10 bX5_book rfl rfl
theorem dX5_book_45 : decode cX5_book 45 = .ok (.aload_n 0, 1) := g_42 bX5_book rfl
theorem dX5_book_46 : decode cX5_book 46 = .ok (.bipush (-6), 2) := g_16 250 bX5_book rfl rfl
theorem dX5_book_48 : decode cX5_book 48 = .ok (.invokevirtual 56, 3) := g_182 bX5_book rfl
theorem dX5_book_51 : decode cX5_book 51 = .ok (.ireturn, 1) := g_172 bX5_book rfl
theorem dX5_book_52 : decode cX5_book 52 = .ok (.aload_n 0, 1) := g_42 bX5_book rfl
theorem dX5_book_53 : decode cX5_book 53 = .ok (.getfield 10, 3) := g_180 bX5_book rfl
theorem dX5_book_56 : decode cX5_book 56 = .ok (.iload_n 1, 1) := g_27 bX5_book rfl
theorem dX5_book_57 : decode cX5_book 57 = .ok (.iload_n 2, 1) := g_28 bX5_book rfl
theorem dX5_book_58 : decode cX5_book 58 = .ok (.invokevirtual 134, 3) := g_182 bX5_book rfl
theorem dX5_book_61 : decode cX5_book 61 = .ok (.ireturn, 1) := g_172 bX5_book rfl
theorem dX5_bookOf_0 : decode cX5_bookOf 0 = .ok (.aload_n 0, 1) := g_42 bX5_bookOf rfl
theorem dX5_bookOf_1 : decode cX5_bookOf 1 = .ok (.getfield 10, 3) := g_180 bX5_bookOf rfl
theorem dX5_bookOf_4 : decode cX5_bookOf 4 = .ok (.iload_n 1, 1) := g_27 bX5_bookOf rfl
theorem dX5_bookOf_5 : decode cX5_bookOf 5 = .ok (.invokevirtual 168, 3) := g_182 bX5_bookOf rfl
theorem dX5_bookOf_8 : decode cX5_bookOf 8 = .ok (.ifCond .ne 10, 3) := g_154 10 bX5_bookOf rfl rfl
theorem dX5_bookOf_11 : decode cX5_bookOf 11 = .ok (.aload_n 0, 1) := g_42 bX5_bookOf rfl
theorem dX5_bookOf_12 : decode cX5_bookOf 12 = .ok (.bipush (-2), 2) := g_16 254 bX5_bookOf rfl rfl
theorem dX5_bookOf_14 : decode cX5_bookOf 14 = .ok (.invokevirtual 56, 3) := g_182 bX5_bookOf rfl
theorem dX5_bookOf_17 : decode cX5_bookOf 17 = .ok (.ireturn, 1) := g_172 bX5_bookOf rfl
theorem dX5_bookOf_18 : decode cX5_bookOf 18 = .ok (.iload_n 2, 1) := g_28 bX5_bookOf rfl
theorem dX5_bookOf_19 : decode cX5_bookOf 19 = .ok (.tableswitch 102 0 4 #[33, 43, 53, 63, 83], 33) := by decide +kernel
theorem dX5_bookOf_52 : decode cX5_bookOf 52 = .ok (.aload_n 0, 1) := g_42 bX5_bookOf rfl
theorem dX5_bookOf_53 : decode cX5_bookOf 53 = .ok (.getfield 10, 3) := g_180 bX5_bookOf rfl
theorem dX5_bookOf_56 : decode cX5_bookOf 56 = .ok (.getfield 171, 3) := g_180 bX5_bookOf rfl
theorem dX5_bookOf_59 : decode cX5_bookOf 59 = .ok (.iload_n 1, 1) := g_27 bX5_bookOf rfl
theorem dX5_bookOf_60 : decode cX5_bookOf 60 = .ok (.iaload, 1) := g_46 bX5_bookOf rfl
theorem dX5_bookOf_61 : decode cX5_bookOf 61 = .ok (.ireturn, 1) := g_172 bX5_bookOf rfl
theorem dX5_bookOf_62 : decode cX5_bookOf 62 = .ok (.aload_n 0, 1) := g_42 bX5_bookOf rfl
theorem dX5_bookOf_63 : decode cX5_bookOf 63 = .ok (.getfield 10, 3) := g_180 bX5_bookOf rfl
theorem dX5_bookOf_66 : decode cX5_bookOf 66 = .ok (.getfield 174, 3) := g_180 bX5_bookOf rfl
theorem dX5_bookOf_69 : decode cX5_bookOf 69 = .ok (.iload_n 1, 1) := g_27 bX5_bookOf rfl
theorem dX5_bookOf_70 : decode cX5_bookOf 70 = .ok (.iaload, 1) := g_46 bX5_bookOf rfl
theorem dX5_bookOf_71 : decode cX5_bookOf 71 = .ok (.ireturn, 1) := g_172 bX5_bookOf rfl
theorem dX5_bookOf_72 : decode cX5_bookOf 72 = .ok (.aload_n 0, 1) := g_42 bX5_bookOf rfl
theorem dX5_bookOf_73 : decode cX5_bookOf 73 = .ok (.getfield 10, 3) := g_180 bX5_bookOf rfl
theorem dX5_bookOf_76 : decode cX5_bookOf 76 = .ok (.getfield 177, 3) := g_180 bX5_bookOf rfl
theorem dX5_bookOf_79 : decode cX5_bookOf 79 = .ok (.iload_n 1, 1) := g_27 bX5_bookOf rfl
theorem dX5_bookOf_80 : decode cX5_bookOf 80 = .ok (.iaload, 1) := g_46 bX5_bookOf rfl
theorem dX5_bookOf_81 : decode cX5_bookOf 81 = .ok (.ireturn, 1) := g_172 bX5_bookOf rfl
theorem dX5_bookOf_82 : decode cX5_bookOf 82 = .ok (.aload_n 0, 1) := g_42 bX5_bookOf rfl
theorem dX5_bookOf_83 : decode cX5_bookOf 83 = .ok (.getfield 10, 3) := g_180 bX5_bookOf rfl
theorem dX5_bookOf_86 : decode cX5_bookOf 86 = .ok (.getfield 180, 3) := g_180 bX5_bookOf rfl
theorem dX5_bookOf_89 : decode cX5_bookOf 89 = .ok (.iload_n 1, 1) := g_27 bX5_bookOf rfl
theorem dX5_bookOf_90 : decode cX5_bookOf 90 = .ok (.invokestatic 183, 3) := g_184 bX5_bookOf rfl
theorem dX5_bookOf_93 : decode cX5_bookOf 93 = .ok (.ifCond .eq 7, 3) := g_153 7 bX5_bookOf rfl rfl
theorem dX5_bookOf_96 : decode cX5_bookOf 96 = .ok (.iconst 1, 1) := g_4 bX5_bookOf rfl
theorem dX5_bookOf_97 : decode cX5_bookOf 97 = .ok (.goto 4, 3) := g_167 4 bX5_bookOf rfl rfl
theorem dX5_bookOf_100 : decode cX5_bookOf 100 = .ok (.iconst 0, 1) := g_3 bX5_bookOf rfl
theorem dX5_bookOf_101 : decode cX5_bookOf 101 = .ok (.ireturn, 1) := g_172 bX5_bookOf rfl
theorem dX5_bookOf_102 : decode cX5_bookOf 102 = .ok (.aload_n 0, 1) := g_42 bX5_bookOf rfl
theorem dX5_bookOf_103 : decode cX5_bookOf 103 = .ok (.getfield 10, 3) := g_180 bX5_bookOf rfl
theorem dX5_bookOf_106 : decode cX5_bookOf 106 = .ok (.iload_n 1, 1) := g_27 bX5_bookOf rfl
theorem dX5_bookOf_107 : decode cX5_bookOf 107 = .ok (.aload_n 0, 1) := g_42 bX5_bookOf rfl
theorem dX5_bookOf_108 : decode cX5_bookOf 108 = .ok (.getfield 10, 3) := g_180 bX5_bookOf rfl
theorem dX5_bookOf_111 : decode cX5_bookOf 111 = .ok (.getfield 141, 3) := g_180 bX5_bookOf rfl
theorem dX5_bookOf_114 : decode cX5_bookOf 114 = .ok (.invokestatic 186, 3) := g_184 bX5_bookOf rfl
theorem dX5_bookOf_117 : decode cX5_bookOf 117 = .ok (.invokevirtual 189, 3) := g_182 bX5_bookOf rfl
theorem dX5_bookOf_120 : decode cX5_bookOf 120 = .ok (.ireturn, 1) := g_172 bX5_bookOf rfl
theorem dX5_bookOf_121 : decode cX5_bookOf 121 = .ok (.aload_n 0, 1) := g_42 bX5_bookOf rfl
theorem dX5_bookOf_122 : decode cX5_bookOf 122 = .ok (.bipush (-2), 2) := g_16 254 bX5_bookOf rfl rfl
theorem dX5_bookOf_124 : decode cX5_bookOf 124 = .ok (.invokevirtual 56, 3) := g_182 bX5_bookOf rfl
theorem dX5_bookOf_127 : decode cX5_bookOf 127 = .ok (.ireturn, 1) := g_172 bX5_bookOf rfl
theorem dX5_copy_0 : decode cX5_copy 0 = .ok (.aload_n 0, 1) := g_42 bX5_copy rfl
theorem dX5_copy_1 : decode cX5_copy 1 = .ok (.iload_n 1, 1) := g_27 bX5_copy rfl
theorem dX5_copy_2 : decode cX5_copy 2 = .ok (.iload_n 2, 1) := g_28 bX5_copy rfl
theorem dX5_copy_3 : decode cX5_copy 3 = .ok (.invokevirtual 74, 3) := g_182 bX5_copy rfl
theorem dX5_copy_6 : decode cX5_copy 6 = .ok (.istore 6, 2) := g_54 bX5_copy rfl
theorem dX5_copy_8 : decode cX5_copy 8 = .ok (.iload 6, 2) := g_21 bX5_copy rfl
theorem dX5_copy_10 : decode cX5_copy 10 = .ok (.ifCond .ne 30, 3) := g_154 30 bX5_copy rfl rfl
theorem dX5_copy_13 : decode cX5_copy 13 = .ok (.aload_n 0, 1) := g_42 bX5_copy rfl
theorem dX5_copy_14 : decode cX5_copy 14 = .ok (.iload_n 1, 1) := g_27 bX5_copy rfl
theorem dX5_copy_15 : decode cX5_copy 15 = .ok (.iload_n 3, 1) := g_29 bX5_copy rfl
theorem dX5_copy_16 : decode cX5_copy 16 = .ok (.iload 5, 2) := g_21 bX5_copy rfl
theorem dX5_copy_18 : decode cX5_copy 18 = .ok (.invokevirtual 78, 3) := g_182 bX5_copy rfl
theorem dX5_copy_21 : decode cX5_copy 21 = .ok (.ifCond .eq 15, 3) := g_153 15 bX5_copy rfl rfl
theorem dX5_copy_24 : decode cX5_copy 24 = .ok (.aload_n 0, 1) := g_42 bX5_copy rfl
theorem dX5_copy_25 : decode cX5_copy 25 = .ok (.iload_n 2, 1) := g_28 bX5_copy rfl
theorem dX5_copy_26 : decode cX5_copy 26 = .ok (.iload 4, 2) := g_21 bX5_copy rfl
theorem dX5_copy_28 : decode cX5_copy 28 = .ok (.iload 5, 2) := g_21 bX5_copy rfl
theorem dX5_copy_30 : decode cX5_copy 30 = .ok (.invokevirtual 78, 3) := g_182 bX5_copy rfl
theorem dX5_copy_33 : decode cX5_copy 33 = .ok (.ifCond .ne 7, 3) := g_154 7 bX5_copy rfl rfl
theorem dX5_copy_36 : decode cX5_copy 36 = .ok (.bipush (-2), 2) := g_16 254 bX5_copy rfl rfl
theorem dX5_copy_38 : decode cX5_copy 38 = .ok (.istore 6, 2) := g_54 bX5_copy rfl
theorem dX5_copy_40 : decode cX5_copy 40 = .ok (.iload 6, 2) := g_21 bX5_copy rfl
theorem dX5_copy_42 : decode cX5_copy 42 = .ok (.ifCond .eq 10, 3) := g_153 10 bX5_copy rfl rfl
theorem dX5_copy_45 : decode cX5_copy 45 = .ok (.aload_n 0, 1) := g_42 bX5_copy rfl
theorem dX5_copy_46 : decode cX5_copy 46 = .ok (.iload 6, 2) := g_21 bX5_copy rfl
theorem dX5_copy_48 : decode cX5_copy 48 = .ok (.invokevirtual 56, 3) := g_182 bX5_copy rfl
theorem dX5_copy_51 : decode cX5_copy 51 = .ok (.ireturn, 1) := g_172 bX5_copy rfl
theorem dX5_copy_52 : decode cX5_copy 52 = .ok (.aload_n 0, 1) := g_42 bX5_copy rfl
theorem dX5_copy_53 : decode cX5_copy 53 = .ok (.getfield 29, 3) := g_180 bX5_copy rfl
theorem dX5_copy_56 : decode cX5_copy 56 = .ok (.iload_n 1, 1) := g_27 bX5_copy rfl
theorem dX5_copy_57 : decode cX5_copy 57 = .ok (.iload_n 2, 1) := g_28 bX5_copy rfl
theorem dX5_copy_58 : decode cX5_copy 58 = .ok (.iload_n 3, 1) := g_29 bX5_copy rfl
theorem dX5_copy_59 : decode cX5_copy 59 = .ok (.iload 4, 2) := g_21 bX5_copy rfl
theorem dX5_copy_61 : decode cX5_copy 61 = .ok (.iload 5, 2) := g_21 bX5_copy rfl
theorem dX5_copy_63 : decode cX5_copy 63 = .ok (.invokevirtual 82, 3) := g_182 bX5_copy rfl
theorem dX5_copy_66 : decode cX5_copy 66 = .ok (.iload 5, 2) := g_21 bX5_copy rfl
theorem dX5_copy_68 : decode cX5_copy 68 = .ok (.ireturn, 1) := g_172 bX5_copy rfl
theorem dX5_element_0 : decode cX5_element 0 = .ok (.aload_n 0, 1) := g_42 bX5_element rfl
theorem dX5_element_1 : decode cX5_element 1 = .ok (.iload_n 1, 1) := g_27 bX5_element rfl
theorem dX5_element_2 : decode cX5_element 2 = .ok (.invokevirtual 64, 3) := g_182 bX5_element rfl
theorem dX5_element_5 : decode cX5_element 5 = .ok (.ifCond .ne 24, 3) := g_154 24 bX5_element rfl rfl
theorem dX5_element_8 : decode cX5_element 8 = .ok (.iload_n 2, 1) := g_28 bX5_element rfl
theorem dX5_element_9 : decode cX5_element 9 = .ok (.i2l, 1) := g_133 bX5_element rfl
theorem dX5_element_10 : decode cX5_element 10 = .ok (.lconst 0, 1) := g_9 bX5_element rfl
theorem dX5_element_11 : decode cX5_element 11 = .ok (.aload_n 0, 1) := g_42 bX5_element rfl
theorem dX5_element_12 : decode cX5_element 12 = .ok (.getfield 29, 3) := g_180 bX5_element rfl
theorem dX5_element_15 : decode cX5_element 15 = .ok (.getfield 67, 3) := g_180 bX5_element rfl
theorem dX5_element_18 : decode cX5_element 18 = .ok (.iload_n 1, 1) := g_27 bX5_element rfl
theorem dX5_element_19 : decode cX5_element 19 = .ok (.iaload, 1) := g_46 bX5_element rfl
theorem dX5_element_20 : decode cX5_element 20 = .ok (.iconst 1, 1) := g_4 bX5_element rfl
theorem dX5_element_21 : decode cX5_element 21 = .ok (.isub, 1) := g_100 bX5_element rfl
theorem dX5_element_22 : decode cX5_element 22 = .ok (.i2l, 1) := g_133 bX5_element rfl
theorem dX5_element_23 : decode cX5_element 23 = .ok (.invokestatic 50, 3) := g_184 bX5_element rfl
theorem dX5_element_26 : decode cX5_element 26 = .ok (.ifCond .ne 5, 3) := g_154 5 bX5_element rfl rfl
theorem dX5_element_29 : decode cX5_element 29 = .ok (.lconst 0, 1) := g_9 bX5_element rfl
theorem dX5_element_30 : decode cX5_element 30 = .ok (.lreturn, 1) := g_173 bX5_element rfl
theorem dX5_element_31 : decode cX5_element 31 = .ok (.aload_n 0, 1) := g_42 bX5_element rfl
theorem dX5_element_32 : decode cX5_element 32 = .ok (.getfield 29, 3) := g_180 bX5_element rfl
theorem dX5_element_35 : decode cX5_element 35 = .ok (.iload_n 1, 1) := g_27 bX5_element rfl
theorem dX5_element_36 : decode cX5_element 36 = .ok (.iload_n 2, 1) := g_28 bX5_element rfl
theorem dX5_element_37 : decode cX5_element 37 = .ok (.invokevirtual 86, 3) := g_182 bX5_element rfl
theorem dX5_element_40 : decode cX5_element 40 = .ok (.lreturn, 1) := g_173 bX5_element rfl
theorem dX5_feed_0 : decode cX5_feed 0 = .ok (.iload_n 2, 1) := g_28 bX5_feed rfl
theorem dX5_feed_1 : decode cX5_feed 1 = .ok (.i2l, 1) := g_133 bX5_feed rfl
theorem dX5_feed_2 : decode cX5_feed 2 = .ok (.lconst 1, 1) := g_10 bX5_feed rfl
theorem dX5_feed_3 : decode cX5_feed 3 = .ok (.ldc2_w 48, 3) := g_20 bX5_feed rfl
theorem dX5_feed_6 : decode cX5_feed 6 = .ok (.invokestatic 50, 3) := g_184 bX5_feed rfl
theorem dX5_feed_9 : decode cX5_feed 9 = .ok (.ifCond .ne 10, 3) := g_154 10 bX5_feed rfl rfl
theorem dX5_feed_12 : decode cX5_feed 12 = .ok (.aload_n 0, 1) := g_42 bX5_feed rfl
theorem dX5_feed_13 : decode cX5_feed 13 = .ok (.bipush (-2), 2) := g_16 254 bX5_feed rfl rfl
theorem dX5_feed_15 : decode cX5_feed 15 = .ok (.invokevirtual 56, 3) := g_182 bX5_feed rfl
theorem dX5_feed_18 : decode cX5_feed 18 = .ok (.ireturn, 1) := g_172 bX5_feed rfl
theorem dX5_feed_19 : decode cX5_feed 19 = .ok (.aload_n 0, 1) := g_42 bX5_feed rfl
theorem dX5_feed_20 : decode cX5_feed 20 = .ok (.getfield 36, 3) := g_180 bX5_feed rfl
theorem dX5_feed_23 : decode cX5_feed 23 = .ok (.getfield 148, 3) := g_180 bX5_feed rfl
theorem dX5_feed_26 : decode cX5_feed 26 = .ok (.sipush 250, 3) := g_17 250 bX5_feed rfl rfl
theorem dX5_feed_29 : decode cX5_feed 29 = .ok (.iload_n 2, 1) := g_28 bX5_feed rfl
theorem dX5_feed_30 : decode cX5_feed 30 = .ok (.isub, 1) := g_100 bX5_feed rfl
theorem dX5_feed_31 : decode cX5_feed 31 = .ok (.if_icmp .le 10, 3) := g_164 10 bX5_feed rfl rfl
theorem dX5_feed_34 : decode cX5_feed 34 = .ok (.aload_n 0, 1) := g_42 bX5_feed rfl
theorem dX5_feed_35 : decode cX5_feed 35 = .ok (.bipush (-6), 2) := g_16 250 bX5_feed rfl rfl
theorem dX5_feed_37 : decode cX5_feed 37 = .ok (.invokevirtual 56, 3) := g_182 bX5_feed rfl
theorem dX5_feed_40 : decode cX5_feed 40 = .ok (.ireturn, 1) := g_172 bX5_feed rfl
theorem dX5_feed_41 : decode cX5_feed 41 = .ok (.bipush 8, 2) := g_16 8 bX5_feed rfl rfl
theorem dX5_feed_43 : decode cX5_feed 43 = .ok (.iload_n 2, 1) := g_28 bX5_feed rfl
theorem dX5_feed_44 : decode cX5_feed 44 = .ok (.iconst 1, 1) := g_4 bX5_feed rfl
theorem dX5_feed_45 : decode cX5_feed 45 = .ok (.isub, 1) := g_100 bX5_feed rfl
theorem dX5_feed_46 : decode cX5_feed 46 = .ok (.imul, 1) := g_104 bX5_feed rfl
theorem dX5_feed_47 : decode cX5_feed 47 = .ok (.istore_n 3, 1) := g_62 bX5_feed rfl
theorem dX5_feed_48 : decode cX5_feed 48 = .ok (.iload_n 3, 1) := g_29 bX5_feed rfl
theorem dX5_feed_49 : decode cX5_feed 49 = .ok (.ifCond .lt 20, 3) := g_155 20 bX5_feed rfl rfl
theorem dX5_feed_52 : decode cX5_feed 52 = .ok (.aload_n 0, 1) := g_42 bX5_feed rfl
theorem dX5_feed_53 : decode cX5_feed 53 = .ok (.getfield 36, 3) := g_180 bX5_feed rfl
theorem dX5_feed_56 : decode cX5_feed 56 = .ok (.iload_n 1, 1) := g_27 bX5_feed rfl
theorem dX5_feed_57 : decode cX5_feed 57 = .ok (.iload_n 3, 1) := g_29 bX5_feed rfl
theorem dX5_feed_58 : decode cX5_feed 58 = .ok (.ishr, 1) := g_122 bX5_feed rfl
theorem dX5_feed_59 : decode cX5_feed 59 = .ok (.i2b, 1) := g_145 bX5_feed rfl
theorem dX5_feed_60 : decode cX5_feed 60 = .ok (.invokevirtual 150, 3) := g_182 bX5_feed rfl
theorem dX5_feed_63 : decode cX5_feed 63 = .ok (.iinc 3 (-8), 3) := g_132 248 bX5_feed rfl rfl
theorem dX5_feed_66 : decode cX5_feed 66 = .ok (.goto (-18), 3) := g_167 65518 bX5_feed rfl rfl
theorem dX5_feed_69 : decode cX5_feed 69 = .ok (.aload_n 0, 1) := g_42 bX5_feed rfl
theorem dX5_feed_70 : decode cX5_feed 70 = .ok (.getfield 36, 3) := g_180 bX5_feed rfl
theorem dX5_feed_73 : decode cX5_feed 73 = .ok (.getfield 148, 3) := g_180 bX5_feed rfl
theorem dX5_feed_76 : decode cX5_feed 76 = .ok (.ireturn, 1) := g_172 bX5_feed rfl
theorem dX5_ground_0 : decode cX5_ground 0 = .ok (.aload_n 0, 1) := g_42 bX5_ground rfl
theorem dX5_ground_1 : decode cX5_ground 1 = .ok (.iload_n 1, 1) := g_27 bX5_ground rfl
theorem dX5_ground_2 : decode cX5_ground 2 = .ok (.iload_n 2, 1) := g_28 bX5_ground rfl
theorem dX5_ground_3 : decode cX5_ground 3 = .ok (.invokevirtual 210, 3) := g_182 bX5_ground rfl
theorem dX5_ground_6 : decode cX5_ground 6 = .ok (.ifCond .eq 15, 3) := g_153 15 bX5_ground rfl rfl
theorem dX5_ground_9 : decode cX5_ground 9 = .ok (.aload_n 0, 1) := g_42 bX5_ground rfl
theorem dX5_ground_10 : decode cX5_ground 10 = .ok (.getfield 10, 3) := g_180 bX5_ground rfl
theorem dX5_ground_13 : decode cX5_ground 13 = .ok (.iload_n 1, 1) := g_27 bX5_ground rfl
theorem dX5_ground_14 : decode cX5_ground 14 = .ok (.iload_n 2, 1) := g_28 bX5_ground rfl
theorem dX5_ground_15 : decode cX5_ground 15 = .ok (.invokevirtual 221, 3) := g_182 bX5_ground rfl
theorem dX5_ground_18 : decode cX5_ground 18 = .ok (.goto 9, 3) := g_167 9 bX5_ground rfl rfl
theorem dX5_ground_21 : decode cX5_ground 21 = .ok (.aload_n 0, 1) := g_42 bX5_ground rfl
theorem dX5_ground_22 : decode cX5_ground 22 = .ok (.bipush (-2), 2) := g_16 254 bX5_ground rfl rfl
theorem dX5_ground_24 : decode cX5_ground 24 = .ok (.invokevirtual 56, 3) := g_182 bX5_ground rfl
theorem dX5_ground_27 : decode cX5_ground 27 = .ok (.ireturn, 1) := g_172 bX5_ground rfl
theorem dX5_holds_0 : decode cX5_holds 0 = .ok (.iload_n 1, 1) := g_27 bX5_holds rfl
theorem dX5_holds_1 : decode cX5_holds 1 = .ok (.invokestatic 44, 3) := g_184 bX5_holds rfl
theorem dX5_holds_4 : decode cX5_holds 4 = .ok (.ifCond .eq 15, 3) := g_153 15 bX5_holds rfl rfl
theorem dX5_holds_7 : decode cX5_holds 7 = .ok (.aload_n 0, 1) := g_42 bX5_holds rfl
theorem dX5_holds_8 : decode cX5_holds 8 = .ok (.getfield 29, 3) := g_180 bX5_holds rfl
theorem dX5_holds_11 : decode cX5_holds 11 = .ok (.getfield 90, 3) := g_180 bX5_holds rfl
theorem dX5_holds_14 : decode cX5_holds 14 = .ok (.iload_n 1, 1) := g_27 bX5_holds rfl
theorem dX5_holds_15 : decode cX5_holds 15 = .ok (.iaload, 1) := g_46 bX5_holds rfl
theorem dX5_holds_16 : decode cX5_holds 16 = .ok (.goto 4, 3) := g_167 4 bX5_holds rfl rfl
theorem dX5_holds_19 : decode cX5_holds 19 = .ok (.iconst (-1), 1) := g_2 bX5_holds rfl
theorem dX5_holds_20 : decode cX5_holds 20 = .ok (.ireturn, 1) := g_172 bX5_holds rfl
theorem dX5_known_0 : decode cX5_known 0 = .ok (.aload_n 0, 1) := g_42 bX5_known rfl
theorem dX5_known_1 : decode cX5_known 1 = .ok (.iload_n 1, 1) := g_27 bX5_known rfl
theorem dX5_known_2 : decode cX5_known 2 = .ok (.iload_n 2, 1) := g_28 bX5_known rfl
theorem dX5_known_3 : decode cX5_known 3 = .ok (.invokevirtual 210, 3) := g_182 bX5_known rfl
theorem dX5_known_6 : decode cX5_known 6 = .ok (.ifCond .eq 15, 3) := g_153 15 bX5_known rfl rfl
theorem dX5_known_9 : decode cX5_known 9 = .ok (.aload_n 0, 1) := g_42 bX5_known rfl
theorem dX5_known_10 : decode cX5_known 10 = .ok (.getfield 10, 3) := g_180 bX5_known rfl
theorem dX5_known_13 : decode cX5_known 13 = .ok (.iload_n 1, 1) := g_27 bX5_known rfl
theorem dX5_known_14 : decode cX5_known 14 = .ok (.iload_n 2, 1) := g_28 bX5_known rfl
theorem dX5_known_15 : decode cX5_known 15 = .ok (.invokevirtual 213, 3) := g_182 bX5_known rfl
theorem dX5_known_18 : decode cX5_known 18 = .ok (.goto 9, 3) := g_167 9 bX5_known rfl rfl
theorem dX5_known_21 : decode cX5_known 21 = .ok (.aload_n 0, 1) := g_42 bX5_known rfl
theorem dX5_known_22 : decode cX5_known 22 = .ok (.bipush (-2), 2) := g_16 254 bX5_known rfl rfl
theorem dX5_known_24 : decode cX5_known 24 = .ok (.invokevirtual 56, 3) := g_182 bX5_known rfl
theorem dX5_known_27 : decode cX5_known 27 = .ok (.ireturn, 1) := g_172 bX5_known rfl
theorem dX5_one_0 : decode cX5_one 0 = .ok (.iload_n 1, 1) := g_27 bX5_one rfl
theorem dX5_one_1 : decode cX5_one 1 = .ok (.i2l, 1) := g_133 bX5_one rfl
theorem dX5_one_2 : decode cX5_one 2 = .ok (.iload_n 2, 1) := g_28 bX5_one rfl
theorem dX5_one_3 : decode cX5_one 3 = .ok (.i2l, 1) := g_133 bX5_one rfl
theorem dX5_one_4 : decode cX5_one 4 = .ok (.iload_n 3, 1) := g_29 bX5_one rfl
theorem dX5_one_5 : decode cX5_one 5 = .ok (.i2l, 1) := g_133 bX5_one rfl
theorem dX5_one_6 : decode cX5_one 6 = .ok (.iload 4, 2) := g_21 bX5_one rfl
theorem dX5_one_8 : decode cX5_one 8 = .ok (.i2l, 1) := g_133 bX5_one rfl
theorem dX5_one_9 : decode cX5_one 9 = .ok (.invokestatic 137, 3) := g_184 bX5_one rfl
theorem dX5_one_12 : decode cX5_one 12 = .ok (.ifCond .ne 10, 3) := g_154 10 bX5_one rfl rfl
theorem dX5_one_15 : decode cX5_one 15 = .ok (.aload_n 0, 1) := g_42 bX5_one rfl
theorem dX5_one_16 : decode cX5_one 16 = .ok (.bipush (-2), 2) := g_16 254 bX5_one rfl rfl
theorem dX5_one_18 : decode cX5_one 18 = .ok (.invokevirtual 56, 3) := g_182 bX5_one rfl
theorem dX5_one_21 : decode cX5_one 21 = .ok (.ireturn, 1) := g_172 bX5_one rfl
theorem dX5_one_22 : decode cX5_one 22 = .ok (.aload_n 0, 1) := g_42 bX5_one rfl
theorem dX5_one_23 : decode cX5_one 23 = .ok (.getfield 10, 3) := g_180 bX5_one rfl
theorem dX5_one_26 : decode cX5_one 26 = .ok (.getfield 141, 3) := g_180 bX5_one rfl
theorem dX5_one_29 : decode cX5_one 29 = .ok (.bipush 8, 2) := g_16 8 bX5_one rfl rfl
theorem dX5_one_31 : decode cX5_one 31 = .ok (.if_icmp .lt 10, 3) := g_161 10 bX5_one rfl rfl
theorem dX5_one_34 : decode cX5_one 34 = .ok (.aload_n 0, 1) := g_42 bX5_one rfl
theorem dX5_one_35 : decode cX5_one 35 = .ok (.bipush (-6), 2) := g_16 250 bX5_one rfl rfl
theorem dX5_one_37 : decode cX5_one 37 = .ok (.invokevirtual 56, 3) := g_182 bX5_one rfl
theorem dX5_one_40 : decode cX5_one 40 = .ok (.ireturn, 1) := g_172 bX5_one rfl
theorem dX5_one_41 : decode cX5_one 41 = .ok (.aload_n 0, 1) := g_42 bX5_one rfl
theorem dX5_one_42 : decode cX5_one 42 = .ok (.getfield 10, 3) := g_180 bX5_one rfl
theorem dX5_one_45 : decode cX5_one 45 = .ok (.iload_n 1, 1) := g_27 bX5_one rfl
theorem dX5_one_46 : decode cX5_one 46 = .ok (.iload_n 2, 1) := g_28 bX5_one rfl
theorem dX5_one_47 : decode cX5_one 47 = .ok (.iload_n 3, 1) := g_29 bX5_one rfl
theorem dX5_one_48 : decode cX5_one 48 = .ok (.iload 4, 2) := g_21 bX5_one rfl
theorem dX5_one_50 : decode cX5_one 50 = .ok (.invokevirtual 144, 3) := g_182 bX5_one rfl
theorem dX5_one_53 : decode cX5_one 53 = .ok (.ireturn, 1) := g_172 bX5_one rfl
theorem dX5_oneOf_0 : decode cX5_oneOf 0 = .ok (.aload_n 0, 1) := g_42 bX5_oneOf rfl
theorem dX5_oneOf_1 : decode cX5_oneOf 1 = .ok (.getfield 10, 3) := g_180 bX5_oneOf rfl
theorem dX5_oneOf_4 : decode cX5_oneOf 4 = .ok (.iload_n 1, 1) := g_27 bX5_oneOf rfl
theorem dX5_oneOf_5 : decode cX5_oneOf 5 = .ok (.invokevirtual 192, 3) := g_182 bX5_oneOf rfl
theorem dX5_oneOf_8 : decode cX5_oneOf 8 = .ok (.ifCond .ne 10, 3) := g_154 10 bX5_oneOf rfl rfl
theorem dX5_oneOf_11 : decode cX5_oneOf 11 = .ok (.aload_n 0, 1) := g_42 bX5_oneOf rfl
theorem dX5_oneOf_12 : decode cX5_oneOf 12 = .ok (.bipush (-2), 2) := g_16 254 bX5_oneOf rfl rfl
theorem dX5_oneOf_14 : decode cX5_oneOf 14 = .ok (.invokevirtual 56, 3) := g_182 bX5_oneOf rfl
theorem dX5_oneOf_17 : decode cX5_oneOf 17 = .ok (.ireturn, 1) := g_172 bX5_oneOf rfl
theorem dX5_oneOf_18 : decode cX5_oneOf 18 = .ok (.iload_n 2, 1) := g_28 bX5_oneOf rfl
theorem dX5_oneOf_19 : decode cX5_oneOf 19 = .ok (.tableswitch 93 0 4 #[33, 43, 53, 63, 73], 33) := by decide +kernel
theorem dX5_oneOf_52 : decode cX5_oneOf 52 = .ok (.aload_n 0, 1) := g_42 bX5_oneOf rfl
theorem dX5_oneOf_53 : decode cX5_oneOf 53 = .ok (.getfield 10, 3) := g_180 bX5_oneOf rfl
theorem dX5_oneOf_56 : decode cX5_oneOf 56 = .ok (.getfield 195, 3) := g_180 bX5_oneOf rfl
theorem dX5_oneOf_59 : decode cX5_oneOf 59 = .ok (.iload_n 1, 1) := g_27 bX5_oneOf rfl
theorem dX5_oneOf_60 : decode cX5_oneOf 60 = .ok (.iaload, 1) := g_46 bX5_oneOf rfl
theorem dX5_oneOf_61 : decode cX5_oneOf 61 = .ok (.ireturn, 1) := g_172 bX5_oneOf rfl
theorem dX5_oneOf_62 : decode cX5_oneOf 62 = .ok (.aload_n 0, 1) := g_42 bX5_oneOf rfl
theorem dX5_oneOf_63 : decode cX5_oneOf 63 = .ok (.getfield 10, 3) := g_180 bX5_oneOf rfl
theorem dX5_oneOf_66 : decode cX5_oneOf 66 = .ok (.getfield 198, 3) := g_180 bX5_oneOf rfl
theorem dX5_oneOf_69 : decode cX5_oneOf 69 = .ok (.iload_n 1, 1) := g_27 bX5_oneOf rfl
theorem dX5_oneOf_70 : decode cX5_oneOf 70 = .ok (.iaload, 1) := g_46 bX5_oneOf rfl
theorem dX5_oneOf_71 : decode cX5_oneOf 71 = .ok (.ireturn, 1) := g_172 bX5_oneOf rfl
theorem dX5_oneOf_72 : decode cX5_oneOf 72 = .ok (.aload_n 0, 1) := g_42 bX5_oneOf rfl
theorem dX5_oneOf_73 : decode cX5_oneOf 73 = .ok (.getfield 10, 3) := g_180 bX5_oneOf rfl
theorem dX5_oneOf_76 : decode cX5_oneOf 76 = .ok (.getfield 201, 3) := g_180 bX5_oneOf rfl
theorem dX5_oneOf_79 : decode cX5_oneOf 79 = .ok (.iload_n 1, 1) := g_27 bX5_oneOf rfl
theorem dX5_oneOf_80 : decode cX5_oneOf 80 = .ok (.iaload, 1) := g_46 bX5_oneOf rfl
theorem dX5_oneOf_81 : decode cX5_oneOf 81 = .ok (.ireturn, 1) := g_172 bX5_oneOf rfl
theorem dX5_oneOf_82 : decode cX5_oneOf 82 = .ok (.aload_n 0, 1) := g_42 bX5_oneOf rfl
theorem dX5_oneOf_83 : decode cX5_oneOf 83 = .ok (.getfield 10, 3) := g_180 bX5_oneOf rfl
theorem dX5_oneOf_86 : decode cX5_oneOf 86 = .ok (.getfield 204, 3) := g_180 bX5_oneOf rfl
theorem dX5_oneOf_89 : decode cX5_oneOf 89 = .ok (.iload_n 1, 1) := g_27 bX5_oneOf rfl
theorem dX5_oneOf_90 : decode cX5_oneOf 90 = .ok (.iaload, 1) := g_46 bX5_oneOf rfl
theorem dX5_oneOf_91 : decode cX5_oneOf 91 = .ok (.ireturn, 1) := g_172 bX5_oneOf rfl
theorem dX5_oneOf_92 : decode cX5_oneOf 92 = .ok (.aload_n 0, 1) := g_42 bX5_oneOf rfl
theorem dX5_oneOf_93 : decode cX5_oneOf 93 = .ok (.getfield 10, 3) := g_180 bX5_oneOf rfl
theorem dX5_oneOf_96 : decode cX5_oneOf 96 = .ok (.getfield 207, 3) := g_180 bX5_oneOf rfl
theorem dX5_oneOf_99 : decode cX5_oneOf 99 = .ok (.iload_n 1, 1) := g_27 bX5_oneOf rfl
theorem dX5_oneOf_100 : decode cX5_oneOf 100 = .ok (.invokestatic 183, 3) := g_184 bX5_oneOf rfl
theorem dX5_oneOf_103 : decode cX5_oneOf 103 = .ok (.ifCond .eq 7, 3) := g_153 7 bX5_oneOf rfl rfl
theorem dX5_oneOf_106 : decode cX5_oneOf 106 = .ok (.iconst 1, 1) := g_4 bX5_oneOf rfl
theorem dX5_oneOf_107 : decode cX5_oneOf 107 = .ok (.goto 4, 3) := g_167 4 bX5_oneOf rfl rfl
theorem dX5_oneOf_110 : decode cX5_oneOf 110 = .ok (.iconst 0, 1) := g_3 bX5_oneOf rfl
theorem dX5_oneOf_111 : decode cX5_oneOf 111 = .ok (.ireturn, 1) := g_172 bX5_oneOf rfl
theorem dX5_oneOf_112 : decode cX5_oneOf 112 = .ok (.aload_n 0, 1) := g_42 bX5_oneOf rfl
theorem dX5_oneOf_113 : decode cX5_oneOf 113 = .ok (.bipush (-2), 2) := g_16 254 bX5_oneOf rfl rfl
theorem dX5_oneOf_115 : decode cX5_oneOf 115 = .ok (.invokevirtual 56, 3) := g_182 bX5_oneOf rfl
theorem dX5_oneOf_118 : decode cX5_oneOf 118 = .ok (.ireturn, 1) := g_172 bX5_oneOf rfl
theorem dX5_ones_0 : decode cX5_ones 0 = .ok (.aload_n 0, 1) := g_42 bX5_ones rfl
theorem dX5_ones_1 : decode cX5_ones 1 = .ok (.iload_n 1, 1) := g_27 bX5_ones rfl
theorem dX5_ones_2 : decode cX5_ones 2 = .ok (.invokevirtual 64, 3) := g_182 bX5_ones rfl
theorem dX5_ones_5 : decode cX5_ones 5 = .ok (.istore_n 3, 1) := g_62 bX5_ones rfl
theorem dX5_ones_6 : decode cX5_ones 6 = .ok (.iload_n 3, 1) := g_29 bX5_ones rfl
theorem dX5_ones_7 : decode cX5_ones 7 = .ok (.ifCond .ne 31, 3) := g_154 31 bX5_ones rfl rfl
theorem dX5_ones_10 : decode cX5_ones 10 = .ok (.iload_n 2, 1) := g_28 bX5_ones rfl
theorem dX5_ones_11 : decode cX5_ones 11 = .ok (.i2l, 1) := g_133 bX5_ones rfl
theorem dX5_ones_12 : decode cX5_ones 12 = .ok (.lconst 0, 1) := g_9 bX5_ones rfl
theorem dX5_ones_13 : decode cX5_ones 13 = .ok (.aload_n 0, 1) := g_42 bX5_ones rfl
theorem dX5_ones_14 : decode cX5_ones 14 = .ok (.getfield 29, 3) := g_180 bX5_ones rfl
theorem dX5_ones_17 : decode cX5_ones 17 = .ok (.getfield 67, 3) := g_180 bX5_ones rfl
theorem dX5_ones_20 : decode cX5_ones 20 = .ok (.iload_n 1, 1) := g_27 bX5_ones rfl
theorem dX5_ones_21 : decode cX5_ones 21 = .ok (.iaload, 1) := g_46 bX5_ones rfl
theorem dX5_ones_22 : decode cX5_ones 22 = .ok (.i2l, 1) := g_133 bX5_ones rfl
theorem dX5_ones_23 : decode cX5_ones 23 = .ok (.invokestatic 50, 3) := g_184 bX5_ones rfl
theorem dX5_ones_26 : decode cX5_ones 26 = .ok (.ifCond .eq 9, 3) := g_153 9 bX5_ones rfl rfl
theorem dX5_ones_29 : decode cX5_ones 29 = .ok (.iload_n 2, 1) := g_28 bX5_ones rfl
theorem dX5_ones_30 : decode cX5_ones 30 = .ok (.iconst 4, 1) := g_7 bX5_ones rfl
theorem dX5_ones_31 : decode cX5_ones 31 = .ok (.irem, 1) := g_112 bX5_ones rfl
theorem dX5_ones_32 : decode cX5_ones 32 = .ok (.ifCond .eq 6, 3) := g_153 6 bX5_ones rfl rfl
theorem dX5_ones_35 : decode cX5_ones 35 = .ok (.bipush (-2), 2) := g_16 254 bX5_ones rfl rfl
theorem dX5_ones_37 : decode cX5_ones 37 = .ok (.istore_n 3, 1) := g_62 bX5_ones rfl
theorem dX5_ones_38 : decode cX5_ones 38 = .ok (.iload_n 3, 1) := g_29 bX5_ones rfl
theorem dX5_ones_39 : decode cX5_ones 39 = .ok (.ifCond .eq 9, 3) := g_153 9 bX5_ones rfl rfl
theorem dX5_ones_42 : decode cX5_ones 42 = .ok (.aload_n 0, 1) := g_42 bX5_ones rfl
theorem dX5_ones_43 : decode cX5_ones 43 = .ok (.iload_n 3, 1) := g_29 bX5_ones rfl
theorem dX5_ones_44 : decode cX5_ones 44 = .ok (.invokevirtual 56, 3) := g_182 bX5_ones rfl
theorem dX5_ones_47 : decode cX5_ones 47 = .ok (.ireturn, 1) := g_172 bX5_ones rfl
theorem dX5_ones_48 : decode cX5_ones 48 = .ok (.iconst 0, 1) := g_3 bX5_ones rfl
theorem dX5_ones_49 : decode cX5_ones 49 = .ok (.istore 4, 2) := g_54 bX5_ones rfl
theorem dX5_ones_51 : decode cX5_ones 51 = .ok (.iconst 0, 1) := g_3 bX5_ones rfl
theorem dX5_ones_52 : decode cX5_ones 52 = .ok (.istore 5, 2) := g_54 bX5_ones rfl
theorem dX5_ones_54 : decode cX5_ones 54 = .ok (.iload 5, 2) := g_21 bX5_ones rfl
theorem dX5_ones_56 : decode cX5_ones 56 = .ok (.iload_n 2, 1) := g_28 bX5_ones rfl
theorem dX5_ones_57 : decode cX5_ones 57 = .ok (.if_icmp .ge 115, 3) := g_162 115 bX5_ones rfl rfl
theorem dX5_ones_60 : decode cX5_ones 60 = .ok (.aload_n 0, 1) := g_42 bX5_ones rfl
theorem dX5_ones_61 : decode cX5_ones 61 = .ok (.getfield 10, 3) := g_180 bX5_ones rfl
theorem dX5_ones_64 : decode cX5_ones 64 = .ok (.getfield 141, 3) := g_180 bX5_ones rfl
theorem dX5_ones_67 : decode cX5_ones 67 = .ok (.bipush 8, 2) := g_16 8 bX5_ones rfl rfl
theorem dX5_ones_69 : decode cX5_ones 69 = .ok (.if_icmp .ge 103, 3) := g_162 103 bX5_ones rfl rfl
theorem dX5_ones_72 : decode cX5_ones 72 = .ok (.aload_n 0, 1) := g_42 bX5_ones rfl
theorem dX5_ones_73 : decode cX5_ones 73 = .ok (.getfield 29, 3) := g_180 bX5_ones rfl
theorem dX5_ones_76 : decode cX5_ones 76 = .ok (.iload_n 1, 1) := g_27 bX5_ones rfl
theorem dX5_ones_77 : decode cX5_ones 77 = .ok (.iload 5, 2) := g_21 bX5_ones rfl
theorem dX5_ones_79 : decode cX5_ones 79 = .ok (.invokevirtual 86, 3) := g_182 bX5_ones rfl
theorem dX5_ones_82 : decode cX5_ones 82 = .ok (.lstore 6, 2) := g_55 bX5_ones rfl
theorem dX5_ones_84 : decode cX5_ones 84 = .ok (.aload_n 0, 1) := g_42 bX5_ones rfl
theorem dX5_ones_85 : decode cX5_ones 85 = .ok (.getfield 29, 3) := g_180 bX5_ones rfl
theorem dX5_ones_88 : decode cX5_ones 88 = .ok (.iload_n 1, 1) := g_27 bX5_ones rfl
theorem dX5_ones_89 : decode cX5_ones 89 = .ok (.iload 5, 2) := g_21 bX5_ones rfl
theorem dX5_ones_91 : decode cX5_ones 91 = .ok (.iconst 1, 1) := g_4 bX5_ones rfl
theorem dX5_ones_92 : decode cX5_ones 92 = .ok (.iadd, 1) := g_96 bX5_ones rfl
theorem dX5_ones_93 : decode cX5_ones 93 = .ok (.invokevirtual 86, 3) := g_182 bX5_ones rfl
theorem dX5_ones_96 : decode cX5_ones 96 = .ok (.lstore 8, 2) := g_55 bX5_ones rfl
theorem dX5_ones_98 : decode cX5_ones 98 = .ok (.aload_n 0, 1) := g_42 bX5_ones rfl
theorem dX5_ones_99 : decode cX5_ones 99 = .ok (.getfield 29, 3) := g_180 bX5_ones rfl
theorem dX5_ones_102 : decode cX5_ones 102 = .ok (.iload_n 1, 1) := g_27 bX5_ones rfl
theorem dX5_ones_103 : decode cX5_ones 103 = .ok (.iload 5, 2) := g_21 bX5_ones rfl
theorem dX5_ones_105 : decode cX5_ones 105 = .ok (.iconst 2, 1) := g_5 bX5_ones rfl
theorem dX5_ones_106 : decode cX5_ones 106 = .ok (.iadd, 1) := g_96 bX5_ones rfl
theorem dX5_ones_107 : decode cX5_ones 107 = .ok (.invokevirtual 86, 3) := g_182 bX5_ones rfl
theorem dX5_ones_110 : decode cX5_ones 110 = .ok (.lstore 10, 2) := g_55 bX5_ones rfl
theorem dX5_ones_112 : decode cX5_ones 112 = .ok (.aload_n 0, 1) := g_42 bX5_ones rfl
theorem dX5_ones_113 : decode cX5_ones 113 = .ok (.getfield 29, 3) := g_180 bX5_ones rfl
theorem dX5_ones_116 : decode cX5_ones 116 = .ok (.iload_n 1, 1) := g_27 bX5_ones rfl
theorem dX5_ones_117 : decode cX5_ones 117 = .ok (.iload 5, 2) := g_21 bX5_ones rfl
theorem dX5_ones_119 : decode cX5_ones 119 = .ok (.iconst 3, 1) := g_6 bX5_ones rfl
theorem dX5_ones_120 : decode cX5_ones 120 = .ok (.iadd, 1) := g_96 bX5_ones rfl
theorem dX5_ones_121 : decode cX5_ones 121 = .ok (.invokevirtual 86, 3) := g_182 bX5_ones rfl
theorem dX5_ones_124 : decode cX5_ones 124 = .ok (.lstore 12, 2) := g_55 bX5_ones rfl
theorem dX5_ones_126 : decode cX5_ones 126 = .ok (.lload 6, 2) := g_22 bX5_ones rfl
theorem dX5_ones_128 : decode cX5_ones 128 = .ok (.lload 8, 2) := g_22 bX5_ones rfl
theorem dX5_ones_130 : decode cX5_ones 130 = .ok (.lload 10, 2) := g_22 bX5_ones rfl
theorem dX5_ones_132 : decode cX5_ones 132 = .ok (.lload 12, 2) := g_22 bX5_ones rfl
theorem dX5_ones_134 : decode cX5_ones 134 = .ok (.invokestatic 137, 3) := g_184 bX5_ones rfl
theorem dX5_ones_137 : decode cX5_ones 137 = .ok (.ifCond .ne 6, 3) := g_154 6 bX5_ones rfl rfl
theorem dX5_ones_140 : decode cX5_ones 140 = .ok (.goto 32, 3) := g_167 32 bX5_ones rfl rfl
theorem dX5_ones_143 : decode cX5_ones 143 = .ok (.aload_n 0, 1) := g_42 bX5_ones rfl
theorem dX5_ones_144 : decode cX5_ones 144 = .ok (.getfield 10, 3) := g_180 bX5_ones rfl
theorem dX5_ones_147 : decode cX5_ones 147 = .ok (.lload 6, 2) := g_22 bX5_ones rfl
theorem dX5_ones_149 : decode cX5_ones 149 = .ok (.l2i, 1) := g_136 bX5_ones rfl
theorem dX5_ones_150 : decode cX5_ones 150 = .ok (.lload 8, 2) := g_22 bX5_ones rfl
theorem dX5_ones_152 : decode cX5_ones 152 = .ok (.l2i, 1) := g_136 bX5_ones rfl
theorem dX5_ones_153 : decode cX5_ones 153 = .ok (.lload 10, 2) := g_22 bX5_ones rfl
theorem dX5_ones_155 : decode cX5_ones 155 = .ok (.l2i, 1) := g_136 bX5_ones rfl
theorem dX5_ones_156 : decode cX5_ones 156 = .ok (.lload 12, 2) := g_22 bX5_ones rfl
theorem dX5_ones_158 : decode cX5_ones 158 = .ok (.l2i, 1) := g_136 bX5_ones rfl
theorem dX5_ones_159 : decode cX5_ones 159 = .ok (.invokevirtual 144, 3) := g_182 bX5_ones rfl
theorem dX5_ones_162 : decode cX5_ones 162 = .ok (.pop, 1) := g_87 bX5_ones rfl
theorem dX5_ones_163 : decode cX5_ones 163 = .ok (.iinc 4 1, 3) := g_132 1 bX5_ones rfl rfl
theorem dX5_ones_166 : decode cX5_ones 166 = .ok (.iinc 5 4, 3) := g_132 4 bX5_ones rfl rfl
theorem dX5_ones_169 : decode cX5_ones 169 = .ok (.goto (-115), 3) := g_167 65421 bX5_ones rfl rfl
theorem dX5_ones_172 : decode cX5_ones 172 = .ok (.iload 4, 2) := g_21 bX5_ones rfl
theorem dX5_ones_174 : decode cX5_ones 174 = .ok (.ireturn, 1) := g_172 bX5_ones rfl
theorem dX5_read_0 : decode cX5_read 0 = .ok (.aload_n 0, 1) := g_42 bX5_read rfl
theorem dX5_read_1 : decode cX5_read 1 = .ok (.iload_n 1, 1) := g_27 bX5_read rfl
theorem dX5_read_2 : decode cX5_read 2 = .ok (.iload_n 2, 1) := g_28 bX5_read rfl
theorem dX5_read_3 : decode cX5_read 3 = .ok (.invokevirtual 224, 3) := g_182 bX5_read rfl
theorem dX5_read_6 : decode cX5_read 6 = .ok (.istore_n 3, 1) := g_62 bX5_read rfl
theorem dX5_read_7 : decode cX5_read 7 = .ok (.iload_n 3, 1) := g_29 bX5_read rfl
theorem dX5_read_8 : decode cX5_read 8 = .ok (.ifCond .eq 9, 3) := g_153 9 bX5_read rfl rfl
theorem dX5_read_11 : decode cX5_read 11 = .ok (.aload_n 0, 1) := g_42 bX5_read rfl
theorem dX5_read_12 : decode cX5_read 12 = .ok (.iload_n 3, 1) := g_29 bX5_read rfl
theorem dX5_read_13 : decode cX5_read 13 = .ok (.invokevirtual 56, 3) := g_182 bX5_read rfl
theorem dX5_read_16 : decode cX5_read 16 = .ok (.ireturn, 1) := g_172 bX5_read rfl
theorem dX5_read_17 : decode cX5_read 17 = .ok (.aload_n 0, 1) := g_42 bX5_read rfl
theorem dX5_read_18 : decode cX5_read 18 = .ok (.getfield 10, 3) := g_180 bX5_read rfl
theorem dX5_read_21 : decode cX5_read 21 = .ok (.iload_n 1, 1) := g_27 bX5_read rfl
theorem dX5_read_22 : decode cX5_read 22 = .ok (.iload_n 2, 1) := g_28 bX5_read rfl
theorem dX5_read_23 : decode cX5_read 23 = .ok (.invokevirtual 230, 3) := g_182 bX5_read rfl
theorem dX5_read_26 : decode cX5_read 26 = .ok (.aload_n 0, 1) := g_42 bX5_read rfl
theorem dX5_read_27 : decode cX5_read 27 = .ok (.getfield 10, 3) := g_180 bX5_read rfl
theorem dX5_read_30 : decode cX5_read 30 = .ok (.iload_n 1, 1) := g_27 bX5_read rfl
theorem dX5_read_31 : decode cX5_read 31 = .ok (.iload_n 2, 1) := g_28 bX5_read rfl
theorem dX5_read_32 : decode cX5_read 32 = .ok (.invokevirtual 213, 3) := g_182 bX5_read rfl
theorem dX5_read_35 : decode cX5_read 35 = .ok (.ireturn, 1) := g_172 bX5_read rfl
theorem dX5_reader_0 : decode cX5_reader 0 = .ok (.aload_n 0, 1) := g_42 bX5_reader rfl
theorem dX5_reader_1 : decode cX5_reader 1 = .ok (.getfield 10, 3) := g_180 bX5_reader rfl
theorem dX5_reader_4 : decode cX5_reader 4 = .ok (.iload_n 1, 1) := g_27 bX5_reader rfl
theorem dX5_reader_5 : decode cX5_reader 5 = .ok (.invokevirtual 168, 3) := g_182 bX5_reader rfl
theorem dX5_reader_8 : decode cX5_reader 8 = .ok (.ifCond .ne 10, 3) := g_154 10 bX5_reader rfl rfl
theorem dX5_reader_11 : decode cX5_reader 11 = .ok (.aload_n 0, 1) := g_42 bX5_reader rfl
theorem dX5_reader_12 : decode cX5_reader 12 = .ok (.bipush (-2), 2) := g_16 254 bX5_reader rfl rfl
theorem dX5_reader_14 : decode cX5_reader 14 = .ok (.invokevirtual 56, 3) := g_182 bX5_reader rfl
theorem dX5_reader_17 : decode cX5_reader 17 = .ok (.ireturn, 1) := g_172 bX5_reader rfl
theorem dX5_reader_18 : decode cX5_reader 18 = .ok (.aload_n 0, 1) := g_42 bX5_reader rfl
theorem dX5_reader_19 : decode cX5_reader 19 = .ok (.getfield 10, 3) := g_180 bX5_reader rfl
theorem dX5_reader_22 : decode cX5_reader 22 = .ok (.getfield 180, 3) := g_180 bX5_reader rfl
theorem dX5_reader_25 : decode cX5_reader 25 = .ok (.iload_n 1, 1) := g_27 bX5_reader rfl
theorem dX5_reader_26 : decode cX5_reader 26 = .ok (.invokestatic 183, 3) := g_184 bX5_reader rfl
theorem dX5_reader_29 : decode cX5_reader 29 = .ok (.ifCond .eq 12, 3) := g_153 12 bX5_reader rfl rfl
theorem dX5_reader_32 : decode cX5_reader 32 = .ok (.aload_n 0, 1) := g_42 bX5_reader rfl
theorem dX5_reader_33 : decode cX5_reader 33 = .ok (.bipush (-5), 2) := g_16 251 bX5_reader rfl rfl
theorem dX5_reader_35 : decode cX5_reader 35 = .ok (.invokevirtual 56, 3) := g_182 bX5_reader rfl
theorem dX5_reader_38 : decode cX5_reader 38 = .ok (.goto 11, 3) := g_167 11 bX5_reader rfl rfl
theorem dX5_reader_41 : decode cX5_reader 41 = .ok (.aload_n 0, 1) := g_42 bX5_reader rfl
theorem dX5_reader_42 : decode cX5_reader 42 = .ok (.getfield 10, 3) := g_180 bX5_reader rfl
theorem dX5_reader_45 : decode cX5_reader 45 = .ok (.iload_n 1, 1) := g_27 bX5_reader rfl
theorem dX5_reader_46 : decode cX5_reader 46 = .ok (.invokevirtual 247, 3) := g_182 bX5_reader rfl
theorem dX5_reader_49 : decode cX5_reader 49 = .ok (.ireturn, 1) := g_172 bX5_reader rfl
theorem dX5_row_0 : decode cX5_row 0 = .ok (.iload_n 1, 1) := g_27 bX5_row rfl
theorem dX5_row_1 : decode cX5_row 1 = .ok (.invokestatic 44, 3) := g_184 bX5_row rfl
theorem dX5_row_4 : decode cX5_row 4 = .ok (.ifCond .eq 27, 3) := g_153 27 bX5_row rfl rfl
theorem dX5_row_7 : decode cX5_row 7 = .ok (.iload_n 2, 1) := g_28 bX5_row rfl
theorem dX5_row_8 : decode cX5_row 8 = .ok (.i2l, 1) := g_133 bX5_row rfl
theorem dX5_row_9 : decode cX5_row 9 = .ok (.lconst 0, 1) := g_9 bX5_row rfl
theorem dX5_row_10 : decode cX5_row 10 = .ok (.ldc2_w 48, 3) := g_20 bX5_row rfl
theorem dX5_row_13 : decode cX5_row 13 = .ok (.invokestatic 50, 3) := g_184 bX5_row rfl
theorem dX5_row_16 : decode cX5_row 16 = .ok (.ifCond .eq 15, 3) := g_153 15 bX5_row rfl rfl
theorem dX5_row_19 : decode cX5_row 19 = .ok (.iload_n 3, 1) := g_29 bX5_row rfl
theorem dX5_row_20 : decode cX5_row 20 = .ok (.i2l, 1) := g_133 bX5_row rfl
theorem dX5_row_21 : decode cX5_row 21 = .ok (.lconst 0, 1) := g_9 bX5_row rfl
theorem dX5_row_22 : decode cX5_row 22 = .ok (.ldc2_w 54, 3) := g_20 bX5_row rfl
theorem dX5_row_25 : decode cX5_row 25 = .ok (.invokestatic 50, 3) := g_184 bX5_row rfl
theorem dX5_row_28 : decode cX5_row 28 = .ok (.ifCond .ne 10, 3) := g_154 10 bX5_row rfl rfl
theorem dX5_row_31 : decode cX5_row 31 = .ok (.aload_n 0, 1) := g_42 bX5_row rfl
theorem dX5_row_32 : decode cX5_row 32 = .ok (.bipush (-2), 2) := g_16 254 bX5_row rfl rfl
theorem dX5_row_34 : decode cX5_row 34 = .ok (.invokevirtual 56, 3) := g_182 bX5_row rfl
theorem dX5_row_37 : decode cX5_row 37 = .ok (.ireturn, 1) := g_172 bX5_row rfl
theorem dX5_row_38 : decode cX5_row 38 = .ok (.aload_n 0, 1) := g_42 bX5_row rfl
theorem dX5_row_39 : decode cX5_row 39 = .ok (.getfield 29, 3) := g_180 bX5_row rfl
theorem dX5_row_42 : decode cX5_row 42 = .ok (.iload_n 1, 1) := g_27 bX5_row rfl
theorem dX5_row_43 : decode cX5_row 43 = .ok (.iload_n 2, 1) := g_28 bX5_row rfl
theorem dX5_row_44 : decode cX5_row 44 = .ok (.iload_n 3, 1) := g_29 bX5_row rfl
theorem dX5_row_45 : decode cX5_row 45 = .ok (.invokevirtual 60, 3) := g_182 bX5_row rfl
theorem dX5_row_48 : decode cX5_row 48 = .ok (.iconst 1, 1) := g_4 bX5_row rfl
theorem dX5_row_49 : decode cX5_row 49 = .ok (.ireturn, 1) := g_172 bX5_row rfl
theorem dX5_rule_0 : decode cX5_rule 0 = .ok (.iload_n 1, 1) := g_27 bX5_rule rfl
theorem dX5_rule_1 : decode cX5_rule 1 = .ok (.invokestatic 44, 3) := g_184 bX5_rule rfl
theorem dX5_rule_4 : decode cX5_rule 4 = .ok (.ifCond .eq 27, 3) := g_153 27 bX5_rule rfl rfl
theorem dX5_rule_7 : decode cX5_rule 7 = .ok (.iload_n 2, 1) := g_28 bX5_rule rfl
theorem dX5_rule_8 : decode cX5_rule 8 = .ok (.i2l, 1) := g_133 bX5_rule rfl
theorem dX5_rule_9 : decode cX5_rule 9 = .ok (.lconst 1, 1) := g_10 bX5_rule rfl
theorem dX5_rule_10 : decode cX5_rule 10 = .ok (.ldc2_w 93, 3) := g_20 bX5_rule rfl
theorem dX5_rule_13 : decode cX5_rule 13 = .ok (.invokestatic 50, 3) := g_184 bX5_rule rfl
theorem dX5_rule_16 : decode cX5_rule 16 = .ok (.ifCond .eq 15, 3) := g_153 15 bX5_rule rfl rfl
theorem dX5_rule_19 : decode cX5_rule 19 = .ok (.iload_n 3, 1) := g_29 bX5_rule rfl
theorem dX5_rule_20 : decode cX5_rule 20 = .ok (.i2l, 1) := g_133 bX5_rule rfl
theorem dX5_rule_21 : decode cX5_rule 21 = .ok (.lconst 0, 1) := g_9 bX5_rule rfl
theorem dX5_rule_22 : decode cX5_rule 22 = .ok (.ldc2_w 95, 3) := g_20 bX5_rule rfl
theorem dX5_rule_25 : decode cX5_rule 25 = .ok (.invokestatic 50, 3) := g_184 bX5_rule rfl
theorem dX5_rule_28 : decode cX5_rule 28 = .ok (.ifCond .ne 10, 3) := g_154 10 bX5_rule rfl rfl
theorem dX5_rule_31 : decode cX5_rule 31 = .ok (.aload_n 0, 1) := g_42 bX5_rule rfl
theorem dX5_rule_32 : decode cX5_rule 32 = .ok (.bipush (-2), 2) := g_16 254 bX5_rule rfl rfl
theorem dX5_rule_34 : decode cX5_rule 34 = .ok (.invokevirtual 56, 3) := g_182 bX5_rule rfl
theorem dX5_rule_37 : decode cX5_rule 37 = .ok (.ireturn, 1) := g_172 bX5_rule rfl
theorem dX5_rule_38 : decode cX5_rule 38 = .ok (.aload_n 0, 1) := g_42 bX5_rule rfl
theorem dX5_rule_39 : decode cX5_rule 39 = .ok (.getfield 29, 3) := g_180 bX5_rule rfl
theorem dX5_rule_42 : decode cX5_rule 42 = .ok (.iload_n 1, 1) := g_27 bX5_rule rfl
theorem dX5_rule_43 : decode cX5_rule 43 = .ok (.iload_n 2, 1) := g_28 bX5_rule rfl
theorem dX5_rule_44 : decode cX5_rule 44 = .ok (.iload_n 3, 1) := g_29 bX5_rule rfl
theorem dX5_rule_45 : decode cX5_rule 45 = .ok (.invokevirtual 97, 3) := g_182 bX5_rule rfl
theorem dX5_rule_48 : decode cX5_rule 48 = .ok (.iconst 1, 1) := g_4 bX5_rule rfl
theorem dX5_rule_49 : decode cX5_rule 49 = .ok (.ireturn, 1) := g_172 bX5_rule rfl
theorem dX5_says_0 : decode cX5_says 0 = .ok (.iload_n 2, 1) := g_28 bX5_says rfl
theorem dX5_says_1 : decode cX5_says 1 = .ok (.i2l, 1) := g_133 bX5_says rfl
theorem dX5_says_2 : decode cX5_says 2 = .ok (.lconst 0, 1) := g_9 bX5_says rfl
theorem dX5_says_3 : decode cX5_says 3 = .ok (.ldc2_w 93, 3) := g_20 bX5_says rfl
theorem dX5_says_6 : decode cX5_says 6 = .ok (.invokestatic 50, 3) := g_184 bX5_says rfl
theorem dX5_says_9 : decode cX5_says 9 = .ok (.ifCond .eq 11, 3) := g_153 11 bX5_says rfl rfl
theorem dX5_says_12 : decode cX5_says 12 = .ok (.aload_n 0, 1) := g_42 bX5_says rfl
theorem dX5_says_13 : decode cX5_says 13 = .ok (.iload_n 1, 1) := g_27 bX5_says rfl
theorem dX5_says_14 : decode cX5_says 14 = .ok (.invokevirtual 100, 3) := g_182 bX5_says rfl
theorem dX5_says_17 : decode cX5_says 17 = .ok (.goto 5, 3) := g_167 5 bX5_says rfl rfl
theorem dX5_says_20 : decode cX5_says 20 = .ok (.bipush (-2), 2) := g_16 254 bX5_says rfl rfl
theorem dX5_says_22 : decode cX5_says 22 = .ok (.istore_n 3, 1) := g_62 bX5_says rfl
theorem dX5_says_23 : decode cX5_says 23 = .ok (.iload_n 3, 1) := g_29 bX5_says rfl
theorem dX5_says_24 : decode cX5_says 24 = .ok (.ifCond .ne 21, 3) := g_154 21 bX5_says rfl rfl
theorem dX5_says_27 : decode cX5_says 27 = .ok (.aload_n 0, 1) := g_42 bX5_says rfl
theorem dX5_says_28 : decode cX5_says 28 = .ok (.getfield 29, 3) := g_180 bX5_says rfl
theorem dX5_says_31 : decode cX5_says 31 = .ok (.iload_n 1, 1) := g_27 bX5_says rfl
theorem dX5_says_32 : decode cX5_says 32 = .ok (.invokevirtual 103, 3) := g_182 bX5_says rfl
theorem dX5_says_35 : decode cX5_says 35 = .ok (.iload_n 2, 1) := g_28 bX5_says rfl
theorem dX5_says_36 : decode cX5_says 36 = .ok (.invokestatic 106, 3) := g_184 bX5_says rfl
theorem dX5_says_39 : decode cX5_says 39 = .ok (.ifCond .ne 6, 3) := g_154 6 bX5_says rfl rfl
theorem dX5_says_42 : decode cX5_says 42 = .ok (.bipush (-3), 2) := g_16 253 bX5_says rfl rfl
theorem dX5_says_44 : decode cX5_says 44 = .ok (.istore_n 3, 1) := g_62 bX5_says rfl
theorem dX5_says_45 : decode cX5_says 45 = .ok (.iload_n 3, 1) := g_29 bX5_says rfl
theorem dX5_says_46 : decode cX5_says 46 = .ok (.ifCond .eq 9, 3) := g_153 9 bX5_says rfl rfl
theorem dX5_says_49 : decode cX5_says 49 = .ok (.aload_n 0, 1) := g_42 bX5_says rfl
theorem dX5_says_50 : decode cX5_says 50 = .ok (.iload_n 3, 1) := g_29 bX5_says rfl
theorem dX5_says_51 : decode cX5_says 51 = .ok (.invokevirtual 56, 3) := g_182 bX5_says rfl
theorem dX5_says_54 : decode cX5_says 54 = .ok (.ireturn, 1) := g_172 bX5_says rfl
theorem dX5_says_55 : decode cX5_says 55 = .ok (.iload_n 2, 1) := g_28 bX5_says rfl
theorem dX5_says_56 : decode cX5_says 56 = .ok (.ifCond .ne 13, 3) := g_154 13 bX5_says rfl rfl
theorem dX5_says_59 : decode cX5_says 59 = .ok (.aload_n 0, 1) := g_42 bX5_says rfl
theorem dX5_says_60 : decode cX5_says 60 = .ok (.getfield 29, 3) := g_180 bX5_says rfl
theorem dX5_says_63 : decode cX5_says 63 = .ok (.getfield 112, 3) := g_180 bX5_says rfl
theorem dX5_says_66 : decode cX5_says 66 = .ok (.iload_n 1, 1) := g_27 bX5_says rfl
theorem dX5_says_67 : decode cX5_says 67 = .ok (.iaload, 1) := g_46 bX5_says rfl
theorem dX5_says_68 : decode cX5_says 68 = .ok (.ireturn, 1) := g_172 bX5_says rfl
theorem dX5_says_69 : decode cX5_says 69 = .ok (.aload_n 0, 1) := g_42 bX5_says rfl
theorem dX5_says_70 : decode cX5_says 70 = .ok (.getfield 22, 3) := g_180 bX5_says rfl
theorem dX5_says_73 : decode cX5_says 73 = .ok (.aload_n 0, 1) := g_42 bX5_says rfl
theorem dX5_says_74 : decode cX5_says 74 = .ok (.getfield 10, 3) := g_180 bX5_says rfl
theorem dX5_says_77 : decode cX5_says 77 = .ok (.invokevirtual 115, 3) := g_182 bX5_says rfl
theorem dX5_says_80 : decode cX5_says 80 = .ok (.astore 4, 2) := g_58 bX5_says rfl
theorem dX5_says_82 : decode cX5_says 82 = .ok (.aload 4, 2) := g_25 bX5_says rfl
theorem dX5_says_84 : decode cX5_says 84 = .ok (.aload_n 0, 1) := g_42 bX5_says rfl
theorem dX5_says_85 : decode cX5_says 85 = .ok (.getfield 29, 3) := g_180 bX5_says rfl
theorem dX5_says_88 : decode cX5_says 88 = .ok (.iload_n 1, 1) := g_27 bX5_says rfl
theorem dX5_says_89 : decode cX5_says 89 = .ok (.invokevirtual 103, 3) := g_182 bX5_says rfl
theorem dX5_says_92 : decode cX5_says 92 = .ok (.aload_n 0, 1) := g_42 bX5_says rfl
theorem dX5_says_93 : decode cX5_says 93 = .ok (.getfield 29, 3) := g_180 bX5_says rfl
theorem dX5_says_96 : decode cX5_says 96 = .ok (.getfield 112, 3) := g_180 bX5_says rfl
theorem dX5_says_99 : decode cX5_says 99 = .ok (.iload_n 1, 1) := g_27 bX5_says rfl
theorem dX5_says_100 : decode cX5_says 100 = .ok (.iaload, 1) := g_46 bX5_says rfl
theorem dX5_says_101 : decode cX5_says 101 = .ok (.invokestatic 119, 3) := g_184 bX5_says rfl
theorem dX5_says_104 : decode cX5_says 104 = .ok (.istore 5, 2) := g_54 bX5_says rfl
theorem dX5_says_106 : decode cX5_says 106 = .ok (.iload_n 2, 1) := g_28 bX5_says rfl
theorem dX5_says_107 : decode cX5_says 107 = .ok (.iconst 3, 1) := g_6 bX5_says rfl
theorem dX5_says_108 : decode cX5_says 108 = .ok (.if_icmp .gt 8, 3) := g_163 8 bX5_says rfl rfl
theorem dX5_says_111 : decode cX5_says 111 = .ok (.iload 5, 2) := g_21 bX5_says rfl
theorem dX5_says_113 : decode cX5_says 113 = .ok (.goto 8, 3) := g_167 8 bX5_says rfl rfl
theorem dX5_says_116 : decode cX5_says 116 = .ok (.aload 4, 2) := g_25 bX5_says rfl
theorem dX5_says_118 : decode cX5_says 118 = .ok (.invokevirtual 123, 3) := g_182 bX5_says rfl
theorem dX5_says_121 : decode cX5_says 121 = .ok (.ireturn, 1) := g_172 bX5_says rfl
theorem dX5_set_0 : decode cX5_set 0 = .ok (.aload_n 0, 1) := g_42 bX5_set rfl
theorem dX5_set_1 : decode cX5_set 1 = .ok (.iload_n 1, 1) := g_27 bX5_set rfl
theorem dX5_set_2 : decode cX5_set 2 = .ok (.invokevirtual 64, 3) := g_182 bX5_set rfl
theorem dX5_set_5 : decode cX5_set 5 = .ok (.istore 5, 2) := g_54 bX5_set rfl
theorem dX5_set_7 : decode cX5_set 7 = .ok (.iload 5, 2) := g_21 bX5_set rfl
theorem dX5_set_9 : decode cX5_set 9 = .ok (.ifCond .ne 28, 3) := g_154 28 bX5_set rfl rfl
theorem dX5_set_12 : decode cX5_set 12 = .ok (.iload_n 2, 1) := g_28 bX5_set rfl
theorem dX5_set_13 : decode cX5_set 13 = .ok (.i2l, 1) := g_133 bX5_set rfl
theorem dX5_set_14 : decode cX5_set 14 = .ok (.lconst 0, 1) := g_9 bX5_set rfl
theorem dX5_set_15 : decode cX5_set 15 = .ok (.aload_n 0, 1) := g_42 bX5_set rfl
theorem dX5_set_16 : decode cX5_set 16 = .ok (.getfield 29, 3) := g_180 bX5_set rfl
theorem dX5_set_19 : decode cX5_set 19 = .ok (.getfield 67, 3) := g_180 bX5_set rfl
theorem dX5_set_22 : decode cX5_set 22 = .ok (.iload_n 1, 1) := g_27 bX5_set rfl
theorem dX5_set_23 : decode cX5_set 23 = .ok (.iaload, 1) := g_46 bX5_set rfl
theorem dX5_set_24 : decode cX5_set 24 = .ok (.iconst 1, 1) := g_4 bX5_set rfl
theorem dX5_set_25 : decode cX5_set 25 = .ok (.isub, 1) := g_100 bX5_set rfl
theorem dX5_set_26 : decode cX5_set 26 = .ok (.i2l, 1) := g_133 bX5_set rfl
theorem dX5_set_27 : decode cX5_set 27 = .ok (.invokestatic 50, 3) := g_184 bX5_set rfl
theorem dX5_set_30 : decode cX5_set 30 = .ok (.ifCond .ne 7, 3) := g_154 7 bX5_set rfl rfl
theorem dX5_set_33 : decode cX5_set 33 = .ok (.bipush (-2), 2) := g_16 254 bX5_set rfl rfl
theorem dX5_set_35 : decode cX5_set 35 = .ok (.istore 5, 2) := g_54 bX5_set rfl
theorem dX5_set_37 : decode cX5_set 37 = .ok (.iload 5, 2) := g_21 bX5_set rfl
theorem dX5_set_39 : decode cX5_set 39 = .ok (.ifCond .eq 10, 3) := g_153 10 bX5_set rfl rfl
theorem dX5_set_42 : decode cX5_set 42 = .ok (.aload_n 0, 1) := g_42 bX5_set rfl
theorem dX5_set_43 : decode cX5_set 43 = .ok (.iload 5, 2) := g_21 bX5_set rfl
theorem dX5_set_45 : decode cX5_set 45 = .ok (.invokevirtual 56, 3) := g_182 bX5_set rfl
theorem dX5_set_48 : decode cX5_set 48 = .ok (.ireturn, 1) := g_172 bX5_set rfl
theorem dX5_set_49 : decode cX5_set 49 = .ok (.aload_n 0, 1) := g_42 bX5_set rfl
theorem dX5_set_50 : decode cX5_set 50 = .ok (.getfield 29, 3) := g_180 bX5_set rfl
theorem dX5_set_53 : decode cX5_set 53 = .ok (.iload_n 1, 1) := g_27 bX5_set rfl
theorem dX5_set_54 : decode cX5_set 54 = .ok (.iload_n 2, 1) := g_28 bX5_set rfl
theorem dX5_set_55 : decode cX5_set 55 = .ok (.lload_n 3, 1) := g_33 bX5_set rfl
theorem dX5_set_56 : decode cX5_set 56 = .ok (.invokevirtual 70, 3) := g_182 bX5_set rfl
theorem dX5_set_59 : decode cX5_set 59 = .ok (.iconst 1, 1) := g_4 bX5_set rfl
theorem dX5_set_60 : decode cX5_set 60 = .ok (.ireturn, 1) := g_172 bX5_set rfl
theorem dX5_tell_0 : decode cX5_tell 0 = .ok (.aload_n 0, 1) := g_42 bX5_tell rfl
theorem dX5_tell_1 : decode cX5_tell 1 = .ok (.iload_n 1, 1) := g_27 bX5_tell rfl
theorem dX5_tell_2 : decode cX5_tell 2 = .ok (.iload_n 3, 1) := g_29 bX5_tell rfl
theorem dX5_tell_3 : decode cX5_tell 3 = .ok (.invokevirtual 210, 3) := g_182 bX5_tell rfl
theorem dX5_tell_6 : decode cX5_tell 6 = .ok (.ifCond .eq 19, 3) := g_153 19 bX5_tell rfl rfl
theorem dX5_tell_9 : decode cX5_tell 9 = .ok (.aload_n 0, 1) := g_42 bX5_tell rfl
theorem dX5_tell_10 : decode cX5_tell 10 = .ok (.getfield 10, 3) := g_180 bX5_tell rfl
theorem dX5_tell_13 : decode cX5_tell 13 = .ok (.iload_n 2, 1) := g_28 bX5_tell rfl
theorem dX5_tell_14 : decode cX5_tell 14 = .ok (.invokevirtual 192, 3) := g_182 bX5_tell rfl
theorem dX5_tell_17 : decode cX5_tell 17 = .ok (.ifCond .eq 8, 3) := g_153 8 bX5_tell rfl rfl
theorem dX5_tell_20 : decode cX5_tell 20 = .ok (.iload_n 1, 1) := g_27 bX5_tell rfl
theorem dX5_tell_21 : decode cX5_tell 21 = .ok (.iload_n 2, 1) := g_28 bX5_tell rfl
theorem dX5_tell_22 : decode cX5_tell 22 = .ok (.if_icmp .ne 10, 3) := g_160 10 bX5_tell rfl rfl
theorem dX5_tell_25 : decode cX5_tell 25 = .ok (.aload_n 0, 1) := g_42 bX5_tell rfl
theorem dX5_tell_26 : decode cX5_tell 26 = .ok (.bipush (-2), 2) := g_16 254 bX5_tell rfl rfl
theorem dX5_tell_28 : decode cX5_tell 28 = .ok (.invokevirtual 56, 3) := g_182 bX5_tell rfl
theorem dX5_tell_31 : decode cX5_tell 31 = .ok (.ireturn, 1) := g_172 bX5_tell rfl
theorem dX5_tell_32 : decode cX5_tell 32 = .ok (.aload_n 0, 1) := g_42 bX5_tell rfl
theorem dX5_tell_33 : decode cX5_tell 33 = .ok (.getfield 10, 3) := g_180 bX5_tell rfl
theorem dX5_tell_36 : decode cX5_tell 36 = .ok (.getfield 207, 3) := g_180 bX5_tell rfl
theorem dX5_tell_39 : decode cX5_tell 39 = .ok (.iload_n 1, 1) := g_27 bX5_tell rfl
theorem dX5_tell_40 : decode cX5_tell 40 = .ok (.invokestatic 183, 3) := g_184 bX5_tell rfl
theorem dX5_tell_43 : decode cX5_tell 43 = .ok (.ifCond .ne 17, 3) := g_154 17 bX5_tell rfl rfl
theorem dX5_tell_46 : decode cX5_tell 46 = .ok (.aload_n 0, 1) := g_42 bX5_tell rfl
theorem dX5_tell_47 : decode cX5_tell 47 = .ok (.getfield 10, 3) := g_180 bX5_tell rfl
theorem dX5_tell_50 : decode cX5_tell 50 = .ok (.getfield 207, 3) := g_180 bX5_tell rfl
theorem dX5_tell_53 : decode cX5_tell 53 = .ok (.iload_n 2, 1) := g_28 bX5_tell rfl
theorem dX5_tell_54 : decode cX5_tell 54 = .ok (.invokestatic 183, 3) := g_184 bX5_tell rfl
theorem dX5_tell_57 : decode cX5_tell 57 = .ok (.ifCond .eq 10, 3) := g_153 10 bX5_tell rfl rfl
theorem dX5_tell_60 : decode cX5_tell 60 = .ok (.aload_n 0, 1) := g_42 bX5_tell rfl
theorem dX5_tell_61 : decode cX5_tell 61 = .ok (.bipush (-5), 2) := g_16 251 bX5_tell rfl rfl
theorem dX5_tell_63 : decode cX5_tell 63 = .ok (.invokevirtual 56, 3) := g_182 bX5_tell rfl
theorem dX5_tell_66 : decode cX5_tell 66 = .ok (.ireturn, 1) := g_172 bX5_tell rfl
theorem dX5_tell_67 : decode cX5_tell 67 = .ok (.aload_n 0, 1) := g_42 bX5_tell rfl
theorem dX5_tell_68 : decode cX5_tell 68 = .ok (.getfield 10, 3) := g_180 bX5_tell rfl
theorem dX5_tell_71 : decode cX5_tell 71 = .ok (.iload_n 1, 1) := g_27 bX5_tell rfl
theorem dX5_tell_72 : decode cX5_tell 72 = .ok (.iload_n 2, 1) := g_28 bX5_tell rfl
theorem dX5_tell_73 : decode cX5_tell 73 = .ok (.iload_n 3, 1) := g_29 bX5_tell rfl
theorem dX5_tell_74 : decode cX5_tell 74 = .ok (.invokevirtual 238, 3) := g_182 bX5_tell rfl
theorem dX5_tell_77 : decode cX5_tell 77 = .ok (.istore 4, 2) := g_54 bX5_tell rfl
theorem dX5_tell_79 : decode cX5_tell 79 = .ok (.aload_n 0, 1) := g_42 bX5_tell rfl
theorem dX5_tell_80 : decode cX5_tell 80 = .ok (.getfield 10, 3) := g_180 bX5_tell rfl
theorem dX5_tell_83 : decode cX5_tell 83 = .ok (.iload_n 1, 1) := g_27 bX5_tell rfl
theorem dX5_tell_84 : decode cX5_tell 84 = .ok (.iload_n 2, 1) := g_28 bX5_tell rfl
theorem dX5_tell_85 : decode cX5_tell 85 = .ok (.iload_n 3, 1) := g_29 bX5_tell rfl
theorem dX5_tell_86 : decode cX5_tell 86 = .ok (.invokevirtual 241, 3) := g_182 bX5_tell rfl
theorem dX5_tell_89 : decode cX5_tell 89 = .ok (.iload 4, 2) := g_21 bX5_tell rfl
theorem dX5_tell_91 : decode cX5_tell 91 = .ok (.ireturn, 1) := g_172 bX5_tell rfl
theorem dX5_value_0 : decode cX5_value 0 = .ok (.aload_n 0, 1) := g_42 bX5_value rfl
theorem dX5_value_1 : decode cX5_value 1 = .ok (.getfield 10, 3) := g_180 bX5_value rfl
theorem dX5_value_4 : decode cX5_value 4 = .ok (.invokevirtual 123, 3) := g_182 bX5_value rfl
theorem dX5_value_7 : decode cX5_value 7 = .ok (.ireturn, 1) := g_172 bX5_value rfl
theorem dX5_wipe_0 : decode cX5_wipe 0 = .ok (.aload_n 0, 1) := g_42 bX5_wipe rfl
theorem dX5_wipe_1 : decode cX5_wipe 1 = .ok (.getfield 36, 3) := g_180 bX5_wipe rfl
theorem dX5_wipe_4 : decode cX5_wipe 4 = .ok (.getfield 148, 3) := g_180 bX5_wipe rfl
theorem dX5_wipe_7 : decode cX5_wipe 7 = .ok (.istore_n 1, 1) := g_60 bX5_wipe rfl
theorem dX5_wipe_8 : decode cX5_wipe 8 = .ok (.aload_n 0, 1) := g_42 bX5_wipe rfl
theorem dX5_wipe_9 : decode cX5_wipe 9 = .ok (.getfield 36, 3) := g_180 bX5_wipe rfl
theorem dX5_wipe_12 : decode cX5_wipe 12 = .ok (.iconst 0, 1) := g_3 bX5_wipe rfl
theorem dX5_wipe_13 : decode cX5_wipe 13 = .ok (.putfield 148, 3) := g_181 bX5_wipe rfl
theorem dX5_wipe_16 : decode cX5_wipe 16 = .ok (.iload_n 1, 1) := g_27 bX5_wipe rfl
theorem dX5_wipe_17 : decode cX5_wipe 17 = .ok (.ireturn, 1) := g_172 bX5_wipe rfl
theorem dX5_would_0 : decode cX5_would 0 = .ok (.aload_n 0, 1) := g_42 bX5_would rfl
theorem dX5_would_1 : decode cX5_would 1 = .ok (.iload_n 1, 1) := g_27 bX5_would rfl
theorem dX5_would_2 : decode cX5_would 2 = .ok (.iload_n 2, 1) := g_28 bX5_would rfl
theorem dX5_would_3 : decode cX5_would 3 = .ok (.invokevirtual 224, 3) := g_182 bX5_would rfl
theorem dX5_would_6 : decode cX5_would 6 = .ok (.istore_n 3, 1) := g_62 bX5_would rfl
theorem dX5_would_7 : decode cX5_would 7 = .ok (.iload_n 3, 1) := g_29 bX5_would rfl
theorem dX5_would_8 : decode cX5_would 8 = .ok (.ifCond .ne 15, 3) := g_154 15 bX5_would rfl rfl
theorem dX5_would_11 : decode cX5_would 11 = .ok (.aload_n 0, 1) := g_42 bX5_would rfl
theorem dX5_would_12 : decode cX5_would 12 = .ok (.getfield 10, 3) := g_180 bX5_would rfl
theorem dX5_would_15 : decode cX5_would 15 = .ok (.iload_n 1, 1) := g_27 bX5_would rfl
theorem dX5_would_16 : decode cX5_would 16 = .ok (.iload_n 2, 1) := g_28 bX5_would rfl
theorem dX5_would_17 : decode cX5_would 17 = .ok (.invokevirtual 227, 3) := g_182 bX5_would rfl
theorem dX5_would_20 : decode cX5_would 20 = .ok (.goto 8, 3) := g_167 8 bX5_would rfl rfl
theorem dX5_would_23 : decode cX5_would 23 = .ok (.aload_n 0, 1) := g_42 bX5_would rfl
theorem dX5_would_24 : decode cX5_would 24 = .ok (.iload_n 3, 1) := g_29 bX5_would rfl
theorem dX5_would_25 : decode cX5_would 25 = .ok (.invokevirtual 56, 3) := g_182 bX5_would rfl
theorem dX5_would_28 : decode cX5_would 28 = .ok (.ireturn, 1) := g_172 bX5_would rfl
theorem dX5_write_0 : decode cX5_write 0 = .ok (.aload_n 0, 1) := g_42 bX5_write rfl
theorem dX5_write_1 : decode cX5_write 1 = .ok (.iload_n 1, 1) := g_27 bX5_write rfl
theorem dX5_write_2 : decode cX5_write 2 = .ok (.iload_n 2, 1) := g_28 bX5_write rfl
theorem dX5_write_3 : decode cX5_write 3 = .ok (.invokevirtual 210, 3) := g_182 bX5_write rfl
theorem dX5_write_6 : decode cX5_write 6 = .ok (.ifCond .ne 10, 3) := g_154 10 bX5_write rfl rfl
theorem dX5_write_9 : decode cX5_write 9 = .ok (.aload_n 0, 1) := g_42 bX5_write rfl
theorem dX5_write_10 : decode cX5_write 10 = .ok (.bipush (-2), 2) := g_16 254 bX5_write rfl rfl
theorem dX5_write_12 : decode cX5_write 12 = .ok (.invokevirtual 56, 3) := g_182 bX5_write rfl
theorem dX5_write_15 : decode cX5_write 15 = .ok (.ireturn, 1) := g_172 bX5_write rfl
theorem dX5_write_16 : decode cX5_write 16 = .ok (.aload_n 0, 1) := g_42 bX5_write rfl
theorem dX5_write_17 : decode cX5_write 17 = .ok (.getfield 10, 3) := g_180 bX5_write rfl
theorem dX5_write_20 : decode cX5_write 20 = .ok (.getfield 180, 3) := g_180 bX5_write rfl
theorem dX5_write_23 : decode cX5_write 23 = .ok (.iload_n 2, 1) := g_28 bX5_write rfl
theorem dX5_write_24 : decode cX5_write 24 = .ok (.invokestatic 183, 3) := g_184 bX5_write rfl
theorem dX5_write_27 : decode cX5_write 27 = .ok (.ifCond .eq 30, 3) := g_153 30 bX5_write rfl rfl
theorem dX5_write_30 : decode cX5_write 30 = .ok (.aload_n 0, 1) := g_42 bX5_write rfl
theorem dX5_write_31 : decode cX5_write 31 = .ok (.getfield 10, 3) := g_180 bX5_write rfl
theorem dX5_write_34 : decode cX5_write 34 = .ok (.getfield 207, 3) := g_180 bX5_write rfl
theorem dX5_write_37 : decode cX5_write 37 = .ok (.iload_n 1, 1) := g_27 bX5_write rfl
theorem dX5_write_38 : decode cX5_write 38 = .ok (.invokestatic 183, 3) := g_184 bX5_write rfl
theorem dX5_write_41 : decode cX5_write 41 = .ok (.ifCond .ne 16, 3) := g_154 16 bX5_write rfl rfl
theorem dX5_write_44 : decode cX5_write 44 = .ok (.aload_n 0, 1) := g_42 bX5_write rfl
theorem dX5_write_45 : decode cX5_write 45 = .ok (.getfield 10, 3) := g_180 bX5_write rfl
theorem dX5_write_48 : decode cX5_write 48 = .ok (.iload_n 1, 1) := g_27 bX5_write rfl
theorem dX5_write_49 : decode cX5_write 49 = .ok (.iload_n 2, 1) := g_28 bX5_write rfl
theorem dX5_write_50 : decode cX5_write 50 = .ok (.invokevirtual 213, 3) := g_182 bX5_write rfl
theorem dX5_write_53 : decode cX5_write 53 = .ok (.iconst 1, 1) := g_4 bX5_write rfl
theorem dX5_write_54 : decode cX5_write 54 = .ok (.if_icmp .ge 10, 3) := g_162 10 bX5_write rfl rfl
theorem dX5_write_57 : decode cX5_write 57 = .ok (.aload_n 0, 1) := g_42 bX5_write rfl
theorem dX5_write_58 : decode cX5_write 58 = .ok (.bipush (-5), 2) := g_16 251 bX5_write rfl rfl
theorem dX5_write_60 : decode cX5_write 60 = .ok (.invokevirtual 56, 3) := g_182 bX5_write rfl
theorem dX5_write_63 : decode cX5_write 63 = .ok (.ireturn, 1) := g_172 bX5_write rfl
theorem dX5_write_64 : decode cX5_write 64 = .ok (.aload_n 0, 1) := g_42 bX5_write rfl
theorem dX5_write_65 : decode cX5_write 65 = .ok (.getfield 10, 3) := g_180 bX5_write rfl
theorem dX5_write_68 : decode cX5_write 68 = .ok (.iload_n 1, 1) := g_27 bX5_write rfl
theorem dX5_write_69 : decode cX5_write 69 = .ok (.iload_n 2, 1) := g_28 bX5_write rfl
theorem dX5_write_70 : decode cX5_write 70 = .ok (.invokevirtual 244, 3) := g_182 bX5_write rfl
theorem dX5_write_73 : decode cX5_write 73 = .ok (.ireturn, 1) := g_172 bX5_write rfl
theorem dX5_back_0 : decode cX5_back 0 = .ok (.aload_n 0, 1) := g_42 bX5_back rfl
theorem dX5_back_1 : decode cX5_back 1 = .ok (.getfield 344, 3) := g_180 bX5_back rfl
theorem dX5_back_4 : decode cX5_back 4 = .ok (.ifCond .ne 10, 3) := g_154 10 bX5_back rfl rfl
theorem dX5_back_7 : decode cX5_back 7 = .ok (.aload_n 0, 1) := g_42 bX5_back rfl
theorem dX5_back_8 : decode cX5_back 8 = .ok (.bipush (-5), 2) := g_16 251 bX5_back rfl rfl
theorem dX5_back_10 : decode cX5_back 10 = .ok (.invokevirtual 56, 3) := g_182 bX5_back rfl
theorem dX5_back_13 : decode cX5_back 13 = .ok (.ireturn, 1) := g_172 bX5_back rfl
theorem dX5_back_14 : decode cX5_back 14 = .ok (.aload_n 0, 1) := g_42 bX5_back rfl
theorem dX5_back_15 : decode cX5_back 15 = .ok (.getfield 10, 3) := g_180 bX5_back rfl
theorem dX5_back_18 : decode cX5_back 18 = .ok (.aload_n 0, 1) := g_42 bX5_back rfl
theorem dX5_back_19 : decode cX5_back 19 = .ok (.getfield 16, 3) := g_180 bX5_back rfl
theorem dX5_back_22 : decode cX5_back 22 = .ok (.invokevirtual 164, 3) := g_182 bX5_back rfl
theorem dX5_back_25 : decode cX5_back 25 = .ok (.iconst 1, 1) := g_4 bX5_back rfl
theorem dX5_back_26 : decode cX5_back 26 = .ok (.ireturn, 1) := g_172 bX5_back rfl
theorem dX5_bear_0 : decode cX5_bear 0 = .ok (.iload_n 1, 1) := g_27 bX5_bear rfl
theorem dX5_bear_1 : decode cX5_bear 1 = .ok (.i2l, 1) := g_133 bX5_bear rfl
theorem dX5_bear_2 : decode cX5_bear 2 = .ok (.lconst 1, 1) := g_10 bX5_bear rfl
theorem dX5_bear_3 : decode cX5_bear 3 = .ok (.ldc2_w 216, 3) := g_20 bX5_bear rfl
theorem dX5_bear_6 : decode cX5_bear 6 = .ok (.invokestatic 50, 3) := g_184 bX5_bear rfl
theorem dX5_bear_9 : decode cX5_bear 9 = .ok (.ifCond .ne 10, 3) := g_154 10 bX5_bear rfl rfl
theorem dX5_bear_12 : decode cX5_bear 12 = .ok (.aload_n 0, 1) := g_42 bX5_bear rfl
theorem dX5_bear_13 : decode cX5_bear 13 = .ok (.bipush (-2), 2) := g_16 254 bX5_bear rfl rfl
theorem dX5_bear_15 : decode cX5_bear 15 = .ok (.invokevirtual 56, 3) := g_182 bX5_bear rfl
theorem dX5_bear_18 : decode cX5_bear 18 = .ok (.ireturn, 1) := g_172 bX5_bear rfl
theorem dX5_bear_19 : decode cX5_bear 19 = .ok (.aload_n 0, 1) := g_42 bX5_bear rfl
theorem dX5_bear_20 : decode cX5_bear 20 = .ok (.getfield 10, 3) := g_180 bX5_bear rfl
theorem dX5_bear_23 : decode cX5_bear 23 = .ok (.invokevirtual 269, 3) := g_182 bX5_bear rfl
theorem dX5_bear_26 : decode cX5_bear 26 = .ok (.istore_n 2, 1) := g_61 bX5_bear rfl
theorem dX5_bear_27 : decode cX5_bear 27 = .ok (.aload_n 0, 1) := g_42 bX5_bear rfl
theorem dX5_bear_28 : decode cX5_bear 28 = .ok (.getfield 10, 3) := g_180 bX5_bear rfl
theorem dX5_bear_31 : decode cX5_bear 31 = .ok (.iload_n 2, 1) := g_28 bX5_bear rfl
theorem dX5_bear_32 : decode cX5_bear 32 = .ok (.iload_n 1, 1) := g_27 bX5_bear rfl
theorem dX5_bear_33 : decode cX5_bear 33 = .ok (.invokevirtual 303, 3) := g_182 bX5_bear rfl
theorem dX5_bear_36 : decode cX5_bear 36 = .ok (.istore_n 3, 1) := g_62 bX5_bear rfl
theorem dX5_bear_37 : decode cX5_bear 37 = .ok (.iload_n 2, 1) := g_28 bX5_bear rfl
theorem dX5_bear_38 : decode cX5_bear 38 = .ok (.istore 4, 2) := g_54 bX5_bear rfl
theorem dX5_bear_40 : decode cX5_bear 40 = .ok (.iconst 0, 1) := g_3 bX5_bear rfl
theorem dX5_bear_41 : decode cX5_bear 41 = .ok (.istore 5, 2) := g_54 bX5_bear rfl
theorem dX5_bear_43 : decode cX5_bear 43 = .ok (.iload 5, 2) := g_21 bX5_bear rfl
theorem dX5_bear_45 : decode cX5_bear 45 = .ok (.iload_n 2, 1) := g_28 bX5_bear rfl
theorem dX5_bear_46 : decode cX5_bear 46 = .ok (.if_icmp .ge 61, 3) := g_162 61 bX5_bear rfl rfl
theorem dX5_bear_49 : decode cX5_bear 49 = .ok (.iload 5, 2) := g_21 bX5_bear rfl
theorem dX5_bear_51 : decode cX5_bear 51 = .ok (.invokestatic 264, 3) := g_184 bX5_bear rfl
theorem dX5_bear_54 : decode cX5_bear 54 = .ok (.iload 4, 2) := g_21 bX5_bear rfl
theorem dX5_bear_56 : decode cX5_bear 56 = .ok (.invokestatic 264, 3) := g_184 bX5_bear rfl
theorem dX5_bear_59 : decode cX5_bear 59 = .ok (.if_icmp .ge 7, 3) := g_162 7 bX5_bear rfl rfl
theorem dX5_bear_62 : decode cX5_bear 62 = .ok (.iconst 1, 1) := g_4 bX5_bear rfl
theorem dX5_bear_63 : decode cX5_bear 63 = .ok (.goto 4, 3) := g_167 4 bX5_bear rfl rfl
theorem dX5_bear_66 : decode cX5_bear 66 = .ok (.iconst 0, 1) := g_3 bX5_bear rfl
theorem dX5_bear_67 : decode cX5_bear 67 = .ok (.istore 6, 2) := g_54 bX5_bear rfl
theorem dX5_bear_69 : decode cX5_bear 69 = .ok (.iload 5, 2) := g_21 bX5_bear rfl
theorem dX5_bear_71 : decode cX5_bear 71 = .ok (.iload_n 2, 1) := g_28 bX5_bear rfl
theorem dX5_bear_72 : decode cX5_bear 72 = .ok (.iconst (-1), 1) := g_2 bX5_bear rfl
theorem dX5_bear_73 : decode cX5_bear 73 = .ok (.ixor, 1) := g_130 bX5_bear rfl
theorem dX5_bear_74 : decode cX5_bear 74 = .ok (.iand, 1) := g_126 bX5_bear rfl
theorem dX5_bear_75 : decode cX5_bear 75 = .ok (.ifCond .ne 26, 3) := g_154 26 bX5_bear rfl rfl
theorem dX5_bear_78 : decode cX5_bear 78 = .ok (.iload 6, 2) := g_21 bX5_bear rfl
theorem dX5_bear_80 : decode cX5_bear 80 = .ok (.ifCond .eq 21, 3) := g_153 21 bX5_bear rfl rfl
theorem dX5_bear_83 : decode cX5_bear 83 = .ok (.aload_n 0, 1) := g_42 bX5_bear rfl
theorem dX5_bear_84 : decode cX5_bear 84 = .ok (.getfield 10, 3) := g_180 bX5_bear rfl
theorem dX5_bear_87 : decode cX5_bear 87 = .ok (.iload 5, 2) := g_21 bX5_bear rfl
theorem dX5_bear_89 : decode cX5_bear 89 = .ok (.iload_n 1, 1) := g_27 bX5_bear rfl
theorem dX5_bear_90 : decode cX5_bear 90 = .ok (.invokevirtual 303, 3) := g_182 bX5_bear rfl
theorem dX5_bear_93 : decode cX5_bear 93 = .ok (.iload_n 3, 1) := g_29 bX5_bear rfl
theorem dX5_bear_94 : decode cX5_bear 94 = .ok (.if_icmp .ne 7, 3) := g_160 7 bX5_bear rfl rfl
theorem dX5_bear_97 : decode cX5_bear 97 = .ok (.iload 5, 2) := g_21 bX5_bear rfl
theorem dX5_bear_99 : decode cX5_bear 99 = .ok (.istore 4, 2) := g_54 bX5_bear rfl
theorem dX5_bear_101 : decode cX5_bear 101 = .ok (.iinc 5 1, 3) := g_132 1 bX5_bear rfl rfl
theorem dX5_bear_104 : decode cX5_bear 104 = .ok (.goto (-61), 3) := g_167 65475 bX5_bear rfl rfl
theorem dX5_bear_107 : decode cX5_bear 107 = .ok (.iload 4, 2) := g_21 bX5_bear rfl
theorem dX5_bear_109 : decode cX5_bear 109 = .ok (.ireturn, 1) := g_172 bX5_bear rfl
theorem dX5_ends_0 : decode cX5_ends 0 = .ok (.aload_n 0, 1) := g_42 bX5_ends rfl
theorem dX5_ends_1 : decode cX5_ends 1 = .ok (.dup, 1) := g_89 bX5_ends rfl
theorem dX5_ends_2 : decode cX5_ends 2 = .ok (.getfield 335, 3) := g_180 bX5_ends rfl
theorem dX5_ends_5 : decode cX5_ends 5 = .ok (.iconst 1, 1) := g_4 bX5_ends rfl
theorem dX5_ends_6 : decode cX5_ends 6 = .ok (.iadd, 1) := g_96 bX5_ends rfl
theorem dX5_ends_7 : decode cX5_ends 7 = .ok (.putfield 335, 3) := g_181 bX5_ends rfl
theorem dX5_ends_10 : decode cX5_ends 10 = .ok (.aload_n 0, 1) := g_42 bX5_ends rfl
theorem dX5_ends_11 : decode cX5_ends 11 = .ok (.getfield 10, 3) := g_180 bX5_ends rfl
theorem dX5_ends_14 : decode cX5_ends 14 = .ok (.invokevirtual 332, 3) := g_182 bX5_ends rfl
theorem dX5_ends_17 : decode cX5_ends 17 = .ok (.ireturn, 1) := g_172 bX5_ends rfl
theorem dX5_firstWrong_0 : decode cX5_firstWrong 0 = .ok (.aload_n 0, 1) := g_42 bX5_firstWrong rfl
theorem dX5_firstWrong_1 : decode cX5_firstWrong 1 = .ok (.getfield 22, 3) := g_180 bX5_firstWrong rfl
theorem dX5_firstWrong_4 : decode cX5_firstWrong 4 = .ok (.aload_n 0, 1) := g_42 bX5_firstWrong rfl
theorem dX5_firstWrong_5 : decode cX5_firstWrong 5 = .ok (.getfield 10, 3) := g_180 bX5_firstWrong rfl
theorem dX5_firstWrong_8 : decode cX5_firstWrong 8 = .ok (.invokevirtual 115, 3) := g_182 bX5_firstWrong rfl
theorem dX5_firstWrong_11 : decode cX5_firstWrong 11 = .ok (.astore_n 3, 1) := g_78 bX5_firstWrong rfl
theorem dX5_firstWrong_12 : decode cX5_firstWrong 12 = .ok (.iconst 0, 1) := g_3 bX5_firstWrong rfl
theorem dX5_firstWrong_13 : decode cX5_firstWrong 13 = .ok (.istore 4, 2) := g_54 bX5_firstWrong rfl
theorem dX5_firstWrong_15 : decode cX5_firstWrong 15 = .ok (.iload 4, 2) := g_21 bX5_firstWrong rfl
theorem dX5_firstWrong_17 : decode cX5_firstWrong 17 = .ok (.iload_n 2, 1) := g_28 bX5_firstWrong rfl
theorem dX5_firstWrong_18 : decode cX5_firstWrong 18 = .ok (.if_icmp .ge 96, 3) := g_162 96 bX5_firstWrong rfl rfl
theorem dX5_firstWrong_21 : decode cX5_firstWrong 21 = .ok (.aload_n 0, 1) := g_42 bX5_firstWrong rfl
theorem dX5_firstWrong_22 : decode cX5_firstWrong 22 = .ok (.getfield 29, 3) := g_180 bX5_firstWrong rfl
theorem dX5_firstWrong_25 : decode cX5_firstWrong 25 = .ok (.iload_n 1, 1) := g_27 bX5_firstWrong rfl
theorem dX5_firstWrong_26 : decode cX5_firstWrong 26 = .ok (.iload 4, 2) := g_21 bX5_firstWrong rfl
theorem dX5_firstWrong_28 : decode cX5_firstWrong 28 = .ok (.invokevirtual 86, 3) := g_182 bX5_firstWrong rfl
theorem dX5_firstWrong_31 : decode cX5_firstWrong 31 = .ok (.lstore 5, 2) := g_55 bX5_firstWrong rfl
theorem dX5_firstWrong_33 : decode cX5_firstWrong 33 = .ok (.lload 5, 2) := g_22 bX5_firstWrong rfl
theorem dX5_firstWrong_35 : decode cX5_firstWrong 35 = .ok (.lconst 0, 1) := g_9 bX5_firstWrong rfl
theorem dX5_firstWrong_36 : decode cX5_firstWrong 36 = .ok (.ldc2_w 367, 3) := g_20 bX5_firstWrong rfl
theorem dX5_firstWrong_39 : decode cX5_firstWrong 39 = .ok (.invokestatic 50, 3) := g_184 bX5_firstWrong rfl
theorem dX5_firstWrong_42 : decode cX5_firstWrong 42 = .ok (.ifCond .ne 6, 3) := g_154 6 bX5_firstWrong rfl rfl
theorem dX5_firstWrong_45 : decode cX5_firstWrong 45 = .ok (.iload 4, 2) := g_21 bX5_firstWrong rfl
theorem dX5_firstWrong_47 : decode cX5_firstWrong 47 = .ok (.ireturn, 1) := g_172 bX5_firstWrong rfl
theorem dX5_firstWrong_48 : decode cX5_firstWrong 48 = .ok (.lload 5, 2) := g_22 bX5_firstWrong rfl
theorem dX5_firstWrong_50 : decode cX5_firstWrong 50 = .ok (.l2i, 1) := g_136 bX5_firstWrong rfl
theorem dX5_firstWrong_51 : decode cX5_firstWrong 51 = .ok (.bipush 100, 2) := g_16 100 bX5_firstWrong rfl rfl
theorem dX5_firstWrong_53 : decode cX5_firstWrong 53 = .ok (.idiv, 1) := g_108 bX5_firstWrong rfl
theorem dX5_firstWrong_54 : decode cX5_firstWrong 54 = .ok (.istore 7, 2) := g_54 bX5_firstWrong rfl
theorem dX5_firstWrong_56 : decode cX5_firstWrong 56 = .ok (.lload 5, 2) := g_22 bX5_firstWrong rfl
theorem dX5_firstWrong_58 : decode cX5_firstWrong 58 = .ok (.l2i, 1) := g_136 bX5_firstWrong rfl
theorem dX5_firstWrong_59 : decode cX5_firstWrong 59 = .ok (.bipush 100, 2) := g_16 100 bX5_firstWrong rfl rfl
theorem dX5_firstWrong_61 : decode cX5_firstWrong 61 = .ok (.irem, 1) := g_112 bX5_firstWrong rfl
theorem dX5_firstWrong_62 : decode cX5_firstWrong 62 = .ok (.istore 8, 2) := g_54 bX5_firstWrong rfl
theorem dX5_firstWrong_64 : decode cX5_firstWrong 64 = .ok (.aload_n 3, 1) := g_45 bX5_firstWrong rfl
theorem dX5_firstWrong_65 : decode cX5_firstWrong 65 = .ok (.invokevirtual 269, 3) := g_182 bX5_firstWrong rfl
theorem dX5_firstWrong_68 : decode cX5_firstWrong 68 = .ok (.iload 7, 2) := g_21 bX5_firstWrong rfl
theorem dX5_firstWrong_70 : decode cX5_firstWrong 70 = .ok (.invokestatic 183, 3) := g_184 bX5_firstWrong rfl
theorem dX5_firstWrong_73 : decode cX5_firstWrong 73 = .ok (.ifCond .eq 24, 3) := g_153 24 bX5_firstWrong rfl rfl
theorem dX5_firstWrong_76 : decode cX5_firstWrong 76 = .ok (.aload_n 3, 1) := g_45 bX5_firstWrong rfl
theorem dX5_firstWrong_77 : decode cX5_firstWrong 77 = .ok (.iload 8, 2) := g_21 bX5_firstWrong rfl
theorem dX5_firstWrong_79 : decode cX5_firstWrong 79 = .ok (.invokevirtual 168, 3) := g_182 bX5_firstWrong rfl
theorem dX5_firstWrong_82 : decode cX5_firstWrong 82 = .ok (.ifCond .eq 15, 3) := g_153 15 bX5_firstWrong rfl rfl
theorem dX5_firstWrong_85 : decode cX5_firstWrong 85 = .ok (.aload_n 3, 1) := g_45 bX5_firstWrong rfl
theorem dX5_firstWrong_86 : decode cX5_firstWrong 86 = .ok (.getfield 180, 3) := g_180 bX5_firstWrong rfl
theorem dX5_firstWrong_89 : decode cX5_firstWrong 89 = .ok (.iload 8, 2) := g_21 bX5_firstWrong rfl
theorem dX5_firstWrong_91 : decode cX5_firstWrong 91 = .ok (.invokestatic 183, 3) := g_184 bX5_firstWrong rfl
theorem dX5_firstWrong_94 : decode cX5_firstWrong 94 = .ok (.ifCond .eq 6, 3) := g_153 6 bX5_firstWrong rfl rfl
theorem dX5_firstWrong_97 : decode cX5_firstWrong 97 = .ok (.iload 4, 2) := g_21 bX5_firstWrong rfl
theorem dX5_firstWrong_99 : decode cX5_firstWrong 99 = .ok (.ireturn, 1) := g_172 bX5_firstWrong rfl
theorem dX5_firstWrong_100 : decode cX5_firstWrong 100 = .ok (.aload_n 3, 1) := g_45 bX5_firstWrong rfl
theorem dX5_firstWrong_101 : decode cX5_firstWrong 101 = .ok (.iload 7, 2) := g_21 bX5_firstWrong rfl
theorem dX5_firstWrong_103 : decode cX5_firstWrong 103 = .ok (.iload 8, 2) := g_21 bX5_firstWrong rfl
theorem dX5_firstWrong_105 : decode cX5_firstWrong 105 = .ok (.invokevirtual 230, 3) := g_182 bX5_firstWrong rfl
theorem dX5_firstWrong_108 : decode cX5_firstWrong 108 = .ok (.iinc 4 1, 3) := g_132 1 bX5_firstWrong rfl rfl
theorem dX5_firstWrong_111 : decode cX5_firstWrong 111 = .ok (.goto (-96), 3) := g_167 65440 bX5_firstWrong rfl rfl
theorem dX5_firstWrong_114 : decode cX5_firstWrong 114 = .ok (.iconst (-1), 1) := g_2 bX5_firstWrong rfl
theorem dX5_firstWrong_115 : decode cX5_firstWrong 115 = .ok (.ireturn, 1) := g_172 bX5_firstWrong rfl
theorem dX5_gains_0 : decode cX5_gains 0 = .ok (.iload_n 2, 1) := g_28 bX5_gains rfl
theorem dX5_gains_1 : decode cX5_gains 1 = .ok (.i2l, 1) := g_133 bX5_gains rfl
theorem dX5_gains_2 : decode cX5_gains 2 = .ok (.lconst 1, 1) := g_10 bX5_gains rfl
theorem dX5_gains_3 : decode cX5_gains 3 = .ok (.ldc2_w 250, 3) := g_20 bX5_gains rfl
theorem dX5_gains_6 : decode cX5_gains 6 = .ok (.invokestatic 50, 3) := g_184 bX5_gains rfl
theorem dX5_gains_9 : decode cX5_gains 9 = .ok (.ifCond .eq 11, 3) := g_153 11 bX5_gains rfl rfl
theorem dX5_gains_12 : decode cX5_gains 12 = .ok (.aload_n 0, 1) := g_42 bX5_gains rfl
theorem dX5_gains_13 : decode cX5_gains 13 = .ok (.iload_n 1, 1) := g_27 bX5_gains rfl
theorem dX5_gains_14 : decode cX5_gains 14 = .ok (.invokevirtual 100, 3) := g_182 bX5_gains rfl
theorem dX5_gains_17 : decode cX5_gains 17 = .ok (.goto 5, 3) := g_167 5 bX5_gains rfl rfl
theorem dX5_gains_20 : decode cX5_gains 20 = .ok (.bipush (-2), 2) := g_16 254 bX5_gains rfl rfl
theorem dX5_gains_22 : decode cX5_gains 22 = .ok (.istore_n 3, 1) := g_62 bX5_gains rfl
theorem dX5_gains_23 : decode cX5_gains 23 = .ok (.iload_n 3, 1) := g_29 bX5_gains rfl
theorem dX5_gains_24 : decode cX5_gains 24 = .ok (.ifCond .eq 13, 3) := g_153 13 bX5_gains rfl rfl
theorem dX5_gains_27 : decode cX5_gains 27 = .ok (.aload_n 0, 1) := g_42 bX5_gains rfl
theorem dX5_gains_28 : decode cX5_gains 28 = .ok (.iload_n 3, 1) := g_29 bX5_gains rfl
theorem dX5_gains_29 : decode cX5_gains 29 = .ok (.invokevirtual 56, 3) := g_182 bX5_gains rfl
theorem dX5_gains_32 : decode cX5_gains 32 = .ok (.ldc_w 286, 3) := g_19 bX5_gains rfl
theorem dX5_gains_35 : decode cX5_gains 35 = .ok (.isub, 1) := g_100 bX5_gains rfl
theorem dX5_gains_36 : decode cX5_gains 36 = .ok (.ireturn, 1) := g_172 bX5_gains rfl
theorem dX5_gains_37 : decode cX5_gains 37 = .ok (.aload_n 0, 1) := g_42 bX5_gains rfl
theorem dX5_gains_38 : decode cX5_gains 38 = .ok (.getfield 22, 3) := g_180 bX5_gains rfl
theorem dX5_gains_41 : decode cX5_gains 41 = .ok (.aload_n 0, 1) := g_42 bX5_gains rfl
theorem dX5_gains_42 : decode cX5_gains 42 = .ok (.getfield 22, 3) := g_180 bX5_gains rfl
theorem dX5_gains_45 : decode cX5_gains 45 = .ok (.aload_n 0, 1) := g_42 bX5_gains rfl
theorem dX5_gains_46 : decode cX5_gains 46 = .ok (.getfield 10, 3) := g_180 bX5_gains rfl
theorem dX5_gains_49 : decode cX5_gains 49 = .ok (.invokevirtual 115, 3) := g_182 bX5_gains rfl
theorem dX5_gains_52 : decode cX5_gains 52 = .ok (.aload_n 0, 1) := g_42 bX5_gains rfl
theorem dX5_gains_53 : decode cX5_gains 53 = .ok (.getfield 29, 3) := g_180 bX5_gains rfl
theorem dX5_gains_56 : decode cX5_gains 56 = .ok (.iload_n 1, 1) := g_27 bX5_gains rfl
theorem dX5_gains_57 : decode cX5_gains 57 = .ok (.invokevirtual 103, 3) := g_182 bX5_gains rfl
theorem dX5_gains_60 : decode cX5_gains 60 = .ok (.aload_n 0, 1) := g_42 bX5_gains rfl
theorem dX5_gains_61 : decode cX5_gains 61 = .ok (.getfield 29, 3) := g_180 bX5_gains rfl
theorem dX5_gains_64 : decode cX5_gains 64 = .ok (.getfield 112, 3) := g_180 bX5_gains rfl
theorem dX5_gains_67 : decode cX5_gains 67 = .ok (.iload_n 1, 1) := g_27 bX5_gains rfl
theorem dX5_gains_68 : decode cX5_gains 68 = .ok (.iaload, 1) := g_46 bX5_gains rfl
theorem dX5_gains_69 : decode cX5_gains 69 = .ok (.iload_n 2, 1) := g_28 bX5_gains rfl
theorem dX5_gains_70 : decode cX5_gains 70 = .ok (.invokevirtual 254, 3) := g_182 bX5_gains rfl
theorem dX5_gains_73 : decode cX5_gains 73 = .ok (.istore 4, 2) := g_54 bX5_gains rfl
theorem dX5_gains_75 : decode cX5_gains 75 = .ok (.iload 4, 2) := g_21 bX5_gains rfl
theorem dX5_gains_77 : decode cX5_gains 77 = .ok (.aload_n 0, 1) := g_42 bX5_gains rfl
theorem dX5_gains_78 : decode cX5_gains 78 = .ok (.getfield 22, 3) := g_180 bX5_gains rfl
theorem dX5_gains_81 : decode cX5_gains 81 = .ok (.aload_n 0, 1) := g_42 bX5_gains rfl
theorem dX5_gains_82 : decode cX5_gains 82 = .ok (.getfield 10, 3) := g_180 bX5_gains rfl
theorem dX5_gains_85 : decode cX5_gains 85 = .ok (.invokevirtual 115, 3) := g_182 bX5_gains rfl
theorem dX5_gains_88 : decode cX5_gains 88 = .ok (.iload_n 2, 1) := g_28 bX5_gains rfl
theorem dX5_gains_89 : decode cX5_gains 89 = .ok (.invokestatic 318, 3) := g_184 bX5_gains rfl
theorem dX5_gains_92 : decode cX5_gains 92 = .ok (.isub, 1) := g_100 bX5_gains rfl
theorem dX5_gains_93 : decode cX5_gains 93 = .ok (.ireturn, 1) := g_172 bX5_gains rfl
theorem dX5_hangs_0 : decode cX5_hangs 0 = .ok (.aload_n 0, 1) := g_42 bX5_hangs rfl
theorem dX5_hangs_1 : decode cX5_hangs 1 = .ok (.getfield 10, 3) := g_180 bX5_hangs rfl
theorem dX5_hangs_4 : decode cX5_hangs 4 = .ok (.invokevirtual 269, 3) := g_182 bX5_hangs rfl
theorem dX5_hangs_7 : decode cX5_hangs 7 = .ok (.istore_n 1, 1) := g_60 bX5_hangs rfl
theorem dX5_hangs_8 : decode cX5_hangs 8 = .ok (.iconst (-1), 1) := g_2 bX5_hangs rfl
theorem dX5_hangs_9 : decode cX5_hangs 9 = .ok (.istore_n 2, 1) := g_61 bX5_hangs rfl
theorem dX5_hangs_10 : decode cX5_hangs 10 = .ok (.iconst 0, 1) := g_3 bX5_hangs rfl
theorem dX5_hangs_11 : decode cX5_hangs 11 = .ok (.istore_n 3, 1) := g_62 bX5_hangs rfl
theorem dX5_hangs_12 : decode cX5_hangs 12 = .ok (.iconst 0, 1) := g_3 bX5_hangs rfl
theorem dX5_hangs_13 : decode cX5_hangs 13 = .ok (.istore 4, 2) := g_54 bX5_hangs rfl
theorem dX5_hangs_15 : decode cX5_hangs 15 = .ok (.iload 4, 2) := g_21 bX5_hangs rfl
theorem dX5_hangs_17 : decode cX5_hangs 17 = .ok (.aload_n 0, 1) := g_42 bX5_hangs rfl
theorem dX5_hangs_18 : decode cX5_hangs 18 = .ok (.getfield 10, 3) := g_180 bX5_hangs rfl
theorem dX5_hangs_21 : decode cX5_hangs 21 = .ok (.getfield 141, 3) := g_180 bX5_hangs rfl
theorem dX5_hangs_24 : decode cX5_hangs 24 = .ok (.if_icmp .ge 52, 3) := g_162 52 bX5_hangs rfl rfl
theorem dX5_hangs_27 : decode cX5_hangs 27 = .ok (.iload_n 1, 1) := g_27 bX5_hangs rfl
theorem dX5_hangs_28 : decode cX5_hangs 28 = .ok (.iload 4, 2) := g_21 bX5_hangs rfl
theorem dX5_hangs_30 : decode cX5_hangs 30 = .ok (.invokestatic 183, 3) := g_184 bX5_hangs rfl
theorem dX5_hangs_33 : decode cX5_hangs 33 = .ok (.ifCond .eq 37, 3) := g_153 37 bX5_hangs rfl rfl
theorem dX5_hangs_36 : decode cX5_hangs 36 = .ok (.aload_n 0, 1) := g_42 bX5_hangs rfl
theorem dX5_hangs_37 : decode cX5_hangs 37 = .ok (.getfield 10, 3) := g_180 bX5_hangs rfl
theorem dX5_hangs_40 : decode cX5_hangs 40 = .ok (.iload_n 1, 1) := g_27 bX5_hangs rfl
theorem dX5_hangs_41 : decode cX5_hangs 41 = .ok (.iconst 1, 1) := g_4 bX5_hangs rfl
theorem dX5_hangs_42 : decode cX5_hangs 42 = .ok (.iload 4, 2) := g_21 bX5_hangs rfl
theorem dX5_hangs_44 : decode cX5_hangs 44 = .ok (.ishl, 1) := g_120 bX5_hangs rfl
theorem dX5_hangs_45 : decode cX5_hangs 45 = .ok (.iconst (-1), 1) := g_2 bX5_hangs rfl
theorem dX5_hangs_46 : decode cX5_hangs 46 = .ok (.ixor, 1) := g_130 bX5_hangs rfl
theorem dX5_hangs_47 : decode cX5_hangs 47 = .ok (.iand, 1) := g_126 bX5_hangs rfl
theorem dX5_hangs_48 : decode cX5_hangs 48 = .ok (.invokevirtual 300, 3) := g_182 bX5_hangs rfl
theorem dX5_hangs_51 : decode cX5_hangs 51 = .ok (.istore 5, 2) := g_54 bX5_hangs rfl
theorem dX5_hangs_53 : decode cX5_hangs 53 = .ok (.iload_n 2, 1) := g_28 bX5_hangs rfl
theorem dX5_hangs_54 : decode cX5_hangs 54 = .ok (.iconst (-1), 1) := g_2 bX5_hangs rfl
theorem dX5_hangs_55 : decode cX5_hangs 55 = .ok (.if_icmp .eq 9, 3) := g_159 9 bX5_hangs rfl rfl
theorem dX5_hangs_58 : decode cX5_hangs 58 = .ok (.iload 5, 2) := g_21 bX5_hangs rfl
theorem dX5_hangs_60 : decode cX5_hangs 60 = .ok (.iload_n 3, 1) := g_29 bX5_hangs rfl
theorem dX5_hangs_61 : decode cX5_hangs 61 = .ok (.if_icmp .ge 9, 3) := g_162 9 bX5_hangs rfl rfl
theorem dX5_hangs_64 : decode cX5_hangs 64 = .ok (.iload 4, 2) := g_21 bX5_hangs rfl
theorem dX5_hangs_66 : decode cX5_hangs 66 = .ok (.istore_n 2, 1) := g_61 bX5_hangs rfl
theorem dX5_hangs_67 : decode cX5_hangs 67 = .ok (.iload 5, 2) := g_21 bX5_hangs rfl
theorem dX5_hangs_69 : decode cX5_hangs 69 = .ok (.istore_n 3, 1) := g_62 bX5_hangs rfl
theorem dX5_hangs_70 : decode cX5_hangs 70 = .ok (.iinc 4 1, 3) := g_132 1 bX5_hangs rfl rfl
theorem dX5_hangs_73 : decode cX5_hangs 73 = .ok (.goto (-58), 3) := g_167 65478 bX5_hangs rfl rfl
theorem dX5_hangs_76 : decode cX5_hangs 76 = .ok (.iload_n 2, 1) := g_28 bX5_hangs rfl
theorem dX5_hangs_77 : decode cX5_hangs 77 = .ok (.iconst (-1), 1) := g_2 bX5_hangs rfl
theorem dX5_hangs_78 : decode cX5_hangs 78 = .ok (.if_icmp .ne 12, 3) := g_160 12 bX5_hangs rfl rfl
theorem dX5_hangs_81 : decode cX5_hangs 81 = .ok (.aload_n 0, 1) := g_42 bX5_hangs rfl
theorem dX5_hangs_82 : decode cX5_hangs 82 = .ok (.bipush (-5), 2) := g_16 251 bX5_hangs rfl rfl
theorem dX5_hangs_84 : decode cX5_hangs 84 = .ok (.invokevirtual 56, 3) := g_182 bX5_hangs rfl
theorem dX5_hangs_87 : decode cX5_hangs 87 = .ok (.goto 4, 3) := g_167 4 bX5_hangs rfl rfl
theorem dX5_hangs_90 : decode cX5_hangs 90 = .ok (.iload_n 2, 1) := g_28 bX5_hangs rfl
theorem dX5_hangs_91 : decode cX5_hangs 91 = .ok (.ireturn, 1) := g_172 bX5_hangs rfl
theorem dX5_head_0 : decode cX5_head 0 = .ok (.iload_n 1, 1) := g_27 bX5_head rfl
theorem dX5_head_1 : decode cX5_head 1 = .ok (.i2l, 1) := g_133 bX5_head rfl
theorem dX5_head_2 : decode cX5_head 2 = .ok (.lconst 1, 1) := g_10 bX5_head rfl
theorem dX5_head_3 : decode cX5_head 3 = .ok (.ldc2_w 250, 3) := g_20 bX5_head rfl
theorem dX5_head_6 : decode cX5_head 6 = .ok (.invokestatic 50, 3) := g_184 bX5_head rfl
theorem dX5_head_9 : decode cX5_head 9 = .ok (.ifCond .ne 10, 3) := g_154 10 bX5_head rfl rfl
theorem dX5_head_12 : decode cX5_head 12 = .ok (.aload_n 0, 1) := g_42 bX5_head rfl
theorem dX5_head_13 : decode cX5_head 13 = .ok (.bipush (-2), 2) := g_16 254 bX5_head rfl rfl
theorem dX5_head_15 : decode cX5_head 15 = .ok (.invokevirtual 56, 3) := g_182 bX5_head rfl
theorem dX5_head_18 : decode cX5_head 18 = .ok (.ireturn, 1) := g_172 bX5_head rfl
theorem dX5_head_19 : decode cX5_head 19 = .ok (.iconst (-1), 1) := g_2 bX5_head rfl
theorem dX5_head_20 : decode cX5_head 20 = .ok (.istore_n 2, 1) := g_61 bX5_head rfl
theorem dX5_head_21 : decode cX5_head 21 = .ok (.iconst 0, 1) := g_3 bX5_head rfl
theorem dX5_head_22 : decode cX5_head 22 = .ok (.istore_n 3, 1) := g_62 bX5_head rfl
theorem dX5_head_23 : decode cX5_head 23 = .ok (.iconst 0, 1) := g_3 bX5_head rfl
theorem dX5_head_24 : decode cX5_head 24 = .ok (.istore 4, 2) := g_54 bX5_head rfl
theorem dX5_head_26 : decode cX5_head 26 = .ok (.iload 4, 2) := g_21 bX5_head rfl
theorem dX5_head_28 : decode cX5_head 28 = .ok (.bipush 8, 2) := g_16 8 bX5_head rfl rfl
theorem dX5_head_30 : decode cX5_head 30 = .ok (.if_icmp .ge 75, 3) := g_162 75 bX5_head rfl rfl
theorem dX5_head_33 : decode cX5_head 33 = .ok (.aload_n 0, 1) := g_42 bX5_head rfl
theorem dX5_head_34 : decode cX5_head 34 = .ok (.iload 4, 2) := g_21 bX5_head rfl
theorem dX5_head_36 : decode cX5_head 36 = .ok (.invokevirtual 100, 3) := g_182 bX5_head rfl
theorem dX5_head_39 : decode cX5_head 39 = .ok (.ifCond .ne 60, 3) := g_154 60 bX5_head rfl rfl
theorem dX5_head_42 : decode cX5_head 42 = .ok (.aload_n 0, 1) := g_42 bX5_head rfl
theorem dX5_head_43 : decode cX5_head 43 = .ok (.getfield 22, 3) := g_180 bX5_head rfl
theorem dX5_head_46 : decode cX5_head 46 = .ok (.aload_n 0, 1) := g_42 bX5_head rfl
theorem dX5_head_47 : decode cX5_head 47 = .ok (.getfield 22, 3) := g_180 bX5_head rfl
theorem dX5_head_50 : decode cX5_head 50 = .ok (.aload_n 0, 1) := g_42 bX5_head rfl
theorem dX5_head_51 : decode cX5_head 51 = .ok (.getfield 10, 3) := g_180 bX5_head rfl
theorem dX5_head_54 : decode cX5_head 54 = .ok (.invokevirtual 115, 3) := g_182 bX5_head rfl
theorem dX5_head_57 : decode cX5_head 57 = .ok (.aload_n 0, 1) := g_42 bX5_head rfl
theorem dX5_head_58 : decode cX5_head 58 = .ok (.getfield 29, 3) := g_180 bX5_head rfl
theorem dX5_head_61 : decode cX5_head 61 = .ok (.iload 4, 2) := g_21 bX5_head rfl
theorem dX5_head_63 : decode cX5_head 63 = .ok (.invokevirtual 103, 3) := g_182 bX5_head rfl
theorem dX5_head_66 : decode cX5_head 66 = .ok (.aload_n 0, 1) := g_42 bX5_head rfl
theorem dX5_head_67 : decode cX5_head 67 = .ok (.getfield 29, 3) := g_180 bX5_head rfl
theorem dX5_head_70 : decode cX5_head 70 = .ok (.getfield 112, 3) := g_180 bX5_head rfl
theorem dX5_head_73 : decode cX5_head 73 = .ok (.iload 4, 2) := g_21 bX5_head rfl
theorem dX5_head_75 : decode cX5_head 75 = .ok (.iaload, 1) := g_46 bX5_head rfl
theorem dX5_head_76 : decode cX5_head 76 = .ok (.iload_n 1, 1) := g_27 bX5_head rfl
theorem dX5_head_77 : decode cX5_head 77 = .ok (.invokevirtual 254, 3) := g_182 bX5_head rfl
theorem dX5_head_80 : decode cX5_head 80 = .ok (.istore 5, 2) := g_54 bX5_head rfl
theorem dX5_head_82 : decode cX5_head 82 = .ok (.iload_n 2, 1) := g_28 bX5_head rfl
theorem dX5_head_83 : decode cX5_head 83 = .ok (.iconst (-1), 1) := g_2 bX5_head rfl
theorem dX5_head_84 : decode cX5_head 84 = .ok (.if_icmp .eq 9, 3) := g_159 9 bX5_head rfl rfl
theorem dX5_head_87 : decode cX5_head 87 = .ok (.iload 5, 2) := g_21 bX5_head rfl
theorem dX5_head_89 : decode cX5_head 89 = .ok (.iload_n 3, 1) := g_29 bX5_head rfl
theorem dX5_head_90 : decode cX5_head 90 = .ok (.if_icmp .le 9, 3) := g_164 9 bX5_head rfl rfl
theorem dX5_head_93 : decode cX5_head 93 = .ok (.iload 4, 2) := g_21 bX5_head rfl
theorem dX5_head_95 : decode cX5_head 95 = .ok (.istore_n 2, 1) := g_61 bX5_head rfl
theorem dX5_head_96 : decode cX5_head 96 = .ok (.iload 5, 2) := g_21 bX5_head rfl
theorem dX5_head_98 : decode cX5_head 98 = .ok (.istore_n 3, 1) := g_62 bX5_head rfl
theorem dX5_head_99 : decode cX5_head 99 = .ok (.iinc 4 1, 3) := g_132 1 bX5_head rfl rfl
theorem dX5_head_102 : decode cX5_head 102 = .ok (.goto (-76), 3) := g_167 65460 bX5_head rfl rfl
theorem dX5_head_105 : decode cX5_head 105 = .ok (.iload_n 2, 1) := g_28 bX5_head rfl
theorem dX5_head_106 : decode cX5_head 106 = .ok (.iconst (-1), 1) := g_2 bX5_head rfl
theorem dX5_head_107 : decode cX5_head 107 = .ok (.if_icmp .ne 12, 3) := g_160 12 bX5_head rfl rfl
theorem dX5_head_110 : decode cX5_head 110 = .ok (.aload_n 0, 1) := g_42 bX5_head rfl
theorem dX5_head_111 : decode cX5_head 111 = .ok (.bipush (-5), 2) := g_16 251 bX5_head rfl rfl
theorem dX5_head_113 : decode cX5_head 113 = .ok (.invokevirtual 56, 3) := g_182 bX5_head rfl
theorem dX5_head_116 : decode cX5_head 116 = .ok (.goto 4, 3) := g_167 4 bX5_head rfl rfl
theorem dX5_head_119 : decode cX5_head 119 = .ok (.iload_n 2, 1) := g_28 bX5_head rfl
theorem dX5_head_120 : decode cX5_head 120 = .ok (.ireturn, 1) := g_172 bX5_head rfl
theorem dX5_image_0 : decode cX5_image 0 = .ok (.aload_n 0, 1) := g_42 bX5_image rfl
theorem dX5_image_1 : decode cX5_image 1 = .ok (.getfield 16, 3) := g_180 bX5_image rfl
theorem dX5_image_4 : decode cX5_image 4 = .ok (.aload_n 0, 1) := g_42 bX5_image rfl
theorem dX5_image_5 : decode cX5_image 5 = .ok (.getfield 10, 3) := g_180 bX5_image rfl
theorem dX5_image_8 : decode cX5_image 8 = .ok (.invokevirtual 164, 3) := g_182 bX5_image rfl
theorem dX5_image_11 : decode cX5_image 11 = .ok (.aload_n 0, 1) := g_42 bX5_image rfl
theorem dX5_image_12 : decode cX5_image 12 = .ok (.iconst 1, 1) := g_4 bX5_image rfl
theorem dX5_image_13 : decode cX5_image 13 = .ok (.putfield 344, 3) := g_181 bX5_image rfl
theorem dX5_image_16 : decode cX5_image 16 = .ok (.iconst 1, 1) := g_4 bX5_image rfl
theorem dX5_image_17 : decode cX5_image 17 = .ok (.ireturn, 1) := g_172 bX5_image rfl
theorem dX5_judge_0 : decode cX5_judge 0 = .ok (.aload_n 0, 1) := g_42 bX5_judge rfl
theorem dX5_judge_1 : decode cX5_judge 1 = .ok (.iload_n 1, 1) := g_27 bX5_judge rfl
theorem dX5_judge_2 : decode cX5_judge 2 = .ok (.iload_n 2, 1) := g_28 bX5_judge rfl
theorem dX5_judge_3 : decode cX5_judge 3 = .ok (.invokevirtual 321, 3) := g_182 bX5_judge rfl
theorem dX5_judge_6 : decode cX5_judge 6 = .ok (.istore_n 3, 1) := g_62 bX5_judge rfl
theorem dX5_judge_7 : decode cX5_judge 7 = .ok (.iload_n 3, 1) := g_29 bX5_judge rfl
theorem dX5_judge_8 : decode cX5_judge 8 = .ok (.ifCond .ne 12, 3) := g_154 12 bX5_judge rfl rfl
theorem dX5_judge_11 : decode cX5_judge 11 = .ok (.aload_n 0, 1) := g_42 bX5_judge rfl
theorem dX5_judge_12 : decode cX5_judge 12 = .ok (.iload_n 1, 1) := g_27 bX5_judge rfl
theorem dX5_judge_13 : decode cX5_judge 13 = .ok (.iload_n 2, 1) := g_28 bX5_judge rfl
theorem dX5_judge_14 : decode cX5_judge 14 = .ok (.invokevirtual 324, 3) := g_182 bX5_judge rfl
theorem dX5_judge_17 : decode cX5_judge 17 = .ok (.goto 8, 3) := g_167 8 bX5_judge rfl rfl
theorem dX5_judge_20 : decode cX5_judge 20 = .ok (.aload_n 0, 1) := g_42 bX5_judge rfl
theorem dX5_judge_21 : decode cX5_judge 21 = .ok (.iload_n 3, 1) := g_29 bX5_judge rfl
theorem dX5_judge_22 : decode cX5_judge 22 = .ok (.invokevirtual 56, 3) := g_182 bX5_judge rfl
theorem dX5_judge_25 : decode cX5_judge 25 = .ok (.ireturn, 1) := g_172 bX5_judge rfl
theorem dX5_keeping_0 : decode cX5_keeping 0 = .ok (.aload_n 0, 1) := g_42 bX5_keeping rfl
theorem dX5_keeping_1 : decode cX5_keeping 1 = .ok (.getfield 10, 3) := g_180 bX5_keeping rfl
theorem dX5_keeping_4 : decode cX5_keeping 4 = .ok (.iload_n 1, 1) := g_27 bX5_keeping rfl
theorem dX5_keeping_5 : decode cX5_keeping 5 = .ok (.invokevirtual 168, 3) := g_182 bX5_keeping rfl
theorem dX5_keeping_8 : decode cX5_keeping 8 = .ok (.ifCond .eq 17, 3) := g_153 17 bX5_keeping rfl rfl
theorem dX5_keeping_11 : decode cX5_keeping 11 = .ok (.iload_n 2, 1) := g_28 bX5_keeping rfl
theorem dX5_keeping_12 : decode cX5_keeping 12 = .ok (.i2l, 1) := g_133 bX5_keeping rfl
theorem dX5_keeping_13 : decode cX5_keeping 13 = .ok (.ldc2_w 284, 3) := g_20 bX5_keeping rfl
theorem dX5_keeping_16 : decode cX5_keeping 16 = .ok (.ldc2_w 250, 3) := g_20 bX5_keeping rfl
theorem dX5_keeping_19 : decode cX5_keeping 19 = .ok (.invokestatic 50, 3) := g_184 bX5_keeping rfl
theorem dX5_keeping_22 : decode cX5_keeping 22 = .ok (.ifCond .ne 14, 3) := g_154 14 bX5_keeping rfl rfl
theorem dX5_keeping_25 : decode cX5_keeping 25 = .ok (.aload_n 0, 1) := g_42 bX5_keeping rfl
theorem dX5_keeping_26 : decode cX5_keeping 26 = .ok (.bipush (-2), 2) := g_16 254 bX5_keeping rfl rfl
theorem dX5_keeping_28 : decode cX5_keeping 28 = .ok (.invokevirtual 56, 3) := g_182 bX5_keeping rfl
theorem dX5_keeping_31 : decode cX5_keeping 31 = .ok (.ldc_w 286, 3) := g_19 bX5_keeping rfl
theorem dX5_keeping_34 : decode cX5_keeping 34 = .ok (.isub, 1) := g_100 bX5_keeping rfl
theorem dX5_keeping_35 : decode cX5_keeping 35 = .ok (.ireturn, 1) := g_172 bX5_keeping rfl
theorem dX5_keeping_36 : decode cX5_keeping 36 = .ok (.aload_n 0, 1) := g_42 bX5_keeping rfl
theorem dX5_keeping_37 : decode cX5_keeping 37 = .ok (.getfield 10, 3) := g_180 bX5_keeping rfl
theorem dX5_keeping_40 : decode cX5_keeping 40 = .ok (.getfield 180, 3) := g_180 bX5_keeping rfl
theorem dX5_keeping_43 : decode cX5_keeping 43 = .ok (.iload_n 1, 1) := g_27 bX5_keeping rfl
theorem dX5_keeping_44 : decode cX5_keeping 44 = .ok (.invokestatic 183, 3) := g_184 bX5_keeping rfl
theorem dX5_keeping_47 : decode cX5_keeping 47 = .ok (.ifCond .ne 23, 3) := g_154 23 bX5_keeping rfl rfl
theorem dX5_keeping_50 : decode cX5_keeping 50 = .ok (.aload_n 0, 1) := g_42 bX5_keeping rfl
theorem dX5_keeping_51 : decode cX5_keeping 51 = .ok (.getfield 22, 3) := g_180 bX5_keeping rfl
theorem dX5_keeping_54 : decode cX5_keeping 54 = .ok (.aload_n 0, 1) := g_42 bX5_keeping rfl
theorem dX5_keeping_55 : decode cX5_keeping 55 = .ok (.getfield 10, 3) := g_180 bX5_keeping rfl
theorem dX5_keeping_58 : decode cX5_keeping 58 = .ok (.iload_n 1, 1) := g_27 bX5_keeping rfl
theorem dX5_keeping_59 : decode cX5_keeping 59 = .ok (.iload_n 2, 1) := g_28 bX5_keeping rfl
theorem dX5_keeping_60 : decode cX5_keeping 60 = .ok (.invokevirtual 287, 3) := g_182 bX5_keeping rfl
theorem dX5_keeping_63 : decode cX5_keeping 63 = .ok (.ifCond .eq 7, 3) := g_153 7 bX5_keeping rfl rfl
theorem dX5_keeping_66 : decode cX5_keeping 66 = .ok (.iconst 1, 1) := g_4 bX5_keeping rfl
theorem dX5_keeping_67 : decode cX5_keeping 67 = .ok (.goto 4, 3) := g_167 4 bX5_keeping rfl rfl
theorem dX5_keeping_70 : decode cX5_keeping 70 = .ok (.iconst 0, 1) := g_3 bX5_keeping rfl
theorem dX5_keeping_71 : decode cX5_keeping 71 = .ok (.istore_n 3, 1) := g_62 bX5_keeping rfl
theorem dX5_keeping_72 : decode cX5_keeping 72 = .ok (.iload_n 3, 1) := g_29 bX5_keeping rfl
theorem dX5_keeping_73 : decode cX5_keeping 73 = .ok (.ifCond .eq 13, 3) := g_153 13 bX5_keeping rfl rfl
theorem dX5_keeping_76 : decode cX5_keeping 76 = .ok (.aload_n 0, 1) := g_42 bX5_keeping rfl
theorem dX5_keeping_77 : decode cX5_keeping 77 = .ok (.getfield 22, 3) := g_180 bX5_keeping rfl
theorem dX5_keeping_80 : decode cX5_keeping 80 = .ok (.getfield 291, 3) := g_180 bX5_keeping rfl
theorem dX5_keeping_83 : decode cX5_keeping 83 = .ok (.goto 13, 3) := g_167 13 bX5_keeping rfl rfl
theorem dX5_keeping_86 : decode cX5_keeping 86 = .ok (.aload_n 0, 1) := g_42 bX5_keeping rfl
theorem dX5_keeping_87 : decode cX5_keeping 87 = .ok (.bipush (-5), 2) := g_16 251 bX5_keeping rfl rfl
theorem dX5_keeping_89 : decode cX5_keeping 89 = .ok (.invokevirtual 56, 3) := g_182 bX5_keeping rfl
theorem dX5_keeping_92 : decode cX5_keeping 92 = .ok (.ldc_w 286, 3) := g_19 bX5_keeping rfl
theorem dX5_keeping_95 : decode cX5_keeping 95 = .ok (.isub, 1) := g_100 bX5_keeping rfl
theorem dX5_keeping_96 : decode cX5_keeping 96 = .ok (.ireturn, 1) := g_172 bX5_keeping rfl
theorem dX5_left_0 : decode cX5_left 0 = .ok (.iload_n 1, 1) := g_27 bX5_left rfl
theorem dX5_left_1 : decode cX5_left 1 = .ok (.iload_n 2, 1) := g_28 bX5_left rfl
theorem dX5_left_2 : decode cX5_left 2 = .ok (.invokestatic 294, 3) := g_184 bX5_left rfl
theorem dX5_left_5 : decode cX5_left 5 = .ok (.ifCond .eq 15, 3) := g_153 15 bX5_left rfl rfl
theorem dX5_left_8 : decode cX5_left 8 = .ok (.iload_n 3, 1) := g_29 bX5_left rfl
theorem dX5_left_9 : decode cX5_left 9 = .ok (.i2l, 1) := g_133 bX5_left rfl
theorem dX5_left_10 : decode cX5_left 10 = .ok (.lconst 0, 1) := g_9 bX5_left rfl
theorem dX5_left_11 : decode cX5_left 11 = .ok (.ldc2_w 95, 3) := g_20 bX5_left rfl
theorem dX5_left_14 : decode cX5_left 14 = .ok (.invokestatic 50, 3) := g_184 bX5_left rfl
theorem dX5_left_17 : decode cX5_left 17 = .ok (.ifCond .ne 10, 3) := g_154 10 bX5_left rfl rfl
theorem dX5_left_20 : decode cX5_left 20 = .ok (.aload_n 0, 1) := g_42 bX5_left rfl
theorem dX5_left_21 : decode cX5_left 21 = .ok (.bipush (-2), 2) := g_16 254 bX5_left rfl rfl
theorem dX5_left_23 : decode cX5_left 23 = .ok (.invokevirtual 56, 3) := g_182 bX5_left rfl
theorem dX5_left_26 : decode cX5_left 26 = .ok (.ireturn, 1) := g_172 bX5_left rfl
theorem dX5_left_27 : decode cX5_left 27 = .ok (.iload_n 1, 1) := g_27 bX5_left rfl
theorem dX5_left_28 : decode cX5_left 28 = .ok (.istore 4, 2) := g_54 bX5_left rfl
theorem dX5_left_30 : decode cX5_left 30 = .ok (.iconst 0, 1) := g_3 bX5_left rfl
theorem dX5_left_31 : decode cX5_left 31 = .ok (.istore 5, 2) := g_54 bX5_left rfl
theorem dX5_left_33 : decode cX5_left 33 = .ok (.iload 5, 2) := g_21 bX5_left rfl
theorem dX5_left_35 : decode cX5_left 35 = .ok (.iload_n 3, 1) := g_29 bX5_left rfl
theorem dX5_left_36 : decode cX5_left 36 = .ok (.if_icmp .ge 17, 3) := g_162 17 bX5_left rfl rfl
theorem dX5_left_39 : decode cX5_left 39 = .ok (.iload 4, 2) := g_21 bX5_left rfl
theorem dX5_left_41 : decode cX5_left 41 = .ok (.iload_n 2, 1) := g_28 bX5_left rfl
theorem dX5_left_42 : decode cX5_left 42 = .ok (.invokestatic 297, 3) := g_184 bX5_left rfl
theorem dX5_left_45 : decode cX5_left 45 = .ok (.istore 4, 2) := g_54 bX5_left rfl
theorem dX5_left_47 : decode cX5_left 47 = .ok (.iinc 5 1, 3) := g_132 1 bX5_left rfl rfl
theorem dX5_left_50 : decode cX5_left 50 = .ok (.goto (-17), 3) := g_167 65519 bX5_left rfl rfl
theorem dX5_left_53 : decode cX5_left 53 = .ok (.iload 4, 2) := g_21 bX5_left rfl
theorem dX5_left_55 : decode cX5_left 55 = .ok (.ireturn, 1) := g_172 bX5_left rfl
theorem dX5_longest_0 : decode cX5_longest 0 = .ok (.iload_n 1, 1) := g_27 bX5_longest rfl
theorem dX5_longest_1 : decode cX5_longest 1 = .ok (.iload_n 2, 1) := g_28 bX5_longest rfl
theorem dX5_longest_2 : decode cX5_longest 2 = .ok (.invokestatic 294, 3) := g_184 bX5_longest rfl
theorem dX5_longest_5 : decode cX5_longest 5 = .ok (.ifCond .eq 15, 3) := g_153 15 bX5_longest rfl rfl
theorem dX5_longest_8 : decode cX5_longest 8 = .ok (.iload_n 3, 1) := g_29 bX5_longest rfl
theorem dX5_longest_9 : decode cX5_longest 9 = .ok (.i2l, 1) := g_133 bX5_longest rfl
theorem dX5_longest_10 : decode cX5_longest 10 = .ok (.lconst 1, 1) := g_10 bX5_longest rfl
theorem dX5_longest_11 : decode cX5_longest 11 = .ok (.ldc2_w 216, 3) := g_20 bX5_longest rfl
theorem dX5_longest_14 : decode cX5_longest 14 = .ok (.invokestatic 50, 3) := g_184 bX5_longest rfl
theorem dX5_longest_17 : decode cX5_longest 17 = .ok (.ifCond .ne 10, 3) := g_154 10 bX5_longest rfl rfl
theorem dX5_longest_20 : decode cX5_longest 20 = .ok (.aload_n 0, 1) := g_42 bX5_longest rfl
theorem dX5_longest_21 : decode cX5_longest 21 = .ok (.bipush (-2), 2) := g_16 254 bX5_longest rfl rfl
theorem dX5_longest_23 : decode cX5_longest 23 = .ok (.invokevirtual 56, 3) := g_182 bX5_longest rfl
theorem dX5_longest_26 : decode cX5_longest 26 = .ok (.ireturn, 1) := g_172 bX5_longest rfl
theorem dX5_longest_27 : decode cX5_longest 27 = .ok (.iconst (-1), 1) := g_2 bX5_longest rfl
theorem dX5_longest_28 : decode cX5_longest 28 = .ok (.istore 4, 2) := g_54 bX5_longest rfl
theorem dX5_longest_30 : decode cX5_longest 30 = .ok (.iload_n 1, 1) := g_27 bX5_longest rfl
theorem dX5_longest_31 : decode cX5_longest 31 = .ok (.istore 5, 2) := g_54 bX5_longest rfl
theorem dX5_longest_33 : decode cX5_longest 33 = .ok (.iload 5, 2) := g_21 bX5_longest rfl
theorem dX5_longest_35 : decode cX5_longest 35 = .ok (.iload_n 3, 1) := g_29 bX5_longest rfl
theorem dX5_longest_36 : decode cX5_longest 36 = .ok (.if_icmp .lt 24, 3) := g_161 24 bX5_longest rfl rfl
theorem dX5_longest_39 : decode cX5_longest 39 = .ok (.iload 4, 2) := g_21 bX5_longest rfl
theorem dX5_longest_41 : decode cX5_longest 41 = .ok (.bipush 99, 2) := g_16 99 bX5_longest rfl rfl
theorem dX5_longest_43 : decode cX5_longest 43 = .ok (.if_icmp .ge 17, 3) := g_162 17 bX5_longest rfl rfl
theorem dX5_longest_46 : decode cX5_longest 46 = .ok (.iinc 4 1, 3) := g_132 1 bX5_longest rfl rfl
theorem dX5_longest_49 : decode cX5_longest 49 = .ok (.iload 5, 2) := g_21 bX5_longest rfl
theorem dX5_longest_51 : decode cX5_longest 51 = .ok (.iload_n 2, 1) := g_28 bX5_longest rfl
theorem dX5_longest_52 : decode cX5_longest 52 = .ok (.invokestatic 297, 3) := g_184 bX5_longest rfl
theorem dX5_longest_55 : decode cX5_longest 55 = .ok (.istore 5, 2) := g_54 bX5_longest rfl
theorem dX5_longest_57 : decode cX5_longest 57 = .ok (.goto (-24), 3) := g_167 65512 bX5_longest rfl rfl
theorem dX5_longest_60 : decode cX5_longest 60 = .ok (.iload 4, 2) := g_21 bX5_longest rfl
theorem dX5_longest_62 : decode cX5_longest 62 = .ok (.ireturn, 1) := g_172 bX5_longest rfl
theorem dX5_lost_0 : decode cX5_lost 0 = .ok (.iload_n 1, 1) := g_27 bX5_lost rfl
theorem dX5_lost_1 : decode cX5_lost 1 = .ok (.i2l, 1) := g_133 bX5_lost rfl
theorem dX5_lost_2 : decode cX5_lost 2 = .ok (.lconst 1, 1) := g_10 bX5_lost rfl
theorem dX5_lost_3 : decode cX5_lost 3 = .ok (.ldc2_w 216, 3) := g_20 bX5_lost rfl
theorem dX5_lost_6 : decode cX5_lost 6 = .ok (.invokestatic 50, 3) := g_184 bX5_lost rfl
theorem dX5_lost_9 : decode cX5_lost 9 = .ok (.ifCond .eq 34, 3) := g_153 34 bX5_lost rfl rfl
theorem dX5_lost_12 : decode cX5_lost 12 = .ok (.aload_n 0, 1) := g_42 bX5_lost rfl
theorem dX5_lost_13 : decode cX5_lost 13 = .ok (.getfield 10, 3) := g_180 bX5_lost rfl
theorem dX5_lost_16 : decode cX5_lost 16 = .ok (.getfield 127, 3) := g_180 bX5_lost rfl
theorem dX5_lost_19 : decode cX5_lost 19 = .ok (.invokestatic 186, 3) := g_184 bX5_lost rfl
theorem dX5_lost_22 : decode cX5_lost 22 = .ok (.aload_n 0, 1) := g_42 bX5_lost rfl
theorem dX5_lost_23 : decode cX5_lost 23 = .ok (.getfield 10, 3) := g_180 bX5_lost rfl
theorem dX5_lost_26 : decode cX5_lost 26 = .ok (.aload_n 0, 1) := g_42 bX5_lost rfl
theorem dX5_lost_27 : decode cX5_lost 27 = .ok (.getfield 10, 3) := g_180 bX5_lost rfl
theorem dX5_lost_30 : decode cX5_lost 30 = .ok (.invokevirtual 269, 3) := g_182 bX5_lost rfl
theorem dX5_lost_33 : decode cX5_lost 33 = .ok (.iload_n 1, 1) := g_27 bX5_lost rfl
theorem dX5_lost_34 : decode cX5_lost 34 = .ok (.invokevirtual 303, 3) := g_182 bX5_lost rfl
theorem dX5_lost_37 : decode cX5_lost 37 = .ok (.iconst (-1), 1) := g_2 bX5_lost rfl
theorem dX5_lost_38 : decode cX5_lost 38 = .ok (.ixor, 1) := g_130 bX5_lost rfl
theorem dX5_lost_39 : decode cX5_lost 39 = .ok (.iand, 1) := g_126 bX5_lost rfl
theorem dX5_lost_40 : decode cX5_lost 40 = .ok (.goto 9, 3) := g_167 9 bX5_lost rfl rfl
theorem dX5_lost_43 : decode cX5_lost 43 = .ok (.aload_n 0, 1) := g_42 bX5_lost rfl
theorem dX5_lost_44 : decode cX5_lost 44 = .ok (.bipush (-2), 2) := g_16 254 bX5_lost rfl rfl
theorem dX5_lost_46 : decode cX5_lost 46 = .ok (.invokevirtual 56, 3) := g_182 bX5_lost rfl
theorem dX5_lost_49 : decode cX5_lost 49 = .ok (.ireturn, 1) := g_172 bX5_lost rfl
theorem dX5_needs_0 : decode cX5_needs 0 = .ok (.aload_n 0, 1) := g_42 bX5_needs rfl
theorem dX5_needs_1 : decode cX5_needs 1 = .ok (.getfield 10, 3) := g_180 bX5_needs rfl
theorem dX5_needs_4 : decode cX5_needs 4 = .ok (.iload_n 1, 1) := g_27 bX5_needs rfl
theorem dX5_needs_5 : decode cX5_needs 5 = .ok (.invokevirtual 168, 3) := g_182 bX5_needs rfl
theorem dX5_needs_8 : decode cX5_needs 8 = .ok (.ifCond .ne 10, 3) := g_154 10 bX5_needs rfl rfl
theorem dX5_needs_11 : decode cX5_needs 11 = .ok (.aload_n 0, 1) := g_42 bX5_needs rfl
theorem dX5_needs_12 : decode cX5_needs 12 = .ok (.bipush (-2), 2) := g_16 254 bX5_needs rfl rfl
theorem dX5_needs_14 : decode cX5_needs 14 = .ok (.invokevirtual 56, 3) := g_182 bX5_needs rfl
theorem dX5_needs_17 : decode cX5_needs 17 = .ok (.ireturn, 1) := g_172 bX5_needs rfl
theorem dX5_needs_18 : decode cX5_needs 18 = .ok (.iload_n 2, 1) := g_28 bX5_needs rfl
theorem dX5_needs_19 : decode cX5_needs 19 = .ok (.ifCond .eq 14, 3) := g_153 14 bX5_needs rfl rfl
theorem dX5_needs_22 : decode cX5_needs 22 = .ok (.aload_n 0, 1) := g_42 bX5_needs rfl
theorem dX5_needs_23 : decode cX5_needs 23 = .ok (.getfield 10, 3) := g_180 bX5_needs rfl
theorem dX5_needs_26 : decode cX5_needs 26 = .ok (.iload_n 1, 1) := g_27 bX5_needs rfl
theorem dX5_needs_27 : decode cX5_needs 27 = .ok (.invokevirtual 309, 3) := g_182 bX5_needs rfl
theorem dX5_needs_30 : decode cX5_needs 30 = .ok (.goto 11, 3) := g_167 11 bX5_needs rfl rfl
theorem dX5_needs_33 : decode cX5_needs 33 = .ok (.aload_n 0, 1) := g_42 bX5_needs rfl
theorem dX5_needs_34 : decode cX5_needs 34 = .ok (.getfield 10, 3) := g_180 bX5_needs rfl
theorem dX5_needs_37 : decode cX5_needs 37 = .ok (.iload_n 1, 1) := g_27 bX5_needs rfl
theorem dX5_needs_38 : decode cX5_needs 38 = .ok (.invokevirtual 312, 3) := g_182 bX5_needs rfl
theorem dX5_needs_41 : decode cX5_needs 41 = .ok (.ireturn, 1) := g_172 bX5_needs rfl
theorem dX5_next_0 : decode cX5_next 0 = .ok (.iconst (-1), 1) := g_2 bX5_next rfl
theorem dX5_next_1 : decode cX5_next 1 = .ok (.istore_n 1, 1) := g_60 bX5_next rfl
theorem dX5_next_2 : decode cX5_next 2 = .ok (.iconst 0, 1) := g_3 bX5_next rfl
theorem dX5_next_3 : decode cX5_next 3 = .ok (.istore_n 2, 1) := g_61 bX5_next rfl
theorem dX5_next_4 : decode cX5_next 4 = .ok (.iconst 0, 1) := g_3 bX5_next rfl
theorem dX5_next_5 : decode cX5_next 5 = .ok (.istore_n 3, 1) := g_62 bX5_next rfl
theorem dX5_next_6 : decode cX5_next 6 = .ok (.iload_n 3, 1) := g_29 bX5_next rfl
theorem dX5_next_7 : decode cX5_next 7 = .ok (.aload_n 0, 1) := g_42 bX5_next rfl
theorem dX5_next_8 : decode cX5_next 8 = .ok (.getfield 10, 3) := g_180 bX5_next rfl
theorem dX5_next_11 : decode cX5_next 11 = .ok (.getfield 127, 3) := g_180 bX5_next rfl
theorem dX5_next_14 : decode cX5_next 14 = .ok (.if_icmp .ge 48, 3) := g_162 48 bX5_next rfl rfl
theorem dX5_next_17 : decode cX5_next 17 = .ok (.aload_n 0, 1) := g_42 bX5_next rfl
theorem dX5_next_18 : decode cX5_next 18 = .ok (.getfield 10, 3) := g_180 bX5_next rfl
theorem dX5_next_21 : decode cX5_next 21 = .ok (.getfield 180, 3) := g_180 bX5_next rfl
theorem dX5_next_24 : decode cX5_next 24 = .ok (.iload_n 3, 1) := g_29 bX5_next rfl
theorem dX5_next_25 : decode cX5_next 25 = .ok (.invokestatic 183, 3) := g_184 bX5_next rfl
theorem dX5_next_28 : decode cX5_next 28 = .ok (.ifCond .eq 7, 3) := g_153 7 bX5_next rfl rfl
theorem dX5_next_31 : decode cX5_next 31 = .ok (.iconst 0, 1) := g_3 bX5_next rfl
theorem dX5_next_32 : decode cX5_next 32 = .ok (.goto 11, 3) := g_167 11 bX5_next rfl rfl
theorem dX5_next_35 : decode cX5_next 35 = .ok (.aload_n 0, 1) := g_42 bX5_next rfl
theorem dX5_next_36 : decode cX5_next 36 = .ok (.getfield 10, 3) := g_180 bX5_next rfl
theorem dX5_next_39 : decode cX5_next 39 = .ok (.iload_n 3, 1) := g_29 bX5_next rfl
theorem dX5_next_40 : decode cX5_next 40 = .ok (.invokevirtual 315, 3) := g_182 bX5_next rfl
theorem dX5_next_43 : decode cX5_next 43 = .ok (.istore 4, 2) := g_54 bX5_next rfl
theorem dX5_next_45 : decode cX5_next 45 = .ok (.iload 4, 2) := g_21 bX5_next rfl
theorem dX5_next_47 : decode cX5_next 47 = .ok (.iload_n 2, 1) := g_28 bX5_next rfl
theorem dX5_next_48 : decode cX5_next 48 = .ok (.if_icmp .le 8, 3) := g_164 8 bX5_next rfl rfl
theorem dX5_next_51 : decode cX5_next 51 = .ok (.iload_n 3, 1) := g_29 bX5_next rfl
theorem dX5_next_52 : decode cX5_next 52 = .ok (.istore_n 1, 1) := g_60 bX5_next rfl
theorem dX5_next_53 : decode cX5_next 53 = .ok (.iload 4, 2) := g_21 bX5_next rfl
theorem dX5_next_55 : decode cX5_next 55 = .ok (.istore_n 2, 1) := g_61 bX5_next rfl
theorem dX5_next_56 : decode cX5_next 56 = .ok (.iinc 3 1, 3) := g_132 1 bX5_next rfl rfl
theorem dX5_next_59 : decode cX5_next 59 = .ok (.goto (-53), 3) := g_167 65483 bX5_next rfl rfl
theorem dX5_next_62 : decode cX5_next 62 = .ok (.iload_n 1, 1) := g_27 bX5_next rfl
theorem dX5_next_63 : decode cX5_next 63 = .ok (.ireturn, 1) := g_172 bX5_next rfl
theorem dX5_order_0 : decode cX5_order 0 = .ok (.aload_n 0, 1) := g_42 bX5_order rfl
theorem dX5_order_1 : decode cX5_order 1 = .ok (.getfield 10, 3) := g_180 bX5_order rfl
theorem dX5_order_4 : decode cX5_order 4 = .ok (.getfield 127, 3) := g_180 bX5_order rfl
theorem dX5_order_7 : decode cX5_order 7 = .ok (.aload_n 0, 1) := g_42 bX5_order rfl
theorem dX5_order_8 : decode cX5_order 8 = .ok (.getfield 10, 3) := g_180 bX5_order rfl
theorem dX5_order_11 : decode cX5_order 11 = .ok (.getfield 180, 3) := g_180 bX5_order rfl
theorem dX5_order_14 : decode cX5_order 14 = .ok (.invokestatic 264, 3) := g_184 bX5_order rfl
theorem dX5_order_17 : decode cX5_order 17 = .ok (.isub, 1) := g_100 bX5_order rfl
theorem dX5_order_18 : decode cX5_order 18 = .ok (.istore_n 3, 1) := g_62 bX5_order rfl
theorem dX5_order_19 : decode cX5_order 19 = .ok (.aload_n 0, 1) := g_42 bX5_order rfl
theorem dX5_order_20 : decode cX5_order 20 = .ok (.getfield 10, 3) := g_180 bX5_order rfl
theorem dX5_order_23 : decode cX5_order 23 = .ok (.iload_n 1, 1) := g_27 bX5_order rfl
theorem dX5_order_24 : decode cX5_order 24 = .ok (.invokevirtual 192, 3) := g_182 bX5_order rfl
theorem dX5_order_27 : decode cX5_order 27 = .ok (.ifCond .eq 18, 3) := g_153 18 bX5_order rfl rfl
theorem dX5_order_30 : decode cX5_order 30 = .ok (.iload_n 2, 1) := g_28 bX5_order rfl
theorem dX5_order_31 : decode cX5_order 31 = .ok (.i2l, 1) := g_133 bX5_order rfl
theorem dX5_order_32 : decode cX5_order 32 = .ok (.ldc2_w 275, 3) := g_20 bX5_order rfl
theorem dX5_order_35 : decode cX5_order 35 = .ok (.iload_n 3, 1) := g_29 bX5_order rfl
theorem dX5_order_36 : decode cX5_order 36 = .ok (.iconst 1, 1) := g_4 bX5_order rfl
theorem dX5_order_37 : decode cX5_order 37 = .ok (.isub, 1) := g_100 bX5_order rfl
theorem dX5_order_38 : decode cX5_order 38 = .ok (.i2l, 1) := g_133 bX5_order rfl
theorem dX5_order_39 : decode cX5_order 39 = .ok (.invokestatic 50, 3) := g_184 bX5_order rfl
theorem dX5_order_42 : decode cX5_order 42 = .ok (.ifCond .ne 10, 3) := g_154 10 bX5_order rfl rfl
theorem dX5_order_45 : decode cX5_order 45 = .ok (.aload_n 0, 1) := g_42 bX5_order rfl
theorem dX5_order_46 : decode cX5_order 46 = .ok (.bipush (-2), 2) := g_16 254 bX5_order rfl rfl
theorem dX5_order_48 : decode cX5_order 48 = .ok (.invokevirtual 56, 3) := g_182 bX5_order rfl
theorem dX5_order_51 : decode cX5_order 51 = .ok (.ireturn, 1) := g_172 bX5_order rfl
theorem dX5_order_52 : decode cX5_order 52 = .ok (.aload_n 0, 1) := g_42 bX5_order rfl
theorem dX5_order_53 : decode cX5_order 53 = .ok (.getfield 10, 3) := g_180 bX5_order rfl
theorem dX5_order_56 : decode cX5_order 56 = .ok (.getfield 207, 3) := g_180 bX5_order rfl
theorem dX5_order_59 : decode cX5_order 59 = .ok (.iload_n 1, 1) := g_27 bX5_order rfl
theorem dX5_order_60 : decode cX5_order 60 = .ok (.invokestatic 183, 3) := g_184 bX5_order rfl
theorem dX5_order_63 : decode cX5_order 63 = .ok (.ifCond .ne 8, 3) := g_154 8 bX5_order rfl rfl
theorem dX5_order_66 : decode cX5_order 66 = .ok (.iload_n 3, 1) := g_29 bX5_order rfl
theorem dX5_order_67 : decode cX5_order 67 = .ok (.iconst 5, 1) := g_8 bX5_order rfl
theorem dX5_order_68 : decode cX5_order 68 = .ok (.if_icmp .le 10, 3) := g_164 10 bX5_order rfl rfl
theorem dX5_order_71 : decode cX5_order 71 = .ok (.aload_n 0, 1) := g_42 bX5_order rfl
theorem dX5_order_72 : decode cX5_order 72 = .ok (.bipush (-5), 2) := g_16 251 bX5_order rfl rfl
theorem dX5_order_74 : decode cX5_order 74 = .ok (.invokevirtual 56, 3) := g_182 bX5_order rfl
theorem dX5_order_77 : decode cX5_order 77 = .ok (.ireturn, 1) := g_172 bX5_order rfl
theorem dX5_order_78 : decode cX5_order 78 = .ok (.iload_n 2, 1) := g_28 bX5_order rfl
theorem dX5_order_79 : decode cX5_order 79 = .ok (.iconst (-1), 1) := g_2 bX5_order rfl
theorem dX5_order_80 : decode cX5_order 80 = .ok (.if_icmp .ne 18, 3) := g_160 18 bX5_order rfl rfl
theorem dX5_order_83 : decode cX5_order 83 = .ok (.aload_n 0, 1) := g_42 bX5_order rfl
theorem dX5_order_84 : decode cX5_order 84 = .ok (.getfield 22, 3) := g_180 bX5_order rfl
theorem dX5_order_87 : decode cX5_order 87 = .ok (.aload_n 0, 1) := g_42 bX5_order rfl
theorem dX5_order_88 : decode cX5_order 88 = .ok (.getfield 10, 3) := g_180 bX5_order rfl
theorem dX5_order_91 : decode cX5_order 91 = .ok (.iload_n 1, 1) := g_27 bX5_order rfl
theorem dX5_order_92 : decode cX5_order 92 = .ok (.invokevirtual 277, 3) := g_182 bX5_order rfl
theorem dX5_order_95 : decode cX5_order 95 = .ok (.goto 11, 3) := g_167 11 bX5_order rfl rfl
theorem dX5_order_98 : decode cX5_order 98 = .ok (.aload_n 0, 1) := g_42 bX5_order rfl
theorem dX5_order_99 : decode cX5_order 99 = .ok (.getfield 10, 3) := g_180 bX5_order rfl
theorem dX5_order_102 : decode cX5_order 102 = .ok (.iload_n 2, 1) := g_28 bX5_order rfl
theorem dX5_order_103 : decode cX5_order 103 = .ok (.invokevirtual 281, 3) := g_182 bX5_order rfl
theorem dX5_order_106 : decode cX5_order 106 = .ok (.ireturn, 1) := g_172 bX5_order rfl
theorem dX5_run_0 : decode cX5_run 0 = .ok (.iload_n 2, 1) := g_28 bX5_run rfl
theorem dX5_run_1 : decode cX5_run 1 = .ok (.i2l, 1) := g_133 bX5_run rfl
theorem dX5_run_2 : decode cX5_run 2 = .ok (.lconst 1, 1) := g_10 bX5_run rfl
theorem dX5_run_3 : decode cX5_run 3 = .ok (.ldc2_w 250, 3) := g_20 bX5_run rfl
theorem dX5_run_6 : decode cX5_run 6 = .ok (.invokestatic 50, 3) := g_184 bX5_run rfl
theorem dX5_run_9 : decode cX5_run 9 = .ok (.ifCond .eq 23, 3) := g_153 23 bX5_run rfl rfl
theorem dX5_run_12 : decode cX5_run 12 = .ok (.iload_n 3, 1) := g_29 bX5_run rfl
theorem dX5_run_13 : decode cX5_run 13 = .ok (.i2l, 1) := g_133 bX5_run rfl
theorem dX5_run_14 : decode cX5_run 14 = .ok (.lconst 0, 1) := g_9 bX5_run rfl
theorem dX5_run_15 : decode cX5_run 15 = .ok (.ldc2_w 252, 3) := g_20 bX5_run rfl
theorem dX5_run_18 : decode cX5_run 18 = .ok (.invokestatic 50, 3) := g_184 bX5_run rfl
theorem dX5_run_21 : decode cX5_run 21 = .ok (.ifCond .eq 11, 3) := g_153 11 bX5_run rfl rfl
theorem dX5_run_24 : decode cX5_run 24 = .ok (.aload_n 0, 1) := g_42 bX5_run rfl
theorem dX5_run_25 : decode cX5_run 25 = .ok (.iload_n 1, 1) := g_27 bX5_run rfl
theorem dX5_run_26 : decode cX5_run 26 = .ok (.invokevirtual 100, 3) := g_182 bX5_run rfl
theorem dX5_run_29 : decode cX5_run 29 = .ok (.goto 5, 3) := g_167 5 bX5_run rfl rfl
theorem dX5_run_32 : decode cX5_run 32 = .ok (.bipush (-2), 2) := g_16 254 bX5_run rfl rfl
theorem dX5_run_34 : decode cX5_run 34 = .ok (.istore 4, 2) := g_54 bX5_run rfl
theorem dX5_run_36 : decode cX5_run 36 = .ok (.iload 4, 2) := g_21 bX5_run rfl
theorem dX5_run_38 : decode cX5_run 38 = .ok (.ifCond .eq 10, 3) := g_153 10 bX5_run rfl rfl
theorem dX5_run_41 : decode cX5_run 41 = .ok (.aload_n 0, 1) := g_42 bX5_run rfl
theorem dX5_run_42 : decode cX5_run 42 = .ok (.iload 4, 2) := g_21 bX5_run rfl
theorem dX5_run_44 : decode cX5_run 44 = .ok (.invokevirtual 56, 3) := g_182 bX5_run rfl
theorem dX5_run_47 : decode cX5_run 47 = .ok (.ireturn, 1) := g_172 bX5_run rfl
theorem dX5_run_48 : decode cX5_run 48 = .ok (.aload_n 0, 1) := g_42 bX5_run rfl
theorem dX5_run_49 : decode cX5_run 49 = .ok (.getfield 22, 3) := g_180 bX5_run rfl
theorem dX5_run_52 : decode cX5_run 52 = .ok (.aload_n 0, 1) := g_42 bX5_run rfl
theorem dX5_run_53 : decode cX5_run 53 = .ok (.getfield 22, 3) := g_180 bX5_run rfl
theorem dX5_run_56 : decode cX5_run 56 = .ok (.aload_n 0, 1) := g_42 bX5_run rfl
theorem dX5_run_57 : decode cX5_run 57 = .ok (.getfield 10, 3) := g_180 bX5_run rfl
theorem dX5_run_60 : decode cX5_run 60 = .ok (.invokevirtual 115, 3) := g_182 bX5_run rfl
theorem dX5_run_63 : decode cX5_run 63 = .ok (.aload_n 0, 1) := g_42 bX5_run rfl
theorem dX5_run_64 : decode cX5_run 64 = .ok (.getfield 29, 3) := g_180 bX5_run rfl
theorem dX5_run_67 : decode cX5_run 67 = .ok (.iload_n 1, 1) := g_27 bX5_run rfl
theorem dX5_run_68 : decode cX5_run 68 = .ok (.invokevirtual 103, 3) := g_182 bX5_run rfl
theorem dX5_run_71 : decode cX5_run 71 = .ok (.aload_n 0, 1) := g_42 bX5_run rfl
theorem dX5_run_72 : decode cX5_run 72 = .ok (.getfield 29, 3) := g_180 bX5_run rfl
theorem dX5_run_75 : decode cX5_run 75 = .ok (.getfield 112, 3) := g_180 bX5_run rfl
theorem dX5_run_78 : decode cX5_run 78 = .ok (.iload_n 1, 1) := g_27 bX5_run rfl
theorem dX5_run_79 : decode cX5_run 79 = .ok (.iaload, 1) := g_46 bX5_run rfl
theorem dX5_run_80 : decode cX5_run 80 = .ok (.iload_n 2, 1) := g_28 bX5_run rfl
theorem dX5_run_81 : decode cX5_run 81 = .ok (.invokevirtual 254, 3) := g_182 bX5_run rfl
theorem dX5_run_84 : decode cX5_run 84 = .ok (.istore 5, 2) := g_54 bX5_run rfl
theorem dX5_run_86 : decode cX5_run 86 = .ok (.iload_n 3, 1) := g_29 bX5_run rfl
theorem dX5_run_87 : decode cX5_run 87 = .ok (.tableswitch 50 0 2 #[25, 28, 36], 25) := by decide +kernel
theorem dX5_run_112 : decode cX5_run 112 = .ok (.iload 5, 2) := g_21 bX5_run rfl
theorem dX5_run_114 : decode cX5_run 114 = .ok (.ireturn, 1) := g_172 bX5_run rfl
theorem dX5_run_115 : decode cX5_run 115 = .ok (.aload_n 0, 1) := g_42 bX5_run rfl
theorem dX5_run_116 : decode cX5_run 116 = .ok (.getfield 22, 3) := g_180 bX5_run rfl
theorem dX5_run_119 : decode cX5_run 119 = .ok (.getfield 258, 3) := g_180 bX5_run rfl
theorem dX5_run_122 : decode cX5_run 122 = .ok (.ireturn, 1) := g_172 bX5_run rfl
theorem dX5_run_123 : decode cX5_run 123 = .ok (.aload_n 0, 1) := g_42 bX5_run rfl
theorem dX5_run_124 : decode cX5_run 124 = .ok (.getfield 22, 3) := g_180 bX5_run rfl
theorem dX5_run_127 : decode cX5_run 127 = .ok (.getfield 261, 3) := g_180 bX5_run rfl
theorem dX5_run_130 : decode cX5_run 130 = .ok (.getfield 180, 3) := g_180 bX5_run rfl
theorem dX5_run_133 : decode cX5_run 133 = .ok (.invokestatic 264, 3) := g_184 bX5_run rfl
theorem dX5_run_136 : decode cX5_run 136 = .ok (.ireturn, 1) := g_172 bX5_run rfl
theorem dX5_run_137 : decode cX5_run 137 = .ok (.aload_n 0, 1) := g_42 bX5_run rfl
theorem dX5_run_138 : decode cX5_run 138 = .ok (.getfield 22, 3) := g_180 bX5_run rfl
theorem dX5_run_141 : decode cX5_run 141 = .ok (.getfield 261, 3) := g_180 bX5_run rfl
theorem dX5_run_144 : decode cX5_run 144 = .ok (.invokevirtual 269, 3) := g_182 bX5_run rfl
theorem dX5_run_147 : decode cX5_run 147 = .ok (.invokestatic 264, 3) := g_184 bX5_run rfl
theorem dX5_run_150 : decode cX5_run 150 = .ok (.ireturn, 1) := g_172 bX5_run rfl
theorem dX5_seed_0 : decode cX5_seed 0 = .ok (.aload_n 0, 1) := g_42 bX5_seed rfl
theorem dX5_seed_1 : decode cX5_seed 1 = .ok (.getfield 10, 3) := g_180 bX5_seed rfl
theorem dX5_seed_4 : decode cX5_seed 4 = .ok (.getfield 341, 3) := g_180 bX5_seed rfl
theorem dX5_seed_7 : decode cX5_seed 7 = .ok (.istore_n 2, 1) := g_61 bX5_seed rfl
theorem dX5_seed_8 : decode cX5_seed 8 = .ok (.aload_n 0, 1) := g_42 bX5_seed rfl
theorem dX5_seed_9 : decode cX5_seed 9 = .ok (.getfield 10, 3) := g_180 bX5_seed rfl
theorem dX5_seed_12 : decode cX5_seed 12 = .ok (.iload_n 1, 1) := g_27 bX5_seed rfl
theorem dX5_seed_13 : decode cX5_seed 13 = .ok (.putfield 341, 3) := g_181 bX5_seed rfl
theorem dX5_seed_16 : decode cX5_seed 16 = .ok (.iload_n 2, 1) := g_28 bX5_seed rfl
theorem dX5_seed_17 : decode cX5_seed 17 = .ok (.ireturn, 1) := g_172 bX5_seed rfl
theorem dX5_status_0 : decode cX5_status 0 = .ok (.iload_n 1, 1) := g_27 bX5_status rfl
theorem dX5_status_1 : decode cX5_status 1 = .ok (.i2l, 1) := g_133 bX5_status rfl
theorem dX5_status_2 : decode cX5_status 2 = .ok (.ldc2_w 348, 3) := g_20 bX5_status rfl
theorem dX5_status_5 : decode cX5_status 5 = .ok (.ldc2_w 350, 3) := g_20 bX5_status rfl
theorem dX5_status_8 : decode cX5_status 8 = .ok (.invokestatic 50, 3) := g_184 bX5_status rfl
theorem dX5_status_11 : decode cX5_status 11 = .ok (.ifCond .eq 13, 3) := g_153 13 bX5_status rfl rfl
theorem dX5_status_14 : decode cX5_status 14 = .ok (.aload_n 0, 1) := g_42 bX5_status rfl
theorem dX5_status_15 : decode cX5_status 15 = .ok (.getfield 40, 3) := g_180 bX5_status rfl
theorem dX5_status_18 : decode cX5_status 18 = .ok (.iload_n 1, 1) := g_27 bX5_status rfl
theorem dX5_status_19 : decode cX5_status 19 = .ok (.bipush 12, 2) := g_16 12 bX5_status rfl rfl
theorem dX5_status_21 : decode cX5_status 21 = .ok (.isub, 1) := g_100 bX5_status rfl
theorem dX5_status_22 : decode cX5_status 22 = .ok (.iaload, 1) := g_46 bX5_status rfl
theorem dX5_status_23 : decode cX5_status 23 = .ok (.ireturn, 1) := g_172 bX5_status rfl
theorem dX5_status_24 : decode cX5_status 24 = .ok (.iload_n 1, 1) := g_27 bX5_status rfl
theorem dX5_status_25 : decode cX5_status 25 = .ok (.tableswitch 123 0 8 #[51, 59, 70, 78, 89, 94, 99, 107, 115], 51) := by decide +kernel
theorem dX5_status_76 : decode cX5_status 76 = .ok (.aload_n 0, 1) := g_42 bX5_status rfl
theorem dX5_status_77 : decode cX5_status 77 = .ok (.getfield 10, 3) := g_180 bX5_status rfl
theorem dX5_status_80 : decode cX5_status 80 = .ok (.getfield 127, 3) := g_180 bX5_status rfl
theorem dX5_status_83 : decode cX5_status 83 = .ok (.ireturn, 1) := g_172 bX5_status rfl
theorem dX5_status_84 : decode cX5_status 84 = .ok (.aload_n 0, 1) := g_42 bX5_status rfl
theorem dX5_status_85 : decode cX5_status 85 = .ok (.getfield 10, 3) := g_180 bX5_status rfl
theorem dX5_status_88 : decode cX5_status 88 = .ok (.getfield 180, 3) := g_180 bX5_status rfl
theorem dX5_status_91 : decode cX5_status 91 = .ok (.invokestatic 264, 3) := g_184 bX5_status rfl
theorem dX5_status_94 : decode cX5_status 94 = .ok (.ireturn, 1) := g_172 bX5_status rfl
theorem dX5_status_95 : decode cX5_status 95 = .ok (.aload_n 0, 1) := g_42 bX5_status rfl
theorem dX5_status_96 : decode cX5_status 96 = .ok (.getfield 10, 3) := g_180 bX5_status rfl
theorem dX5_status_99 : decode cX5_status 99 = .ok (.getfield 141, 3) := g_180 bX5_status rfl
theorem dX5_status_102 : decode cX5_status 102 = .ok (.ireturn, 1) := g_172 bX5_status rfl
theorem dX5_status_103 : decode cX5_status 103 = .ok (.aload_n 0, 1) := g_42 bX5_status rfl
theorem dX5_status_104 : decode cX5_status 104 = .ok (.getfield 10, 3) := g_180 bX5_status rfl
theorem dX5_status_107 : decode cX5_status 107 = .ok (.getfield 207, 3) := g_180 bX5_status rfl
theorem dX5_status_110 : decode cX5_status 110 = .ok (.invokestatic 264, 3) := g_184 bX5_status rfl
theorem dX5_status_113 : decode cX5_status 113 = .ok (.ireturn, 1) := g_172 bX5_status rfl
theorem dX5_status_114 : decode cX5_status 114 = .ok (.aload_n 0, 1) := g_42 bX5_status rfl
theorem dX5_status_115 : decode cX5_status 115 = .ok (.getfield 335, 3) := g_180 bX5_status rfl
theorem dX5_status_118 : decode cX5_status 118 = .ok (.ireturn, 1) := g_172 bX5_status rfl
theorem dX5_status_119 : decode cX5_status 119 = .ok (.aload_n 0, 1) := g_42 bX5_status rfl
theorem dX5_status_120 : decode cX5_status 120 = .ok (.getfield 338, 3) := g_180 bX5_status rfl
theorem dX5_status_123 : decode cX5_status 123 = .ok (.ireturn, 1) := g_172 bX5_status rfl
theorem dX5_status_124 : decode cX5_status 124 = .ok (.aload_n 0, 1) := g_42 bX5_status rfl
theorem dX5_status_125 : decode cX5_status 125 = .ok (.getfield 36, 3) := g_180 bX5_status rfl
theorem dX5_status_128 : decode cX5_status 128 = .ok (.getfield 148, 3) := g_180 bX5_status rfl
theorem dX5_status_131 : decode cX5_status 131 = .ok (.ireturn, 1) := g_172 bX5_status rfl
theorem dX5_status_132 : decode cX5_status 132 = .ok (.aload_n 0, 1) := g_42 bX5_status rfl
theorem dX5_status_133 : decode cX5_status 133 = .ok (.getfield 10, 3) := g_180 bX5_status rfl
theorem dX5_status_136 : decode cX5_status 136 = .ok (.getfield 341, 3) := g_180 bX5_status rfl
theorem dX5_status_139 : decode cX5_status 139 = .ok (.ireturn, 1) := g_172 bX5_status rfl
theorem dX5_status_140 : decode cX5_status 140 = .ok (.aload_n 0, 1) := g_42 bX5_status rfl
theorem dX5_status_141 : decode cX5_status 141 = .ok (.getfield 29, 3) := g_180 bX5_status rfl
theorem dX5_status_144 : decode cX5_status 144 = .ok (.invokevirtual 352, 3) := g_182 bX5_status rfl
theorem dX5_status_147 : decode cX5_status 147 = .ok (.ireturn, 1) := g_172 bX5_status rfl
theorem dX5_status_148 : decode cX5_status 148 = .ok (.iconst (-1), 1) := g_2 bX5_status rfl
theorem dX5_status_149 : decode cX5_status 149 = .ok (.ireturn, 1) := g_172 bX5_status rfl
theorem dX5_teach_0 : decode cX5_teach 0 = .ok (.aload_n 0, 1) := g_42 bX5_teach rfl
theorem dX5_teach_1 : decode cX5_teach 1 = .ok (.iload_n 1, 1) := g_27 bX5_teach rfl
theorem dX5_teach_2 : decode cX5_teach 2 = .ok (.iload_n 2, 1) := g_28 bX5_teach rfl
theorem dX5_teach_3 : decode cX5_teach 3 = .ok (.invokevirtual 210, 3) := g_182 bX5_teach rfl
theorem dX5_teach_6 : decode cX5_teach 6 = .ok (.ifCond .ne 10, 3) := g_154 10 bX5_teach rfl rfl
theorem dX5_teach_9 : decode cX5_teach 9 = .ok (.aload_n 0, 1) := g_42 bX5_teach rfl
theorem dX5_teach_10 : decode cX5_teach 10 = .ok (.bipush (-2), 2) := g_16 254 bX5_teach rfl rfl
theorem dX5_teach_12 : decode cX5_teach 12 = .ok (.invokevirtual 56, 3) := g_182 bX5_teach rfl
theorem dX5_teach_15 : decode cX5_teach 15 = .ok (.ireturn, 1) := g_172 bX5_teach rfl
theorem dX5_teach_16 : decode cX5_teach 16 = .ok (.aload_n 0, 1) := g_42 bX5_teach rfl
theorem dX5_teach_17 : decode cX5_teach 17 = .ok (.getfield 10, 3) := g_180 bX5_teach rfl
theorem dX5_teach_20 : decode cX5_teach 20 = .ok (.getfield 207, 3) := g_180 bX5_teach rfl
theorem dX5_teach_23 : decode cX5_teach 23 = .ok (.iload_n 1, 1) := g_27 bX5_teach rfl
theorem dX5_teach_24 : decode cX5_teach 24 = .ok (.invokestatic 183, 3) := g_184 bX5_teach rfl
theorem dX5_teach_27 : decode cX5_teach 27 = .ok (.ifCond .eq 10, 3) := g_153 10 bX5_teach rfl rfl
theorem dX5_teach_30 : decode cX5_teach 30 = .ok (.aload_n 0, 1) := g_42 bX5_teach rfl
theorem dX5_teach_31 : decode cX5_teach 31 = .ok (.bipush (-5), 2) := g_16 251 bX5_teach rfl rfl
theorem dX5_teach_33 : decode cX5_teach 33 = .ok (.invokevirtual 56, 3) := g_182 bX5_teach rfl
theorem dX5_teach_36 : decode cX5_teach 36 = .ok (.ireturn, 1) := g_172 bX5_teach rfl
theorem dX5_teach_37 : decode cX5_teach 37 = .ok (.iconst (-1), 1) := g_2 bX5_teach rfl
theorem dX5_teach_38 : decode cX5_teach 38 = .ok (.istore_n 3, 1) := g_62 bX5_teach rfl
theorem dX5_teach_39 : decode cX5_teach 39 = .ok (.iconst 0, 1) := g_3 bX5_teach rfl
theorem dX5_teach_40 : decode cX5_teach 40 = .ok (.istore 4, 2) := g_54 bX5_teach rfl
theorem dX5_teach_42 : decode cX5_teach 42 = .ok (.iconst 0, 1) := g_3 bX5_teach rfl
theorem dX5_teach_43 : decode cX5_teach 43 = .ok (.istore 5, 2) := g_54 bX5_teach rfl
theorem dX5_teach_45 : decode cX5_teach 45 = .ok (.iload 5, 2) := g_21 bX5_teach rfl
theorem dX5_teach_47 : decode cX5_teach 47 = .ok (.aload_n 0, 1) := g_42 bX5_teach rfl
theorem dX5_teach_48 : decode cX5_teach 48 = .ok (.getfield 10, 3) := g_180 bX5_teach rfl
theorem dX5_teach_51 : decode cX5_teach 51 = .ok (.getfield 141, 3) := g_180 bX5_teach rfl
theorem dX5_teach_54 : decode cX5_teach 54 = .ok (.if_icmp .ge 61, 3) := g_162 61 bX5_teach rfl rfl
theorem dX5_teach_57 : decode cX5_teach 57 = .ok (.iload 5, 2) := g_21 bX5_teach rfl
theorem dX5_teach_59 : decode cX5_teach 59 = .ok (.iload_n 1, 1) := g_27 bX5_teach rfl
theorem dX5_teach_60 : decode cX5_teach 60 = .ok (.if_icmp .eq 18, 3) := g_159 18 bX5_teach rfl rfl
theorem dX5_teach_63 : decode cX5_teach 63 = .ok (.aload_n 0, 1) := g_42 bX5_teach rfl
theorem dX5_teach_64 : decode cX5_teach 64 = .ok (.getfield 10, 3) := g_180 bX5_teach rfl
theorem dX5_teach_67 : decode cX5_teach 67 = .ok (.getfield 207, 3) := g_180 bX5_teach rfl
theorem dX5_teach_70 : decode cX5_teach 70 = .ok (.iload 5, 2) := g_21 bX5_teach rfl
theorem dX5_teach_72 : decode cX5_teach 72 = .ok (.invokestatic 183, 3) := g_184 bX5_teach rfl
theorem dX5_teach_75 : decode cX5_teach 75 = .ok (.ifCond .eq 7, 3) := g_153 7 bX5_teach rfl rfl
theorem dX5_teach_78 : decode cX5_teach 78 = .ok (.iconst 0, 1) := g_3 bX5_teach rfl
theorem dX5_teach_79 : decode cX5_teach 79 = .ok (.goto 14, 3) := g_167 14 bX5_teach rfl rfl
theorem dX5_teach_82 : decode cX5_teach 82 = .ok (.aload_n 0, 1) := g_42 bX5_teach rfl
theorem dX5_teach_83 : decode cX5_teach 83 = .ok (.getfield 10, 3) := g_180 bX5_teach rfl
theorem dX5_teach_86 : decode cX5_teach 86 = .ok (.iload_n 1, 1) := g_27 bX5_teach rfl
theorem dX5_teach_87 : decode cX5_teach 87 = .ok (.iload 5, 2) := g_21 bX5_teach rfl
theorem dX5_teach_89 : decode cX5_teach 89 = .ok (.iload_n 2, 1) := g_28 bX5_teach rfl
theorem dX5_teach_90 : decode cX5_teach 90 = .ok (.invokevirtual 238, 3) := g_182 bX5_teach rfl
theorem dX5_teach_93 : decode cX5_teach 93 = .ok (.istore 6, 2) := g_54 bX5_teach rfl
theorem dX5_teach_95 : decode cX5_teach 95 = .ok (.iload 6, 2) := g_21 bX5_teach rfl
theorem dX5_teach_97 : decode cX5_teach 97 = .ok (.iload 4, 2) := g_21 bX5_teach rfl
theorem dX5_teach_99 : decode cX5_teach 99 = .ok (.if_icmp .le 10, 3) := g_164 10 bX5_teach rfl rfl
theorem dX5_teach_102 : decode cX5_teach 102 = .ok (.iload 5, 2) := g_21 bX5_teach rfl
theorem dX5_teach_104 : decode cX5_teach 104 = .ok (.istore_n 3, 1) := g_62 bX5_teach rfl
theorem dX5_teach_105 : decode cX5_teach 105 = .ok (.iload 6, 2) := g_21 bX5_teach rfl
theorem dX5_teach_107 : decode cX5_teach 107 = .ok (.istore 4, 2) := g_54 bX5_teach rfl
theorem dX5_teach_109 : decode cX5_teach 109 = .ok (.iinc 5 1, 3) := g_132 1 bX5_teach rfl rfl
theorem dX5_teach_112 : decode cX5_teach 112 = .ok (.goto (-67), 3) := g_167 65469 bX5_teach rfl rfl
theorem dX5_teach_115 : decode cX5_teach 115 = .ok (.iload_n 3, 1) := g_29 bX5_teach rfl
theorem dX5_teach_116 : decode cX5_teach 116 = .ok (.ireturn, 1) := g_172 bX5_teach rfl
theorem dX5_told_0 : decode cX5_told 0 = .ok (.aload_n 0, 1) := g_42 bX5_told rfl
theorem dX5_told_1 : decode cX5_told 1 = .ok (.iload_n 1, 1) := g_27 bX5_told rfl
theorem dX5_told_2 : decode cX5_told 2 = .ok (.iload_n 2, 1) := g_28 bX5_told rfl
theorem dX5_told_3 : decode cX5_told 3 = .ok (.invokevirtual 321, 3) := g_182 bX5_told rfl
theorem dX5_told_6 : decode cX5_told 6 = .ok (.istore_n 3, 1) := g_62 bX5_told rfl
theorem dX5_told_7 : decode cX5_told 7 = .ok (.iload_n 3, 1) := g_29 bX5_told rfl
theorem dX5_told_8 : decode cX5_told 8 = .ok (.ifCond .ne 16, 3) := g_154 16 bX5_told rfl rfl
theorem dX5_told_11 : decode cX5_told 11 = .ok (.aload_n 0, 1) := g_42 bX5_told rfl
theorem dX5_told_12 : decode cX5_told 12 = .ok (.iload_n 1, 1) := g_27 bX5_told rfl
theorem dX5_told_13 : decode cX5_told 13 = .ok (.iload_n 2, 1) := g_28 bX5_told rfl
theorem dX5_told_14 : decode cX5_told 14 = .ok (.invokevirtual 324, 3) := g_182 bX5_told rfl
theorem dX5_told_17 : decode cX5_told 17 = .ok (.iconst (-1), 1) := g_2 bX5_told rfl
theorem dX5_told_18 : decode cX5_told 18 = .ok (.if_icmp .eq 6, 3) := g_159 6 bX5_told rfl rfl
theorem dX5_told_21 : decode cX5_told 21 = .ok (.bipush (-5), 2) := g_16 251 bX5_told rfl rfl
theorem dX5_told_23 : decode cX5_told 23 = .ok (.istore_n 3, 1) := g_62 bX5_told rfl
theorem dX5_told_24 : decode cX5_told 24 = .ok (.iload_n 3, 1) := g_29 bX5_told rfl
theorem dX5_told_25 : decode cX5_told 25 = .ok (.ifCond .ne 16, 3) := g_154 16 bX5_told rfl rfl
theorem dX5_told_28 : decode cX5_told 28 = .ok (.aload_n 0, 1) := g_42 bX5_told rfl
theorem dX5_told_29 : decode cX5_told 29 = .ok (.getfield 22, 3) := g_180 bX5_told rfl
theorem dX5_told_32 : decode cX5_told 32 = .ok (.getfield 261, 3) := g_180 bX5_told rfl
theorem dX5_told_35 : decode cX5_told 35 = .ok (.invokevirtual 123, 3) := g_182 bX5_told rfl
theorem dX5_told_38 : decode cX5_told 38 = .ok (.goto 8, 3) := g_167 8 bX5_told rfl rfl
