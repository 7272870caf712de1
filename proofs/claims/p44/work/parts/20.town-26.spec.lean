section
theorem dX4_afterTelling_0 : decode cX4_afterTelling 0 = .ok (.iload_n 0, 1) := g_26 bX4_afterTelling rfl
theorem dX4_afterTelling_1 : decode cX4_afterTelling 1 = .ok (.iload_n 1, 1) := g_27 bX4_afterTelling rfl
theorem dX4_afterTelling_2 : decode cX4_afterTelling 2 = .ok (.imul, 1) := g_104 bX4_afterTelling rfl
theorem dX4_afterTelling_3 : decode cX4_afterTelling 3 = .ok (.bipush 10, 2) := g_16 10 bX4_afterTelling rfl rfl
theorem dX4_afterTelling_5 : decode cX4_afterTelling 5 = .ok (.idiv, 1) := g_108 bX4_afterTelling rfl
theorem dX4_afterTelling_6 : decode cX4_afterTelling 6 = .ok (.ireturn, 1) := g_172 bX4_afterTelling rfl
theorem dX4_booksKnown_0 : decode cX4_booksKnown 0 = .ok (.iconst 0, 1) := g_3 bX4_booksKnown rfl
theorem dX4_booksKnown_1 : decode cX4_booksKnown 1 = .ok (.istore_n 3, 1) := g_62 bX4_booksKnown rfl
theorem dX4_booksKnown_2 : decode cX4_booksKnown 2 = .ok (.iconst 0, 1) := g_3 bX4_booksKnown rfl
theorem dX4_booksKnown_3 : decode cX4_booksKnown 3 = .ok (.istore 4, 2) := g_54 bX4_booksKnown rfl
theorem dX4_booksKnown_5 : decode cX4_booksKnown 5 = .ok (.iload 4, 2) := g_21 bX4_booksKnown rfl
theorem dX4_booksKnown_7 : decode cX4_booksKnown 7 = .ok (.aload_n 0, 1) := g_42 bX4_booksKnown rfl
theorem dX4_booksKnown_8 : decode cX4_booksKnown 8 = .ok (.getfield 40, 3) := g_180 bX4_booksKnown rfl
theorem dX4_booksKnown_11 : decode cX4_booksKnown 11 = .ok (.if_icmp .ge 27, 3) := g_162 27 bX4_booksKnown rfl rfl
theorem dX4_booksKnown_14 : decode cX4_booksKnown 14 = .ok (.aload_n 0, 1) := g_42 bX4_booksKnown rfl
theorem dX4_booksKnown_15 : decode cX4_booksKnown 15 = .ok (.iload 4, 2) := g_21 bX4_booksKnown rfl
theorem dX4_booksKnown_17 : decode cX4_booksKnown 17 = .ok (.iload_n 1, 1) := g_27 bX4_booksKnown rfl
theorem dX4_booksKnown_18 : decode cX4_booksKnown 18 = .ok (.invokevirtual 75, 3) := g_182 bX4_booksKnown rfl
theorem dX4_booksKnown_21 : decode cX4_booksKnown 21 = .ok (.iload_n 2, 1) := g_28 bX4_booksKnown rfl
theorem dX4_booksKnown_22 : decode cX4_booksKnown 22 = .ok (.if_icmp .lt 10, 3) := g_161 10 bX4_booksKnown rfl rfl
theorem dX4_booksKnown_25 : decode cX4_booksKnown 25 = .ok (.iload_n 3, 1) := g_29 bX4_booksKnown rfl
theorem dX4_booksKnown_26 : decode cX4_booksKnown 26 = .ok (.iconst 1, 1) := g_4 bX4_booksKnown rfl
theorem dX4_booksKnown_27 : decode cX4_booksKnown 27 = .ok (.iload 4, 2) := g_21 bX4_booksKnown rfl
theorem dX4_booksKnown_29 : decode cX4_booksKnown 29 = .ok (.ishl, 1) := g_120 bX4_booksKnown rfl
theorem dX4_booksKnown_30 : decode cX4_booksKnown 30 = .ok (.ior, 1) := g_128 bX4_booksKnown rfl
theorem dX4_booksKnown_31 : decode cX4_booksKnown 31 = .ok (.istore_n 3, 1) := g_62 bX4_booksKnown rfl
theorem dX4_booksKnown_32 : decode cX4_booksKnown 32 = .ok (.iinc 4 1, 3) := g_132 1 bX4_booksKnown rfl rfl
theorem dX4_booksKnown_35 : decode cX4_booksKnown 35 = .ok (.goto (-30), 3) := g_167 65506 bX4_booksKnown rfl rfl
theorem dX4_booksKnown_38 : decode cX4_booksKnown 38 = .ok (.iload_n 3, 1) := g_29 bX4_booksKnown rfl
theorem dX4_booksKnown_39 : decode cX4_booksKnown 39 = .ok (.ireturn, 1) := g_172 bX4_booksKnown rfl
theorem dX4_gainByTelling_0 : decode cX4_gainByTelling 0 = .ok (.iconst 0, 1) := g_3 bX4_gainByTelling rfl
theorem dX4_gainByTelling_1 : decode cX4_gainByTelling 1 = .ok (.aload_n 0, 1) := g_42 bX4_gainByTelling rfl
theorem dX4_gainByTelling_2 : decode cX4_gainByTelling 2 = .ok (.iload_n 1, 1) := g_27 bX4_gainByTelling rfl
theorem dX4_gainByTelling_3 : decode cX4_gainByTelling 3 = .ok (.iload_n 3, 1) := g_29 bX4_gainByTelling rfl
theorem dX4_gainByTelling_4 : decode cX4_gainByTelling 4 = .ok (.invokevirtual 66, 3) := g_182 bX4_gainByTelling rfl
theorem dX4_gainByTelling_7 : decode cX4_gainByTelling 7 = .ok (.aload_n 0, 1) := g_42 bX4_gainByTelling rfl
theorem dX4_gainByTelling_8 : decode cX4_gainByTelling 8 = .ok (.getfield 34, 3) := g_180 bX4_gainByTelling rfl
theorem dX4_gainByTelling_11 : decode cX4_gainByTelling 11 = .ok (.iload_n 1, 1) := g_27 bX4_gainByTelling rfl
theorem dX4_gainByTelling_12 : decode cX4_gainByTelling 12 = .ok (.iaload, 1) := g_46 bX4_gainByTelling rfl
theorem dX4_gainByTelling_13 : decode cX4_gainByTelling 13 = .ok (.invokestatic 98, 3) := g_184 bX4_gainByTelling rfl
theorem dX4_gainByTelling_16 : decode cX4_gainByTelling 16 = .ok (.aload_n 0, 1) := g_42 bX4_gainByTelling rfl
theorem dX4_gainByTelling_17 : decode cX4_gainByTelling 17 = .ok (.iload_n 2, 1) := g_28 bX4_gainByTelling rfl
theorem dX4_gainByTelling_18 : decode cX4_gainByTelling 18 = .ok (.iload_n 3, 1) := g_29 bX4_gainByTelling rfl
theorem dX4_gainByTelling_19 : decode cX4_gainByTelling 19 = .ok (.invokevirtual 66, 3) := g_182 bX4_gainByTelling rfl
theorem dX4_gainByTelling_22 : decode cX4_gainByTelling 22 = .ok (.isub, 1) := g_100 bX4_gainByTelling rfl
theorem dX4_gainByTelling_23 : decode cX4_gainByTelling 23 = .ok (.invokestatic 70, 3) := g_184 bX4_gainByTelling rfl
theorem dX4_gainByTelling_26 : decode cX4_gainByTelling 26 = .ok (.ireturn, 1) := g_172 bX4_gainByTelling rfl
theorem dX4_grasped_0 : decode cX4_grasped 0 = .ok (.iload_n 0, 1) := g_26 bX4_grasped rfl
theorem dX4_grasped_1 : decode cX4_grasped 1 = .ok (.iload_n 1, 1) := g_27 bX4_grasped rfl
theorem dX4_grasped_2 : decode cX4_grasped 2 = .ok (.sipush 1000, 3) := g_17 1000 bX4_grasped rfl rfl
theorem dX4_grasped_5 : decode cX4_grasped 5 = .ok (.iadd, 1) := g_96 bX4_grasped rfl
theorem dX4_grasped_6 : decode cX4_grasped 6 = .ok (.imul, 1) := g_104 bX4_grasped rfl
theorem dX4_grasped_7 : decode cX4_grasped 7 = .ok (.sipush 2000, 3) := g_17 2000 bX4_grasped rfl rfl
theorem dX4_grasped_10 : decode cX4_grasped 10 = .ok (.idiv, 1) := g_108 bX4_grasped rfl
theorem dX4_grasped_11 : decode cX4_grasped 11 = .ok (.ireturn, 1) := g_172 bX4_grasped rfl
theorem dX4_groundOf_0 : decode cX4_groundOf 0 = .ok (.sipush 1000, 3) := g_17 1000 bX4_groundOf rfl rfl
theorem dX4_groundOf_3 : decode cX4_groundOf 3 = .ok (.istore_n 3, 1) := g_62 bX4_groundOf rfl
theorem dX4_groundOf_4 : decode cX4_groundOf 4 = .ok (.iconst 0, 1) := g_3 bX4_groundOf rfl
theorem dX4_groundOf_5 : decode cX4_groundOf 5 = .ok (.istore 4, 2) := g_54 bX4_groundOf rfl
theorem dX4_groundOf_7 : decode cX4_groundOf 7 = .ok (.iload 4, 2) := g_21 bX4_groundOf rfl
theorem dX4_groundOf_9 : decode cX4_groundOf 9 = .ok (.iload_n 2, 1) := g_28 bX4_groundOf rfl
theorem dX4_groundOf_10 : decode cX4_groundOf 10 = .ok (.if_icmp .ge 52, 3) := g_162 52 bX4_groundOf rfl rfl
theorem dX4_groundOf_13 : decode cX4_groundOf 13 = .ok (.aload_n 0, 1) := g_42 bX4_groundOf rfl
theorem dX4_groundOf_14 : decode cX4_groundOf 14 = .ok (.getfield 19, 3) := g_180 bX4_groundOf rfl
theorem dX4_groundOf_17 : decode cX4_groundOf 17 = .ok (.iload_n 2, 1) := g_28 bX4_groundOf rfl
theorem dX4_groundOf_18 : decode cX4_groundOf 18 = .ok (.iaload, 1) := g_46 bX4_groundOf rfl
theorem dX4_groundOf_19 : decode cX4_groundOf 19 = .ok (.iload 4, 2) := g_21 bX4_groundOf rfl
theorem dX4_groundOf_21 : decode cX4_groundOf 21 = .ok (.ishr, 1) := g_122 bX4_groundOf rfl
theorem dX4_groundOf_22 : decode cX4_groundOf 22 = .ok (.iconst 1, 1) := g_4 bX4_groundOf rfl
theorem dX4_groundOf_23 : decode cX4_groundOf 23 = .ok (.iand, 1) := g_126 bX4_groundOf rfl
theorem dX4_groundOf_24 : decode cX4_groundOf 24 = .ok (.ifCond .eq 32, 3) := g_153 32 bX4_groundOf rfl rfl
theorem dX4_groundOf_27 : decode cX4_groundOf 27 = .ok (.aload_n 0, 1) := g_42 bX4_groundOf rfl
theorem dX4_groundOf_28 : decode cX4_groundOf 28 = .ok (.getfield 37, 3) := g_180 bX4_groundOf rfl
theorem dX4_groundOf_31 : decode cX4_groundOf 31 = .ok (.iload_n 1, 1) := g_27 bX4_groundOf rfl
theorem dX4_groundOf_32 : decode cX4_groundOf 32 = .ok (.bipush 8, 2) := g_16 8 bX4_groundOf rfl rfl
theorem dX4_groundOf_34 : decode cX4_groundOf 34 = .ok (.imul, 1) := g_104 bX4_groundOf rfl
theorem dX4_groundOf_35 : decode cX4_groundOf 35 = .ok (.iload 4, 2) := g_21 bX4_groundOf rfl
theorem dX4_groundOf_37 : decode cX4_groundOf 37 = .ok (.iadd, 1) := g_96 bX4_groundOf rfl
theorem dX4_groundOf_38 : decode cX4_groundOf 38 = .ok (.iaload, 1) := g_46 bX4_groundOf rfl
theorem dX4_groundOf_39 : decode cX4_groundOf 39 = .ok (.iload_n 3, 1) := g_29 bX4_groundOf rfl
theorem dX4_groundOf_40 : decode cX4_groundOf 40 = .ok (.if_icmp .ge 16, 3) := g_162 16 bX4_groundOf rfl rfl
theorem dX4_groundOf_43 : decode cX4_groundOf 43 = .ok (.aload_n 0, 1) := g_42 bX4_groundOf rfl
theorem dX4_groundOf_44 : decode cX4_groundOf 44 = .ok (.getfield 37, 3) := g_180 bX4_groundOf rfl
theorem dX4_groundOf_47 : decode cX4_groundOf 47 = .ok (.iload_n 1, 1) := g_27 bX4_groundOf rfl
theorem dX4_groundOf_48 : decode cX4_groundOf 48 = .ok (.bipush 8, 2) := g_16 8 bX4_groundOf rfl rfl
theorem dX4_groundOf_50 : decode cX4_groundOf 50 = .ok (.imul, 1) := g_104 bX4_groundOf rfl
theorem dX4_groundOf_51 : decode cX4_groundOf 51 = .ok (.iload 4, 2) := g_21 bX4_groundOf rfl
theorem dX4_groundOf_53 : decode cX4_groundOf 53 = .ok (.iadd, 1) := g_96 bX4_groundOf rfl
theorem dX4_groundOf_54 : decode cX4_groundOf 54 = .ok (.iaload, 1) := g_46 bX4_groundOf rfl
theorem dX4_groundOf_55 : decode cX4_groundOf 55 = .ok (.istore_n 3, 1) := g_62 bX4_groundOf rfl
theorem dX4_groundOf_56 : decode cX4_groundOf 56 = .ok (.iinc 4 1, 3) := g_132 1 bX4_groundOf rfl rfl
theorem dX4_groundOf_59 : decode cX4_groundOf 59 = .ok (.goto (-52), 3) := g_167 65484 bX4_groundOf rfl rfl
theorem dX4_groundOf_62 : decode cX4_groundOf 62 = .ok (.iload_n 3, 1) := g_29 bX4_groundOf rfl
theorem dX4_groundOf_63 : decode cX4_groundOf 63 = .ok (.ireturn, 1) := g_172 bX4_groundOf rfl
theorem dX4_knows_0 : decode cX4_knows 0 = .ok (.aload_n 0, 1) := g_42 bX4_knows rfl
theorem dX4_knows_1 : decode cX4_knows 1 = .ok (.getfield 37, 3) := g_180 bX4_knows rfl
theorem dX4_knows_4 : decode cX4_knows 4 = .ok (.iload_n 1, 1) := g_27 bX4_knows rfl
theorem dX4_knows_5 : decode cX4_knows 5 = .ok (.bipush 8, 2) := g_16 8 bX4_knows rfl rfl
theorem dX4_knows_7 : decode cX4_knows 7 = .ok (.imul, 1) := g_104 bX4_knows rfl
theorem dX4_knows_8 : decode cX4_knows 8 = .ok (.iload_n 2, 1) := g_28 bX4_knows rfl
theorem dX4_knows_9 : decode cX4_knows 9 = .ok (.iadd, 1) := g_96 bX4_knows rfl
theorem dX4_knows_10 : decode cX4_knows 10 = .ok (.iaload, 1) := g_46 bX4_knows rfl
theorem dX4_knows_11 : decode cX4_knows 11 = .ok (.ireturn, 1) := g_172 bX4_knows rfl
theorem dX4_learn_0 : decode cX4_learn 0 = .ok (.aload_n 0, 1) := g_42 bX4_learn rfl
theorem dX4_learn_1 : decode cX4_learn 1 = .ok (.getfield 37, 3) := g_180 bX4_learn rfl
theorem dX4_learn_4 : decode cX4_learn 4 = .ok (.iload_n 1, 1) := g_27 bX4_learn rfl
theorem dX4_learn_5 : decode cX4_learn 5 = .ok (.bipush 8, 2) := g_16 8 bX4_learn rfl rfl
theorem dX4_learn_7 : decode cX4_learn 7 = .ok (.imul, 1) := g_104 bX4_learn rfl
theorem dX4_learn_8 : decode cX4_learn 8 = .ok (.iload_n 2, 1) := g_28 bX4_learn rfl
theorem dX4_learn_9 : decode cX4_learn 9 = .ok (.iadd, 1) := g_96 bX4_learn rfl
theorem dX4_learn_10 : decode cX4_learn 10 = .ok (.iload_n 3, 1) := g_29 bX4_learn rfl
theorem dX4_learn_11 : decode cX4_learn 11 = .ok (.iastore, 1) := g_79 bX4_learn rfl
theorem dX4_learn_12 : decode cX4_learn 12 = .ok (.return_, 1) := g_177 bX4_learn rfl
theorem dX4_mostKnown_0 : decode cX4_mostKnown 0 = .ok (.iconst 0, 1) := g_3 bX4_mostKnown rfl
theorem dX4_mostKnown_1 : decode cX4_mostKnown 1 = .ok (.istore_n 3, 1) := g_62 bX4_mostKnown rfl
theorem dX4_mostKnown_2 : decode cX4_mostKnown 2 = .ok (.iconst 0, 1) := g_3 bX4_mostKnown rfl
theorem dX4_mostKnown_3 : decode cX4_mostKnown 3 = .ok (.istore 4, 2) := g_54 bX4_mostKnown rfl
theorem dX4_mostKnown_5 : decode cX4_mostKnown 5 = .ok (.iload 4, 2) := g_21 bX4_mostKnown rfl
theorem dX4_mostKnown_7 : decode cX4_mostKnown 7 = .ok (.aload_n 0, 1) := g_42 bX4_mostKnown rfl
theorem dX4_mostKnown_8 : decode cX4_mostKnown 8 = .ok (.getfield 43, 3) := g_180 bX4_mostKnown rfl
theorem dX4_mostKnown_11 : decode cX4_mostKnown 11 = .ok (.if_icmp .ge 30, 3) := g_162 30 bX4_mostKnown rfl rfl
theorem dX4_mostKnown_14 : decode cX4_mostKnown 14 = .ok (.iload_n 2, 1) := g_28 bX4_mostKnown rfl
theorem dX4_mostKnown_15 : decode cX4_mostKnown 15 = .ok (.iload 4, 2) := g_21 bX4_mostKnown rfl
theorem dX4_mostKnown_17 : decode cX4_mostKnown 17 = .ok (.invokestatic 62, 3) := g_184 bX4_mostKnown rfl
theorem dX4_mostKnown_20 : decode cX4_mostKnown 20 = .ok (.ifCond .eq 15, 3) := g_153 15 bX4_mostKnown rfl rfl
theorem dX4_mostKnown_23 : decode cX4_mostKnown 23 = .ok (.iload_n 3, 1) := g_29 bX4_mostKnown rfl
theorem dX4_mostKnown_24 : decode cX4_mostKnown 24 = .ok (.aload_n 0, 1) := g_42 bX4_mostKnown rfl
theorem dX4_mostKnown_25 : decode cX4_mostKnown 25 = .ok (.iload 4, 2) := g_21 bX4_mostKnown rfl
theorem dX4_mostKnown_27 : decode cX4_mostKnown 27 = .ok (.iload_n 1, 1) := g_27 bX4_mostKnown rfl
theorem dX4_mostKnown_28 : decode cX4_mostKnown 28 = .ok (.invokevirtual 66, 3) := g_182 bX4_mostKnown rfl
theorem dX4_mostKnown_31 : decode cX4_mostKnown 31 = .ok (.invokestatic 70, 3) := g_184 bX4_mostKnown rfl
theorem dX4_mostKnown_34 : decode cX4_mostKnown 34 = .ok (.istore_n 3, 1) := g_62 bX4_mostKnown rfl
theorem dX4_mostKnown_35 : decode cX4_mostKnown 35 = .ok (.iinc 4 1, 3) := g_132 1 bX4_mostKnown rfl rfl
theorem dX4_mostKnown_38 : decode cX4_mostKnown 38 = .ok (.goto (-33), 3) := g_167 65503 bX4_mostKnown rfl rfl
theorem dX4_mostKnown_41 : decode cX4_mostKnown 41 = .ok (.iload_n 3, 1) := g_29 bX4_mostKnown rfl
theorem dX4_mostKnown_42 : decode cX4_mostKnown 42 = .ok (.ireturn, 1) := g_172 bX4_mostKnown rfl
theorem dX4_setThere_0 : decode cX4_setThere 0 = .ok (.aload_n 0, 1) := g_42 bX4_setThere rfl
theorem dX4_setThere_1 : decode cX4_setThere 1 = .ok (.getfield 43, 3) := g_180 bX4_setThere rfl
theorem dX4_setThere_4 : decode cX4_setThere 4 = .ok (.invokestatic 58, 3) := g_184 bX4_setThere rfl
theorem dX4_setThere_7 : decode cX4_setThere 7 = .ok (.aload_n 0, 1) := g_42 bX4_setThere rfl
theorem dX4_setThere_8 : decode cX4_setThere 8 = .ok (.getfield 49, 3) := g_180 bX4_setThere rfl
theorem dX4_setThere_11 : decode cX4_setThere 11 = .ok (.iconst (-1), 1) := g_2 bX4_setThere rfl
theorem dX4_setThere_12 : decode cX4_setThere 12 = .ok (.ixor, 1) := g_130 bX4_setThere rfl
theorem dX4_setThere_13 : decode cX4_setThere 13 = .ok (.iand, 1) := g_126 bX4_setThere rfl
theorem dX4_setThere_14 : decode cX4_setThere 14 = .ok (.ireturn, 1) := g_172 bX4_setThere rfl
theorem dX4_tellTo_0 : decode cX4_tellTo 0 = .ok (.aload_n 0, 1) := g_42 bX4_tellTo rfl
theorem dX4_tellTo_1 : decode cX4_tellTo 1 = .ok (.iload_n 2, 1) := g_28 bX4_tellTo rfl
theorem dX4_tellTo_2 : decode cX4_tellTo 2 = .ok (.iload_n 3, 1) := g_29 bX4_tellTo rfl
theorem dX4_tellTo_3 : decode cX4_tellTo 3 = .ok (.aload_n 0, 1) := g_42 bX4_tellTo rfl
theorem dX4_tellTo_4 : decode cX4_tellTo 4 = .ok (.iload_n 2, 1) := g_28 bX4_tellTo rfl
theorem dX4_tellTo_5 : decode cX4_tellTo 5 = .ok (.iload_n 3, 1) := g_29 bX4_tellTo rfl
theorem dX4_tellTo_6 : decode cX4_tellTo 6 = .ok (.invokevirtual 66, 3) := g_182 bX4_tellTo rfl
theorem dX4_tellTo_9 : decode cX4_tellTo 9 = .ok (.aload_n 0, 1) := g_42 bX4_tellTo rfl
theorem dX4_tellTo_10 : decode cX4_tellTo 10 = .ok (.iload_n 1, 1) := g_27 bX4_tellTo rfl
theorem dX4_tellTo_11 : decode cX4_tellTo 11 = .ok (.iload_n 2, 1) := g_28 bX4_tellTo rfl
theorem dX4_tellTo_12 : decode cX4_tellTo 12 = .ok (.iload_n 3, 1) := g_29 bX4_tellTo rfl
theorem dX4_tellTo_13 : decode cX4_tellTo 13 = .ok (.invokevirtual 101, 3) := g_182 bX4_tellTo rfl
theorem dX4_tellTo_16 : decode cX4_tellTo 16 = .ok (.iadd, 1) := g_96 bX4_tellTo rfl
theorem dX4_tellTo_17 : decode cX4_tellTo 17 = .ok (.invokevirtual 94, 3) := g_182 bX4_tellTo rfl
theorem dX4_tellTo_20 : decode cX4_tellTo 20 = .ok (.return_, 1) := g_177 bX4_tellTo rfl
theorem dX4_worthAmong_0 : decode cX4_worthAmong 0 = .ok (.iconst 0, 1) := g_3 bX4_worthAmong rfl
theorem dX4_worthAmong_1 : decode cX4_worthAmong 1 = .ok (.istore_n 2, 1) := g_61 bX4_worthAmong rfl
theorem dX4_worthAmong_2 : decode cX4_worthAmong 2 = .ok (.iconst 0, 1) := g_3 bX4_worthAmong rfl
theorem dX4_worthAmong_3 : decode cX4_worthAmong 3 = .ok (.istore_n 3, 1) := g_62 bX4_worthAmong rfl
theorem dX4_worthAmong_4 : decode cX4_worthAmong 4 = .ok (.iload_n 3, 1) := g_29 bX4_worthAmong rfl
theorem dX4_worthAmong_5 : decode cX4_worthAmong 5 = .ok (.aload_n 0, 1) := g_42 bX4_worthAmong rfl
theorem dX4_worthAmong_6 : decode cX4_worthAmong 6 = .ok (.getfield 40, 3) := g_180 bX4_worthAmong rfl
theorem dX4_worthAmong_9 : decode cX4_worthAmong 9 = .ok (.if_icmp .ge 25, 3) := g_162 25 bX4_worthAmong rfl rfl
theorem dX4_worthAmong_12 : decode cX4_worthAmong 12 = .ok (.iload_n 2, 1) := g_28 bX4_worthAmong rfl
theorem dX4_worthAmong_13 : decode cX4_worthAmong 13 = .ok (.aload_n 0, 1) := g_42 bX4_worthAmong rfl
theorem dX4_worthAmong_14 : decode cX4_worthAmong 14 = .ok (.getfield 15, 3) := g_180 bX4_worthAmong rfl
theorem dX4_worthAmong_17 : decode cX4_worthAmong 17 = .ok (.iload_n 3, 1) := g_29 bX4_worthAmong rfl
theorem dX4_worthAmong_18 : decode cX4_worthAmong 18 = .ok (.iaload, 1) := g_46 bX4_worthAmong rfl
theorem dX4_worthAmong_19 : decode cX4_worthAmong 19 = .ok (.aload_n 0, 1) := g_42 bX4_worthAmong rfl
theorem dX4_worthAmong_20 : decode cX4_worthAmong 20 = .ok (.iload_n 3, 1) := g_29 bX4_worthAmong rfl
theorem dX4_worthAmong_21 : decode cX4_worthAmong 21 = .ok (.iload_n 1, 1) := g_27 bX4_worthAmong rfl
theorem dX4_worthAmong_22 : decode cX4_worthAmong 22 = .ok (.invokevirtual 75, 3) := g_182 bX4_worthAmong rfl
theorem dX4_worthAmong_25 : decode cX4_worthAmong 25 = .ok (.imul, 1) := g_104 bX4_worthAmong rfl
theorem dX4_worthAmong_26 : decode cX4_worthAmong 26 = .ok (.iadd, 1) := g_96 bX4_worthAmong rfl
theorem dX4_worthAmong_27 : decode cX4_worthAmong 27 = .ok (.istore_n 2, 1) := g_61 bX4_worthAmong rfl
theorem dX4_worthAmong_28 : decode cX4_worthAmong 28 = .ok (.iinc 3 1, 3) := g_132 1 bX4_worthAmong rfl rfl
theorem dX4_worthAmong_31 : decode cX4_worthAmong 31 = .ok (.goto (-27), 3) := g_167 65509 bX4_worthAmong rfl rfl
theorem dX4_worthAmong_34 : decode cX4_worthAmong 34 = .ok (.iload_n 2, 1) := g_28 bX4_worthAmong rfl
theorem dX4_worthAmong_35 : decode cX4_worthAmong 35 = .ok (.ireturn, 1) := g_172 bX4_worthAmong rfl
theorem dX4_worthNow_0 : decode cX4_worthNow 0 = .ok (.aload_n 0, 1) := g_42 bX4_worthNow rfl
theorem dX4_worthNow_1 : decode cX4_worthNow 1 = .ok (.aload_n 0, 1) := g_42 bX4_worthNow rfl
theorem dX4_worthNow_2 : decode cX4_worthNow 2 = .ok (.invokevirtual 78, 3) := g_182 bX4_worthNow rfl
theorem dX4_worthNow_5 : decode cX4_worthNow 5 = .ok (.invokevirtual 82, 3) := g_182 bX4_worthNow rfl
theorem dX4_worthNow_8 : decode cX4_worthNow 8 = .ok (.ireturn, 1) := g_172 bX4_worthNow rfl
theorem dX4_wouldKnow_0 : decode cX4_wouldKnow 0 = .ok (.aload_n 0, 1) := g_42 bX4_wouldKnow rfl
theorem dX4_wouldKnow_1 : decode cX4_wouldKnow 1 = .ok (.getfield 22, 3) := g_180 bX4_wouldKnow rfl
theorem dX4_wouldKnow_4 : decode cX4_wouldKnow 4 = .ok (.iload_n 2, 1) := g_28 bX4_wouldKnow rfl
theorem dX4_wouldKnow_5 : decode cX4_wouldKnow 5 = .ok (.iaload, 1) := g_46 bX4_wouldKnow rfl
theorem dX4_wouldKnow_6 : decode cX4_wouldKnow 6 = .ok (.aload_n 0, 1) := g_42 bX4_wouldKnow rfl
theorem dX4_wouldKnow_7 : decode cX4_wouldKnow 7 = .ok (.getfield 28, 3) := g_180 bX4_wouldKnow rfl
theorem dX4_wouldKnow_10 : decode cX4_wouldKnow 10 = .ok (.iload_n 1, 1) := g_27 bX4_wouldKnow rfl
theorem dX4_wouldKnow_11 : decode cX4_wouldKnow 11 = .ok (.iaload, 1) := g_46 bX4_wouldKnow rfl
theorem dX4_wouldKnow_12 : decode cX4_wouldKnow 12 = .ok (.imul, 1) := g_104 bX4_wouldKnow rfl
theorem dX4_wouldKnow_13 : decode cX4_wouldKnow 13 = .ok (.bipush 10, 2) := g_16 10 bX4_wouldKnow rfl rfl
theorem dX4_wouldKnow_15 : decode cX4_wouldKnow 15 = .ok (.idiv, 1) := g_108 bX4_wouldKnow rfl
theorem dX4_wouldKnow_16 : decode cX4_wouldKnow 16 = .ok (.aload_n 0, 1) := g_42 bX4_wouldKnow rfl
theorem dX4_wouldKnow_17 : decode cX4_wouldKnow 17 = .ok (.iload_n 1, 1) := g_27 bX4_wouldKnow rfl
theorem dX4_wouldKnow_18 : decode cX4_wouldKnow 18 = .ok (.iload_n 2, 1) := g_28 bX4_wouldKnow rfl
theorem dX4_wouldKnow_19 : decode cX4_wouldKnow 19 = .ok (.invokevirtual 85, 3) := g_182 bX4_wouldKnow rfl
theorem dX4_wouldKnow_22 : decode cX4_wouldKnow 22 = .ok (.invokestatic 88, 3) := g_184 bX4_wouldKnow rfl
theorem dX4_wouldKnow_25 : decode cX4_wouldKnow 25 = .ok (.istore_n 3, 1) := g_62 bX4_wouldKnow rfl
theorem dX4_wouldKnow_26 : decode cX4_wouldKnow 26 = .ok (.iload_n 3, 1) := g_29 bX4_wouldKnow rfl
theorem dX4_wouldKnow_27 : decode cX4_wouldKnow 27 = .ok (.aload_n 0, 1) := g_42 bX4_wouldKnow rfl
theorem dX4_wouldKnow_28 : decode cX4_wouldKnow 28 = .ok (.iload_n 1, 1) := g_27 bX4_wouldKnow rfl
theorem dX4_wouldKnow_29 : decode cX4_wouldKnow 29 = .ok (.iload_n 2, 1) := g_28 bX4_wouldKnow rfl
theorem dX4_wouldKnow_30 : decode cX4_wouldKnow 30 = .ok (.invokevirtual 66, 3) := g_182 bX4_wouldKnow rfl
theorem dX4_wouldKnow_33 : decode cX4_wouldKnow 33 = .ok (.invokestatic 70, 3) := g_184 bX4_wouldKnow rfl
theorem dX4_wouldKnow_36 : decode cX4_wouldKnow 36 = .ok (.ireturn, 1) := g_172 bX4_wouldKnow rfl
theorem dX5_has_0 : decode cX5_has 0 = .ok (.iload_n 0, 1) := g_26 bX5_has rfl
theorem dX5_has_1 : decode cX5_has 1 = .ok (.iload_n 1, 1) := g_27 bX5_has rfl
theorem dX5_has_2 : decode cX5_has 2 = .ok (.ishr, 1) := g_122 bX5_has rfl
theorem dX5_has_3 : decode cX5_has 3 = .ok (.iconst 1, 1) := g_4 bX5_has rfl
theorem dX5_has_4 : decode cX5_has 4 = .ok (.iand, 1) := g_126 bX5_has rfl
theorem dX5_has_5 : decode cX5_has 5 = .ok (.ifCond .eq 7, 3) := g_153 7 bX5_has rfl rfl
theorem dX5_has_8 : decode cX5_has 8 = .ok (.iconst 1, 1) := g_4 bX5_has rfl
theorem dX5_has_9 : decode cX5_has 9 = .ok (.goto 4, 3) := g_167 4 bX5_has rfl rfl
theorem dX5_has_12 : decode cX5_has 12 = .ok (.iconst 0, 1) := g_3 bX5_has rfl
theorem dX5_has_13 : decode cX5_has 13 = .ok (.ireturn, 1) := g_172 bX5_has rfl
theorem dX5_setOfAll_0 : decode cX5_setOfAll 0 = .ok (.iconst 1, 1) := g_4 bX5_setOfAll rfl
theorem dX5_setOfAll_1 : decode cX5_setOfAll 1 = .ok (.iload_n 0, 1) := g_26 bX5_setOfAll rfl
theorem dX5_setOfAll_2 : decode cX5_setOfAll 2 = .ok (.ishl, 1) := g_120 bX5_setOfAll rfl
theorem dX5_setOfAll_3 : decode cX5_setOfAll 3 = .ok (.iconst 1, 1) := g_4 bX5_setOfAll rfl
theorem dX5_setOfAll_4 : decode cX5_setOfAll 4 = .ok (.isub, 1) := g_100 bX5_setOfAll rfl
theorem dX5_setOfAll_5 : decode cX5_setOfAll 5 = .ok (.ireturn, 1) := g_172 bX5_setOfAll rfl
theorem dX5_within_0 : decode cX5_within 0 = .ok (.lload_n 0, 1) := g_30 bX5_within rfl
theorem dX5_within_1 : decode cX5_within 1 = .ok (.lload_n 2, 1) := g_32 bX5_within rfl
theorem dX5_within_2 : decode cX5_within 2 = .ok (.lcmp, 1) := g_148 bX5_within rfl
theorem dX5_within_3 : decode cX5_within 3 = .ok (.ifCond .lt 14, 3) := g_155 14 bX5_within rfl rfl
theorem dX5_within_6 : decode cX5_within 6 = .ok (.lload_n 0, 1) := g_30 bX5_within rfl
theorem dX5_within_7 : decode cX5_within 7 = .ok (.lload 4, 2) := g_22 bX5_within rfl
theorem dX5_within_9 : decode cX5_within 9 = .ok (.lcmp, 1) := g_148 bX5_within rfl
theorem dX5_within_10 : decode cX5_within 10 = .ok (.ifCond .gt 7, 3) := g_157 7 bX5_within rfl rfl
theorem dX5_within_13 : decode cX5_within 13 = .ok (.iconst 1, 1) := g_4 bX5_within rfl
theorem dX5_within_14 : decode cX5_within 14 = .ok (.goto 4, 3) := g_167 4 bX5_within rfl rfl
theorem dX5_within_17 : decode cX5_within 17 = .ok (.iconst 0, 1) := g_3 bX5_within rfl
theorem dX5_within_18 : decode cX5_within 18 = .ok (.ireturn, 1) := g_172 bX5_within rfl
set_option maxHeartbeats 4000000 in
set_option maxRecDepth 100000 in
theorem c_X5_within (l : Launch) (G : va_G) (cy : Nat → ClassId) (J1 : Int64) (J2 : Int64) (J3 : Int64)   : MR l yX5_within cX5_within 6 (some .boolean) 1 G cy [] [.long J1, .long J2, .long J3] (vp_Si (fun r => (r = 1 ∧ Iv J1 J2 J3) ∨ (r = 0 ∧ ¬ Iv J1 J2 J3))) := by
  refine enR RX5 (by decide) rfl (Nat.le_of_ble_eq_true rfl) (fun p e s m below meth c ls hx hb hml hown hts hr hlocks hP hN hl => ?_)
  have hK := hN.1
  replace hl : lv_has ls 6 [(0, .long J1), (2, .long J2), (4, .long J3)] := hl
  refine lv_lload_n hx hb dX5_within_0 rfl (lv_at hl 0 rfl) ?_
  refine lv_lload_n hx hb dX5_within_1 rfl (lv_at hl 1 rfl) ?_
  refine W.lcmp hx hb dX5_within_2 ?_
  refine lv_if_lt (tgt := 17) hx hb dX5_within_3 (by decide) (fun c_1 => ?_) (fun c_1 => ?_)
  · refine lv_iconst (v := 0) hx hb dX5_within_17 (by decide) ?_
    exact endR hx hb hr hlocks rfl (Or.inr (⟨rfl, in_no1 c_1⟩)) dX5_within_18
  · refine lv_lload_n hx hb dX5_within_6 rfl (lv_at hl 0 rfl) ?_
    refine lv_lload hx hb dX5_within_7 (lv_at hl 2 rfl) ?_
    refine W.lcmp hx hb dX5_within_9 ?_
    refine lv_if_gt (tgt := 17) hx hb dX5_within_10 (by decide) (fun c_2 => ?_) (fun c_2 => ?_)
    · refine lv_iconst (v := 0) hx hb dX5_within_17 (by decide) ?_
      exact endR hx hb hr hlocks rfl (Or.inr (⟨rfl, in_no2 c_2⟩)) dX5_within_18
    · refine lv_iconst (v := 1) hx hb dX5_within_13 (by decide) ?_
      refine lv_goto (tgt := 18) hx hb dX5_within_14 (by decide) ?_
      exact endR hx hb hr hlocks rfl (Or.inl (⟨rfl, in_yes c_1 c_2⟩)) dX5_within_18
set_option maxHeartbeats 4000000 in
set_option maxRecDepth 100000 in
theorem c_X5_has (l : Launch) (G : va_G) (cy : Nat → ClassId) (iA : Int32) (kI : Nat)   : MR l yX5_has cX5_has 2 (some .boolean) 1 G cy [] [.int iA, .int (nI kI)] (vp_Si (fun r => (r = 1 ∧ bitb iA kI = true) ∨ (r = 0 ∧ bitb iA kI = false))) := by
  refine enR RX5 (by decide) rfl (Nat.le_of_ble_eq_true rfl) (fun p e s m below meth c ls hx hb hml hown hts hr hlocks hP hN hl => ?_)
  have hK := hN.1
  replace hl : lv_has ls 2 [(0, .int iA), (1, .int (nI kI))] := hl
  refine lv_iload_n hx hb dX5_has_0 rfl (lv_at hl 0 rfl) ?_
  refine lv_iload_n hx hb dX5_has_1 rfl (lv_at hl 1 rfl) ?_
  refine lv_ishr hx hb dX5_has_2 ?_
  refine lv_iconst (v := 1) hx hb dX5_has_3 (by decide) ?_
  refine lv_iand hx hb dX5_has_4 ?_
  refine lv_if_eq (tgt := 12) hx hb dX5_has_5 (by decide) (fun c_1 => ?_) (fun c_1 => ?_)
  · refine lv_iconst (v := 0) hx hb dX5_has_12 (by decide) ?_
    exact endR hx hb hr hlocks rfl (Or.inr (⟨rfl, by unfold bitb; exact decide_eq_false (fun q => q c_1)⟩)) dX5_has_13
  · refine lv_iconst (v := 1) hx hb dX5_has_8 (by decide) ?_
    refine lv_goto (tgt := 13) hx hb dX5_has_9 (by decide) ?_
    exact endR hx hb hr hlocks rfl (Or.inl (⟨rfl, by unfold bitb; exact decide_eq_true c_1⟩)) dX5_has_13
set_option maxHeartbeats 4000000 in
set_option maxRecDepth 100000 in
theorem c_X5_setOfAll (l : Launch) (G : va_G) (cy : Nat → ClassId) (iA : Int32)   : MR l yX5_setOfAll cX5_setOfAll 1 (some .int) 1 G cy [] [.int iA] (vp_Si (fun r => (r = ((1 <<< (iA &&& 31)) - 1)))) := by
  refine enR RX5 (by decide) rfl (Nat.le_of_ble_eq_true rfl) (fun p e s m below meth c ls hx hb hml hown hts hr hlocks hP hN hl => ?_)
  have hK := hN.1
  replace hl : lv_has ls 1 [(0, .int iA)] := hl
  refine lv_iconst (v := 1) hx hb dX5_setOfAll_0 (by decide) ?_
  refine lv_iload_n hx hb dX5_setOfAll_1 rfl (lv_at hl 0 rfl) ?_
  refine lv_ishl hx hb dX5_setOfAll_2 ?_
  refine lv_iconst (v := 1) hx hb dX5_setOfAll_3 (by decide) ?_
  refine lv_isub hx hb dX5_setOfAll_4 ?_
  exact endR hx hb hr hlocks rfl rfl dX5_setOfAll_5
set_option maxHeartbeats 4000000 in
set_option maxRecDepth 100000 in
theorem c_X4_afterTelling (l : Launch) (G : va_G) (cy : Nat → ClassId) (iA : Int32) (iB : Int32)   : MR l yX4_afterTelling cX4_afterTelling 2 (some .int) 1 G cy [] [.int iA, .int iB] (vp_Si (fun r => (r = (iA * iB / 10)))) := by
  refine enR RX4 (by decide) rfl (Nat.le_of_ble_eq_true rfl) (fun p e s m below meth c ls hx hb hml hown hts hr hlocks hP hN hl => ?_)
  have hK := hN.1
  replace hl : lv_has ls 2 [(0, .int iA), (1, .int iB)] := hl
  refine lv_iload_n hx hb dX4_afterTelling_0 rfl (lv_at hl 0 rfl) ?_
  refine lv_iload_n hx hb dX4_afterTelling_1 rfl (lv_at hl 1 rfl) ?_
  refine lv_imul hx hb dX4_afterTelling_2 ?_
  refine lv_bipush (v := 10) hx hb dX4_afterTelling_3 (by decide) ?_
  refine lv_idiv hx hb dX4_afterTelling_5 (by decide) ?_
  exact endR hx hb hr hlocks rfl (by simp []) dX4_afterTelling_6
set_option maxHeartbeats 4000000 in
set_option maxRecDepth 100000 in
theorem c_X4_grasped (l : Launch) (G : va_G) (cy : Nat → ClassId) (iA : Int32) (iB : Int32)   : MR l yX4_grasped cX4_grasped 2 (some .int) 1 G cy [] [.int iA, .int iB] (vp_Si (fun r => (r = (zgr iA iB)))) := by
  refine enR RX4 (by decide) rfl (Nat.le_of_ble_eq_true rfl) (fun p e s m below meth c ls hx hb hml hown hts hr hlocks hP hN hl => ?_)
  have hK := hN.1
  replace hl : lv_has ls 2 [(0, .int iA), (1, .int iB)] := hl
  refine lv_iload_n hx hb dX4_grasped_0 rfl (lv_at hl 0 rfl) ?_
  refine lv_iload_n hx hb dX4_grasped_1 rfl (lv_at hl 1 rfl) ?_
  refine lv_sipush (v := 1000) hx hb dX4_grasped_2 (by decide) ?_
  refine lv_iadd hx hb dX4_grasped_5 ?_
  refine lv_imul hx hb dX4_grasped_6 ?_
  refine lv_sipush (v := 2000) hx hb dX4_grasped_7 (by decide) ?_
  refine lv_idiv hx hb dX4_grasped_10 (by decide) ?_
  exact endR hx hb hr hlocks rfl (by rfl) dX4_grasped_11
set_option maxHeartbeats 4000000 in
set_option maxRecDepth 100000 in
theorem c_X4_setThere (l : Launch) (G : va_G) (cy : Nat → ClassId) (qt : Nat) (tA : TA) (qtw : Nat) (qtn : Nat) (qtg : Nat) (qta : Nat) (qtr : Nat) (qtm : Nat) (qtt : Nat) (qts : Nat)  (hPp : T_np tA ≤ 8) : MR l yX4_setThere cX4_setThere 1 (some .int) 2 G cy [zzO qt 3 [.int (nI (T_nb tA)), .int (nI (T_np tA)), .int (wb (T_wh tA)), .int (wb (T_gn tA)), .int (T_sd tA), .ref qtw, .ref qtn, .ref qtg, .ref qta, .ref qtr, .ref qtm, .ref qtt, .ref qts]] [.ref qt] (vp_Si (fun r => (r = (zthere tA)))) := by
  refine enR RX4 (by decide) rfl (Nat.le_of_ble_eq_true rfl) (fun p e s m below meth c ls hx hb hml hown hts hr hlocks hP hN hl => ?_)
  have hK := hN.1
  replace hl : lv_has ls 1 [(0, .ref qt)] := hl
  refine lv_aload_n hx hb dX4_setThere_0 rfl (lv_at hl 0 rfl) ?_
  refine va_get (D := G) (ci := 3) (v := .int (nI (T_np tA))) (C := RX4) (T := TX4) (N := 13) hx hb hts iX_X4 hown hK hP 0 rfl rfl 1 (by decide) (hts _ m_t34) (fun _ h9 => h9) rfl dX4_setThere_1 ?_
  refine kRi (rSN (As := [.int (nI (T_np tA))]) (rest := []) ⟨hx, hb, hml, hown, hts⟩ hN (c_X5_setOfAll l G cy (nI (T_np tA))) L_X4_58 (preRS hN hP [] rfl) rfl ⟨Nat.le_of_ble_eq_true rfl, Nat.le_of_ble_eq_true rfl⟩ hl.1 (Nat.le_of_ble_eq_true rfl) dX4_setThere_4 ⟨Nat.le_of_ble_eq_true rfl, Nat.le_of_ble_eq_true rfl⟩) (fun r_1 h_2 => ?_)
  subst h_2
  refine lv_aload_n hx hb dX4_setThere_7 rfl (lv_at hl 0 rfl) ?_
  refine va_get (D := G) (ci := 3) (v := .int (wb (T_gn tA))) (C := RX4) (T := TX4) (N := 13) hx hb hts iX_X4 hown hK hP 0 rfl rfl 3 (by decide) (hts _ m_t43) (fun _ h9 => h9) rfl dX4_setThere_8 ?_
  refine lv_iconst (v := (-1)) hx hb dX4_setThere_11 (by decide) ?_
  refine lv_ixor hx hb dX4_setThere_12 ?_
  refine lv_iand hx hb dX4_setThere_13 ?_
  exact endR hx hb hr hlocks rfl (by exact wb_there _ hPp) dX4_setThere_14
set_option maxHeartbeats 4000000 in
set_option maxRecDepth 100000 in
theorem c_X4_knows (l : Launch) (G : va_G) (cy : Nat → ClassId) (qt : Nat) (tA : TA) (qtw : Nat) (qtn : Nat) (qtg : Nat) (qta : Nat) (qtr : Nat) (qtm : Nat) (qtt : Nat) (qts : Nat) (kI : Nat) (kJ : Nat)  (hI : kI < 8) (hJ : kJ < 8) : MR l yX4_knows cX4_knows 3 (some .int) 1 G cy [zzO qt 3 [.int (nI (T_nb tA)), .int (nI (T_np tA)), .int (wb (T_wh tA)), .int (wb (T_gn tA)), .int (T_sd tA), .ref qtw, .ref qtn, .ref qtg, .ref qta, .ref qtr, .ref qtm, .ref qtt, .ref qts], zzI cy qts 64 (shF (T_kn tA))] [.ref qt, .int (nI kI), .int (nI kJ)] (vp_Si (fun r => (r = (T_kn tA kI kJ)))) := by
  refine enR RX4 (by decide) rfl (Nat.le_of_ble_eq_true rfl) (fun p e s m below meth c ls hx hb hml hown hts hr hlocks hP hN hl => ?_)
  have hK := hN.1
  replace hl : lv_has ls 3 [(0, .ref qt), (1, .int (nI kI)), (2, .int (nI kJ))] := hl
  refine lv_aload_n hx hb dX4_knows_0 rfl (lv_at hl 0 rfl) ?_
  refine va_get (D := G) (ci := 3) (v := .ref qts) (C := RX4) (T := TX4) (N := 13) hx hb hts iX_X4 hown hK hP 0 rfl rfl 12 (by decide) (hts _ m_t64) (fun _ h9 => h9) rfl dX4_knows_1 ?_
  refine lv_iload_n hx hb dX4_knows_4 rfl (lv_at hl 1 rfl) ?_
  refine lv_bipush (v := 8) hx hb dX4_knows_5 (by decide) ?_
  refine lv_imul hx hb dX4_knows_7 ?_
  refine lv_iload_n hx hb dX4_knows_8 rfl (lv_at hl 2 rfl) ?_
  refine lv_iadd hx hb dX4_knows_9 ?_
  refine va_iald hx hb hK hP 1 0 rfl rfl (in64 (by omega) (by omega)) dX4_knows_10 ?_
  refine lv_seti (v := (T_kn tA) kI kJ) ((congrArg (shF (T_kn tA)) (cl64 (by omega) (by omega))).trans (shF_get _ (by omega))) ?_
  exact endR hx hb hr hlocks rfl (by simp [hI, hJ]) dX4_knows_11
set_option maxHeartbeats 4000000 in
set_option maxRecDepth 100000 in
theorem c_X4_learn (l : Launch) (G : va_G) (cy : Nat → ClassId) (sz : Nat) (qt : Nat) (tA : TA) (qtw : Nat) (qtn : Nat) (qtg : Nat) (qta : Nat) (qtr : Nat) (qtm : Nat) (qtt : Nat) (qts : Nat) (kI : Nat) (kJ : Nat) (iV : Int32)  (hI : kI < 8) (hJ : kJ < 8) : MW l yX4_learn cX4_learn 4 none 1 0 0 G cy [zzO qt 3 [.int (nI (T_nb tA)), .int (nI (T_np tA)), .int (wb (T_wh tA)), .int (wb (T_gn tA)), .int (T_sd tA), .ref qtw, .ref qtn, .ref qtg, .ref qta, .ref qtr, .ref qtm, .ref qtt, .ref qts], zzI cy qts 64 (shF (T_kn tA))] sz [.ref qt, .int (nI kI), .int (nI kJ), .int iV] (Wv G (fun u => u = [zzO qt 3 [.int (nI (T_nb (T_setkn tA (updM (T_kn tA) kI kJ iV)))), .int (nI (T_np (T_setkn tA (updM (T_kn tA) kI kJ iV)))), .int (wb (T_wh (T_setkn tA (updM (T_kn tA) kI kJ iV)))), .int (wb (T_gn (T_setkn tA (updM (T_kn tA) kI kJ iV)))), .int (T_sd (T_setkn tA (updM (T_kn tA) kI kJ iV))), .ref qtw, .ref qtn, .ref qtg, .ref qta, .ref qtr, .ref qtm, .ref qtt, .ref qts], zzI cy qts 64 (shF (T_kn (T_setkn tA (updM (T_kn tA) kI kJ iV))))])) := by
  refine enW RX4 (by decide) rfl (Nat.le_of_ble_eq_true rfl) (fun p e s m below meth c ls A hx hb hml hown hts hr hlocks hP hN hl hin hD hA hS => ?_)
  have hin : meth.name = _ := hin
  have hK := hN.1
  replace hl : lv_has ls 4 [(0, .ref qt), (1, .int (nI kI)), (2, .int (nI kJ)), (3, .int iV)] := hl
  refine lv_aload_n hx hb dX4_learn_0 rfl (lv_at hl 0 rfl) ?_
  refine va_get (D := G) (ci := 3) (v := .ref qts) (C := RX4) (T := TX4) (N := 13) hx hb hts iX_X4 hown hK hP 0 rfl rfl 12 (by decide) (hts _ m_t64) (fun _ h9 => h9) rfl dX4_learn_1 ?_
  refine lv_iload_n hx hb dX4_learn_4 rfl (lv_at hl 1 rfl) ?_
  refine lv_bipush (v := 8) hx hb dX4_learn_5 (by decide) ?_
  refine lv_imul hx hb dX4_learn_7 ?_
  refine lv_iload_n hx hb dX4_learn_8 rfl (lv_at hl 2 rfl) ?_
  refine lv_iadd hx hb dX4_learn_9 ?_
  refine lv_iload_n hx hb dX4_learn_10 rfl (lv_at hl 3 rfl) ?_
  refine va_iast hx hb hK hP hD hS 1 0 rfl rfl (in64 (by omega) (by omega)) dX4_learn_11 (fun H locs => ?_)
  clear hP hD hS
  intro hP hD hS
  rw [cl64 (p := kI) (b := kJ) (by omega) (by omega), shF_put _ (by omega)] at hP hD
  have hPD := pd_as [zzO qt 3 [.int (nI (T_nb tA)), .int (nI (T_np tA)), .int (wb (T_wh tA)), .int (wb (T_gn tA)), .int (T_sd tA), .ref qtw, .ref qtn, .ref qtg, .ref qta, .ref qtr, .ref qtm, .ref qtt, .ref qts], zzI cy qts 64 (shF (updM (T_kn tA) kI kJ iV))] hP hD rfl
  clear hP hD
  obtain ⟨hP, hD⟩ := hPD
  exact endV (u := [zzO qt 3 [.int (nI (T_nb tA)), .int (nI (T_np tA)), .int (wb (T_wh tA)), .int (wb (T_gn tA)), .int (T_sd tA), .ref qtw, .ref qtn, .ref qtg, .ref qta, .ref qtr, .ref qtm, .ref qtt, .ref qts], zzI cy qts 64 (shF (updM (T_kn tA) kI kJ iV))]) hx hb hr hlocks (hP.sub [0, 1] rfl) (hD.sub [0, 1] (by decide +kernel) rfl) hS rfl dX4_learn_12
set_option maxHeartbeats 4000000 in
set_option maxRecDepth 100000 in
theorem c_X4_mostKnown (l : Launch) (G : va_G) (cy : Nat → ClassId) (qt : Nat) (tA : TA) (qtw : Nat) (qtn : Nat) (qtg : Nat) (qta : Nat) (qtr : Nat) (qtm : Nat) (qtt : Nat) (qts : Nat) (kB : Nat) (iS : Int32)  (hPp : T_np tA ≤ 8) (hJ : kB < 8) : MR l yX4_mostKnown cX4_mostKnown 5 (some .int) 2 G cy [zzO qt 3 [.int (nI (T_nb tA)), .int (nI (T_np tA)), .int (wb (T_wh tA)), .int (wb (T_gn tA)), .int (T_sd tA), .ref qtw, .ref qtn, .ref qtg, .ref qta, .ref qtr, .ref qtm, .ref qtt, .ref qts], zzI cy qts 64 (shF (T_kn tA))] [.ref qt, .int (nI kB), .int iS] (vp_Si (fun r => (r = (mkn tA kB iS)))) := by
  refine enR RX4 (by decide) rfl (Nat.le_of_ble_eq_true rfl) (fun p e s m below meth c ls hx hb hml hown hts hr hlocks hP hN hl => ?_)
  have hK := hN.1
  replace hl : lv_has ls 5 [(0, .ref qt), (1, .int (nI kB)), (2, .int iS)] := hl
  refine lv_iconst (v := 0) hx hb dX4_mostKnown_0 (by decide) ?_
  refine lv_istore_n (lv' := [(3, .int 0), (0, .ref qt), (1, .int (nI kB)), (2, .int iS)]) hx hb dX4_mostKnown_1 rfl hl (by decide) rfl (fun ls => ?_)
  clear hl
  intro hl
  refine lv_iconst (v := 0) hx hb dX4_mostKnown_2 (by decide) ?_
  refine lv_istore (lv' := [(4, .int 0), (3, .int 0), (0, .ref qt), (1, .int (nI kB)), (2, .int iS)]) hx hb dX4_mostKnown_3 hl (by decide) rfl (fun ls => ?_)
  clear hl
  intro hl
  have lp_1 : ∀ (n_2 : Nat) (j_4 : Nat) (xM_5 : Int32), 8 - j_4 < n_2 → j_4 ≤ T_np tA → xM_5 = gA (bitb iS) (fun p => T_kn tA p kB) j_4 → ∀ (ls : Array Slot), lv_has ls 5 [(4, .int (nI j_4)), (3, .int xM_5), (0, .ref qt), (1, .int (nI kB)), (2, .int iS)] → W p l e (Rm 2 0 0) s m (List.toArray (α := Value) [.ref qt, .int (nI kB), .int iS]) below meth c s.heap [] 0 0 (MQ below (vp_Si (fun r => (r = (mkn tA kB iS)))) (List.toArray (α := Value) [.ref qt, .int (nI kB), .int iS]) s 0 0 (fun _ => False)) (F0 m 5 ls []) := by
    intro n_2
    induction n_2 with
    | zero => intro j_4 xM_5 hm9; exact absurd hm9 (Nat.not_lt_zero _)
    | succ n_2 ih_3 =>
      intro j_4 xM_5 hm_8 hj_6 hxM_7 ls hl
      refine lv_iload hx hb dX4_mostKnown_5 (lv_at hl 0 rfl) ?_
      refine lv_aload_n hx hb dX4_mostKnown_7 rfl (lv_at hl 2 rfl) ?_
      refine va_get (D := G) (ci := 3) (v := .int (nI (T_np tA))) (C := RX4) (T := TX4) (N := 13) hx hb hts iX_X4 hown hK hP 0 rfl rfl 1 (by decide) (hts _ m_t34) (fun _ h9 => h9) rfl dX4_mostKnown_8 ?_
      refine lv_icmp_ge (tgt := 41) hx hb dX4_mostKnown_11 (by decide) (fun c_9 => ?_) (fun c_9 => ?_)
      · have hlt_10 : j_4 = T_np tA := Nat.le_antisymm (by omega) (lp_ge rfl rfl (by omega) (by omega) c_9)
        refine lv_iload_n hx hb dX4_mostKnown_41 rfl (lv_at hl 1 rfl) ?_
        exact endR hx hb hr hlocks rfl (by rw [hxM_7, hlt_10]; rfl) dX4_mostKnown_42
      · have hlt_11 : j_4 < T_np tA := lp_lt rfl rfl (by omega) (by omega) c_9
        refine lv_iload_n hx hb dX4_mostKnown_14 rfl (lv_at hl 4 rfl) ?_
        refine lv_iload hx hb dX4_mostKnown_15 (lv_at hl 0 rfl) ?_
        refine kRi (rSN (As := [.int iS, .int (nI j_4)]) (rest := []) ⟨hx, hb, hml, hown, hts⟩ hN (c_X5_has l G cy iS j_4) L_X4_62 (preRS hN hP [] rfl) rfl ⟨Nat.le_of_ble_eq_true rfl, Nat.le_of_ble_eq_true rfl⟩ hl.1 (Nat.le_of_ble_eq_true rfl) dX4_mostKnown_17 ⟨Nat.le_of_ble_eq_true rfl, Nat.le_of_ble_eq_true rfl⟩) (fun r_12 h_13 => ?_)
        rcases h_13 with ⟨rfl, h_14⟩ | ⟨rfl, h_14⟩
        · refine lv_if_eq (tgt := 35) hx hb dX4_mostKnown_20 (by decide) (fun h9 => absurd h9 (by decide)) (fun _ => ?_)
          refine lv_iload_n hx hb dX4_mostKnown_23 rfl (lv_at hl 1 rfl) ?_
          refine lv_aload_n hx hb dX4_mostKnown_24 rfl (lv_at hl 2 rfl) ?_
          refine lv_iload hx hb dX4_mostKnown_25 (lv_at hl 0 rfl) ?_
          refine lv_iload_n hx hb dX4_mostKnown_27 rfl (lv_at hl 3 rfl) ?_
          refine kRi (rV (As := [.int (nI j_4), .int (nI kB)]) (rest := [.int xM_5]) (b := qt) ⟨hx, hb, hml, hown, hts⟩ (c_X4_knows l G cy qt tA qtw qtn qtg qta qtr qtm qtt qts j_4 kB (by omega) hJ) L_X4_66 (preRV (q := (RX4, TX4, 13)) hN hP [0, 1] rfl 0 3 rfl rfl) rfl ⟨Nat.le_of_ble_eq_true rfl, Nat.le_of_ble_eq_true rfl⟩ hl.1 (Nat.le_of_ble_eq_true rfl) dX4_mostKnown_28 ⟨Nat.le_of_ble_eq_true rfl, Nat.le_of_ble_eq_true rfl⟩) (fun r_16 h_17 => ?_)
          subst h_17
          refine va_mmax hx hb (hml.trans hl.1.symm) hown (hts _ m_max1) (hts _ m_max2) (hts _ m_t9) (hts _ m_max3) (Nat.le_of_ble_eq_true rfl) (Nat.le_of_ble_eq_true rfl) (Nat.le_of_ble_eq_true rfl) (Nat.le_of_ble_eq_true rfl) dX4_mostKnown_31 ?_
          refine lv_seti (v := mx xM_5 (T_kn tA j_4 kB)) rfl ?_
          refine lv_istore_n (lv' := [(3, .int (mx xM_5 (T_kn tA j_4 kB))), (4, .int (nI j_4)), (0, .ref qt), (1, .int (nI kB)), (2, .int iS)]) hx hb dX4_mostKnown_34 rfl hl (by decide) rfl (fun ls => ?_)
          clear hl
          intro hl
          refine lv_iinc (v := nI (j_4 + 1)) (lv' := [(4, .int (nI (j_4 + 1))), (3, .int (mx xM_5 (T_kn tA j_4 kB))), (0, .ref qt), (1, .int (nI kB)), (2, .int iS)]) hx hb dX4_mostKnown_35 hl (k := 1) rfl (nI_1 _) (by decide) rfl (fun ls => ?_)
          clear hl
          intro hl
          refine lv_goto (tgt := 5) hx hb dX4_mostKnown_38 (by decide) ?_
          exact ih_3 (j_4 + 1) (mx xM_5 (T_kn tA j_4 kB)) (by omega) (by omega) (by rw [hxM_7]; exact (if_pos h_14).symm) _ (lv_sub hl [0, 1, 2, 3, 4] rfl)
        · refine lv_if_eq (tgt := 35) hx hb dX4_mostKnown_20 (by decide) (fun _ => ?_) (fun h9 => absurd (by decide) h9)
          refine lv_iinc (v := nI (j_4 + 1)) (lv' := [(4, .int (nI (j_4 + 1))), (3, .int xM_5), (0, .ref qt), (1, .int (nI kB)), (2, .int iS)]) hx hb dX4_mostKnown_35 hl (k := 0) rfl (nI_1 _) (by decide) rfl (fun ls => ?_)
          clear hl
          intro hl
          refine lv_goto (tgt := 5) hx hb dX4_mostKnown_38 (by decide) ?_
          exact ih_3 (j_4 + 1) xM_5 (by omega) (by omega) (by rw [hxM_7]; exact (if_neg (by rw [h_14]; decide)).symm) _ (lv_sub hl [0, 1, 2, 3, 4] rfl)
  exact lp_1 ((8 - 0) + 1) 0 0 (Nat.lt_succ_self _) (Nat.zero_le _) rfl ls (lv_sub hl [0, 1, 2, 3, 4] rfl)
set_option maxHeartbeats 4000000 in
set_option maxRecDepth 100000 in
theorem c_X4_worthAmong (l : Launch) (G : va_G) (cy : Nat → ClassId) (qt : Nat) (tA : TA) (qtw : Nat) (qtn : Nat) (qtg : Nat) (qta : Nat) (qtr : Nat) (qtm : Nat) (qtt : Nat) (qts : Nat) (iS : Int32)  (hB : T_nb tA ≤ 8) (hPp : T_np tA ≤ 8) : MR l yX4_worthAmong cX4_worthAmong 4 (some .int) 3 G cy [zzO qt 3 [.int (nI (T_nb tA)), .int (nI (T_np tA)), .int (wb (T_wh tA)), .int (wb (T_gn tA)), .int (T_sd tA), .ref qtw, .ref qtn, .ref qtg, .ref qta, .ref qtr, .ref qtm, .ref qtt, .ref qts], zzI cy qtw 8 (T_wo tA), zzI cy qts 64 (shF (T_kn tA))] [.ref qt, .int iS] (vp_Si (fun r => (r = (waF tA iS)))) := by
  refine enR RX4 (by decide) rfl (Nat.le_of_ble_eq_true rfl) (fun p e s m below meth c ls hx hb hml hown hts hr hlocks hP hN hl => ?_)
  have hK := hN.1
  replace hl : lv_has ls 4 [(0, .ref qt), (1, .int iS)] := hl
  refine lv_iconst (v := 0) hx hb dX4_worthAmong_0 (by decide) ?_
  refine lv_istore_n (lv' := [(2, .int 0), (0, .ref qt), (1, .int iS)]) hx hb dX4_worthAmong_1 rfl hl (by decide) rfl (fun ls => ?_)
  clear hl
  intro hl
  refine lv_iconst (v := 0) hx hb dX4_worthAmong_2 (by decide) ?_
  refine lv_istore_n (lv' := [(3, .int 0), (2, .int 0), (0, .ref qt), (1, .int iS)]) hx hb dX4_worthAmong_3 rfl hl (by decide) rfl (fun ls => ?_)
  clear hl
  intro hl
  have lp_1 : ∀ (n_2 : Nat) (j_4 : Nat) (xM_5 : Int32), 8 - j_4 < n_2 → j_4 ≤ T_nb tA → xM_5 = wsum (fun b => T_wo tA b * mkn tA b iS) j_4 → ∀ (ls : Array Slot), lv_has ls 4 [(3, .int (nI j_4)), (2, .int xM_5), (0, .ref qt), (1, .int iS)] → W p l e (Rm 3 0 0) s m (List.toArray (α := Value) [.ref qt, .int iS]) below meth c s.heap [] 0 0 (MQ below (vp_Si (fun r => (r = (waF tA iS)))) (List.toArray (α := Value) [.ref qt, .int iS]) s 0 0 (fun _ => False)) (F0 m 4 ls []) := by
    intro n_2
    induction n_2 with
    | zero => intro j_4 xM_5 hm9; exact absurd hm9 (Nat.not_lt_zero _)
    | succ n_2 ih_3 =>
      intro j_4 xM_5 hm_8 hj_6 hxM_7 ls hl
      refine lv_iload_n hx hb dX4_worthAmong_4 rfl (lv_at hl 0 rfl) ?_
      refine lv_aload_n hx hb dX4_worthAmong_5 rfl (lv_at hl 2 rfl) ?_
      refine va_get (D := G) (ci := 3) (v := .int (nI (T_nb tA))) (C := RX4) (T := TX4) (N := 13) hx hb hts iX_X4 hown hK hP 0 rfl rfl 0 (by decide) (hts _ m_t29) (fun _ h9 => h9) rfl dX4_worthAmong_6 ?_
      refine lv_icmp_ge (tgt := 34) hx hb dX4_worthAmong_9 (by decide) (fun c_9 => ?_) (fun c_9 => ?_)
      · have hlt_10 : j_4 = T_nb tA := Nat.le_antisymm (by omega) (lp_ge rfl rfl (by omega) (by omega) c_9)
        refine lv_iload_n hx hb dX4_worthAmong_34 rfl (lv_at hl 1 rfl) ?_
        exact endR hx hb hr hlocks rfl (by rw [hxM_7, hlt_10]; rfl) dX4_worthAmong_35
      · have hlt_11 : j_4 < T_nb tA := lp_lt rfl rfl (by omega) (by omega) c_9
        refine lv_iload_n hx hb dX4_worthAmong_12 rfl (lv_at hl 1 rfl) ?_
        refine lv_aload_n hx hb dX4_worthAmong_13 rfl (lv_at hl 2 rfl) ?_
        refine va_get (D := G) (ci := 3) (v := .ref qtw) (C := RX4) (T := TX4) (N := 13) hx hb hts iX_X4 hown hK hP 0 rfl rfl 5 (by decide) (hts _ m_t48) (fun _ h9 => h9) rfl dX4_worthAmong_14 ?_
        refine lv_iload_n hx hb dX4_worthAmong_17 rfl (lv_at hl 0 rfl) ?_
        refine va_iald hx hb hK hP 1 0 rfl rfl (in8 (by omega)) dX4_worthAmong_18 ?_
        refine lv_seti (v := (T_wo tA) j_4) (congrArg (T_wo tA) (cl8 (by omega))) ?_
        refine lv_aload_n hx hb dX4_worthAmong_19 rfl (lv_at hl 2 rfl) ?_
        refine lv_iload_n hx hb dX4_worthAmong_20 rfl (lv_at hl 0 rfl) ?_
        refine lv_iload_n hx hb dX4_worthAmong_21 rfl (lv_at hl 3 rfl) ?_
        refine kRi (rV (As := [.int (nI j_4), .int iS]) (rest := [.int ((T_wo tA) j_4), .int xM_5]) (b := qt) ⟨hx, hb, hml, hown, hts⟩ (c_X4_mostKnown l G cy qt tA qtw qtn qtg qta qtr qtm qtt qts j_4 iS hPp (by omega)) L_X4_75 (preRV (q := (RX4, TX4, 13)) hN hP [0, 2] rfl 0 3 rfl rfl) rfl ⟨Nat.le_of_ble_eq_true rfl, Nat.le_of_ble_eq_true rfl⟩ hl.1 (Nat.le_of_ble_eq_true rfl) dX4_worthAmong_22 ⟨Nat.le_of_ble_eq_true rfl, Nat.le_of_ble_eq_true rfl⟩) (fun r_12 h_13 => ?_)
        subst h_13
        refine lv_imul hx hb dX4_worthAmong_25 ?_
        refine lv_iadd hx hb dX4_worthAmong_26 ?_
        refine lv_istore_n (lv' := [(2, .int (xM_5 + (((T_wo tA) j_4) * (mkn tA j_4 iS)))), (3, .int (nI j_4)), (0, .ref qt), (1, .int iS)]) hx hb dX4_worthAmong_27 rfl hl (by decide) rfl (fun ls => ?_)
        clear hl
        intro hl
        refine lv_iinc (v := nI (j_4 + 1)) (lv' := [(3, .int (nI (j_4 + 1))), (2, .int (xM_5 + (((T_wo tA) j_4) * (mkn tA j_4 iS)))), (0, .ref qt), (1, .int iS)]) hx hb dX4_worthAmong_28 hl (k := 1) rfl (nI_1 _) (by decide) rfl (fun ls => ?_)
        clear hl
        intro hl
        refine lv_goto (tgt := 4) hx hb dX4_worthAmong_31 (by decide) ?_
        exact ih_3 (j_4 + 1) (xM_5 + (((T_wo tA) j_4) * (mkn tA j_4 iS))) (by omega) (by omega) (by rw [hxM_7]; rfl) _ (lv_sub hl [0, 1, 2, 3] rfl)
  exact lp_1 ((8 - 0) + 1) 0 0 (Nat.lt_succ_self _) (Nat.zero_le _) rfl ls (lv_sub hl [0, 1, 2, 3] rfl)
set_option maxHeartbeats 4000000 in
set_option maxRecDepth 100000 in
theorem c_X4_worthNow (l : Launch) (G : va_G) (cy : Nat → ClassId) (qt : Nat) (tA : TA) (qtw : Nat) (qtn : Nat) (qtg : Nat) (qta : Nat) (qtr : Nat) (qtm : Nat) (qtt : Nat) (qts : Nat)  (hB : T_nb tA ≤ 8) (hPp : T_np tA ≤ 8) : MR l yX4_worthNow cX4_worthNow 1 (some .int) 4 G cy [zzO qt 3 [.int (nI (T_nb tA)), .int (nI (T_np tA)), .int (wb (T_wh tA)), .int (wb (T_gn tA)), .int (T_sd tA), .ref qtw, .ref qtn, .ref qtg, .ref qta, .ref qtr, .ref qtm, .ref qtt, .ref qts], zzI cy qtw 8 (T_wo tA), zzI cy qts 64 (shF (T_kn tA))] [.ref qt] (vp_Si (fun r => (r = (zval tA)))) := by
  refine enR RX4 (by decide) rfl (Nat.le_of_ble_eq_true rfl) (fun p e s m below meth c ls hx hb hml hown hts hr hlocks hP hN hl => ?_)
  have hK := hN.1
  replace hl : lv_has ls 1 [(0, .ref qt)] := hl
  refine lv_aload_n hx hb dX4_worthNow_0 rfl (lv_at hl 0 rfl) ?_
  refine lv_aload_n hx hb dX4_worthNow_1 rfl (lv_at hl 0 rfl) ?_
  refine kRi (rV (As := []) (rest := [.ref qt]) (b := qt) ⟨hx, hb, hml, hown, hts⟩ (c_X4_setThere l G cy qt tA qtw qtn qtg qta qtr qtm qtt qts hPp) L_X4_78 (preRV (q := (RX4, TX4, 13)) hN hP [0] rfl 0 3 rfl rfl) rfl ⟨Nat.le_of_ble_eq_true rfl, Nat.le_of_ble_eq_true rfl⟩ hl.1 (Nat.le_of_ble_eq_true rfl) dX4_worthNow_2 ⟨Nat.le_of_ble_eq_true rfl, Nat.le_of_ble_eq_true rfl⟩) (fun r_1 h_2 => ?_)
  subst h_2
  refine kRi (rV (As := [.int (zthere tA)]) (rest := []) (b := qt) ⟨hx, hb, hml, hown, hts⟩ (c_X4_worthAmong l G cy qt tA qtw qtn qtg qta qtr qtm qtt qts (zthere tA) hB hPp) L_X4_82 (preRV (q := (RX4, TX4, 13)) hN hP [0, 1, 2] rfl 0 3 rfl rfl) rfl ⟨Nat.le_of_ble_eq_true rfl, Nat.le_of_ble_eq_true rfl⟩ hl.1 (Nat.le_of_ble_eq_true rfl) dX4_worthNow_5 ⟨Nat.le_of_ble_eq_true rfl, Nat.le_of_ble_eq_true rfl⟩) (fun r_3 h_4 => ?_)
  subst h_4
  exact endR hx hb hr hlocks rfl (by rfl) dX4_worthNow_8
set_option maxHeartbeats 4000000 in
set_option maxRecDepth 100000 in
theorem c_X4_booksKnown (l : Launch) (G : va_G) (cy : Nat → ClassId) (qt : Nat) (tA : TA) (qtw : Nat) (qtn : Nat) (qtg : Nat) (qta : Nat) (qtr : Nat) (qtm : Nat) (qtt : Nat) (qts : Nat) (iS : Int32) (iV : Int32)  (hB : T_nb tA ≤ 8) (hPp : T_np tA ≤ 8) : MR l yX4_booksKnown cX4_booksKnown 5 (some .int) 3 G cy [zzO qt 3 [.int (nI (T_nb tA)), .int (nI (T_np tA)), .int (wb (T_wh tA)), .int (wb (T_gn tA)), .int (T_sd tA), .ref qtw, .ref qtn, .ref qtg, .ref qta, .ref qtr, .ref qtm, .ref qtt, .ref qts], zzI cy qts 64 (shF (T_kn tA))] [.ref qt, .int iS, .int iV] (vp_Si (fun r => (r = (bkn tA iS iV)))) := by
  refine enR RX4 (by decide) rfl (Nat.le_of_ble_eq_true rfl) (fun p e s m below meth c ls hx hb hml hown hts hr hlocks hP hN hl => ?_)
  have hK := hN.1
  replace hl : lv_has ls 5 [(0, .ref qt), (1, .int iS), (2, .int iV)] := hl
  refine lv_iconst (v := 0) hx hb dX4_booksKnown_0 (by decide) ?_
  refine lv_istore_n (lv' := [(3, .int 0), (0, .ref qt), (1, .int iS), (2, .int iV)]) hx hb dX4_booksKnown_1 rfl hl (by decide) rfl (fun ls => ?_)
  clear hl
  intro hl
  refine lv_iconst (v := 0) hx hb dX4_booksKnown_2 (by decide) ?_
  refine lv_istore (lv' := [(4, .int 0), (3, .int 0), (0, .ref qt), (1, .int iS), (2, .int iV)]) hx hb dX4_booksKnown_3 hl (by decide) rfl (fun ls => ?_)
  clear hl
  intro hl
  have lp_1 : ∀ (n_2 : Nat) (j_4 : Nat) (xM_5 : Int32), 8 - j_4 < n_2 → j_4 ≤ T_nb tA → xM_5 = orF (fun b => decide (iV ≤ mkn tA b iS)) j_4 → ∀ (ls : Array Slot), lv_has ls 5 [(4, .int (nI j_4)), (3, .int xM_5), (0, .ref qt), (1, .int iS), (2, .int iV)] → W p l e (Rm 3 0 0) s m (List.toArray (α := Value) [.ref qt, .int iS, .int iV]) below meth c s.heap [] 0 0 (MQ below (vp_Si (fun r => (r = (bkn tA iS iV)))) (List.toArray (α := Value) [.ref qt, .int iS, .int iV]) s 0 0 (fun _ => False)) (F0 m 5 ls []) := by
    intro n_2
    induction n_2 with
    | zero => intro j_4 xM_5 hm9; exact absurd hm9 (Nat.not_lt_zero _)
    | succ n_2 ih_3 =>
      intro j_4 xM_5 hm_8 hj_6 hxM_7 ls hl
      refine lv_iload hx hb dX4_booksKnown_5 (lv_at hl 0 rfl) ?_
      refine lv_aload_n hx hb dX4_booksKnown_7 rfl (lv_at hl 2 rfl) ?_
      refine va_get (D := G) (ci := 3) (v := .int (nI (T_nb tA))) (C := RX4) (T := TX4) (N := 13) hx hb hts iX_X4 hown hK hP 0 rfl rfl 0 (by decide) (hts _ m_t29) (fun _ h9 => h9) rfl dX4_booksKnown_8 ?_
      refine lv_icmp_ge (tgt := 38) hx hb dX4_booksKnown_11 (by decide) (fun c_9 => ?_) (fun c_9 => ?_)
      · have hlt_10 : j_4 = T_nb tA := Nat.le_antisymm (by omega) (lp_ge rfl rfl (by omega) (by omega) c_9)
        refine lv_iload_n hx hb dX4_booksKnown_38 rfl (lv_at hl 1 rfl) ?_
        exact endR hx hb hr hlocks rfl (by rw [hxM_7, hlt_10]; rfl) dX4_booksKnown_39
      · have hlt_11 : j_4 < T_nb tA := lp_lt rfl rfl (by omega) (by omega) c_9
        refine lv_aload_n hx hb dX4_booksKnown_14 rfl (lv_at hl 2 rfl) ?_
        refine lv_iload hx hb dX4_booksKnown_15 (lv_at hl 0 rfl) ?_
        refine lv_iload_n hx hb dX4_booksKnown_17 rfl (lv_at hl 3 rfl) ?_
        refine kRi (rV (As := [.int (nI j_4), .int iS]) (rest := []) (b := qt) ⟨hx, hb, hml, hown, hts⟩ (c_X4_mostKnown l G cy qt tA qtw qtn qtg qta qtr qtm qtt qts j_4 iS hPp (by omega)) L_X4_75 (preRV (q := (RX4, TX4, 13)) hN hP [0, 1] rfl 0 3 rfl rfl) rfl ⟨Nat.le_of_ble_eq_true rfl, Nat.le_of_ble_eq_true rfl⟩ hl.1 (Nat.le_of_ble_eq_true rfl) dX4_booksKnown_18 ⟨Nat.le_of_ble_eq_true rfl, Nat.le_of_ble_eq_true rfl⟩) (fun r_12 h_13 => ?_)
        subst h_13
        refine lv_iload_n hx hb dX4_booksKnown_21 rfl (lv_at hl 4 rfl) ?_
        refine lv_icmp_lt (tgt := 32) hx hb dX4_booksKnown_22 (by decide) (fun c_14 => ?_) (fun c_14 => ?_)
        · refine lv_iinc (v := nI (j_4 + 1)) (lv' := [(4, .int (nI (j_4 + 1))), (3, .int xM_5), (0, .ref qt), (1, .int iS), (2, .int iV)]) hx hb dX4_booksKnown_32 hl (k := 0) rfl (nI_1 _) (by decide) rfl (fun ls => ?_)
          clear hl
          intro hl
          refine lv_goto (tgt := 5) hx hb dX4_booksKnown_35 (by decide) ?_
          exact ih_3 (j_4 + 1) xM_5 (by omega) (by omega) (by rw [hxM_7]; exact (if_neg (by simp only [decide_eq_true_eq]; exact Int32.not_le.mpr c_14)).symm) _ (lv_sub hl [0, 1, 2, 3, 4] rfl)
        · refine lv_iload_n hx hb dX4_booksKnown_25 rfl (lv_at hl 1 rfl) ?_
          refine lv_iconst (v := 1) hx hb dX4_booksKnown_26 (by decide) ?_
          refine lv_iload hx hb dX4_booksKnown_27 (lv_at hl 0 rfl) ?_
          refine lv_ishl hx hb dX4_booksKnown_29 ?_
          refine lv_ior hx hb dX4_booksKnown_30 ?_
          refine lv_istore_n (lv' := [(3, .int (xM_5 ||| (1 <<< ((nI j_4) &&& 31)))), (4, .int (nI j_4)), (0, .ref qt), (1, .int iS), (2, .int iV)]) hx hb dX4_booksKnown_31 rfl hl (by decide) rfl (fun ls => ?_)
          clear hl
          intro hl
          refine lv_iinc (v := nI (j_4 + 1)) (lv' := [(4, .int (nI (j_4 + 1))), (3, .int (xM_5 ||| (1 <<< ((nI j_4) &&& 31)))), (0, .ref qt), (1, .int iS), (2, .int iV)]) hx hb dX4_booksKnown_32 hl (k := 1) rfl (nI_1 _) (by decide) rfl (fun ls => ?_)
          clear hl
          intro hl
          refine lv_goto (tgt := 5) hx hb dX4_booksKnown_35 (by decide) ?_
          exact ih_3 (j_4 + 1) (xM_5 ||| (1 <<< ((nI j_4) &&& 31))) (by omega) (by omega) (by rw [hxM_7]; exact (if_pos (by simp only [decide_eq_true_eq]; exact Int32.not_lt.mp c_14)).symm) _ (lv_sub hl [0, 1, 2, 3, 4] rfl)
  exact lp_1 ((8 - 0) + 1) 0 0 (Nat.lt_succ_self _) (Nat.zero_le _) rfl ls (lv_sub hl [0, 1, 2, 3, 4] rfl)
set_option maxHeartbeats 4000000 in
set_option maxRecDepth 100000 in
theorem c_X4_groundOf (l : Launch) (G : va_G) (cy : Nat → ClassId) (qt : Nat) (tA : TA) (qtw : Nat) (qtn : Nat) (qtg : Nat) (qta : Nat) (qtr : Nat) (qtm : Nat) (qtt : Nat) (qts : Nat) (kI : Nat) (kB : Nat)  (hI : kI < 8) (hJ : kB < 8) : MR l yX4_groundOf cX4_groundOf 5 (some .int) 1 G cy [zzO qt 3 [.int (nI (T_nb tA)), .int (nI (T_np tA)), .int (wb (T_wh tA)), .int (wb (T_gn tA)), .int (T_sd tA), .ref qtw, .ref qtn, .ref qtg, .ref qta, .ref qtr, .ref qtm, .ref qtt, .ref qts], zzI cy qtn 8 (T_ne tA), zzI cy qts 64 (shF (T_kn tA))] [.ref qt, .int (nI kI), .int (nI kB)] (vp_Si (fun r => (r = (zgd tA kI kB)))) := by
  refine enR RX4 (by decide) rfl (Nat.le_of_ble_eq_true rfl) (fun p e s m below meth c ls hx hb hml hown hts hr hlocks hP hN hl => ?_)
  have hK := hN.1
  replace hl : lv_has ls 5 [(0, .ref qt), (1, .int (nI kI)), (2, .int (nI kB))] := hl
  refine lv_sipush (v := 1000) hx hb dX4_groundOf_0 (by decide) ?_
  refine lv_istore_n (lv' := [(3, .int 1000), (0, .ref qt), (1, .int (nI kI)), (2, .int (nI kB))]) hx hb dX4_groundOf_3 rfl hl (by decide) rfl (fun ls => ?_)
  clear hl
  intro hl
  refine lv_iconst (v := 0) hx hb dX4_groundOf_4 (by decide) ?_
  refine lv_istore (lv' := [(4, .int 0), (3, .int 1000), (0, .ref qt), (1, .int (nI kI)), (2, .int (nI kB))]) hx hb dX4_groundOf_5 hl (by decide) rfl (fun ls => ?_)
  clear hl
  intro hl
  have lp_1 : ∀ (n_2 : Nat) (j_4 : Nat) (xM_5 : Int32), 8 - j_4 < n_2 → j_4 ≤ kB → xM_5 = gdF (T_ne tA kB) (T_kn tA kI) j_4 → ∀ (ls : Array Slot), lv_has ls 5 [(4, .int (nI j_4)), (3, .int xM_5), (0, .ref qt), (1, .int (nI kI)), (2, .int (nI kB))] → W p l e (Rm 1 0 0) s m (List.toArray (α := Value) [.ref qt, .int (nI kI), .int (nI kB)]) below meth c s.heap [] 0 0 (MQ below (vp_Si (fun r => (r = (zgd tA kI kB)))) (List.toArray (α := Value) [.ref qt, .int (nI kI), .int (nI kB)]) s 0 0 (fun _ => False)) (F0 m 7 ls []) := by
    intro n_2
    induction n_2 with
    | zero => intro j_4 xM_5 hm9; exact absurd hm9 (Nat.not_lt_zero _)
    | succ n_2 ih_3 =>
      intro j_4 xM_5 hm_8 hj_6 hxM_7 ls hl
      refine lv_iload hx hb dX4_groundOf_7 (lv_at hl 0 rfl) ?_
      refine lv_iload_n hx hb dX4_groundOf_9 rfl (lv_at hl 4 rfl) ?_
      refine lv_icmp_ge (tgt := 62) hx hb dX4_groundOf_10 (by decide) (fun c_9 => ?_) (fun c_9 => ?_)
      · have hlt_10 : j_4 = kB := Nat.le_antisymm (by omega) (lp_ge rfl rfl (by omega) (by omega) c_9)
        refine lv_iload_n hx hb dX4_groundOf_62 rfl (lv_at hl 1 rfl) ?_
        exact endR hx hb hr hlocks rfl (by rw [hxM_7, hlt_10]; rfl) dX4_groundOf_63
      · have hlt_11 : j_4 < kB := lp_lt rfl rfl (by omega) (by omega) c_9
        refine lv_aload_n hx hb dX4_groundOf_13 rfl (lv_at hl 2 rfl) ?_
        refine va_get (D := G) (ci := 3) (v := .ref qtn) (C := RX4) (T := TX4) (N := 13) hx hb hts iX_X4 hown hK hP 0 rfl rfl 6 (by decide) (hts _ m_t50) (fun _ h9 => h9) rfl dX4_groundOf_14 ?_
        refine lv_iload_n hx hb dX4_groundOf_17 rfl (lv_at hl 4 rfl) ?_
        refine va_iald hx hb hK hP 1 0 rfl rfl (in8 (by omega)) dX4_groundOf_18 ?_
        refine lv_seti (v := (T_ne tA) kB) (congrArg (T_ne tA) (cl8 (by omega))) ?_
        refine lv_iload hx hb dX4_groundOf_19 (lv_at hl 0 rfl) ?_
        refine lv_ishr hx hb dX4_groundOf_21 ?_
        refine lv_iconst (v := 1) hx hb dX4_groundOf_22 (by decide) ?_
        refine lv_iand hx hb dX4_groundOf_23 ?_
        refine lv_if_eq (tgt := 56) hx hb dX4_groundOf_24 (by decide) (fun c_12 => ?_) (fun c_12 => ?_)
        · refine lv_iinc (v := nI (j_4 + 1)) (lv' := [(4, .int (nI (j_4 + 1))), (3, .int xM_5), (0, .ref qt), (1, .int (nI kI)), (2, .int (nI kB))]) hx hb dX4_groundOf_56 hl (k := 0) rfl (nI_1 _) (by decide) rfl (fun ls => ?_)
          clear hl
          intro hl
          refine lv_goto (tgt := 7) hx hb dX4_groundOf_59 (by decide) ?_
          exact ih_3 (j_4 + 1) xM_5 (by omega) (by omega) (by rw [hxM_7]; exact (if_neg (fun q => absurd c_12 (by have := q.1; unfold bitb at this; exact of_decide_eq_true this))).symm) _ (lv_sub hl [0, 1, 2, 3, 4] rfl)
        · refine lv_aload_n hx hb dX4_groundOf_27 rfl (lv_at hl 2 rfl) ?_
          refine va_get (D := G) (ci := 3) (v := .ref qts) (C := RX4) (T := TX4) (N := 13) hx hb hts iX_X4 hown hK hP 0 rfl rfl 12 (by decide) (hts _ m_t64) (fun _ h9 => h9) rfl dX4_groundOf_28 ?_
          refine lv_iload_n hx hb dX4_groundOf_31 rfl (lv_at hl 3 rfl) ?_
          refine lv_bipush (v := 8) hx hb dX4_groundOf_32 (by decide) ?_
          refine lv_imul hx hb dX4_groundOf_34 ?_
          refine lv_iload hx hb dX4_groundOf_35 (lv_at hl 0 rfl) ?_
          refine lv_iadd hx hb dX4_groundOf_37 ?_
          refine va_iald hx hb hK hP 2 0 rfl rfl (in64 (by omega) (by omega)) dX4_groundOf_38 ?_
          refine lv_seti (v := (T_kn tA) kI j_4) ((congrArg (shF (T_kn tA)) (cl64 (by omega) (by omega))).trans (shF_get _ (by omega))) ?_
          refine lv_iload_n hx hb dX4_groundOf_39 rfl (lv_at hl 1 rfl) ?_
          refine lv_icmp_ge (tgt := 56) hx hb dX4_groundOf_40 (by decide) (fun c_13 => ?_) (fun c_13 => ?_)
          · refine lv_iinc (v := nI (j_4 + 1)) (lv' := [(4, .int (nI (j_4 + 1))), (3, .int xM_5), (0, .ref qt), (1, .int (nI kI)), (2, .int (nI kB))]) hx hb dX4_groundOf_56 hl (k := 0) rfl (nI_1 _) (by decide) rfl (fun ls => ?_)
            clear hl
            intro hl
            refine lv_goto (tgt := 7) hx hb dX4_groundOf_59 (by decide) ?_
            exact ih_3 (j_4 + 1) xM_5 (by omega) (by omega) (by rw [hxM_7] at c_13; rw [hxM_7]; exact (if_neg (fun q => Int32.not_lt.mpr c_13 q.2)).symm) _ (lv_sub hl [0, 1, 2, 3, 4] rfl)
          · refine lv_aload_n hx hb dX4_groundOf_43 rfl (lv_at hl 2 rfl) ?_
            refine va_get (D := G) (ci := 3) (v := .ref qts) (C := RX4) (T := TX4) (N := 13) hx hb hts iX_X4 hown hK hP 0 rfl rfl 12 (by decide) (hts _ m_t64) (fun _ h9 => h9) rfl dX4_groundOf_44 ?_
            refine lv_iload_n hx hb dX4_groundOf_47 rfl (lv_at hl 3 rfl) ?_
            refine lv_bipush (v := 8) hx hb dX4_groundOf_48 (by decide) ?_
            refine lv_imul hx hb dX4_groundOf_50 ?_
            refine lv_iload hx hb dX4_groundOf_51 (lv_at hl 0 rfl) ?_
            refine lv_iadd hx hb dX4_groundOf_53 ?_
            refine va_iald hx hb hK hP 2 0 rfl rfl (in64 (by omega) (by omega)) dX4_groundOf_54 ?_
            refine lv_seti (v := (T_kn tA) kI j_4) ((congrArg (shF (T_kn tA)) (cl64 (by omega) (by omega))).trans (shF_get _ (by omega))) ?_
            refine lv_istore_n (lv' := [(3, .int ((T_kn tA) kI j_4)), (4, .int (nI j_4)), (0, .ref qt), (1, .int (nI kI)), (2, .int (nI kB))]) hx hb dX4_groundOf_55 rfl hl (by decide) rfl (fun ls => ?_)
            clear hl
            intro hl
            refine lv_iinc (v := nI (j_4 + 1)) (lv' := [(4, .int (nI (j_4 + 1))), (3, .int ((T_kn tA) kI j_4)), (0, .ref qt), (1, .int (nI kI)), (2, .int (nI kB))]) hx hb dX4_groundOf_56 hl (k := 1) rfl (nI_1 _) (by decide) rfl (fun ls => ?_)
            clear hl
            intro hl
            refine lv_goto (tgt := 7) hx hb dX4_groundOf_59 (by decide) ?_
            exact ih_3 (j_4 + 1) ((T_kn tA) kI j_4) (by omega) (by omega) (by rw [hxM_7] at c_13; exact (if_pos ⟨by unfold bitb; exact decide_eq_true c_12, Int32.not_le.mp c_13⟩).symm) _ (lv_sub hl [0, 1, 2, 3, 4] rfl)
  exact lp_1 ((8 - 0) + 1) 0 1000 (Nat.lt_succ_self _) (Nat.zero_le _) rfl ls (lv_sub hl [0, 1, 2, 3, 4] rfl)
set_option maxHeartbeats 4000000 in
set_option maxRecDepth 100000 in
theorem c_X4_wouldKnow (l : Launch) (G : va_G) (cy : Nat → ClassId) (qt : Nat) (tA : TA) (qtw : Nat) (qtn : Nat) (qtg : Nat) (qta : Nat) (qtr : Nat) (qtm : Nat) (qtt : Nat) (qts : Nat) (kI : Nat) (kB : Nat)  (hI : kI < 8) (hJ : kB < 8) : MR l yX4_wouldKnow cX4_wouldKnow 4 (some .int) 2 G cy [zzO qt 3 [.int (nI (T_nb tA)), .int (nI (T_np tA)), .int (wb (T_wh tA)), .int (wb (T_gn tA)), .int (T_sd tA), .ref qtw, .ref qtn, .ref qtg, .ref qta, .ref qtr, .ref qtm, .ref qtt, .ref qts], zzI cy qtn 8 (T_ne tA), zzI cy qtg 8 (T_go tA), zzI cy qtr 8 (T_re tA), zzI cy qts 64 (shF (T_kn tA))] [.ref qt, .int (nI kI), .int (nI kB)] (vp_Si (fun r => (r = (zwk tA kI kB)))) := by
  refine enR RX4 (by decide) rfl (Nat.le_of_ble_eq_true rfl) (fun p e s m below meth c ls hx hb hml hown hts hr hlocks hP hN hl => ?_)
  have hK := hN.1
  replace hl : lv_has ls 4 [(0, .ref qt), (1, .int (nI kI)), (2, .int (nI kB))] := hl
  refine lv_aload_n hx hb dX4_wouldKnow_0 rfl (lv_at hl 0 rfl) ?_
  refine va_get (D := G) (ci := 3) (v := .ref qtg) (C := RX4) (T := TX4) (N := 13) hx hb hts iX_X4 hown hK hP 0 rfl rfl 7 (by decide) (hts _ m_t53) (fun _ h9 => h9) rfl dX4_wouldKnow_1 ?_
  refine lv_iload_n hx hb dX4_wouldKnow_4 rfl (lv_at hl 2 rfl) ?_
  refine va_iald hx hb hK hP 2 0 rfl rfl (in8 (by omega)) dX4_wouldKnow_5 ?_
  refine lv_seti (v := (T_go tA) kB) (congrArg (T_go tA) (cl8 (by omega))) ?_
  refine lv_aload_n hx hb dX4_wouldKnow_6 rfl (lv_at hl 0 rfl) ?_
  refine va_get (D := G) (ci := 3) (v := .ref qtr) (C := RX4) (T := TX4) (N := 13) hx hb hts iX_X4 hown hK hP 0 rfl rfl 9 (by decide) (hts _ m_t58) (fun _ h9 => h9) rfl dX4_wouldKnow_7 ?_
  refine lv_iload_n hx hb dX4_wouldKnow_10 rfl (lv_at hl 1 rfl) ?_
  refine va_iald hx hb hK hP 3 0 rfl rfl (in8 (by omega)) dX4_wouldKnow_11 ?_
  refine lv_seti (v := (T_re tA) kI) (congrArg (T_re tA) (cl8 (by omega))) ?_
  refine lv_imul hx hb dX4_wouldKnow_12 ?_
  refine lv_bipush (v := 10) hx hb dX4_wouldKnow_13 (by decide) ?_
  refine lv_idiv hx hb dX4_wouldKnow_15 (by decide) ?_
  refine lv_aload_n hx hb dX4_wouldKnow_16 rfl (lv_at hl 0 rfl) ?_
  refine lv_iload_n hx hb dX4_wouldKnow_17 rfl (lv_at hl 1 rfl) ?_
  refine lv_iload_n hx hb dX4_wouldKnow_18 rfl (lv_at hl 2 rfl) ?_
  refine kRi (rV (As := [.int (nI kI), .int (nI kB)]) (rest := [.int ((((T_go tA) kB) * ((T_re tA) kI)) / 10)]) (b := qt) ⟨hx, hb, hml, hown, hts⟩ (c_X4_groundOf l G cy qt tA qtw qtn qtg qta qtr qtm qtt qts kI kB hI hJ) L_X4_85 (preRV (q := (RX4, TX4, 13)) hN hP [0, 1, 4] rfl 0 3 rfl rfl) rfl ⟨Nat.le_of_ble_eq_true rfl, Nat.le_of_ble_eq_true rfl⟩ hl.1 (Nat.le_of_ble_eq_true rfl) dX4_wouldKnow_19 ⟨Nat.le_of_ble_eq_true rfl, Nat.le_of_ble_eq_true rfl⟩) (fun r_1 h_2 => ?_)
  subst h_2
  refine kRi (rS (As := [.int ((((T_go tA) kB) * ((T_re tA) kI)) / 10), .int (zgd tA kI kB)]) (rest := []) ⟨hx, hb, hml, hown, hts⟩ (c_X4_grasped l G cy ((((T_go tA) kB) * ((T_re tA) kI)) / 10) (zgd tA kI kB)) L_X4_88 (preRS hN hP [] rfl) rfl ⟨Nat.le_of_ble_eq_true rfl, Nat.le_of_ble_eq_true rfl⟩ hl.1 (Nat.le_of_ble_eq_true rfl) dX4_wouldKnow_22 ⟨Nat.le_of_ble_eq_true rfl, Nat.le_of_ble_eq_true rfl⟩) (fun r_3 h_4 => ?_)
  subst h_4
  refine lv_istore_n (lv' := [(3, .int (zgr ((((T_go tA) kB) * ((T_re tA) kI)) / 10) (zgd tA kI kB))), (0, .ref qt), (1, .int (nI kI)), (2, .int (nI kB))]) hx hb dX4_wouldKnow_25 rfl hl (by decide) rfl (fun ls => ?_)
  clear hl
  intro hl
  refine lv_iload_n hx hb dX4_wouldKnow_26 rfl (lv_at hl 0 rfl) ?_
  refine lv_aload_n hx hb dX4_wouldKnow_27 rfl (lv_at hl 1 rfl) ?_
  refine lv_iload_n hx hb dX4_wouldKnow_28 rfl (lv_at hl 2 rfl) ?_
  refine lv_iload_n hx hb dX4_wouldKnow_29 rfl (lv_at hl 3 rfl) ?_
  refine kRi (rV (As := [.int (nI kI), .int (nI kB)]) (rest := [.int (zgr ((((T_go tA) kB) * ((T_re tA) kI)) / 10) (zgd tA kI kB))]) (b := qt) ⟨hx, hb, hml, hown, hts⟩ (c_X4_knows l G cy qt tA qtw qtn qtg qta qtr qtm qtt qts kI kB hI hJ) L_X4_66 (preRV (q := (RX4, TX4, 13)) hN hP [0, 4] rfl 0 3 rfl rfl) rfl ⟨Nat.le_of_ble_eq_true rfl, Nat.le_of_ble_eq_true rfl⟩ hl.1 (Nat.le_of_ble_eq_true rfl) dX4_wouldKnow_30 ⟨Nat.le_of_ble_eq_true rfl, Nat.le_of_ble_eq_true rfl⟩) (fun r_5 h_6 => ?_)
  subst h_6
  refine va_mmax hx hb (hml.trans hl.1.symm) hown (hts _ m_max1) (hts _ m_max2) (hts _ m_t9) (hts _ m_max3) (Nat.le_of_ble_eq_true rfl) (Nat.le_of_ble_eq_true rfl) (Nat.le_of_ble_eq_true rfl) (Nat.le_of_ble_eq_true rfl) dX4_wouldKnow_33 ?_
  refine lv_seti (v := mx (zgr ((((T_go tA) kB) * ((T_re tA) kI)) / 10) (zgd tA kI kB)) (T_kn tA kI kB)) rfl ?_
  exact endR hx hb hr hlocks rfl (by rfl) dX4_wouldKnow_36
set_option maxHeartbeats 4000000 in
set_option maxRecDepth 100000 in
theorem c_X4_gainByTelling (l : Launch) (G : va_G) (cy : Nat → ClassId) (qt : Nat) (tA : TA) (qtw : Nat) (qtn : Nat) (qtg : Nat) (qta : Nat) (qtr : Nat) (qtm : Nat) (qtt : Nat) (qts : Nat) (kI : Nat) (kO : Nat) (kB : Nat)  (hI : kI < 8) (hO : kO < 8) (hJ : kB < 8) : MR l yX4_gainByTelling cX4_gainByTelling 4 (some .int) 2 G cy [zzO qt 3 [.int (nI (T_nb tA)), .int (nI (T_np tA)), .int (wb (T_wh tA)), .int (wb (T_gn tA)), .int (T_sd tA), .ref qtw, .ref qtn, .ref qtg, .ref qta, .ref qtr, .ref qtm, .ref qtt, .ref qts], zzI cy qtt 8 (T_te tA), zzI cy qts 64 (shF (T_kn tA))] [.ref qt, .int (nI kI), .int (nI kO), .int (nI kB)] (vp_Si (fun r => (r = (zgt tA kI kO kB)))) := by
  refine enR RX4 (by decide) rfl (Nat.le_of_ble_eq_true rfl) (fun p e s m below meth c ls hx hb hml hown hts hr hlocks hP hN hl => ?_)
  have hK := hN.1
  replace hl : lv_has ls 4 [(0, .ref qt), (1, .int (nI kI)), (2, .int (nI kO)), (3, .int (nI kB))] := hl
  refine lv_iconst (v := 0) hx hb dX4_gainByTelling_0 (by decide) ?_
  refine lv_aload_n hx hb dX4_gainByTelling_1 rfl (lv_at hl 0 rfl) ?_
  refine lv_iload_n hx hb dX4_gainByTelling_2 rfl (lv_at hl 1 rfl) ?_
  refine lv_iload_n hx hb dX4_gainByTelling_3 rfl (lv_at hl 3 rfl) ?_
  refine kRi (rV (As := [.int (nI kI), .int (nI kB)]) (rest := [.int 0]) (b := qt) ⟨hx, hb, hml, hown, hts⟩ (c_X4_knows l G cy qt tA qtw qtn qtg qta qtr qtm qtt qts kI kB hI hJ) L_X4_66 (preRV (q := (RX4, TX4, 13)) hN hP [0, 2] rfl 0 3 rfl rfl) rfl ⟨Nat.le_of_ble_eq_true rfl, Nat.le_of_ble_eq_true rfl⟩ hl.1 (Nat.le_of_ble_eq_true rfl) dX4_gainByTelling_4 ⟨Nat.le_of_ble_eq_true rfl, Nat.le_of_ble_eq_true rfl⟩) (fun r_1 h_2 => ?_)
  subst h_2
  refine lv_aload_n hx hb dX4_gainByTelling_7 rfl (lv_at hl 0 rfl) ?_
  refine va_get (D := G) (ci := 3) (v := .ref qtt) (C := RX4) (T := TX4) (N := 13) hx hb hts iX_X4 hown hK hP 0 rfl rfl 11 (by decide) (hts _ m_t62) (fun _ h9 => h9) rfl dX4_gainByTelling_8 ?_
  refine lv_iload_n hx hb dX4_gainByTelling_11 rfl (lv_at hl 1 rfl) ?_
  refine va_iald hx hb hK hP 1 0 rfl rfl (in8 (by omega)) dX4_gainByTelling_12 ?_
  refine lv_seti (v := (T_te tA) kI) (congrArg (T_te tA) (cl8 (by omega))) ?_
  refine kRi (rS (As := [.int (T_kn tA kI kB), .int ((T_te tA) kI)]) (rest := [.int 0]) ⟨hx, hb, hml, hown, hts⟩ (c_X4_afterTelling l G cy (T_kn tA kI kB) ((T_te tA) kI)) L_X4_98 (preRS hN hP [] rfl) rfl ⟨Nat.le_of_ble_eq_true rfl, Nat.le_of_ble_eq_true rfl⟩ hl.1 (Nat.le_of_ble_eq_true rfl) dX4_gainByTelling_13 ⟨Nat.le_of_ble_eq_true rfl, Nat.le_of_ble_eq_true rfl⟩) (fun r_3 h_4 => ?_)
  subst h_4
  refine lv_aload_n hx hb dX4_gainByTelling_16 rfl (lv_at hl 0 rfl) ?_
  refine lv_iload_n hx hb dX4_gainByTelling_17 rfl (lv_at hl 2 rfl) ?_
  refine lv_iload_n hx hb dX4_gainByTelling_18 rfl (lv_at hl 3 rfl) ?_
  refine kRi (rV (As := [.int (nI kO), .int (nI kB)]) (rest := [.int ((T_kn tA kI kB) * ((T_te tA) kI) / 10), .int 0]) (b := qt) ⟨hx, hb, hml, hown, hts⟩ (c_X4_knows l G cy qt tA qtw qtn qtg qta qtr qtm qtt qts kO kB hO hJ) L_X4_66 (preRV (q := (RX4, TX4, 13)) hN hP [0, 2] rfl 0 3 rfl rfl) rfl ⟨Nat.le_of_ble_eq_true rfl, Nat.le_of_ble_eq_true rfl⟩ hl.1 (Nat.le_of_ble_eq_true rfl) dX4_gainByTelling_19 ⟨Nat.le_of_ble_eq_true rfl, Nat.le_of_ble_eq_true rfl⟩) (fun r_5 h_6 => ?_)
  subst h_6
  refine lv_isub hx hb dX4_gainByTelling_22 ?_
  refine va_mmax hx hb (hml.trans hl.1.symm) hown (hts _ m_max1) (hts _ m_max2) (hts _ m_t9) (hts _ m_max3) (Nat.le_of_ble_eq_true rfl) (Nat.le_of_ble_eq_true rfl) (Nat.le_of_ble_eq_true rfl) (Nat.le_of_ble_eq_true rfl) dX4_gainByTelling_23 ?_
  refine lv_seti (v := mx 0 (((T_kn tA kI kB) * ((T_te tA) kI) / 10) - (T_kn tA kO kB))) rfl ?_
  exact endR hx hb hr hlocks rfl (by rfl) dX4_gainByTelling_26
set_option maxHeartbeats 4000000 in
set_option maxRecDepth 100000 in
theorem c_X4_tellTo (l : Launch) (G : va_G) (cy : Nat → ClassId) (sz : Nat) (qt : Nat) (tA : TA) (qtw : Nat) (qtn : Nat) (qtg : Nat) (qta : Nat) (qtr : Nat) (qtm : Nat) (qtt : Nat) (qts : Nat) (kI : Nat) (kO : Nat) (kB : Nat)  (hI : kI < 8) (hO : kO < 8) (hJ : kB < 8) : MW l yX4_tellTo cX4_tellTo 4 none 3 0 0 G cy [zzO qt 3 [.int (nI (T_nb tA)), .int (nI (T_np tA)), .int (wb (T_wh tA)), .int (wb (T_gn tA)), .int (T_sd tA), .ref qtw, .ref qtn, .ref qtg, .ref qta, .ref qtr, .ref qtm, .ref qtt, .ref qts], zzI cy qtt 8 (T_te tA), zzI cy qts 64 (shF (T_kn tA))] sz [.ref qt, .int (nI kI), .int (nI kO), .int (nI kB)] (Wv G (fun u => u = [zzO qt 3 [.int (nI (T_nb (T_setkn tA (updM (T_kn tA) kO kB (T_kn tA kO kB + zgt tA kI kO kB))))), .int (nI (T_np (T_setkn tA (updM (T_kn tA) kO kB (T_kn tA kO kB + zgt tA kI kO kB))))), .int (wb (T_wh (T_setkn tA (updM (T_kn tA) kO kB (T_kn tA kO kB + zgt tA kI kO kB))))), .int (wb (T_gn (T_setkn tA (updM (T_kn tA) kO kB (T_kn tA kO kB + zgt tA kI kO kB))))), .int (T_sd (T_setkn tA (updM (T_kn tA) kO kB (T_kn tA kO kB + zgt tA kI kO kB)))), .ref qtw, .ref qtn, .ref qtg, .ref qta, .ref qtr, .ref qtm, .ref qtt, .ref qts], zzI cy qtt 8 (T_te (T_setkn tA (updM (T_kn tA) kO kB (T_kn tA kO kB + zgt tA kI kO kB)))), zzI cy qts 64 (shF (T_kn (T_setkn tA (updM (T_kn tA) kO kB (T_kn tA kO kB + zgt tA kI kO kB)))))])) := by
  refine enW RX4 (by decide) rfl (Nat.le_of_ble_eq_true rfl) (fun p e s m below meth c ls A hx hb hml hown hts hr hlocks hP hN hl hin hD hA hS => ?_)
  have hin : meth.name = _ := hin
  have hK := hN.1
  replace hl : lv_has ls 4 [(0, .ref qt), (1, .int (nI kI)), (2, .int (nI kO)), (3, .int (nI kB))] := hl
  refine lv_aload_n hx hb dX4_tellTo_0 rfl (lv_at hl 0 rfl) ?_
  refine lv_iload_n hx hb dX4_tellTo_1 rfl (lv_at hl 2 rfl) ?_
  refine lv_iload_n hx hb dX4_tellTo_2 rfl (lv_at hl 3 rfl) ?_
  refine lv_aload_n hx hb dX4_tellTo_3 rfl (lv_at hl 0 rfl) ?_
  refine lv_iload_n hx hb dX4_tellTo_4 rfl (lv_at hl 2 rfl) ?_
  refine lv_iload_n hx hb dX4_tellTo_5 rfl (lv_at hl 3 rfl) ?_
  refine kRi (rV (As := [.int (nI kO), .int (nI kB)]) (rest := [.int (nI kB), .int (nI kO), .ref qt]) (b := qt) ⟨hx, hb, hml, hown, hts⟩ (c_X4_knows l G cy qt tA qtw qtn qtg qta qtr qtm qtt qts kO kB hO hJ) L_X4_66 (preRV (q := (RX4, TX4, 13)) hN hP [0, 2] rfl 0 3 rfl rfl) rfl ⟨Nat.le_of_ble_eq_true rfl, Nat.le_of_ble_eq_true rfl⟩ hl.1 (Nat.le_of_ble_eq_true rfl) dX4_tellTo_6 ⟨Nat.le_of_ble_eq_true rfl, Nat.le_of_ble_eq_true rfl⟩) (fun r_1 h_2 => ?_)
  subst h_2
  refine lv_aload_n hx hb dX4_tellTo_9 rfl (lv_at hl 0 rfl) ?_
  refine lv_iload_n hx hb dX4_tellTo_10 rfl (lv_at hl 1 rfl) ?_
  refine lv_iload_n hx hb dX4_tellTo_11 rfl (lv_at hl 2 rfl) ?_
  refine lv_iload_n hx hb dX4_tellTo_12 rfl (lv_at hl 3 rfl) ?_
  refine kRi (rV (As := [.int (nI kI), .int (nI kO), .int (nI kB)]) (rest := [.int (T_kn tA kO kB), .int (nI kB), .int (nI kO), .ref qt]) (b := qt) ⟨hx, hb, hml, hown, hts⟩ (c_X4_gainByTelling l G cy qt tA qtw qtn qtg qta qtr qtm qtt qts kI kO kB hI hO hJ) L_X4_101 (preRV (q := (RX4, TX4, 13)) hN hP [0, 1, 2] rfl 0 3 rfl rfl) rfl ⟨Nat.le_of_ble_eq_true rfl, Nat.le_of_ble_eq_true rfl⟩ hl.1 (Nat.le_of_ble_eq_true rfl) dX4_tellTo_13 ⟨Nat.le_of_ble_eq_true rfl, Nat.le_of_ble_eq_true rfl⟩) (fun r_3 h_4 => ?_)
  subst h_4
  refine lv_iadd hx hb dX4_tellTo_16 ?_
  refine cVv (As := [.int (nI kO), .int (nI kB), .int ((T_kn tA kO kB) + (zgt tA kI kO kB))]) (rest := []) (b := qt) (q := (RX4, TX4, 13)) ⟨hx, hb, hml, hown, hts⟩ (c_X4_learn l G cy (s.heap).size qt tA qtw qtn qtg qta qtr qtm qtt qts kO kB ((T_kn tA kO kB) + (zgt tA kI kO kB)) hO hJ) L_X4_94 hN hP hD hS hA [0, 2] [false, true, false] rfl (by decide +kernel) rfl 0 3 rfl rfl rfl ⟨Nat.le_of_ble_eq_true rfl, Nat.le_of_ble_eq_true rfl⟩ hl.1 (Nat.le_of_ble_eq_true rfl) dX4_tellTo_17 ⟨Nat.le_of_ble_eq_true rfl, Nat.le_of_ble_eq_true rfl⟩ (fun u_7 H locs h_6 => ?_)
  clear hP hD hS
  intro hP hD hS
  subst h_6
  have hPD := pd_as [zzI cy qtt 8 (T_te (T_setkn tA (updM (T_kn tA) kO kB ((T_kn tA kO kB) + (zgt tA kI kO kB))))), zzO qt 3 [.int (nI (T_nb (T_setkn tA (updM (T_kn tA) kO kB ((T_kn tA kO kB) + (zgt tA kI kO kB)))))), .int (nI (T_np (T_setkn tA (updM (T_kn tA) kO kB ((T_kn tA kO kB) + (zgt tA kI kO kB)))))), .int (wb (T_wh (T_setkn tA (updM (T_kn tA) kO kB ((T_kn tA kO kB) + (zgt tA kI kO kB)))))), .int (wb (T_gn (T_setkn tA (updM (T_kn tA) kO kB ((T_kn tA kO kB) + (zgt tA kI kO kB)))))), .int (T_sd (T_setkn tA (updM (T_kn tA) kO kB ((T_kn tA kO kB) + (zgt tA kI kO kB))))), .ref qtw, .ref qtn, .ref qtg, .ref qta, .ref qtr, .ref qtm, .ref qtt, .ref qts], zzI cy qts 64 (shF (T_kn (T_setkn tA (updM (T_kn tA) kO kB ((T_kn tA kO kB) + (zgt tA kI kO kB))))))] hP hD rfl
  clear hP hD
  obtain ⟨hP, hD⟩ := hPD
  exact endV (u := [zzO qt 3 [.int (nI (T_nb (T_setkn tA (updM (T_kn tA) kO kB ((T_kn tA kO kB) + (zgt tA kI kO kB)))))), .int (nI (T_np (T_setkn tA (updM (T_kn tA) kO kB ((T_kn tA kO kB) + (zgt tA kI kO kB)))))), .int (wb (T_wh (T_setkn tA (updM (T_kn tA) kO kB ((T_kn tA kO kB) + (zgt tA kI kO kB)))))), .int (wb (T_gn (T_setkn tA (updM (T_kn tA) kO kB ((T_kn tA kO kB) + (zgt tA kI kO kB)))))), .int (T_sd (T_setkn tA (updM (T_kn tA) kO kB ((T_kn tA kO kB) + (zgt tA kI kO kB))))), .ref qtw, .ref qtn, .ref qtg, .ref qta, .ref qtr, .ref qtm, .ref qtt, .ref qts], zzI cy qtt 8 (T_te (T_setkn tA (updM (T_kn tA) kO kB ((T_kn tA kO kB) + (zgt tA kI kO kB))))), zzI cy qts 64 (shF (T_kn (T_setkn tA (updM (T_kn tA) kO kB ((T_kn tA kO kB) + (zgt tA kI kO kB))))))]) hx hb hr hlocks (hP.sub [1, 0, 2] rfl) (hD.sub [1, 0, 2] (by decide +kernel) rfl) hS rfl dX4_tellTo_20
end
section
theorem dX4_addBook_0 : decode cX4_addBook 0 = .ok (.aload_n 0, 1) := g_42 bX4_addBook rfl
theorem dX4_addBook_1 : decode cX4_addBook 1 = .ok (.getfield 40, 3) := g_180 bX4_addBook rfl
theorem dX4_addBook_4 : decode cX4_addBook 4 = .ok (.istore_n 3, 1) := g_62 bX4_addBook rfl
theorem dX4_addBook_5 : decode cX4_addBook 5 = .ok (.aload_n 0, 1) := g_42 bX4_addBook rfl
theorem dX4_addBook_6 : decode cX4_addBook 6 = .ok (.getfield 15, 3) := g_180 bX4_addBook rfl
theorem dX4_addBook_9 : decode cX4_addBook 9 = .ok (.iload_n 3, 1) := g_29 bX4_addBook rfl
theorem dX4_addBook_10 : decode cX4_addBook 10 = .ok (.iload_n 1, 1) := g_27 bX4_addBook rfl
theorem dX4_addBook_11 : decode cX4_addBook 11 = .ok (.iastore, 1) := g_79 bX4_addBook rfl
theorem dX4_addBook_12 : decode cX4_addBook 12 = .ok (.aload_n 0, 1) := g_42 bX4_addBook rfl
theorem dX4_addBook_13 : decode cX4_addBook 13 = .ok (.getfield 19, 3) := g_180 bX4_addBook rfl
theorem dX4_addBook_16 : decode cX4_addBook 16 = .ok (.iload_n 3, 1) := g_29 bX4_addBook rfl
theorem dX4_addBook_17 : decode cX4_addBook 17 = .ok (.iload_n 2, 1) := g_28 bX4_addBook rfl
theorem dX4_addBook_18 : decode cX4_addBook 18 = .ok (.iastore, 1) := g_79 bX4_addBook rfl
theorem dX4_addBook_19 : decode cX4_addBook 19 = .ok (.aload_n 0, 1) := g_42 bX4_addBook rfl
theorem dX4_addBook_20 : decode cX4_addBook 20 = .ok (.getfield 22, 3) := g_180 bX4_addBook rfl
theorem dX4_addBook_23 : decode cX4_addBook 23 = .ok (.iload_n 3, 1) := g_29 bX4_addBook rfl
theorem dX4_addBook_24 : decode cX4_addBook 24 = .ok (.sipush 1000, 3) := g_17 1000 bX4_addBook rfl rfl
theorem dX4_addBook_27 : decode cX4_addBook 27 = .ok (.iastore, 1) := g_79 bX4_addBook rfl
theorem dX4_addBook_28 : decode cX4_addBook 28 = .ok (.aload_n 0, 1) := g_42 bX4_addBook rfl
theorem dX4_addBook_29 : decode cX4_addBook 29 = .ok (.dup, 1) := g_89 bX4_addBook rfl
theorem dX4_addBook_30 : decode cX4_addBook 30 = .ok (.getfield 40, 3) := g_180 bX4_addBook rfl
theorem dX4_addBook_33 : decode cX4_addBook 33 = .ok (.iconst 1, 1) := g_4 bX4_addBook rfl
theorem dX4_addBook_34 : decode cX4_addBook 34 = .ok (.iadd, 1) := g_96 bX4_addBook rfl
theorem dX4_addBook_35 : decode cX4_addBook 35 = .ok (.putfield 40, 3) := g_181 bX4_addBook rfl
theorem dX4_addBook_38 : decode cX4_addBook 38 = .ok (.iload_n 3, 1) := g_29 bX4_addBook rfl
theorem dX4_addBook_39 : decode cX4_addBook 39 = .ok (.ireturn, 1) := g_172 bX4_addBook rfl
theorem dX4_addOne_0 : decode cX4_addOne 0 = .ok (.aload_n 0, 1) := g_42 bX4_addOne rfl
theorem dX4_addOne_1 : decode cX4_addOne 1 = .ok (.getfield 43, 3) := g_180 bX4_addOne rfl
theorem dX4_addOne_4 : decode cX4_addOne 4 = .ok (.istore 5, 2) := g_54 bX4_addOne rfl
theorem dX4_addOne_6 : decode cX4_addOne 6 = .ok (.aload_n 0, 1) := g_42 bX4_addOne rfl
theorem dX4_addOne_7 : decode cX4_addOne 7 = .ok (.getfield 25, 3) := g_180 bX4_addOne rfl
theorem dX4_addOne_10 : decode cX4_addOne 10 = .ok (.iload 5, 2) := g_21 bX4_addOne rfl
theorem dX4_addOne_12 : decode cX4_addOne 12 = .ok (.iload_n 1, 1) := g_27 bX4_addOne rfl
theorem dX4_addOne_13 : decode cX4_addOne 13 = .ok (.iastore, 1) := g_79 bX4_addOne rfl
theorem dX4_addOne_14 : decode cX4_addOne 14 = .ok (.aload_n 0, 1) := g_42 bX4_addOne rfl
theorem dX4_addOne_15 : decode cX4_addOne 15 = .ok (.getfield 28, 3) := g_180 bX4_addOne rfl
theorem dX4_addOne_18 : decode cX4_addOne 18 = .ok (.iload 5, 2) := g_21 bX4_addOne rfl
theorem dX4_addOne_20 : decode cX4_addOne 20 = .ok (.iload_n 2, 1) := g_28 bX4_addOne rfl
theorem dX4_addOne_21 : decode cX4_addOne 21 = .ok (.iastore, 1) := g_79 bX4_addOne rfl
theorem dX4_addOne_22 : decode cX4_addOne 22 = .ok (.aload_n 0, 1) := g_42 bX4_addOne rfl
theorem dX4_addOne_23 : decode cX4_addOne 23 = .ok (.getfield 31, 3) := g_180 bX4_addOne rfl
theorem dX4_addOne_26 : decode cX4_addOne 26 = .ok (.iload 5, 2) := g_21 bX4_addOne rfl
theorem dX4_addOne_28 : decode cX4_addOne 28 = .ok (.iload_n 3, 1) := g_29 bX4_addOne rfl
theorem dX4_addOne_29 : decode cX4_addOne 29 = .ok (.iastore, 1) := g_79 bX4_addOne rfl
theorem dX4_addOne_30 : decode cX4_addOne 30 = .ok (.aload_n 0, 1) := g_42 bX4_addOne rfl
theorem dX4_addOne_31 : decode cX4_addOne 31 = .ok (.getfield 34, 3) := g_180 bX4_addOne rfl
theorem dX4_addOne_34 : decode cX4_addOne 34 = .ok (.iload 5, 2) := g_21 bX4_addOne rfl
theorem dX4_addOne_36 : decode cX4_addOne 36 = .ok (.iload 4, 2) := g_21 bX4_addOne rfl
theorem dX4_addOne_38 : decode cX4_addOne 38 = .ok (.iastore, 1) := g_79 bX4_addOne rfl
theorem dX4_addOne_39 : decode cX4_addOne 39 = .ok (.aload_n 0, 1) := g_42 bX4_addOne rfl
theorem dX4_addOne_40 : decode cX4_addOne 40 = .ok (.dup, 1) := g_89 bX4_addOne rfl
theorem dX4_addOne_41 : decode cX4_addOne 41 = .ok (.getfield 43, 3) := g_180 bX4_addOne rfl
theorem dX4_addOne_44 : decode cX4_addOne 44 = .ok (.iconst 1, 1) := g_4 bX4_addOne rfl
theorem dX4_addOne_45 : decode cX4_addOne 45 = .ok (.iadd, 1) := g_96 bX4_addOne rfl
theorem dX4_addOne_46 : decode cX4_addOne 46 = .ok (.putfield 43, 3) := g_181 bX4_addOne rfl
theorem dX4_addOne_49 : decode cX4_addOne 49 = .ok (.iload 5, 2) := g_21 bX4_addOne rfl
theorem dX4_addOne_51 : decode cX4_addOne 51 = .ok (.ireturn, 1) := g_172 bX4_addOne rfl
theorem dX4_bestReader_0 : decode cX4_bestReader 0 = .ok (.iconst (-1), 1) := g_2 bX4_bestReader rfl
theorem dX4_bestReader_1 : decode cX4_bestReader 1 = .ok (.istore_n 2, 1) := g_61 bX4_bestReader rfl
theorem dX4_bestReader_2 : decode cX4_bestReader 2 = .ok (.iconst 0, 1) := g_3 bX4_bestReader rfl
theorem dX4_bestReader_3 : decode cX4_bestReader 3 = .ok (.istore_n 3, 1) := g_62 bX4_bestReader rfl
theorem dX4_bestReader_4 : decode cX4_bestReader 4 = .ok (.iconst 0, 1) := g_3 bX4_bestReader rfl
theorem dX4_bestReader_5 : decode cX4_bestReader 5 = .ok (.istore 4, 2) := g_54 bX4_bestReader rfl
theorem dX4_bestReader_7 : decode cX4_bestReader 7 = .ok (.iload 4, 2) := g_21 bX4_bestReader rfl
theorem dX4_bestReader_9 : decode cX4_bestReader 9 = .ok (.aload_n 0, 1) := g_42 bX4_bestReader rfl
theorem dX4_bestReader_10 : decode cX4_bestReader 10 = .ok (.getfield 43, 3) := g_180 bX4_bestReader rfl
theorem dX4_bestReader_13 : decode cX4_bestReader 13 = .ok (.if_icmp .ge 79, 3) := g_162 79 bX4_bestReader rfl rfl
theorem dX4_bestReader_16 : decode cX4_bestReader 16 = .ok (.aload_n 0, 1) := g_42 bX4_bestReader rfl
theorem dX4_bestReader_17 : decode cX4_bestReader 17 = .ok (.getfield 49, 3) := g_180 bX4_bestReader rfl
theorem dX4_bestReader_20 : decode cX4_bestReader 20 = .ok (.iload 4, 2) := g_21 bX4_bestReader rfl
theorem dX4_bestReader_22 : decode cX4_bestReader 22 = .ok (.invokestatic 62, 3) := g_184 bX4_bestReader rfl
theorem dX4_bestReader_25 : decode cX4_bestReader 25 = .ok (.ifCond .eq 7, 3) := g_153 7 bX4_bestReader rfl rfl
theorem dX4_bestReader_28 : decode cX4_bestReader 28 = .ok (.iconst (-1), 1) := g_2 bX4_bestReader rfl
theorem dX4_bestReader_29 : decode cX4_bestReader 29 = .ok (.goto 10, 3) := g_167 10 bX4_bestReader rfl rfl
theorem dX4_bestReader_32 : decode cX4_bestReader 32 = .ok (.aload_n 0, 1) := g_42 bX4_bestReader rfl
theorem dX4_bestReader_33 : decode cX4_bestReader 33 = .ok (.iload 4, 2) := g_21 bX4_bestReader rfl
theorem dX4_bestReader_35 : decode cX4_bestReader 35 = .ok (.iload_n 1, 1) := g_27 bX4_bestReader rfl
theorem dX4_bestReader_36 : decode cX4_bestReader 36 = .ok (.invokevirtual 91, 3) := g_182 bX4_bestReader rfl
theorem dX4_bestReader_39 : decode cX4_bestReader 39 = .ok (.istore 5, 2) := g_54 bX4_bestReader rfl
theorem dX4_bestReader_41 : decode cX4_bestReader 41 = .ok (.iload 5, 2) := g_21 bX4_bestReader rfl
theorem dX4_bestReader_43 : decode cX4_bestReader 43 = .ok (.iconst (-1), 1) := g_2 bX4_bestReader rfl
theorem dX4_bestReader_44 : decode cX4_bestReader 44 = .ok (.if_icmp .eq 42, 3) := g_159 42 bX4_bestReader rfl rfl
theorem dX4_bestReader_47 : decode cX4_bestReader 47 = .ok (.iload_n 2, 1) := g_28 bX4_bestReader rfl
theorem dX4_bestReader_48 : decode cX4_bestReader 48 = .ok (.iconst (-1), 1) := g_2 bX4_bestReader rfl
theorem dX4_bestReader_49 : decode cX4_bestReader 49 = .ok (.if_icmp .eq 31, 3) := g_159 31 bX4_bestReader rfl rfl
theorem dX4_bestReader_52 : decode cX4_bestReader 52 = .ok (.iload 5, 2) := g_21 bX4_bestReader rfl
theorem dX4_bestReader_54 : decode cX4_bestReader 54 = .ok (.iload_n 3, 1) := g_29 bX4_bestReader rfl
theorem dX4_bestReader_55 : decode cX4_bestReader 55 = .ok (.if_icmp .gt 25, 3) := g_163 25 bX4_bestReader rfl rfl
theorem dX4_bestReader_58 : decode cX4_bestReader 58 = .ok (.iload 5, 2) := g_21 bX4_bestReader rfl
theorem dX4_bestReader_60 : decode cX4_bestReader 60 = .ok (.iload_n 3, 1) := g_29 bX4_bestReader rfl
theorem dX4_bestReader_61 : decode cX4_bestReader 61 = .ok (.if_icmp .ne 25, 3) := g_160 25 bX4_bestReader rfl rfl
theorem dX4_bestReader_64 : decode cX4_bestReader 64 = .ok (.aload_n 0, 1) := g_42 bX4_bestReader rfl
theorem dX4_bestReader_65 : decode cX4_bestReader 65 = .ok (.getfield 25, 3) := g_180 bX4_bestReader rfl
theorem dX4_bestReader_68 : decode cX4_bestReader 68 = .ok (.iload 4, 2) := g_21 bX4_bestReader rfl
theorem dX4_bestReader_70 : decode cX4_bestReader 70 = .ok (.iaload, 1) := g_46 bX4_bestReader rfl
theorem dX4_bestReader_71 : decode cX4_bestReader 71 = .ok (.aload_n 0, 1) := g_42 bX4_bestReader rfl
theorem dX4_bestReader_72 : decode cX4_bestReader 72 = .ok (.getfield 25, 3) := g_180 bX4_bestReader rfl
theorem dX4_bestReader_75 : decode cX4_bestReader 75 = .ok (.iload_n 2, 1) := g_28 bX4_bestReader rfl
theorem dX4_bestReader_76 : decode cX4_bestReader 76 = .ok (.iaload, 1) := g_46 bX4_bestReader rfl
theorem dX4_bestReader_77 : decode cX4_bestReader 77 = .ok (.if_icmp .ge 9, 3) := g_162 9 bX4_bestReader rfl rfl
theorem dX4_bestReader_80 : decode cX4_bestReader 80 = .ok (.iload 4, 2) := g_21 bX4_bestReader rfl
theorem dX4_bestReader_82 : decode cX4_bestReader 82 = .ok (.istore_n 2, 1) := g_61 bX4_bestReader rfl
theorem dX4_bestReader_83 : decode cX4_bestReader 83 = .ok (.iload 5, 2) := g_21 bX4_bestReader rfl
theorem dX4_bestReader_85 : decode cX4_bestReader 85 = .ok (.istore_n 3, 1) := g_62 bX4_bestReader rfl
theorem dX4_bestReader_86 : decode cX4_bestReader 86 = .ok (.iinc 4 1, 3) := g_132 1 bX4_bestReader rfl rfl
theorem dX4_bestReader_89 : decode cX4_bestReader 89 = .ok (.goto (-82), 3) := g_167 65454 bX4_bestReader rfl rfl
theorem dX4_bestReader_92 : decode cX4_bestReader 92 = .ok (.iload_n 2, 1) := g_28 bX4_bestReader rfl
theorem dX4_bestReader_93 : decode cX4_bestReader 93 = .ok (.ireturn, 1) := g_172 bX4_bestReader rfl
theorem dX4_dearestUnread_0 : decode cX4_dearestUnread 0 = .ok (.iconst (-1), 1) := g_2 bX4_dearestUnread rfl
theorem dX4_dearestUnread_1 : decode cX4_dearestUnread 1 = .ok (.istore_n 1, 1) := g_60 bX4_dearestUnread rfl
theorem dX4_dearestUnread_2 : decode cX4_dearestUnread 2 = .ok (.iconst 0, 1) := g_3 bX4_dearestUnread rfl
theorem dX4_dearestUnread_3 : decode cX4_dearestUnread 3 = .ok (.istore_n 2, 1) := g_61 bX4_dearestUnread rfl
theorem dX4_dearestUnread_4 : decode cX4_dearestUnread 4 = .ok (.iload_n 2, 1) := g_28 bX4_dearestUnread rfl
theorem dX4_dearestUnread_5 : decode cX4_dearestUnread 5 = .ok (.aload_n 0, 1) := g_42 bX4_dearestUnread rfl
theorem dX4_dearestUnread_6 : decode cX4_dearestUnread 6 = .ok (.getfield 40, 3) := g_180 bX4_dearestUnread rfl
theorem dX4_dearestUnread_9 : decode cX4_dearestUnread 9 = .ok (.if_icmp .ge 42, 3) := g_162 42 bX4_dearestUnread rfl rfl
theorem dX4_dearestUnread_12 : decode cX4_dearestUnread 12 = .ok (.aload_n 0, 1) := g_42 bX4_dearestUnread rfl
theorem dX4_dearestUnread_13 : decode cX4_dearestUnread 13 = .ok (.getfield 46, 3) := g_180 bX4_dearestUnread rfl
theorem dX4_dearestUnread_16 : decode cX4_dearestUnread 16 = .ok (.iload_n 2, 1) := g_28 bX4_dearestUnread rfl
theorem dX4_dearestUnread_17 : decode cX4_dearestUnread 17 = .ok (.invokestatic 62, 3) := g_184 bX4_dearestUnread rfl
theorem dX4_dearestUnread_20 : decode cX4_dearestUnread 20 = .ok (.ifCond .ne 25, 3) := g_154 25 bX4_dearestUnread rfl rfl
theorem dX4_dearestUnread_23 : decode cX4_dearestUnread 23 = .ok (.iload_n 1, 1) := g_27 bX4_dearestUnread rfl
theorem dX4_dearestUnread_24 : decode cX4_dearestUnread 24 = .ok (.iconst (-1), 1) := g_2 bX4_dearestUnread rfl
theorem dX4_dearestUnread_25 : decode cX4_dearestUnread 25 = .ok (.if_icmp .eq 18, 3) := g_159 18 bX4_dearestUnread rfl rfl
theorem dX4_dearestUnread_28 : decode cX4_dearestUnread 28 = .ok (.aload_n 0, 1) := g_42 bX4_dearestUnread rfl
theorem dX4_dearestUnread_29 : decode cX4_dearestUnread 29 = .ok (.getfield 15, 3) := g_180 bX4_dearestUnread rfl
theorem dX4_dearestUnread_32 : decode cX4_dearestUnread 32 = .ok (.iload_n 2, 1) := g_28 bX4_dearestUnread rfl
theorem dX4_dearestUnread_33 : decode cX4_dearestUnread 33 = .ok (.iaload, 1) := g_46 bX4_dearestUnread rfl
theorem dX4_dearestUnread_34 : decode cX4_dearestUnread 34 = .ok (.aload_n 0, 1) := g_42 bX4_dearestUnread rfl
theorem dX4_dearestUnread_35 : decode cX4_dearestUnread 35 = .ok (.getfield 15, 3) := g_180 bX4_dearestUnread rfl
theorem dX4_dearestUnread_38 : decode cX4_dearestUnread 38 = .ok (.iload_n 1, 1) := g_27 bX4_dearestUnread rfl
theorem dX4_dearestUnread_39 : decode cX4_dearestUnread 39 = .ok (.iaload, 1) := g_46 bX4_dearestUnread rfl
theorem dX4_dearestUnread_40 : decode cX4_dearestUnread 40 = .ok (.if_icmp .le 5, 3) := g_164 5 bX4_dearestUnread rfl rfl
theorem dX4_dearestUnread_43 : decode cX4_dearestUnread 43 = .ok (.iload_n 2, 1) := g_28 bX4_dearestUnread rfl
theorem dX4_dearestUnread_44 : decode cX4_dearestUnread 44 = .ok (.istore_n 1, 1) := g_60 bX4_dearestUnread rfl
theorem dX4_dearestUnread_45 : decode cX4_dearestUnread 45 = .ok (.iinc 2 1, 3) := g_132 1 bX4_dearestUnread rfl rfl
theorem dX4_dearestUnread_48 : decode cX4_dearestUnread 48 = .ok (.goto (-44), 3) := g_167 65492 bX4_dearestUnread rfl rfl
theorem dX4_dearestUnread_51 : decode cX4_dearestUnread 51 = .ok (.iload_n 1, 1) := g_27 bX4_dearestUnread rfl
theorem dX4_dearestUnread_52 : decode cX4_dearestUnread 52 = .ok (.ireturn, 1) := g_172 bX4_dearestUnread rfl
theorem dX4_isBook_0 : decode cX4_isBook 0 = .ok (.iload_n 1, 1) := g_27 bX4_isBook rfl
theorem dX4_isBook_1 : decode cX4_isBook 1 = .ok (.ifCond .lt 15, 3) := g_155 15 bX4_isBook rfl rfl
theorem dX4_isBook_4 : decode cX4_isBook 4 = .ok (.iload_n 1, 1) := g_27 bX4_isBook rfl
theorem dX4_isBook_5 : decode cX4_isBook 5 = .ok (.aload_n 0, 1) := g_42 bX4_isBook rfl
theorem dX4_isBook_6 : decode cX4_isBook 6 = .ok (.getfield 40, 3) := g_180 bX4_isBook rfl
theorem dX4_isBook_9 : decode cX4_isBook 9 = .ok (.if_icmp .ge 7, 3) := g_162 7 bX4_isBook rfl rfl
theorem dX4_isBook_12 : decode cX4_isBook 12 = .ok (.iconst 1, 1) := g_4 bX4_isBook rfl
theorem dX4_isBook_13 : decode cX4_isBook 13 = .ok (.goto 4, 3) := g_167 4 bX4_isBook rfl rfl
theorem dX4_isBook_16 : decode cX4_isBook 16 = .ok (.iconst 0, 1) := g_3 bX4_isBook rfl
theorem dX4_isBook_17 : decode cX4_isBook 17 = .ok (.ireturn, 1) := g_172 bX4_isBook rfl
theorem dX4_isOne_0 : decode cX4_isOne 0 = .ok (.iload_n 1, 1) := g_27 bX4_isOne rfl
theorem dX4_isOne_1 : decode cX4_isOne 1 = .ok (.ifCond .lt 15, 3) := g_155 15 bX4_isOne rfl rfl
theorem dX4_isOne_4 : decode cX4_isOne 4 = .ok (.iload_n 1, 1) := g_27 bX4_isOne rfl
theorem dX4_isOne_5 : decode cX4_isOne 5 = .ok (.aload_n 0, 1) := g_42 bX4_isOne rfl
theorem dX4_isOne_6 : decode cX4_isOne 6 = .ok (.getfield 43, 3) := g_180 bX4_isOne rfl
theorem dX4_isOne_9 : decode cX4_isOne 9 = .ok (.if_icmp .ge 7, 3) := g_162 7 bX4_isOne rfl rfl
theorem dX4_isOne_12 : decode cX4_isOne 12 = .ok (.iconst 1, 1) := g_4 bX4_isOne rfl
theorem dX4_isOne_13 : decode cX4_isOne 13 = .ok (.goto 4, 3) := g_167 4 bX4_isOne rfl rfl
theorem dX4_isOne_16 : decode cX4_isOne 16 = .ok (.iconst 0, 1) := g_3 bX4_isOne rfl
theorem dX4_isOne_17 : decode cX4_isOne 17 = .ok (.ireturn, 1) := g_172 bX4_isOne rfl
theorem dX4_readBy_0 : decode cX4_readBy 0 = .ok (.aload_n 0, 1) := g_42 bX4_readBy rfl
theorem dX4_readBy_1 : decode cX4_readBy 1 = .ok (.iload_n 1, 1) := g_27 bX4_readBy rfl
theorem dX4_readBy_2 : decode cX4_readBy 2 = .ok (.iload_n 2, 1) := g_28 bX4_readBy rfl
theorem dX4_readBy_3 : decode cX4_readBy 3 = .ok (.aload_n 0, 1) := g_42 bX4_readBy rfl
theorem dX4_readBy_4 : decode cX4_readBy 4 = .ok (.iload_n 1, 1) := g_27 bX4_readBy rfl
theorem dX4_readBy_5 : decode cX4_readBy 5 = .ok (.iload_n 2, 1) := g_28 bX4_readBy rfl
theorem dX4_readBy_6 : decode cX4_readBy 6 = .ok (.invokevirtual 91, 3) := g_182 bX4_readBy rfl
theorem dX4_readBy_9 : decode cX4_readBy 9 = .ok (.invokevirtual 94, 3) := g_182 bX4_readBy rfl
theorem dX4_readBy_12 : decode cX4_readBy 12 = .ok (.aload_n 0, 1) := g_42 bX4_readBy rfl
theorem dX4_readBy_13 : decode cX4_readBy 13 = .ok (.dup, 1) := g_89 bX4_readBy rfl
theorem dX4_readBy_14 : decode cX4_readBy 14 = .ok (.getfield 46, 3) := g_180 bX4_readBy rfl
theorem dX4_readBy_17 : decode cX4_readBy 17 = .ok (.iconst 1, 1) := g_4 bX4_readBy rfl
theorem dX4_readBy_18 : decode cX4_readBy 18 = .ok (.iload_n 2, 1) := g_28 bX4_readBy rfl
theorem dX4_readBy_19 : decode cX4_readBy 19 = .ok (.ishl, 1) := g_120 bX4_readBy rfl
theorem dX4_readBy_20 : decode cX4_readBy 20 = .ok (.ior, 1) := g_128 bX4_readBy rfl
theorem dX4_readBy_21 : decode cX4_readBy 21 = .ok (.putfield 46, 3) := g_181 bX4_readBy rfl
theorem dX4_readBy_24 : decode cX4_readBy 24 = .ok (.return_, 1) := g_177 bX4_readBy rfl
theorem dX4_writeBy_0 : decode cX4_writeBy 0 = .ok (.aload_n 0, 1) := g_42 bX4_writeBy rfl
theorem dX4_writeBy_1 : decode cX4_writeBy 1 = .ok (.dup, 1) := g_89 bX4_writeBy rfl
theorem dX4_writeBy_2 : decode cX4_writeBy 2 = .ok (.getfield 46, 3) := g_180 bX4_writeBy rfl
theorem dX4_writeBy_5 : decode cX4_writeBy 5 = .ok (.iconst 1, 1) := g_4 bX4_writeBy rfl
theorem dX4_writeBy_6 : decode cX4_writeBy 6 = .ok (.iload_n 2, 1) := g_28 bX4_writeBy rfl
theorem dX4_writeBy_7 : decode cX4_writeBy 7 = .ok (.ishl, 1) := g_120 bX4_writeBy rfl
theorem dX4_writeBy_8 : decode cX4_writeBy 8 = .ok (.iconst (-1), 1) := g_2 bX4_writeBy rfl
theorem dX4_writeBy_9 : decode cX4_writeBy 9 = .ok (.ixor, 1) := g_130 bX4_writeBy rfl
theorem dX4_writeBy_10 : decode cX4_writeBy 10 = .ok (.iand, 1) := g_126 bX4_writeBy rfl
theorem dX4_writeBy_11 : decode cX4_writeBy 11 = .ok (.putfield 46, 3) := g_181 bX4_writeBy rfl
theorem dX4_writeBy_14 : decode cX4_writeBy 14 = .ok (.aload_n 0, 1) := g_42 bX4_writeBy rfl
theorem dX4_writeBy_15 : decode cX4_writeBy 15 = .ok (.getfield 22, 3) := g_180 bX4_writeBy rfl
theorem dX4_writeBy_18 : decode cX4_writeBy 18 = .ok (.iload_n 2, 1) := g_28 bX4_writeBy rfl
theorem dX4_writeBy_19 : decode cX4_writeBy 19 = .ok (.aload_n 0, 1) := g_42 bX4_writeBy rfl
theorem dX4_writeBy_20 : decode cX4_writeBy 20 = .ok (.iload_n 1, 1) := g_27 bX4_writeBy rfl
theorem dX4_writeBy_21 : decode cX4_writeBy 21 = .ok (.iload_n 2, 1) := g_28 bX4_writeBy rfl
theorem dX4_writeBy_22 : decode cX4_writeBy 22 = .ok (.invokevirtual 66, 3) := g_182 bX4_writeBy rfl
theorem dX4_writeBy_25 : decode cX4_writeBy 25 = .ok (.iastore, 1) := g_79 bX4_writeBy rfl
theorem dX4_writeBy_26 : decode cX4_writeBy 26 = .ok (.aload_n 0, 1) := g_42 bX4_writeBy rfl
theorem dX4_writeBy_27 : decode cX4_writeBy 27 = .ok (.getfield 22, 3) := g_180 bX4_writeBy rfl
theorem dX4_writeBy_30 : decode cX4_writeBy 30 = .ok (.iload_n 2, 1) := g_28 bX4_writeBy rfl
theorem dX4_writeBy_31 : decode cX4_writeBy 31 = .ok (.iaload, 1) := g_46 bX4_writeBy rfl
theorem dX4_writeBy_32 : decode cX4_writeBy 32 = .ok (.ireturn, 1) := g_172 bX4_writeBy rfl
theorem dX4_youngestBut_0 : decode cX4_youngestBut 0 = .ok (.iconst (-1), 1) := g_2 bX4_youngestBut rfl
theorem dX4_youngestBut_1 : decode cX4_youngestBut 1 = .ok (.istore_n 2, 1) := g_61 bX4_youngestBut rfl
theorem dX4_youngestBut_2 : decode cX4_youngestBut 2 = .ok (.iconst 0, 1) := g_3 bX4_youngestBut rfl
theorem dX4_youngestBut_3 : decode cX4_youngestBut 3 = .ok (.istore_n 3, 1) := g_62 bX4_youngestBut rfl
theorem dX4_youngestBut_4 : decode cX4_youngestBut 4 = .ok (.iload_n 3, 1) := g_29 bX4_youngestBut rfl
theorem dX4_youngestBut_5 : decode cX4_youngestBut 5 = .ok (.aload_n 0, 1) := g_42 bX4_youngestBut rfl
theorem dX4_youngestBut_6 : decode cX4_youngestBut 6 = .ok (.getfield 43, 3) := g_180 bX4_youngestBut rfl
theorem dX4_youngestBut_9 : decode cX4_youngestBut 9 = .ok (.if_icmp .ge 47, 3) := g_162 47 bX4_youngestBut rfl rfl
theorem dX4_youngestBut_12 : decode cX4_youngestBut 12 = .ok (.iload_n 3, 1) := g_29 bX4_youngestBut rfl
theorem dX4_youngestBut_13 : decode cX4_youngestBut 13 = .ok (.iload_n 1, 1) := g_27 bX4_youngestBut rfl
theorem dX4_youngestBut_14 : decode cX4_youngestBut 14 = .ok (.if_icmp .eq 36, 3) := g_159 36 bX4_youngestBut rfl rfl
theorem dX4_youngestBut_17 : decode cX4_youngestBut 17 = .ok (.aload_n 0, 1) := g_42 bX4_youngestBut rfl
theorem dX4_youngestBut_18 : decode cX4_youngestBut 18 = .ok (.getfield 49, 3) := g_180 bX4_youngestBut rfl
theorem dX4_youngestBut_21 : decode cX4_youngestBut 21 = .ok (.iload_n 3, 1) := g_29 bX4_youngestBut rfl
theorem dX4_youngestBut_22 : decode cX4_youngestBut 22 = .ok (.invokestatic 62, 3) := g_184 bX4_youngestBut rfl
theorem dX4_youngestBut_25 : decode cX4_youngestBut 25 = .ok (.ifCond .ne 25, 3) := g_154 25 bX4_youngestBut rfl rfl
theorem dX4_youngestBut_28 : decode cX4_youngestBut 28 = .ok (.iload_n 2, 1) := g_28 bX4_youngestBut rfl
theorem dX4_youngestBut_29 : decode cX4_youngestBut 29 = .ok (.iconst (-1), 1) := g_2 bX4_youngestBut rfl
theorem dX4_youngestBut_30 : decode cX4_youngestBut 30 = .ok (.if_icmp .eq 18, 3) := g_159 18 bX4_youngestBut rfl rfl
theorem dX4_youngestBut_33 : decode cX4_youngestBut 33 = .ok (.aload_n 0, 1) := g_42 bX4_youngestBut rfl
theorem dX4_youngestBut_34 : decode cX4_youngestBut 34 = .ok (.getfield 25, 3) := g_180 bX4_youngestBut rfl
theorem dX4_youngestBut_37 : decode cX4_youngestBut 37 = .ok (.iload_n 3, 1) := g_29 bX4_youngestBut rfl
theorem dX4_youngestBut_38 : decode cX4_youngestBut 38 = .ok (.iaload, 1) := g_46 bX4_youngestBut rfl
theorem dX4_youngestBut_39 : decode cX4_youngestBut 39 = .ok (.aload_n 0, 1) := g_42 bX4_youngestBut rfl
theorem dX4_youngestBut_40 : decode cX4_youngestBut 40 = .ok (.getfield 25, 3) := g_180 bX4_youngestBut rfl
theorem dX4_youngestBut_43 : decode cX4_youngestBut 43 = .ok (.iload_n 2, 1) := g_28 bX4_youngestBut rfl
theorem dX4_youngestBut_44 : decode cX4_youngestBut 44 = .ok (.iaload, 1) := g_46 bX4_youngestBut rfl
theorem dX4_youngestBut_45 : decode cX4_youngestBut 45 = .ok (.if_icmp .ge 5, 3) := g_162 5 bX4_youngestBut rfl rfl
theorem dX4_youngestBut_48 : decode cX4_youngestBut 48 = .ok (.iload_n 3, 1) := g_29 bX4_youngestBut rfl
theorem dX4_youngestBut_49 : decode cX4_youngestBut 49 = .ok (.istore_n 2, 1) := g_61 bX4_youngestBut rfl
theorem dX4_youngestBut_50 : decode cX4_youngestBut 50 = .ok (.iinc 3 1, 3) := g_132 1 bX4_youngestBut rfl rfl
theorem dX4_youngestBut_53 : decode cX4_youngestBut 53 = .ok (.goto (-49), 3) := g_167 65487 bX4_youngestBut rfl rfl
theorem dX4_youngestBut_56 : decode cX4_youngestBut 56 = .ok (.iload_n 2, 1) := g_28 bX4_youngestBut rfl
theorem dX4_youngestBut_57 : decode cX4_youngestBut 57 = .ok (.ireturn, 1) := g_172 bX4_youngestBut rfl
set_option maxHeartbeats 4000000 in
set_option maxRecDepth 100000 in
theorem c_X4_readBy (l : Launch) (G : va_G) (cy : Nat → ClassId) (sz : Nat) (qt : Nat) (tA : TA) (qtw : Nat) (qtn : Nat) (qtg : Nat) (qta : Nat) (qtr : Nat) (qtm : Nat) (qtt : Nat) (qts : Nat) (kI : Nat) (kB : Nat)  (hI : kI < 8) (hJ : kB < 8) : MW l yX4_readBy cX4_readBy 3 none 3 0 0 G cy [zzO qt 3 [.int (nI (T_nb tA)), .int (nI (T_np tA)), .int (wb (T_wh tA)), .int (wb (T_gn tA)), .int (T_sd tA), .ref qtw, .ref qtn, .ref qtg, .ref qta, .ref qtr, .ref qtm, .ref qtt, .ref qts], zzI cy qtw 8 (T_wo tA), zzI cy qtn 8 (T_ne tA), zzI cy qtg 8 (T_go tA), zzI cy qta 8 (T_ag tA), zzI cy qtr 8 (T_re tA), zzI cy qtm 8 (T_me tA), zzI cy qtt 8 (T_te tA), zzI cy qts 64 (shF (T_kn tA))] sz [.ref qt, .int (nI kI), .int (nI kB)] (Wv G (fun u => u = [zzO qt 3 [.int (nI (T_nb (rdT tA kI kB))), .int (nI (T_np (rdT tA kI kB))), .int (wb (T_wh (rdT tA kI kB))), .int (wb (T_gn (rdT tA kI kB))), .int (T_sd (rdT tA kI kB)), .ref qtw, .ref qtn, .ref qtg, .ref qta, .ref qtr, .ref qtm, .ref qtt, .ref qts], zzI cy qtw 8 (T_wo (rdT tA kI kB)), zzI cy qtn 8 (T_ne (rdT tA kI kB)), zzI cy qtg 8 (T_go (rdT tA kI kB)), zzI cy qta 8 (T_ag (rdT tA kI kB)), zzI cy qtr 8 (T_re (rdT tA kI kB)), zzI cy qtm 8 (T_me (rdT tA kI kB)), zzI cy qtt 8 (T_te (rdT tA kI kB)), zzI cy qts 64 (shF (T_kn (rdT tA kI kB)))])) := by
  refine enW RX4 (by decide) rfl (Nat.le_of_ble_eq_true rfl) (fun p e s m below meth c ls A hx hb hml hown hts hr hlocks hP hN hl hin hD hA hS => ?_)
  have hin : meth.name = _ := hin
  have hK := hN.1
  replace hl : lv_has ls 3 [(0, .ref qt), (1, .int (nI kI)), (2, .int (nI kB))] := hl
  refine lv_aload_n hx hb dX4_readBy_0 rfl (lv_at hl 0 rfl) ?_
  refine lv_iload_n hx hb dX4_readBy_1 rfl (lv_at hl 1 rfl) ?_
  refine lv_iload_n hx hb dX4_readBy_2 rfl (lv_at hl 2 rfl) ?_
  refine lv_aload_n hx hb dX4_readBy_3 rfl (lv_at hl 0 rfl) ?_
  refine lv_iload_n hx hb dX4_readBy_4 rfl (lv_at hl 1 rfl) ?_
  refine lv_iload_n hx hb dX4_readBy_5 rfl (lv_at hl 2 rfl) ?_
  refine kRi (rV (As := [.int (nI kI), .int (nI kB)]) (rest := [.int (nI kB), .int (nI kI), .ref qt]) (b := qt) ⟨hx, hb, hml, hown, hts⟩ (c_X4_wouldKnow l G cy qt tA qtw qtn qtg qta qtr qtm qtt qts kI kB hI hJ) L_X4_91 (preRV (q := (RX4, TX4, 13)) hN hP [0, 2, 3, 5, 8] rfl 0 3 rfl rfl) rfl ⟨Nat.le_of_ble_eq_true rfl, Nat.le_of_ble_eq_true rfl⟩ hl.1 (Nat.le_of_ble_eq_true rfl) dX4_readBy_6 ⟨Nat.le_of_ble_eq_true rfl, Nat.le_of_ble_eq_true rfl⟩) (fun r_1 h_2 => ?_)
  subst h_2
  refine cVv (As := [.int (nI kI), .int (nI kB), .int (zwk tA kI kB)]) (rest := []) (b := qt) (q := (RX4, TX4, 13)) ⟨hx, hb, hml, hown, hts⟩ (c_X4_learn l G cy (s.heap).size qt tA qtw qtn qtg qta qtr qtm qtt qts kI kB (zwk tA kI kB) hI hJ) L_X4_94 hN hP hD hS hA [0, 8] [false, true, true, true, true, true, true, true, false] rfl (by decide +kernel) rfl 0 3 rfl rfl rfl ⟨Nat.le_of_ble_eq_true rfl, Nat.le_of_ble_eq_true rfl⟩ hl.1 (Nat.le_of_ble_eq_true rfl) dX4_readBy_9 ⟨Nat.le_of_ble_eq_true rfl, Nat.le_of_ble_eq_true rfl⟩ (fun u_5 H locs h_4 => ?_)
  clear hP hD hS
  intro hP hD hS
  subst h_4
  have hPD := pd_as [zzI cy qtw 8 (T_wo (T_setkn tA (updM (T_kn tA) kI kB (zwk tA kI kB)))), zzI cy qtn 8 (T_ne (T_setkn tA (updM (T_kn tA) kI kB (zwk tA kI kB)))), zzI cy qtg 8 (T_go (T_setkn tA (updM (T_kn tA) kI kB (zwk tA kI kB)))), zzI cy qta 8 (T_ag (T_setkn tA (updM (T_kn tA) kI kB (zwk tA kI kB)))), zzI cy qtr 8 (T_re (T_setkn tA (updM (T_kn tA) kI kB (zwk tA kI kB)))), zzI cy qtm 8 (T_me (T_setkn tA (updM (T_kn tA) kI kB (zwk tA kI kB)))), zzI cy qtt 8 (T_te (T_setkn tA (updM (T_kn tA) kI kB (zwk tA kI kB)))), zzO qt 3 [.int (nI (T_nb (T_setkn tA (updM (T_kn tA) kI kB (zwk tA kI kB))))), .int (nI (T_np (T_setkn tA (updM (T_kn tA) kI kB (zwk tA kI kB))))), .int (wb (T_wh (T_setkn tA (updM (T_kn tA) kI kB (zwk tA kI kB))))), .int (wb (T_gn (T_setkn tA (updM (T_kn tA) kI kB (zwk tA kI kB))))), .int (T_sd (T_setkn tA (updM (T_kn tA) kI kB (zwk tA kI kB)))), .ref qtw, .ref qtn, .ref qtg, .ref qta, .ref qtr, .ref qtm, .ref qtt, .ref qts], zzI cy qts 64 (shF (T_kn (T_setkn tA (updM (T_kn tA) kI kB (zwk tA kI kB)))))] hP hD rfl
  clear hP hD
  obtain ⟨hP, hD⟩ := hPD
  refine lv_aload_n hx hb dX4_readBy_12 rfl (lv_at hl 0 rfl) ?_
  refine lv_dup hx hb dX4_readBy_13 rfl ?_
  refine va_get (D := G) (ci := 3) (v := .int (wb (T_wh (T_setkn tA (updM (T_kn tA) kI kB (zwk tA kI kB)))))) (C := RX4) (T := TX4) (N := 13) hx hb hts iX_X4 hown hK hP 7 rfl rfl 2 (by decide) (hts _ m_t39) (fun _ h9 => h9) rfl dX4_readBy_14 ?_
  refine lv_iconst (v := 1) hx hb dX4_readBy_17 (by decide) ?_
  refine lv_iload_n hx hb dX4_readBy_18 rfl (lv_at hl 2 rfl) ?_
  refine lv_ishl hx hb dX4_readBy_19 ?_
  refine lv_ior hx hb dX4_readBy_20 ?_
  refine lv_seti (v := wb (updB (T_wh tA) kB true)) (wb_on _ (by omega)) ?_
  refine va_put (D := G) (ci := 3) (v := .int (wb (updB (T_wh tA) kB true))) (ty := .int) (C := RX4) (T := TX4) (N := 13) hx hb hts iX_X4 tyX4 tyX4_ok nmX4 hown hK hP hD hS 7 rfl rfl 2 (by decide) (hts _ m_t39) (fun _ h9 => h9) rfl (by decide +kernel) rfl rfl (Nat.le_of_ble_eq_true rfl) dX4_readBy_21 (fun H locs => ?_)
  clear hP hD hS
  intro hP hD hS
  have hPD := pd_as [zzI cy qtw 8 (T_wo (T_setkn tA (updM (T_kn tA) kI kB (zwk tA kI kB)))), zzI cy qtn 8 (T_ne (T_setkn tA (updM (T_kn tA) kI kB (zwk tA kI kB)))), zzI cy qtg 8 (T_go (T_setkn tA (updM (T_kn tA) kI kB (zwk tA kI kB)))), zzI cy qta 8 (T_ag (T_setkn tA (updM (T_kn tA) kI kB (zwk tA kI kB)))), zzI cy qtr 8 (T_re (T_setkn tA (updM (T_kn tA) kI kB (zwk tA kI kB)))), zzI cy qtm 8 (T_me (T_setkn tA (updM (T_kn tA) kI kB (zwk tA kI kB)))), zzI cy qtt 8 (T_te (T_setkn tA (updM (T_kn tA) kI kB (zwk tA kI kB)))), zzO qt 3 [.int (nI (T_nb (T_setkn tA (updM (T_kn tA) kI kB (zwk tA kI kB))))), .int (nI (T_np (T_setkn tA (updM (T_kn tA) kI kB (zwk tA kI kB))))), .int (wb (updB (T_wh tA) kB true)), .int (wb (T_gn (T_setkn tA (updM (T_kn tA) kI kB (zwk tA kI kB))))), .int (T_sd (T_setkn tA (updM (T_kn tA) kI kB (zwk tA kI kB)))), .ref qtw, .ref qtn, .ref qtg, .ref qta, .ref qtr, .ref qtm, .ref qtt, .ref qts], zzI cy qts 64 (shF (T_kn (T_setkn tA (updM (T_kn tA) kI kB (zwk tA kI kB)))))] hP hD rfl
  clear hP hD
  obtain ⟨hP, hD⟩ := hPD
  exact endV (u := [zzO qt 3 [.int (nI (T_nb (T_setkn tA (updM (T_kn tA) kI kB (zwk tA kI kB))))), .int (nI (T_np (T_setkn tA (updM (T_kn tA) kI kB (zwk tA kI kB))))), .int (wb (updB (T_wh tA) kB true)), .int (wb (T_gn (T_setkn tA (updM (T_kn tA) kI kB (zwk tA kI kB))))), .int (T_sd (T_setkn tA (updM (T_kn tA) kI kB (zwk tA kI kB)))), .ref qtw, .ref qtn, .ref qtg, .ref qta, .ref qtr, .ref qtm, .ref qtt, .ref qts], zzI cy qtw 8 (T_wo (T_setkn tA (updM (T_kn tA) kI kB (zwk tA kI kB)))), zzI cy qtn 8 (T_ne (T_setkn tA (updM (T_kn tA) kI kB (zwk tA kI kB)))), zzI cy qtg 8 (T_go (T_setkn tA (updM (T_kn tA) kI kB (zwk tA kI kB)))), zzI cy qta 8 (T_ag (T_setkn tA (updM (T_kn tA) kI kB (zwk tA kI kB)))), zzI cy qtr 8 (T_re (T_setkn tA (updM (T_kn tA) kI kB (zwk tA kI kB)))), zzI cy qtm 8 (T_me (T_setkn tA (updM (T_kn tA) kI kB (zwk tA kI kB)))), zzI cy qtt 8 (T_te (T_setkn tA (updM (T_kn tA) kI kB (zwk tA kI kB)))), zzI cy qts 64 (shF (T_kn (T_setkn tA (updM (T_kn tA) kI kB (zwk tA kI kB)))))]) hx hb hr hlocks (hP.sub [7, 0, 1, 2, 3, 4, 5, 6, 8] rfl) (hD.sub [7, 0, 1, 2, 3, 4, 5, 6, 8] (by decide +kernel) rfl) hS rfl dX4_readBy_24
set_option maxHeartbeats 4000000 in
set_option maxRecDepth 100000 in
theorem c_X4_writeBy (l : Launch) (G : va_G) (cy : Nat → ClassId) (sz : Nat) (qt : Nat) (tA : TA) (qtw : Nat) (qtn : Nat) (qtg : Nat) (qta : Nat) (qtr : Nat) (qtm : Nat) (qtt : Nat) (qts : Nat) (kI : Nat) (kB : Nat)  (hI : kI < 8) (hJ : kB < 8) : MW l yX4_writeBy cX4_writeBy 3 (some .int) 3 0 0 G cy [zzO qt 3 [.int (nI (T_nb tA)), .int (nI (T_np tA)), .int (wb (T_wh tA)), .int (wb (T_gn tA)), .int (T_sd tA), .ref qtw, .ref qtn, .ref qtg, .ref qta, .ref qtr, .ref qtm, .ref qtt, .ref qts], zzI cy qtw 8 (T_wo tA), zzI cy qtn 8 (T_ne tA), zzI cy qtg 8 (T_go tA), zzI cy qta 8 (T_ag tA), zzI cy qtr 8 (T_re tA), zzI cy qtm 8 (T_me tA), zzI cy qtt 8 (T_te tA), zzI cy qts 64 (shF (T_kn tA))] sz [.ref qt, .int (nI kI), .int (nI kB)] (Wi G (fun r u => u = [zzO qt 3 [.int (nI (T_nb (T_setgo (T_setwh tA (updB (T_wh tA) kB false)) (upd (T_go tA) kB (T_kn tA kI kB))))), .int (nI (T_np (T_setgo (T_setwh tA (updB (T_wh tA) kB false)) (upd (T_go tA) kB (T_kn tA kI kB))))), .int (wb (T_wh (T_setgo (T_setwh tA (updB (T_wh tA) kB false)) (upd (T_go tA) kB (T_kn tA kI kB))))), .int (wb (T_gn (T_setgo (T_setwh tA (updB (T_wh tA) kB false)) (upd (T_go tA) kB (T_kn tA kI kB))))), .int (T_sd (T_setgo (T_setwh tA (updB (T_wh tA) kB false)) (upd (T_go tA) kB (T_kn tA kI kB)))), .ref qtw, .ref qtn, .ref qtg, .ref qta, .ref qtr, .ref qtm, .ref qtt, .ref qts], zzI cy qtw 8 (T_wo (T_setgo (T_setwh tA (updB (T_wh tA) kB false)) (upd (T_go tA) kB (T_kn tA kI kB)))), zzI cy qtn 8 (T_ne (T_setgo (T_setwh tA (updB (T_wh tA) kB false)) (upd (T_go tA) kB (T_kn tA kI kB)))), zzI cy qtg 8 (T_go (T_setgo (T_setwh tA (updB (T_wh tA) kB false)) (upd (T_go tA) kB (T_kn tA kI kB)))), zzI cy qta 8 (T_ag (T_setgo (T_setwh tA (updB (T_wh tA) kB false)) (upd (T_go tA) kB (T_kn tA kI kB)))), zzI cy qtr 8 (T_re (T_setgo (T_setwh tA (updB (T_wh tA) kB false)) (upd (T_go tA) kB (T_kn tA kI kB)))), zzI cy qtm 8 (T_me (T_setgo (T_setwh tA (updB (T_wh tA) kB false)) (upd (T_go tA) kB (T_kn tA kI kB)))), zzI cy qtt 8 (T_te (T_setgo (T_setwh tA (updB (T_wh tA) kB false)) (upd (T_go tA) kB (T_kn tA kI kB)))), zzI cy qts 64 (shF (T_kn (T_setgo (T_setwh tA (updB (T_wh tA) kB false)) (upd (T_go tA) kB (T_kn tA kI kB)))))] ∧ ((r = (T_kn tA kI kB))))) := by
  refine enW RX4 (by decide) rfl (Nat.le_of_ble_eq_true rfl) (fun p e s m below meth c ls A hx hb hml hown hts hr hlocks hP hN hl hin hD hA hS => ?_)
  have hin : meth.name = _ := hin
  have hK := hN.1
  replace hl : lv_has ls 3 [(0, .ref qt), (1, .int (nI kI)), (2, .int (nI kB))] := hl
  refine lv_aload_n hx hb dX4_writeBy_0 rfl (lv_at hl 0 rfl) ?_
  refine lv_dup hx hb dX4_writeBy_1 rfl ?_
  refine va_get (D := G) (ci := 3) (v := .int (wb (T_wh tA))) (C := RX4) (T := TX4) (N := 13) hx hb hts iX_X4 hown hK hP 0 rfl rfl 2 (by decide) (hts _ m_t39) (fun _ h9 => h9) rfl dX4_writeBy_2 ?_
  refine lv_iconst (v := 1) hx hb dX4_writeBy_5 (by decide) ?_
  refine lv_iload_n hx hb dX4_writeBy_6 rfl (lv_at hl 2 rfl) ?_
  refine lv_ishl hx hb dX4_writeBy_7 ?_
  refine lv_iconst (v := (-1)) hx hb dX4_writeBy_8 (by decide) ?_
  refine lv_ixor hx hb dX4_writeBy_9 ?_
  refine lv_iand hx hb dX4_writeBy_10 ?_
  refine lv_seti (v := wb (updB (T_wh tA) kB false)) (wb_off _ (by omega)) ?_
  refine va_put (D := G) (ci := 3) (v := .int (wb (updB (T_wh tA) kB false))) (ty := .int) (C := RX4) (T := TX4) (N := 13) hx hb hts iX_X4 tyX4 tyX4_ok nmX4 hown hK hP hD hS 0 rfl rfl 2 (by decide) (hts _ m_t39) (fun _ h9 => h9) rfl (by decide +kernel) rfl rfl (Nat.le_of_ble_eq_true rfl) dX4_writeBy_11 (fun H locs => ?_)
  clear hP hD hS
  intro hP hD hS
  have hPD := pd_as [zzO qt 3 [.int (nI (T_nb tA)), .int (nI (T_np tA)), .int (wb (updB (T_wh tA) kB false)), .int (wb (T_gn tA)), .int (T_sd tA), .ref qtw, .ref qtn, .ref qtg, .ref qta, .ref qtr, .ref qtm, .ref qtt, .ref qts], zzI cy qtw 8 (T_wo tA), zzI cy qtn 8 (T_ne tA), zzI cy qtg 8 (T_go tA), zzI cy qta 8 (T_ag tA), zzI cy qtr 8 (T_re tA), zzI cy qtm 8 (T_me tA), zzI cy qtt 8 (T_te tA), zzI cy qts 64 (shF (T_kn tA))] hP hD rfl
  clear hP hD
  obtain ⟨hP, hD⟩ := hPD
  have hPD := pd_as [zzO qt 3 [.int (nI (T_nb (T_setwh tA (updB (T_wh tA) kB false)))), .int (nI (T_np (T_setwh tA (updB (T_wh tA) kB false)))), .int (wb (T_wh (T_setwh tA (updB (T_wh tA) kB false)))), .int (wb (T_gn (T_setwh tA (updB (T_wh tA) kB false)))), .int (T_sd (T_setwh tA (updB (T_wh tA) kB false))), .ref qtw, .ref qtn, .ref qtg, .ref qta, .ref qtr, .ref qtm, .ref qtt, .ref qts], zzI cy qtw 8 (T_wo (T_setwh tA (updB (T_wh tA) kB false))), zzI cy qtn 8 (T_ne (T_setwh tA (updB (T_wh tA) kB false))), zzI cy qtg 8 (T_go (T_setwh tA (updB (T_wh tA) kB false))), zzI cy qta 8 (T_ag (T_setwh tA (updB (T_wh tA) kB false))), zzI cy qtr 8 (T_re (T_setwh tA (updB (T_wh tA) kB false))), zzI cy qtm 8 (T_me (T_setwh tA (updB (T_wh tA) kB false))), zzI cy qtt 8 (T_te (T_setwh tA (updB (T_wh tA) kB false))), zzI cy qts 64 (shF (T_kn (T_setwh tA (updB (T_wh tA) kB false))))] hP hD rfl
  clear hP hD
  obtain ⟨hP, hD⟩ := hPD
  refine lv_aload_n hx hb dX4_writeBy_14 rfl (lv_at hl 0 rfl) ?_
  refine va_get (D := G) (ci := 3) (v := .ref qtg) (C := RX4) (T := TX4) (N := 13) hx hb hts iX_X4 hown hK hP 0 rfl rfl 7 (by decide) (hts _ m_t53) (fun _ h9 => h9) rfl dX4_writeBy_15 ?_
  refine lv_iload_n hx hb dX4_writeBy_18 rfl (lv_at hl 2 rfl) ?_
  refine lv_aload_n hx hb dX4_writeBy_19 rfl (lv_at hl 0 rfl) ?_
  refine lv_iload_n hx hb dX4_writeBy_20 rfl (lv_at hl 1 rfl) ?_
  refine lv_iload_n hx hb dX4_writeBy_21 rfl (lv_at hl 2 rfl) ?_
  refine kRi (rV (As := [.int (nI kI), .int (nI kB)]) (rest := [.int (nI kB), .ref qtg]) (b := qt) ⟨hx, hb, hml, hown, hts⟩ (c_X4_knows l G cy qt (T_setwh tA (updB (T_wh tA) kB false)) qtw qtn qtg qta qtr qtm qtt qts kI kB hI hJ) L_X4_66 (preRV (q := (RX4, TX4, 13)) hN hP [0, 8] rfl 0 3 rfl rfl) rfl ⟨Nat.le_of_ble_eq_true rfl, Nat.le_of_ble_eq_true rfl⟩ hl.1 (Nat.le_of_ble_eq_true rfl) dX4_writeBy_22 ⟨Nat.le_of_ble_eq_true rfl, Nat.le_of_ble_eq_true rfl⟩) (fun r_1 h_2 => ?_)
  subst h_2
  refine va_iast hx hb hK hP hD hS 3 0 rfl rfl (in8 (by omega)) dX4_writeBy_25 (fun H locs => ?_)
  clear hP hD hS
  intro hP hD hS
  rw [cl8 (k := kB) (by omega)] at hP hD
  have hPD := pd_as [zzO qt 3 [.int (nI (T_nb (T_setwh tA (updB (T_wh tA) kB false)))), .int (nI (T_np (T_setwh tA (updB (T_wh tA) kB false)))), .int (wb (T_wh (T_setwh tA (updB (T_wh tA) kB false)))), .int (wb (T_gn (T_setwh tA (updB (T_wh tA) kB false)))), .int (T_sd (T_setwh tA (updB (T_wh tA) kB false))), .ref qtw, .ref qtn, .ref qtg, .ref qta, .ref qtr, .ref qtm, .ref qtt, .ref qts], zzI cy qtw 8 (T_wo (T_setwh tA (updB (T_wh tA) kB false))), zzI cy qtn 8 (T_ne (T_setwh tA (updB (T_wh tA) kB false))), zzI cy qtg 8 (upd (T_go (T_setwh tA (updB (T_wh tA) kB false))) kB (T_kn (T_setwh tA (updB (T_wh tA) kB false)) kI kB)), zzI cy qta 8 (T_ag (T_setwh tA (updB (T_wh tA) kB false))), zzI cy qtr 8 (T_re (T_setwh tA (updB (T_wh tA) kB false))), zzI cy qtm 8 (T_me (T_setwh tA (updB (T_wh tA) kB false))), zzI cy qtt 8 (T_te (T_setwh tA (updB (T_wh tA) kB false))), zzI cy qts 64 (shF (T_kn (T_setwh tA (updB (T_wh tA) kB false))))] hP hD rfl
  clear hP hD
  obtain ⟨hP, hD⟩ := hPD
  refine lv_aload_n hx hb dX4_writeBy_26 rfl (lv_at hl 0 rfl) ?_
  refine va_get (D := G) (ci := 3) (v := .ref qtg) (C := RX4) (T := TX4) (N := 13) hx hb hts iX_X4 hown hK hP 0 rfl rfl 7 (by decide) (hts _ m_t53) (fun _ h9 => h9) rfl dX4_writeBy_27 ?_
  refine lv_iload_n hx hb dX4_writeBy_30 rfl (lv_at hl 2 rfl) ?_
  refine va_iald hx hb hK hP 3 0 rfl rfl (in8 (by omega)) dX4_writeBy_31 ?_
  refine lv_seti (v := T_kn (T_setwh tA (updB (T_wh tA) kB false)) kI kB) ((congrArg (upd (T_go (T_setwh tA (updB (T_wh tA) kB false))) kB (T_kn (T_setwh tA (updB (T_wh tA) kB false)) kI kB)) (cl8 (by omega))).trans pk_us) ?_
  exact endW (u := [zzO qt 3 [.int (nI (T_nb (T_setwh tA (updB (T_wh tA) kB false)))), .int (nI (T_np (T_setwh tA (updB (T_wh tA) kB false)))), .int (wb (T_wh (T_setwh tA (updB (T_wh tA) kB false)))), .int (wb (T_gn (T_setwh tA (updB (T_wh tA) kB false)))), .int (T_sd (T_setwh tA (updB (T_wh tA) kB false))), .ref qtw, .ref qtn, .ref qtg, .ref qta, .ref qtr, .ref qtm, .ref qtt, .ref qts], zzI cy qtw 8 (T_wo (T_setwh tA (updB (T_wh tA) kB false))), zzI cy qtn 8 (T_ne (T_setwh tA (updB (T_wh tA) kB false))), zzI cy qtg 8 (upd (T_go (T_setwh tA (updB (T_wh tA) kB false))) kB (T_kn (T_setwh tA (updB (T_wh tA) kB false)) kI kB)), zzI cy qta 8 (T_ag (T_setwh tA (updB (T_wh tA) kB false))), zzI cy qtr 8 (T_re (T_setwh tA (updB (T_wh tA) kB false))), zzI cy qtm 8 (T_me (T_setwh tA (updB (T_wh tA) kB false))), zzI cy qtt 8 (T_te (T_setwh tA (updB (T_wh tA) kB false))), zzI cy qts 64 (shF (T_kn (T_setwh tA (updB (T_wh tA) kB false))))]) hx hb hr hlocks rfl (hP.sub [0, 1, 2, 3, 4, 5, 6, 7, 8] rfl) (hD.sub [0, 1, 2, 3, 4, 5, 6, 7, 8] (by decide +kernel) rfl) hS ⟨rfl, (by rfl)⟩ dX4_writeBy_32
set_option maxHeartbeats 4000000 in
set_option maxRecDepth 100000 in
theorem c_X4_addBook (l : Launch) (G : va_G) (cy : Nat → ClassId) (sz : Nat) (qt : Nat) (tA : TA) (qtw : Nat) (qtn : Nat) (qtg : Nat) (qta : Nat) (qtr : Nat) (qtm : Nat) (qtt : Nat) (qts : Nat) (iA : Int32) (iB : Int32)  (hB : T_nb tA < 8) : MW l yX4_addBook cX4_addBook 4 (some .int) 1 0 0 G cy [zzO qt 3 [.int (nI (T_nb tA)), .int (nI (T_np tA)), .int (wb (T_wh tA)), .int (wb (T_gn tA)), .int (T_sd tA), .ref qtw, .ref qtn, .ref qtg, .ref qta, .ref qtr, .ref qtm, .ref qtt, .ref qts], zzI cy qtw 8 (T_wo tA), zzI cy qtn 8 (T_ne tA), zzI cy qtg 8 (T_go tA), zzI cy qta 8 (T_ag tA), zzI cy qtr 8 (T_re tA), zzI cy qtm 8 (T_me tA), zzI cy qtt 8 (T_te tA), zzI cy qts 64 (shF (T_kn tA))] sz [.ref qt, .int iA, .int iB] (Wi G (fun r u => u = [zzO qt 3 [.int (nI (T_nb (zab tA iA iB))), .int (nI (T_np (zab tA iA iB))), .int (wb (T_wh (zab tA iA iB))), .int (wb (T_gn (zab tA iA iB))), .int (T_sd (zab tA iA iB)), .ref qtw, .ref qtn, .ref qtg, .ref qta, .ref qtr, .ref qtm, .ref qtt, .ref qts], zzI cy qtw 8 (T_wo (zab tA iA iB)), zzI cy qtn 8 (T_ne (zab tA iA iB)), zzI cy qtg 8 (T_go (zab tA iA iB)), zzI cy qta 8 (T_ag (zab tA iA iB)), zzI cy qtr 8 (T_re (zab tA iA iB)), zzI cy qtm 8 (T_me (zab tA iA iB)), zzI cy qtt 8 (T_te (zab tA iA iB)), zzI cy qts 64 (shF (T_kn (zab tA iA iB)))] ∧ ((r = (nI (T_nb tA)))))) := by
  refine enW RX4 (by decide) rfl (Nat.le_of_ble_eq_true rfl) (fun p e s m below meth c ls A hx hb hml hown hts hr hlocks hP hN hl hin hD hA hS => ?_)
  have hin : meth.name = _ := hin
  have hK := hN.1
  replace hl : lv_has ls 4 [(0, .ref qt), (1, .int iA), (2, .int iB)] := hl
  refine lv_aload_n hx hb dX4_addBook_0 rfl (lv_at hl 0 rfl) ?_
  refine va_get (D := G) (ci := 3) (v := .int (nI (T_nb tA))) (C := RX4) (T := TX4) (N := 13) hx hb hts iX_X4 hown hK hP 0 rfl rfl 0 (by decide) (hts _ m_t29) (fun _ h9 => h9) rfl dX4_addBook_1 ?_
  refine lv_istore_n (lv' := [(3, .int (nI (T_nb tA))), (0, .ref qt), (1, .int iA), (2, .int iB)]) hx hb dX4_addBook_4 rfl hl (by decide) rfl (fun ls => ?_)
  clear hl
  intro hl
  refine lv_aload_n hx hb dX4_addBook_5 rfl (lv_at hl 1 rfl) ?_
  refine va_get (D := G) (ci := 3) (v := .ref qtw) (C := RX4) (T := TX4) (N := 13) hx hb hts iX_X4 hown hK hP 0 rfl rfl 5 (by decide) (hts _ m_t48) (fun _ h9 => h9) rfl dX4_addBook_6 ?_
  refine lv_iload_n hx hb dX4_addBook_9 rfl (lv_at hl 0 rfl) ?_
  refine lv_iload_n hx hb dX4_addBook_10 rfl (lv_at hl 2 rfl) ?_
  refine va_iast hx hb hK hP hD hS 1 0 rfl rfl (in8 (by omega)) dX4_addBook_11 (fun H locs => ?_)
  clear hP hD hS
  intro hP hD hS
  rw [cl8 (k := (T_nb tA)) (by omega)] at hP hD
  have hPD := pd_as [zzO qt 3 [.int (nI (T_nb tA)), .int (nI (T_np tA)), .int (wb (T_wh tA)), .int (wb (T_gn tA)), .int (T_sd tA), .ref qtw, .ref qtn, .ref qtg, .ref qta, .ref qtr, .ref qtm, .ref qtt, .ref qts], zzI cy qtw 8 (upd (T_wo tA) (T_nb tA) iA), zzI cy qtn 8 (T_ne tA), zzI cy qtg 8 (T_go tA), zzI cy qta 8 (T_ag tA), zzI cy qtr 8 (T_re tA), zzI cy qtm 8 (T_me tA), zzI cy qtt 8 (T_te tA), zzI cy qts 64 (shF (T_kn tA))] hP hD rfl
  clear hP hD
  obtain ⟨hP, hD⟩ := hPD
  refine lv_aload_n hx hb dX4_addBook_12 rfl (lv_at hl 1 rfl) ?_
  refine va_get (D := G) (ci := 3) (v := .ref qtn) (C := RX4) (T := TX4) (N := 13) hx hb hts iX_X4 hown hK hP 0 rfl rfl 6 (by decide) (hts _ m_t50) (fun _ h9 => h9) rfl dX4_addBook_13 ?_
  refine lv_iload_n hx hb dX4_addBook_16 rfl (lv_at hl 0 rfl) ?_
  refine lv_iload_n hx hb dX4_addBook_17 rfl (lv_at hl 3 rfl) ?_
  refine va_iast hx hb hK hP hD hS 2 0 rfl rfl (in8 (by omega)) dX4_addBook_18 (fun H locs => ?_)
  clear hP hD hS
  intro hP hD hS
  rw [cl8 (k := (T_nb tA)) (by omega)] at hP hD
  have hPD := pd_as [zzO qt 3 [.int (nI (T_nb tA)), .int (nI (T_np tA)), .int (wb (T_wh tA)), .int (wb (T_gn tA)), .int (T_sd tA), .ref qtw, .ref qtn, .ref qtg, .ref qta, .ref qtr, .ref qtm, .ref qtt, .ref qts], zzI cy qtw 8 (upd (T_wo tA) (T_nb tA) iA), zzI cy qtn 8 (upd (T_ne tA) (T_nb tA) iB), zzI cy qtg 8 (T_go tA), zzI cy qta 8 (T_ag tA), zzI cy qtr 8 (T_re tA), zzI cy qtm 8 (T_me tA), zzI cy qtt 8 (T_te tA), zzI cy qts 64 (shF (T_kn tA))] hP hD rfl
  clear hP hD
  obtain ⟨hP, hD⟩ := hPD
  refine lv_aload_n hx hb dX4_addBook_19 rfl (lv_at hl 1 rfl) ?_
  refine va_get (D := G) (ci := 3) (v := .ref qtg) (C := RX4) (T := TX4) (N := 13) hx hb hts iX_X4 hown hK hP 0 rfl rfl 7 (by decide) (hts _ m_t53) (fun _ h9 => h9) rfl dX4_addBook_20 ?_
  refine lv_iload_n hx hb dX4_addBook_23 rfl (lv_at hl 0 rfl) ?_
  refine lv_sipush (v := 1000) hx hb dX4_addBook_24 (by decide) ?_
  refine va_iast hx hb hK hP hD hS 3 0 rfl rfl (in8 (by omega)) dX4_addBook_27 (fun H locs => ?_)
  clear hP hD hS
  intro hP hD hS
  rw [cl8 (k := (T_nb tA)) (by omega)] at hP hD
  have hPD := pd_as [zzO qt 3 [.int (nI (T_nb tA)), .int (nI (T_np tA)), .int (wb (T_wh tA)), .int (wb (T_gn tA)), .int (T_sd tA), .ref qtw, .ref qtn, .ref qtg, .ref qta, .ref qtr, .ref qtm, .ref qtt, .ref qts], zzI cy qtw 8 (upd (T_wo tA) (T_nb tA) iA), zzI cy qtn 8 (upd (T_ne tA) (T_nb tA) iB), zzI cy qtg 8 (upd (T_go tA) (T_nb tA) 1000), zzI cy qta 8 (T_ag tA), zzI cy qtr 8 (T_re tA), zzI cy qtm 8 (T_me tA), zzI cy qtt 8 (T_te tA), zzI cy qts 64 (shF (T_kn tA))] hP hD rfl
  clear hP hD
  obtain ⟨hP, hD⟩ := hPD
  refine lv_aload_n hx hb dX4_addBook_28 rfl (lv_at hl 1 rfl) ?_
  refine lv_dup hx hb dX4_addBook_29 rfl ?_
  refine va_get (D := G) (ci := 3) (v := .int (nI (T_nb tA))) (C := RX4) (T := TX4) (N := 13) hx hb hts iX_X4 hown hK hP 0 rfl rfl 0 (by decide) (hts _ m_t29) (fun _ h9 => h9) rfl dX4_addBook_30 ?_
  refine lv_iconst (v := 1) hx hb dX4_addBook_33 (by decide) ?_
  refine lv_iadd hx hb dX4_addBook_34 ?_
  refine lv_seti (v := nI ((T_nb tA) + 1)) (nI_1 _) ?_
  refine va_put (D := G) (ci := 3) (v := .int (nI ((T_nb tA) + 1))) (ty := .int) (C := RX4) (T := TX4) (N := 13) hx hb hts iX_X4 tyX4 tyX4_ok nmX4 hown hK hP hD hS 0 rfl rfl 0 (by decide) (hts _ m_t29) (fun _ h9 => h9) rfl (by decide +kernel) rfl rfl (Nat.le_of_ble_eq_true rfl) dX4_addBook_35 (fun H locs => ?_)
  clear hP hD hS
  intro hP hD hS
  have hPD := pd_as [zzO qt 3 [.int (nI ((T_nb tA) + 1)), .int (nI (T_np tA)), .int (wb (T_wh tA)), .int (wb (T_gn tA)), .int (T_sd tA), .ref qtw, .ref qtn, .ref qtg, .ref qta, .ref qtr, .ref qtm, .ref qtt, .ref qts], zzI cy qtw 8 (upd (T_wo tA) (T_nb tA) iA), zzI cy qtn 8 (upd (T_ne tA) (T_nb tA) iB), zzI cy qtg 8 (upd (T_go tA) (T_nb tA) 1000), zzI cy qta 8 (T_ag tA), zzI cy qtr 8 (T_re tA), zzI cy qtm 8 (T_me tA), zzI cy qtt 8 (T_te tA), zzI cy qts 64 (shF (T_kn tA))] hP hD rfl
  clear hP hD
  obtain ⟨hP, hD⟩ := hPD
  refine lv_iload_n hx hb dX4_addBook_38 rfl (lv_at hl 0 rfl) ?_
  exact endW (u := [zzO qt 3 [.int (nI ((T_nb tA) + 1)), .int (nI (T_np tA)), .int (wb (T_wh tA)), .int (wb (T_gn tA)), .int (T_sd tA), .ref qtw, .ref qtn, .ref qtg, .ref qta, .ref qtr, .ref qtm, .ref qtt, .ref qts], zzI cy qtw 8 (upd (T_wo tA) (T_nb tA) iA), zzI cy qtn 8 (upd (T_ne tA) (T_nb tA) iB), zzI cy qtg 8 (upd (T_go tA) (T_nb tA) 1000), zzI cy qta 8 (T_ag tA), zzI cy qtr 8 (T_re tA), zzI cy qtm 8 (T_me tA), zzI cy qtt 8 (T_te tA), zzI cy qts 64 (shF (T_kn tA))]) hx hb hr hlocks rfl (hP.sub [0, 1, 2, 3, 4, 5, 6, 7, 8] rfl) (hD.sub [0, 1, 2, 3, 4, 5, 6, 7, 8] (by decide +kernel) rfl) hS ⟨rfl, rfl⟩ dX4_addBook_39
set_option maxHeartbeats 4000000 in
set_option maxRecDepth 100000 in
theorem c_X4_addOne (l : Launch) (G : va_G) (cy : Nat → ClassId) (sz : Nat) (qt : Nat) (tA : TA) (qtw : Nat) (qtn : Nat) (qtg : Nat) (qta : Nat) (qtr : Nat) (qtm : Nat) (qtt : Nat) (qts : Nat) (iA : Int32) (iB : Int32) (iC : Int32) (iD : Int32)  (hPp : T_np tA < 8) : MW l yX4_addOne cX4_addOne 6 (some .int) 1 0 0 G cy [zzO qt 3 [.int (nI (T_nb tA)), .int (nI (T_np tA)), .int (wb (T_wh tA)), .int (wb (T_gn tA)), .int (T_sd tA), .ref qtw, .ref qtn, .ref qtg, .ref qta, .ref qtr, .ref qtm, .ref qtt, .ref qts], zzI cy qtw 8 (T_wo tA), zzI cy qtn 8 (T_ne tA), zzI cy qtg 8 (T_go tA), zzI cy qta 8 (T_ag tA), zzI cy qtr 8 (T_re tA), zzI cy qtm 8 (T_me tA), zzI cy qtt 8 (T_te tA), zzI cy qts 64 (shF (T_kn tA))] sz [.ref qt, .int iA, .int iB, .int iC, .int iD] (Wi G (fun r u => u = [zzO qt 3 [.int (nI (T_nb (zao tA iA iB iC iD))), .int (nI (T_np (zao tA iA iB iC iD))), .int (wb (T_wh (zao tA iA iB iC iD))), .int (wb (T_gn (zao tA iA iB iC iD))), .int (T_sd (zao tA iA iB iC iD)), .ref qtw, .ref qtn, .ref qtg, .ref qta, .ref qtr, .ref qtm, .ref qtt, .ref qts], zzI cy qtw 8 (T_wo (zao tA iA iB iC iD)), zzI cy qtn 8 (T_ne (zao tA iA iB iC iD)), zzI cy qtg 8 (T_go (zao tA iA iB iC iD)), zzI cy qta 8 (T_ag (zao tA iA iB iC iD)), zzI cy qtr 8 (T_re (zao tA iA iB iC iD)), zzI cy qtm 8 (T_me (zao tA iA iB iC iD)), zzI cy qtt 8 (T_te (zao tA iA iB iC iD)), zzI cy qts 64 (shF (T_kn (zao tA iA iB iC iD)))] ∧ ((r = (nI (T_np tA)))))) := by
  refine enW RX4 (by decide) rfl (Nat.le_of_ble_eq_true rfl) (fun p e s m below meth c ls A hx hb hml hown hts hr hlocks hP hN hl hin hD hA hS => ?_)
  have hin : meth.name = _ := hin
  have hK := hN.1
  replace hl : lv_has ls 6 [(0, .ref qt), (1, .int iA), (2, .int iB), (3, .int iC), (4, .int iD)] := hl
  refine lv_aload_n hx hb dX4_addOne_0 rfl (lv_at hl 0 rfl) ?_
  refine va_get (D := G) (ci := 3) (v := .int (nI (T_np tA))) (C := RX4) (T := TX4) (N := 13) hx hb hts iX_X4 hown hK hP 0 rfl rfl 1 (by decide) (hts _ m_t34) (fun _ h9 => h9) rfl dX4_addOne_1 ?_
  refine lv_istore (lv' := [(5, .int (nI (T_np tA))), (0, .ref qt), (1, .int iA), (2, .int iB), (3, .int iC), (4, .int iD)]) hx hb dX4_addOne_4 hl (by decide) rfl (fun ls => ?_)
  clear hl
  intro hl
  refine lv_aload_n hx hb dX4_addOne_6 rfl (lv_at hl 1 rfl) ?_
  refine va_get (D := G) (ci := 3) (v := .ref qta) (C := RX4) (T := TX4) (N := 13) hx hb hts iX_X4 hown hK hP 0 rfl rfl 8 (by decide) (hts _ m_t56) (fun _ h9 => h9) rfl dX4_addOne_7 ?_
  refine lv_iload hx hb dX4_addOne_10 (lv_at hl 0 rfl) ?_
  refine lv_iload_n hx hb dX4_addOne_12 rfl (lv_at hl 2 rfl) ?_
  refine va_iast hx hb hK hP hD hS 4 0 rfl rfl (in8 (by omega)) dX4_addOne_13 (fun H locs => ?_)
  clear hP hD hS
  intro hP hD hS
  rw [cl8 (k := (T_np tA)) (by omega)] at hP hD
  have hPD := pd_as [zzO qt 3 [.int (nI (T_nb tA)), .int (nI (T_np tA)), .int (wb (T_wh tA)), .int (wb (T_gn tA)), .int (T_sd tA), .ref qtw, .ref qtn, .ref qtg, .ref qta, .ref qtr, .ref qtm, .ref qtt, .ref qts], zzI cy qtw 8 (T_wo tA), zzI cy qtn 8 (T_ne tA), zzI cy qtg 8 (T_go tA), zzI cy qta 8 (upd (T_ag tA) (T_np tA) iA), zzI cy qtr 8 (T_re tA), zzI cy qtm 8 (T_me tA), zzI cy qtt 8 (T_te tA), zzI cy qts 64 (shF (T_kn tA))] hP hD rfl
  clear hP hD
  obtain ⟨hP, hD⟩ := hPD
  refine lv_aload_n hx hb dX4_addOne_14 rfl (lv_at hl 1 rfl) ?_
  refine va_get (D := G) (ci := 3) (v := .ref qtr) (C := RX4) (T := TX4) (N := 13) hx hb hts iX_X4 hown hK hP 0 rfl rfl 9 (by decide) (hts _ m_t58) (fun _ h9 => h9) rfl dX4_addOne_15 ?_
  refine lv_iload hx hb dX4_addOne_18 (lv_at hl 0 rfl) ?_
  refine lv_iload_n hx hb dX4_addOne_20 rfl (lv_at hl 3 rfl) ?_
  refine va_iast hx hb hK hP hD hS 5 0 rfl rfl (in8 (by omega)) dX4_addOne_21 (fun H locs => ?_)
  clear hP hD hS
  intro hP hD hS
  rw [cl8 (k := (T_np tA)) (by omega)] at hP hD
  have hPD := pd_as [zzO qt 3 [.int (nI (T_nb tA)), .int (nI (T_np tA)), .int (wb (T_wh tA)), .int (wb (T_gn tA)), .int (T_sd tA), .ref qtw, .ref qtn, .ref qtg, .ref qta, .ref qtr, .ref qtm, .ref qtt, .ref qts], zzI cy qtw 8 (T_wo tA), zzI cy qtn 8 (T_ne tA), zzI cy qtg 8 (T_go tA), zzI cy qta 8 (upd (T_ag tA) (T_np tA) iA), zzI cy qtr 8 (upd (T_re tA) (T_np tA) iB), zzI cy qtm 8 (T_me tA), zzI cy qtt 8 (T_te tA), zzI cy qts 64 (shF (T_kn tA))] hP hD rfl
  clear hP hD
  obtain ⟨hP, hD⟩ := hPD
  refine lv_aload_n hx hb dX4_addOne_22 rfl (lv_at hl 1 rfl) ?_
  refine va_get (D := G) (ci := 3) (v := .ref qtm) (C := RX4) (T := TX4) (N := 13) hx hb hts iX_X4 hown hK hP 0 rfl rfl 10 (by decide) (hts _ m_t60) (fun _ h9 => h9) rfl dX4_addOne_23 ?_
  refine lv_iload hx hb dX4_addOne_26 (lv_at hl 0 rfl) ?_
  refine lv_iload_n hx hb dX4_addOne_28 rfl (lv_at hl 4 rfl) ?_
  refine va_iast hx hb hK hP hD hS 6 0 rfl rfl (in8 (by omega)) dX4_addOne_29 (fun H locs => ?_)
  clear hP hD hS
  intro hP hD hS
  rw [cl8 (k := (T_np tA)) (by omega)] at hP hD
  have hPD := pd_as [zzO qt 3 [.int (nI (T_nb tA)), .int (nI (T_np tA)), .int (wb (T_wh tA)), .int (wb (T_gn tA)), .int (T_sd tA), .ref qtw, .ref qtn, .ref qtg, .ref qta, .ref qtr, .ref qtm, .ref qtt, .ref qts], zzI cy qtw 8 (T_wo tA), zzI cy qtn 8 (T_ne tA), zzI cy qtg 8 (T_go tA), zzI cy qta 8 (upd (T_ag tA) (T_np tA) iA), zzI cy qtr 8 (upd (T_re tA) (T_np tA) iB), zzI cy qtm 8 (upd (T_me tA) (T_np tA) iC), zzI cy qtt 8 (T_te tA), zzI cy qts 64 (shF (T_kn tA))] hP hD rfl
  clear hP hD
  obtain ⟨hP, hD⟩ := hPD
  refine lv_aload_n hx hb dX4_addOne_30 rfl (lv_at hl 1 rfl) ?_
  refine va_get (D := G) (ci := 3) (v := .ref qtt) (C := RX4) (T := TX4) (N := 13) hx hb hts iX_X4 hown hK hP 0 rfl rfl 11 (by decide) (hts _ m_t62) (fun _ h9 => h9) rfl dX4_addOne_31 ?_
  refine lv_iload hx hb dX4_addOne_34 (lv_at hl 0 rfl) ?_
  refine lv_iload hx hb dX4_addOne_36 (lv_at hl 5 rfl) ?_
  refine va_iast hx hb hK hP hD hS 7 0 rfl rfl (in8 (by omega)) dX4_addOne_38 (fun H locs => ?_)
  clear hP hD hS
  intro hP hD hS
  rw [cl8 (k := (T_np tA)) (by omega)] at hP hD
  have hPD := pd_as [zzO qt 3 [.int (nI (T_nb tA)), .int (nI (T_np tA)), .int (wb (T_wh tA)), .int (wb (T_gn tA)), .int (T_sd tA), .ref qtw, .ref qtn, .ref qtg, .ref qta, .ref qtr, .ref qtm, .ref qtt, .ref qts], zzI cy qtw 8 (T_wo tA), zzI cy qtn 8 (T_ne tA), zzI cy qtg 8 (T_go tA), zzI cy qta 8 (upd (T_ag tA) (T_np tA) iA), zzI cy qtr 8 (upd (T_re tA) (T_np tA) iB), zzI cy qtm 8 (upd (T_me tA) (T_np tA) iC), zzI cy qtt 8 (upd (T_te tA) (T_np tA) iD), zzI cy qts 64 (shF (T_kn tA))] hP hD rfl
  clear hP hD
  obtain ⟨hP, hD⟩ := hPD
  refine lv_aload_n hx hb dX4_addOne_39 rfl (lv_at hl 1 rfl) ?_
  refine lv_dup hx hb dX4_addOne_40 rfl ?_
  refine va_get (D := G) (ci := 3) (v := .int (nI (T_np tA))) (C := RX4) (T := TX4) (N := 13) hx hb hts iX_X4 hown hK hP 0 rfl rfl 1 (by decide) (hts _ m_t34) (fun _ h9 => h9) rfl dX4_addOne_41 ?_
  refine lv_iconst (v := 1) hx hb dX4_addOne_44 (by decide) ?_
  refine lv_iadd hx hb dX4_addOne_45 ?_
  refine lv_seti (v := nI ((T_np tA) + 1)) (nI_1 _) ?_
  refine va_put (D := G) (ci := 3) (v := .int (nI ((T_np tA) + 1))) (ty := .int) (C := RX4) (T := TX4) (N := 13) hx hb hts iX_X4 tyX4 tyX4_ok nmX4 hown hK hP hD hS 0 rfl rfl 1 (by decide) (hts _ m_t34) (fun _ h9 => h9) rfl (by decide +kernel) rfl rfl (Nat.le_of_ble_eq_true rfl) dX4_addOne_46 (fun H locs => ?_)
  clear hP hD hS
  intro hP hD hS
  have hPD := pd_as [zzO qt 3 [.int (nI (T_nb tA)), .int (nI ((T_np tA) + 1)), .int (wb (T_wh tA)), .int (wb (T_gn tA)), .int (T_sd tA), .ref qtw, .ref qtn, .ref qtg, .ref qta, .ref qtr, .ref qtm, .ref qtt, .ref qts], zzI cy qtw 8 (T_wo tA), zzI cy qtn 8 (T_ne tA), zzI cy qtg 8 (T_go tA), zzI cy qta 8 (upd (T_ag tA) (T_np tA) iA), zzI cy qtr 8 (upd (T_re tA) (T_np tA) iB), zzI cy qtm 8 (upd (T_me tA) (T_np tA) iC), zzI cy qtt 8 (upd (T_te tA) (T_np tA) iD), zzI cy qts 64 (shF (T_kn tA))] hP hD rfl
  clear hP hD
  obtain ⟨hP, hD⟩ := hPD
  refine lv_iload hx hb dX4_addOne_49 (lv_at hl 0 rfl) ?_
  exact endW (u := [zzO qt 3 [.int (nI (T_nb tA)), .int (nI ((T_np tA) + 1)), .int (wb (T_wh tA)), .int (wb (T_gn tA)), .int (T_sd tA), .ref qtw, .ref qtn, .ref qtg, .ref qta, .ref qtr, .ref qtm, .ref qtt, .ref qts], zzI cy qtw 8 (T_wo tA), zzI cy qtn 8 (T_ne tA), zzI cy qtg 8 (T_go tA), zzI cy qta 8 (upd (T_ag tA) (T_np tA) iA), zzI cy qtr 8 (upd (T_re tA) (T_np tA) iB), zzI cy qtm 8 (upd (T_me tA) (T_np tA) iC), zzI cy qtt 8 (upd (T_te tA) (T_np tA) iD), zzI cy qts 64 (shF (T_kn tA))]) hx hb hr hlocks rfl (hP.sub [0, 1, 2, 3, 4, 5, 6, 7, 8] rfl) (hD.sub [0, 1, 2, 3, 4, 5, 6, 7, 8] (by decide +kernel) rfl) hS ⟨rfl, rfl⟩ dX4_addOne_51
set_option maxHeartbeats 4000000 in
set_option maxRecDepth 100000 in
theorem c_X4_isBook (l : Launch) (G : va_G) (cy : Nat → ClassId) (qt : Nat) (tA : TA) (qtw : Nat) (qtn : Nat) (qtg : Nat) (qta : Nat) (qtr : Nat) (qtm : Nat) (qtt : Nat) (qts : Nat) (iA : Int32)  (hB : T_nb tA ≤ 8) : MR l yX4_isBook cX4_isBook 2 (some .boolean) 1 G cy [zzO qt 3 [.int (nI (T_nb tA)), .int (nI (T_np tA)), .int (wb (T_wh tA)), .int (wb (T_gn tA)), .int (T_sd tA), .ref qtw, .ref qtn, .ref qtg, .ref qta, .ref qtr, .ref qtm, .ref qtt, .ref qts]] [.ref qt, .int iA] (vp_Si (fun r => (r = 1 ∧ ∃ k : Nat, k < T_nb tA ∧ iA = nI k) ∨ (r = 0 ∧ ¬ ∃ k : Nat, k < T_nb tA ∧ iA = nI k))) := by
  refine enR RX4 (by decide) rfl (Nat.le_of_ble_eq_true rfl) (fun p e s m below meth c ls hx hb hml hown hts hr hlocks hP hN hl => ?_)
  have hK := hN.1
  replace hl : lv_has ls 2 [(0, .ref qt), (1, .int iA)] := hl
  refine lv_iload_n hx hb dX4_isBook_0 rfl (lv_at hl 1 rfl) ?_
  refine lv_if_lt (tgt := 16) hx hb dX4_isBook_1 (by decide) (fun c_1 => ?_) (fun c_1 => ?_)
  · refine lv_iconst (v := 0) hx hb dX4_isBook_16 (by decide) ?_
    exact endR hx hb hr hlocks rfl (Or.inr (⟨rfl, isx_no1 c_1 (by omega)⟩)) dX4_isBook_17
  · refine lv_iload_n hx hb dX4_isBook_4 rfl (lv_at hl 1 rfl) ?_
    refine lv_aload_n hx hb dX4_isBook_5 rfl (lv_at hl 0 rfl) ?_
    refine va_get (D := G) (ci := 3) (v := .int (nI (T_nb tA))) (C := RX4) (T := TX4) (N := 13) hx hb hts iX_X4 hown hK hP 0 rfl rfl 0 (by decide) (hts _ m_t29) (fun _ h9 => h9) rfl dX4_isBook_6 ?_
    refine lv_icmp_ge (tgt := 16) hx hb dX4_isBook_9 (by decide) (fun c_2 => ?_) (fun c_2 => ?_)
    · refine lv_iconst (v := 0) hx hb dX4_isBook_16 (by decide) ?_
      exact endR hx hb hr hlocks rfl (Or.inr (⟨rfl, isx_no2 c_2 (by omega)⟩)) dX4_isBook_17
    · refine lv_iconst (v := 1) hx hb dX4_isBook_12 (by decide) ?_
      refine lv_goto (tgt := 17) hx hb dX4_isBook_13 (by decide) ?_
      exact endR hx hb hr hlocks rfl (Or.inl (⟨rfl, isx_yes c_1 c_2 (by omega)⟩)) dX4_isBook_17
set_option maxHeartbeats 4000000 in
set_option maxRecDepth 100000 in
theorem c_X4_isOne (l : Launch) (G : va_G) (cy : Nat → ClassId) (qt : Nat) (tA : TA) (qtw : Nat) (qtn : Nat) (qtg : Nat) (qta : Nat) (qtr : Nat) (qtm : Nat) (qtt : Nat) (qts : Nat) (iA : Int32)  (hB : T_np tA ≤ 8) : MR l yX4_isOne cX4_isOne 2 (some .boolean) 1 G cy [zzO qt 3 [.int (nI (T_nb tA)), .int (nI (T_np tA)), .int (wb (T_wh tA)), .int (wb (T_gn tA)), .int (T_sd tA), .ref qtw, .ref qtn, .ref qtg, .ref qta, .ref qtr, .ref qtm, .ref qtt, .ref qts]] [.ref qt, .int iA] (vp_Si (fun r => (r = 1 ∧ ∃ k : Nat, k < T_np tA ∧ iA = nI k) ∨ (r = 0 ∧ ¬ ∃ k : Nat, k < T_np tA ∧ iA = nI k))) := by
  refine enR RX4 (by decide) rfl (Nat.le_of_ble_eq_true rfl) (fun p e s m below meth c ls hx hb hml hown hts hr hlocks hP hN hl => ?_)
  have hK := hN.1
  replace hl : lv_has ls 2 [(0, .ref qt), (1, .int iA)] := hl
  refine lv_iload_n hx hb dX4_isOne_0 rfl (lv_at hl 1 rfl) ?_
  refine lv_if_lt (tgt := 16) hx hb dX4_isOne_1 (by decide) (fun c_1 => ?_) (fun c_1 => ?_)
  · refine lv_iconst (v := 0) hx hb dX4_isOne_16 (by decide) ?_
    exact endR hx hb hr hlocks rfl (Or.inr (⟨rfl, isx_no1 c_1 (by omega)⟩)) dX4_isOne_17
  · refine lv_iload_n hx hb dX4_isOne_4 rfl (lv_at hl 1 rfl) ?_
    refine lv_aload_n hx hb dX4_isOne_5 rfl (lv_at hl 0 rfl) ?_
    refine va_get (D := G) (ci := 3) (v := .int (nI (T_np tA))) (C := RX4) (T := TX4) (N := 13) hx hb hts iX_X4 hown hK hP 0 rfl rfl 1 (by decide) (hts _ m_t34) (fun _ h9 => h9) rfl dX4_isOne_6 ?_
    refine lv_icmp_ge (tgt := 16) hx hb dX4_isOne_9 (by decide) (fun c_2 => ?_) (fun c_2 => ?_)
    · refine lv_iconst (v := 0) hx hb dX4_isOne_16 (by decide) ?_
      exact endR hx hb hr hlocks rfl (Or.inr (⟨rfl, isx_no2 c_2 (by omega)⟩)) dX4_isOne_17
    · refine lv_iconst (v := 1) hx hb dX4_isOne_12 (by decide) ?_
      refine lv_goto (tgt := 17) hx hb dX4_isOne_13 (by decide) ?_
      exact endR hx hb hr hlocks rfl (Or.inl (⟨rfl, isx_yes c_1 c_2 (by omega)⟩)) dX4_isOne_17
set_option maxHeartbeats 4000000 in
set_option maxRecDepth 100000 in
theorem c_X4_bestReader (l : Launch) (G : va_G) (cy : Nat → ClassId) (qt : Nat) (tA : TA) (qtw : Nat) (qtn : Nat) (qtg : Nat) (qta : Nat) (qtr : Nat) (qtm : Nat) (qtt : Nat) (qts : Nat) (kB : Nat)  (hPp : T_np tA ≤ 8) (hJ : kB < 8) : MR l yX4_bestReader cX4_bestReader 6 (some .int) 3 G cy [zzO qt 3 [.int (nI (T_nb tA)), .int (nI (T_np tA)), .int (wb (T_wh tA)), .int (wb (T_gn tA)), .int (T_sd tA), .ref qtw, .ref qtn, .ref qtg, .ref qta, .ref qtr, .ref qtm, .ref qtt, .ref qts], zzI cy qtw 8 (T_wo tA), zzI cy qtn 8 (T_ne tA), zzI cy qtg 8 (T_go tA), zzI cy qta 8 (T_ag tA), zzI cy qtr 8 (T_re tA), zzI cy qtm 8 (T_me tA), zzI cy qtt 8 (T_te tA), zzI cy qts 64 (shF (T_kn tA))] [.ref qt, .int (nI kB)] (vp_Si (fun r => (r = (zbr tA kB)))) := by
  refine enR RX4 (by decide) rfl (Nat.le_of_ble_eq_true rfl) (fun p e s m below meth c ls hx hb hml hown hts hr hlocks hP hN hl => ?_)
  have hK := hN.1
  replace hl : lv_has ls 6 [(0, .ref qt), (1, .int (nI kB))] := hl
  refine lv_iconst (v := (-1)) hx hb dX4_bestReader_0 (by decide) ?_
  refine lv_istore_n (lv' := [(2, .int (-1)), (0, .ref qt), (1, .int (nI kB))]) hx hb dX4_bestReader_1 rfl hl (by decide) rfl (fun ls => ?_)
  clear hl
  intro hl
  refine lv_iconst (v := 0) hx hb dX4_bestReader_2 (by decide) ?_
  refine lv_istore_n (lv' := [(3, .int 0), (2, .int (-1)), (0, .ref qt), (1, .int (nI kB))]) hx hb dX4_bestReader_3 rfl hl (by decide) rfl (fun ls => ?_)
  clear hl
  intro hl
  refine lv_iconst (v := 0) hx hb dX4_bestReader_4 (by decide) ?_
  refine lv_istore (lv' := [(4, .int 0), (3, .int 0), (2, .int (-1)), (0, .ref qt), (1, .int (nI kB))]) hx hb dX4_bestReader_5 hl (by decide) rfl (fun ls => ?_)
  clear hl
  intro hl
  have lp_1 : ∀ (n_2 : Nat) (j_4 : Nat) (xB_5 : Int32) (xM_6 : Int32), 8 - j_4 < n_2 → j_4 ≤ T_np tA → xB_5 = (brF tA kB j_4).1 → xM_6 = (brF tA kB j_4).2 → ∀ (ls : Array Slot), lv_has ls 6 [(4, .int (nI j_4)), (3, .int xM_6), (2, .int xB_5), (0, .ref qt), (1, .int (nI kB))] → W p l e (Rm 3 0 0) s m (List.toArray (α := Value) [.ref qt, .int (nI kB)]) below meth c s.heap [] 0 0 (MQ below (vp_Si (fun r => (r = (zbr tA kB)))) (List.toArray (α := Value) [.ref qt, .int (nI kB)]) s 0 0 (fun _ => False)) (F0 m 7 ls []) := by
    intro n_2
    induction n_2 with
    | zero => intro j_4 xB_5 xM_6 hm9; exact absurd hm9 (Nat.not_lt_zero _)
    | succ n_2 ih_3 =>
      intro j_4 xB_5 xM_6 hm_10 hj_7 hxB_8 hxM_9 ls hl
      refine lv_iload hx hb dX4_bestReader_7 (lv_at hl 0 rfl) ?_
      refine lv_aload_n hx hb dX4_bestReader_9 rfl (lv_at hl 3 rfl) ?_
      refine va_get (D := G) (ci := 3) (v := .int (nI (T_np tA))) (C := RX4) (T := TX4) (N := 13) hx hb hts iX_X4 hown hK hP 0 rfl rfl 1 (by decide) (hts _ m_t34) (fun _ h9 => h9) rfl dX4_bestReader_10 ?_
      refine lv_icmp_ge (tgt := 92) hx hb dX4_bestReader_13 (by decide) (fun c_11 => ?_) (fun c_11 => ?_)
      · have hlt_12 : j_4 = T_np tA := Nat.le_antisymm (by omega) (lp_ge rfl rfl (by omega) (by omega) c_11)
        refine lv_iload_n hx hb dX4_bestReader_92 rfl (lv_at hl 2 rfl) ?_
        exact endR hx hb hr hlocks rfl (by rw [hxB_8, hlt_12]; rfl) dX4_bestReader_93
      · have hlt_13 : j_4 < T_np tA := lp_lt rfl rfl (by omega) (by omega) c_11
        refine lv_aload_n hx hb dX4_bestReader_16 rfl (lv_at hl 3 rfl) ?_
        refine va_get (D := G) (ci := 3) (v := .int (wb (T_gn tA))) (C := RX4) (T := TX4) (N := 13) hx hb hts iX_X4 hown hK hP 0 rfl rfl 3 (by decide) (hts _ m_t43) (fun _ h9 => h9) rfl dX4_bestReader_17 ?_
        refine lv_iload hx hb dX4_bestReader_20 (lv_at hl 0 rfl) ?_
        refine kRi (rSN (As := [.int (wb (T_gn tA)), .int (nI j_4)]) (rest := []) ⟨hx, hb, hml, hown, hts⟩ hN (c_X5_has l G cy (wb (T_gn tA)) j_4) L_X4_62 (preRS hN hP [] rfl) rfl ⟨Nat.le_of_ble_eq_true rfl, Nat.le_of_ble_eq_true rfl⟩ hl.1 (Nat.le_of_ble_eq_true rfl) dX4_bestReader_22 ⟨Nat.le_of_ble_eq_true rfl, Nat.le_of_ble_eq_true rfl⟩) (fun r_14 h_15 => ?_)
        rcases h_15 with ⟨rfl, h_16⟩ | ⟨rfl, h_16⟩
        · rw [bit_wb _ (by omega)] at h_16
          refine lv_if_eq (tgt := 32) hx hb dX4_bestReader_25 (by decide) (fun h9 => absurd h9 (by decide)) (fun _ => ?_)
          refine lv_iconst (v := (-1)) hx hb dX4_bestReader_28 (by decide) ?_
          refine lv_goto (tgt := 39) hx hb dX4_bestReader_29 (by decide) ?_
          refine lv_istore (lv' := [(5, .int (-1)), (4, .int (nI j_4)), (3, .int xM_6), (2, .int xB_5), (0, .ref qt), (1, .int (nI kB))]) hx hb dX4_bestReader_39 hl (by decide) rfl (fun ls => ?_)
          clear hl
          intro hl
          refine lv_iload hx hb dX4_bestReader_41 (lv_at hl 0 rfl) ?_
          refine lv_iconst (v := (-1)) hx hb dX4_bestReader_43 (by decide) ?_
          refine lv_icmp_eq (tgt := 86) hx hb dX4_bestReader_44 (by decide) (fun _ => ?_) (fun h9 => absurd (by decide) h9)
          refine lv_iinc (v := nI (j_4 + 1)) (lv' := [(4, .int (nI (j_4 + 1))), (5, .int (-1)), (3, .int xM_6), (2, .int xB_5), (0, .ref qt), (1, .int (nI kB))]) hx hb dX4_bestReader_86 hl (k := 1) rfl (nI_1 _) (by decide) rfl (fun ls => ?_)
          clear hl
          intro hl
          refine lv_goto (tgt := 7) hx hb dX4_bestReader_89 (by decide) ?_
          exact ih_3 (j_4 + 1) xB_5 xM_6 (by omega) (by omega) (by rw [br_skip (fun q => by rw [h_16] at q; exact absurd q.1 (by decide))]; exact hxB_8) (by rw [br_skip (fun q => by rw [h_16] at q; exact absurd q.1 (by decide))]; exact hxM_9) _ (lv_sub hl [0, 2, 3, 4, 5] rfl)
        · rw [bit_wb _ (by omega)] at h_16
          refine lv_if_eq (tgt := 32) hx hb dX4_bestReader_25 (by decide) (fun _ => ?_) (fun h9 => absurd (by decide) h9)
          refine lv_aload_n hx hb dX4_bestReader_32 rfl (lv_at hl 3 rfl) ?_
          refine lv_iload hx hb dX4_bestReader_33 (lv_at hl 0 rfl) ?_
          refine lv_iload_n hx hb dX4_bestReader_35 rfl (lv_at hl 4 rfl) ?_
          refine kRi (rV (As := [.int (nI j_4), .int (nI kB)]) (rest := []) (b := qt) ⟨hx, hb, hml, hown, hts⟩ (c_X4_wouldKnow l G cy qt tA qtw qtn qtg qta qtr qtm qtt qts j_4 kB (by omega) hJ) L_X4_91 (preRV (q := (RX4, TX4, 13)) hN hP [0, 2, 3, 5, 8] rfl 0 3 rfl rfl) rfl ⟨Nat.le_of_ble_eq_true rfl, Nat.le_of_ble_eq_true rfl⟩ hl.1 (Nat.le_of_ble_eq_true rfl) dX4_bestReader_36 ⟨Nat.le_of_ble_eq_true rfl, Nat.le_of_ble_eq_true rfl⟩) (fun r_20 h_21 => ?_)
          subst h_21
          refine lv_istore (lv' := [(5, .int (zwk tA j_4 kB)), (4, .int (nI j_4)), (3, .int xM_6), (2, .int xB_5), (0, .ref qt), (1, .int (nI kB))]) hx hb dX4_bestReader_39 hl (by decide) rfl (fun ls => ?_)
          clear hl
          intro hl
          refine lv_iload hx hb dX4_bestReader_41 (lv_at hl 0 rfl) ?_
          refine lv_iconst (v := (-1)) hx hb dX4_bestReader_43 (by decide) ?_
          refine lv_icmp_eq (tgt := 86) hx hb dX4_bestReader_44 (by decide) (fun c_22 => ?_) (fun c_22 => ?_)
          · refine lv_iinc (v := nI (j_4 + 1)) (lv' := [(4, .int (nI (j_4 + 1))), (5, .int (zwk tA j_4 kB)), (3, .int xM_6), (2, .int xB_5), (0, .ref qt), (1, .int (nI kB))]) hx hb dX4_bestReader_86 hl (k := 1) rfl (nI_1 _) (by decide) rfl (fun ls => ?_)
            clear hl
            intro hl
            refine lv_goto (tgt := 7) hx hb dX4_bestReader_89 (by decide) ?_
            exact ih_3 (j_4 + 1) xB_5 xM_6 (by omega) (by omega) (by rw [br_skip (fun q => q.2.1 c_22)]; exact hxB_8) (by rw [br_skip (fun q => q.2.1 c_22)]; exact hxM_9) _ (lv_sub hl [0, 2, 3, 4, 5] rfl)
          · refine lv_iload_n hx hb dX4_bestReader_47 rfl (lv_at hl 3 rfl) ?_
            refine lv_iconst (v := (-1)) hx hb dX4_bestReader_48 (by decide) ?_
            refine lv_icmp_eq (tgt := 80) hx hb dX4_bestReader_49 (by decide) (fun c_23 => ?_) (fun c_23 => ?_)
            · refine lv_iload hx hb dX4_bestReader_80 (lv_at hl 1 rfl) ?_
              refine lv_istore_n (lv' := [(2, .int (nI j_4)), (5, .int (zwk tA j_4 kB)), (4, .int (nI j_4)), (3, .int xM_6), (0, .ref qt), (1, .int (nI kB))]) hx hb dX4_bestReader_82 rfl hl (by decide) rfl (fun ls => ?_)
              clear hl
              intro hl
              refine lv_iload hx hb dX4_bestReader_83 (lv_at hl 1 rfl) ?_
              refine lv_istore_n (lv' := [(3, .int (zwk tA j_4 kB)), (2, .int (nI j_4)), (5, .int (zwk tA j_4 kB)), (4, .int (nI j_4)), (0, .ref qt), (1, .int (nI kB))]) hx hb dX4_bestReader_85 rfl hl (by decide) rfl (fun ls => ?_)
              clear hl
              intro hl
              refine lv_iinc (v := nI (j_4 + 1)) (lv' := [(4, .int (nI (j_4 + 1))), (3, .int (zwk tA j_4 kB)), (2, .int (nI j_4)), (5, .int (zwk tA j_4 kB)), (0, .ref qt), (1, .int (nI kB))]) hx hb dX4_bestReader_86 hl (k := 3) rfl (nI_1 _) (by decide) rfl (fun ls => ?_)
              clear hl
              intro hl
              refine lv_goto (tgt := 7) hx hb dX4_bestReader_89 (by decide) ?_
              exact ih_3 (j_4 + 1) (nI j_4) (zwk tA j_4 kB) (by omega) (by omega) (by rw [br_upd ⟨h_16, c_22, Or.inl (hxB_8 ▸ c_23)⟩]) (by rw [br_upd ⟨h_16, c_22, Or.inl (hxB_8 ▸ c_23)⟩]) _ (lv_sub hl [0, 1, 2, 4, 5] rfl)
            · refine lv_iload hx hb dX4_bestReader_52 (lv_at hl 0 rfl) ?_
              refine lv_iload_n hx hb dX4_bestReader_54 rfl (lv_at hl 2 rfl) ?_
              refine lv_icmp_gt (tgt := 80) hx hb dX4_bestReader_55 (by decide) (fun c_24 => ?_) (fun c_24 => ?_)
              · refine lv_iload hx hb dX4_bestReader_80 (lv_at hl 1 rfl) ?_
                refine lv_istore_n (lv' := [(2, .int (nI j_4)), (5, .int (zwk tA j_4 kB)), (4, .int (nI j_4)), (3, .int xM_6), (0, .ref qt), (1, .int (nI kB))]) hx hb dX4_bestReader_82 rfl hl (by decide) rfl (fun ls => ?_)
                clear hl
                intro hl
                refine lv_iload hx hb dX4_bestReader_83 (lv_at hl 1 rfl) ?_
                refine lv_istore_n (lv' := [(3, .int (zwk tA j_4 kB)), (2, .int (nI j_4)), (5, .int (zwk tA j_4 kB)), (4, .int (nI j_4)), (0, .ref qt), (1, .int (nI kB))]) hx hb dX4_bestReader_85 rfl hl (by decide) rfl (fun ls => ?_)
                clear hl
                intro hl
                refine lv_iinc (v := nI (j_4 + 1)) (lv' := [(4, .int (nI (j_4 + 1))), (3, .int (zwk tA j_4 kB)), (2, .int (nI j_4)), (5, .int (zwk tA j_4 kB)), (0, .ref qt), (1, .int (nI kB))]) hx hb dX4_bestReader_86 hl (k := 3) rfl (nI_1 _) (by decide) rfl (fun ls => ?_)
                clear hl
                intro hl
                refine lv_goto (tgt := 7) hx hb dX4_bestReader_89 (by decide) ?_
                exact ih_3 (j_4 + 1) (nI j_4) (zwk tA j_4 kB) (by omega) (by omega) (by rw [br_upd ⟨h_16, c_22, Or.inr (Or.inl (hxM_9 ▸ c_24))⟩]) (by rw [br_upd ⟨h_16, c_22, Or.inr (Or.inl (hxM_9 ▸ c_24))⟩]) _ (lv_sub hl [0, 1, 2, 4, 5] rfl)
              · refine lv_iload hx hb dX4_bestReader_58 (lv_at hl 0 rfl) ?_
                refine lv_iload_n hx hb dX4_bestReader_60 rfl (lv_at hl 2 rfl) ?_
                refine lv_icmp_ne (tgt := 86) hx hb dX4_bestReader_61 (by decide) (fun c_25 => ?_) (fun c_25 => ?_)
                · refine lv_iinc (v := nI (j_4 + 1)) (lv' := [(4, .int (nI (j_4 + 1))), (5, .int (zwk tA j_4 kB)), (3, .int xM_6), (2, .int xB_5), (0, .ref qt), (1, .int (nI kB))]) hx hb dX4_bestReader_86 hl (k := 1) rfl (nI_1 _) (by decide) rfl (fun ls => ?_)
                  clear hl
                  intro hl
                  refine lv_goto (tgt := 7) hx hb dX4_bestReader_89 (by decide) ?_
                  exact ih_3 (j_4 + 1) xB_5 xM_6 (by omega) (by omega) (by rw [br_skip (fun q => q.2.2.elim (fun r => c_23 (hxB_8.trans r)) (fun r => r.elim (fun r => c_24 (hxM_9 ▸ r)) (fun r => c_25 (r.1.trans hxM_9.symm))))]; exact hxB_8) (by rw [br_skip (fun q => q.2.2.elim (fun r => c_23 (hxB_8.trans r)) (fun r => r.elim (fun r => c_24 (hxM_9 ▸ r)) (fun r => c_25 (r.1.trans hxM_9.symm))))]; exact hxM_9) _ (lv_sub hl [0, 2, 3, 4, 5] rfl)
                · refine lv_aload_n hx hb dX4_bestReader_64 rfl (lv_at hl 4 rfl) ?_
                  refine va_get (D := G) (ci := 3) (v := .ref qta) (C := RX4) (T := TX4) (N := 13) hx hb hts iX_X4 hown hK hP 0 rfl rfl 8 (by decide) (hts _ m_t56) (fun _ h9 => h9) rfl dX4_bestReader_65 ?_
                  refine lv_iload hx hb dX4_bestReader_68 (lv_at hl 1 rfl) ?_
                  refine va_iald hx hb hK hP 4 0 rfl rfl (in8 (by omega)) dX4_bestReader_70 ?_
                  refine lv_seti (v := (T_ag tA) j_4) (congrArg (T_ag tA) (cl8 (by omega))) ?_
                  refine lv_aload_n hx hb dX4_bestReader_71 rfl (lv_at hl 4 rfl) ?_
                  refine va_get (D := G) (ci := 3) (v := .ref qta) (C := RX4) (T := TX4) (N := 13) hx hb hts iX_X4 hown hK hP 0 rfl rfl 8 (by decide) (hts _ m_t56) (fun _ h9 => h9) rfl dX4_bestReader_72 ?_
                  refine lv_iload_n hx hb dX4_bestReader_75 rfl (lv_at hl 3 rfl) ?_
                  obtain ⟨k_26, hk_27, ek_28⟩ : ∃ k : Nat, k < j_4 ∧ xB_5 = nI k := by
                    rcases br_in tA kB j_4 with q | ⟨k, h1, h2⟩
                    · exact absurd (hxB_8.trans q) c_23
                    · exact ⟨k, h1, hxB_8.trans h2⟩
                  refine lv_seti (v := nI k_26) ek_28 ?_
                  refine va_iald hx hb hK hP 4 0 rfl rfl (in8 (by omega)) dX4_bestReader_76 ?_
                  refine lv_seti (v := (T_ag tA) k_26) (congrArg (T_ag tA) (cl8 (by omega))) ?_
                  refine lv_icmp_ge (tgt := 86) hx hb dX4_bestReader_77 (by decide) (fun c_29 => ?_) (fun c_29 => ?_)
                  · refine lv_iinc (v := nI (j_4 + 1)) (lv' := [(4, .int (nI (j_4 + 1))), (5, .int (zwk tA j_4 kB)), (3, .int xM_6), (2, .int xB_5), (0, .ref qt), (1, .int (nI kB))]) hx hb dX4_bestReader_86 hl (k := 1) rfl (nI_1 _) (by decide) rfl (fun ls => ?_)
                    clear hl
                    intro hl
                    refine lv_goto (tgt := 7) hx hb dX4_bestReader_89 (by decide) ?_
                    exact ih_3 (j_4 + 1) xB_5 xM_6 (by omega) (by omega) (by rw [br_skip (fun q => q.2.2.elim (fun r => c_23 (hxB_8.trans r)) (fun r => r.elim (fun r => c_24 (hxM_9 ▸ r)) (fun r => by rw [← hxB_8, ek_28, nI_clamp (by omega)] at r; exact Int32.not_lt.mpr c_29 r.2)))]; exact hxB_8) (by rw [br_skip (fun q => q.2.2.elim (fun r => c_23 (hxB_8.trans r)) (fun r => r.elim (fun r => c_24 (hxM_9 ▸ r)) (fun r => by rw [← hxB_8, ek_28, nI_clamp (by omega)] at r; exact Int32.not_lt.mpr c_29 r.2)))]; exact hxM_9) _ (lv_sub hl [0, 2, 3, 4, 5] rfl)
                  · refine lv_iload hx hb dX4_bestReader_80 (lv_at hl 1 rfl) ?_
                    refine lv_istore_n (lv' := [(2, .int (nI j_4)), (5, .int (zwk tA j_4 kB)), (4, .int (nI j_4)), (3, .int xM_6), (0, .ref qt), (1, .int (nI kB))]) hx hb dX4_bestReader_82 rfl hl (by decide) rfl (fun ls => ?_)
                    clear hl
                    intro hl
                    refine lv_iload hx hb dX4_bestReader_83 (lv_at hl 1 rfl) ?_
                    refine lv_istore_n (lv' := [(3, .int (zwk tA j_4 kB)), (2, .int (nI j_4)), (5, .int (zwk tA j_4 kB)), (4, .int (nI j_4)), (0, .ref qt), (1, .int (nI kB))]) hx hb dX4_bestReader_85 rfl hl (by decide) rfl (fun ls => ?_)
                    clear hl
                    intro hl
                    refine lv_iinc (v := nI (j_4 + 1)) (lv' := [(4, .int (nI (j_4 + 1))), (3, .int (zwk tA j_4 kB)), (2, .int (nI j_4)), (5, .int (zwk tA j_4 kB)), (0, .ref qt), (1, .int (nI kB))]) hx hb dX4_bestReader_86 hl (k := 3) rfl (nI_1 _) (by decide) rfl (fun ls => ?_)
                    clear hl
                    intro hl
                    refine lv_goto (tgt := 7) hx hb dX4_bestReader_89 (by decide) ?_
                    exact ih_3 (j_4 + 1) (nI j_4) (zwk tA j_4 kB) (by omega) (by omega) (by rw [br_upd ⟨h_16, c_22, Or.inr (Or.inr ⟨c_25.trans hxM_9, by rw [← hxB_8, ek_28, nI_clamp (by omega)]; exact Int32.not_le.mp c_29⟩)⟩]) (by rw [br_upd ⟨h_16, c_22, Or.inr (Or.inr ⟨c_25.trans hxM_9, by rw [← hxB_8, ek_28, nI_clamp (by omega)]; exact Int32.not_le.mp c_29⟩)⟩]) _ (lv_sub hl [0, 1, 2, 4, 5] rfl)
  exact lp_1 ((8 - 0) + 1) 0 (-1) 0 (Nat.lt_succ_self _) (Nat.zero_le _) rfl rfl ls (lv_sub hl [0, 1, 2, 3, 4] rfl)
set_option maxHeartbeats 4000000 in
set_option maxRecDepth 100000 in
theorem c_X4_dearestUnread (l : Launch) (G : va_G) (cy : Nat → ClassId) (qt : Nat) (tA : TA) (qtw : Nat) (qtn : Nat) (qtg : Nat) (qta : Nat) (qtr : Nat) (qtm : Nat) (qtt : Nat) (qts : Nat)  (hB : T_nb tA ≤ 8) : MR l yX4_dearestUnread cX4_dearestUnread 3 (some .int) 2 G cy [zzO qt 3 [.int (nI (T_nb tA)), .int (nI (T_np tA)), .int (wb (T_wh tA)), .int (wb (T_gn tA)), .int (T_sd tA), .ref qtw, .ref qtn, .ref qtg, .ref qta, .ref qtr, .ref qtm, .ref qtt, .ref qts], zzI cy qtw 8 (T_wo tA), zzI cy qtn 8 (T_ne tA), zzI cy qtg 8 (T_go tA), zzI cy qta 8 (T_ag tA), zzI cy qtr 8 (T_re tA), zzI cy qtm 8 (T_me tA), zzI cy qtt 8 (T_te tA), zzI cy qts 64 (shF (T_kn tA))] [.ref qt] (vp_Si (fun r => (r = (zdu tA)))) := by
  refine enR RX4 (by decide) rfl (Nat.le_of_ble_eq_true rfl) (fun p e s m below meth c ls hx hb hml hown hts hr hlocks hP hN hl => ?_)
  have hK := hN.1
  replace hl : lv_has ls 3 [(0, .ref qt)] := hl
  refine lv_iconst (v := (-1)) hx hb dX4_dearestUnread_0 (by decide) ?_
  refine lv_istore_n (lv' := [(1, .int (-1)), (0, .ref qt)]) hx hb dX4_dearestUnread_1 rfl hl (by decide) rfl (fun ls => ?_)
  clear hl
  intro hl
  refine lv_iconst (v := 0) hx hb dX4_dearestUnread_2 (by decide) ?_
  refine lv_istore_n (lv' := [(2, .int 0), (1, .int (-1)), (0, .ref qt)]) hx hb dX4_dearestUnread_3 rfl hl (by decide) rfl (fun ls => ?_)
  clear hl
  intro hl
  have lp_1 : ∀ (n_2 : Nat) (j_4 : Nat) (xB_5 : Int32), 8 - j_4 < n_2 → j_4 ≤ T_nb tA → xB_5 = duF tA j_4 → ∀ (ls : Array Slot), lv_has ls 3 [(2, .int (nI j_4)), (1, .int xB_5), (0, .ref qt)] → W p l e (Rm 2 0 0) s m (List.toArray (α := Value) [.ref qt]) below meth c s.heap [] 0 0 (MQ below (vp_Si (fun r => (r = (zdu tA)))) (List.toArray (α := Value) [.ref qt]) s 0 0 (fun _ => False)) (F0 m 4 ls []) := by
    intro n_2
    induction n_2 with
    | zero => intro j_4 xB_5 hm9; exact absurd hm9 (Nat.not_lt_zero _)
    | succ n_2 ih_3 =>
      intro j_4 xB_5 hm_8 hj_6 hxB_7 ls hl
      refine lv_iload_n hx hb dX4_dearestUnread_4 rfl (lv_at hl 0 rfl) ?_
      refine lv_aload_n hx hb dX4_dearestUnread_5 rfl (lv_at hl 2 rfl) ?_
      refine va_get (D := G) (ci := 3) (v := .int (nI (T_nb tA))) (C := RX4) (T := TX4) (N := 13) hx hb hts iX_X4 hown hK hP 0 rfl rfl 0 (by decide) (hts _ m_t29) (fun _ h9 => h9) rfl dX4_dearestUnread_6 ?_
      refine lv_icmp_ge (tgt := 51) hx hb dX4_dearestUnread_9 (by decide) (fun c_9 => ?_) (fun c_9 => ?_)
      · have hlt_10 : j_4 = T_nb tA := Nat.le_antisymm (by omega) (lp_ge rfl rfl (by omega) (by omega) c_9)
        refine lv_iload_n hx hb dX4_dearestUnread_51 rfl (lv_at hl 1 rfl) ?_
        exact endR hx hb hr hlocks rfl (by rw [hxB_7, hlt_10]; rfl) dX4_dearestUnread_52
      · have hlt_11 : j_4 < T_nb tA := lp_lt rfl rfl (by omega) (by omega) c_9
        refine lv_aload_n hx hb dX4_dearestUnread_12 rfl (lv_at hl 2 rfl) ?_
        refine va_get (D := G) (ci := 3) (v := .int (wb (T_wh tA))) (C := RX4) (T := TX4) (N := 13) hx hb hts iX_X4 hown hK hP 0 rfl rfl 2 (by decide) (hts _ m_t39) (fun _ h9 => h9) rfl dX4_dearestUnread_13 ?_
        refine lv_iload_n hx hb dX4_dearestUnread_16 rfl (lv_at hl 0 rfl) ?_
        refine kRi (rSN (As := [.int (wb (T_wh tA)), .int (nI j_4)]) (rest := []) ⟨hx, hb, hml, hown, hts⟩ hN (c_X5_has l G cy (wb (T_wh tA)) j_4) L_X4_62 (preRS hN hP [] rfl) rfl ⟨Nat.le_of_ble_eq_true rfl, Nat.le_of_ble_eq_true rfl⟩ hl.1 (Nat.le_of_ble_eq_true rfl) dX4_dearestUnread_17 ⟨Nat.le_of_ble_eq_true rfl, Nat.le_of_ble_eq_true rfl⟩) (fun r_12 h_13 => ?_)
        rcases h_13 with ⟨rfl, h_14⟩ | ⟨rfl, h_14⟩
        · rw [bit_wb _ (by omega)] at h_14
          refine lv_if_ne (tgt := 45) hx hb dX4_dearestUnread_20 (by decide) (fun _ => ?_) (fun h9 => absurd h9 (by decide))
          refine lv_iinc (v := nI (j_4 + 1)) (lv' := [(2, .int (nI (j_4 + 1))), (1, .int xB_5), (0, .ref qt)]) hx hb dX4_dearestUnread_45 hl (k := 0) rfl (nI_1 _) (by decide) rfl (fun ls => ?_)
          clear hl
          intro hl
          refine lv_goto (tgt := 4) hx hb dX4_dearestUnread_48 (by decide) ?_
          exact ih_3 (j_4 + 1) xB_5 (by omega) (by omega) (by rw [du_skip (fun q => by rw [h_14] at q; exact absurd q.1 (by decide))]; exact hxB_7) _ (lv_sub hl [0, 1, 2] rfl)
        · rw [bit_wb _ (by omega)] at h_14
          refine lv_if_ne (tgt := 45) hx hb dX4_dearestUnread_20 (by decide) (fun h9 => absurd (by decide) h9) (fun _ => ?_)
          refine lv_iload_n hx hb dX4_dearestUnread_23 rfl (lv_at hl 1 rfl) ?_
          refine lv_iconst (v := (-1)) hx hb dX4_dearestUnread_24 (by decide) ?_
          refine lv_icmp_eq (tgt := 43) hx hb dX4_dearestUnread_25 (by decide) (fun c_17 => ?_) (fun c_17 => ?_)
          · refine lv_iload_n hx hb dX4_dearestUnread_43 rfl (lv_at hl 0 rfl) ?_
            refine lv_istore_n (lv' := [(1, .int (nI j_4)), (2, .int (nI j_4)), (0, .ref qt)]) hx hb dX4_dearestUnread_44 rfl hl (by decide) rfl (fun ls => ?_)
            clear hl
            intro hl
            refine lv_iinc (v := nI (j_4 + 1)) (lv' := [(2, .int (nI (j_4 + 1))), (1, .int (nI j_4)), (0, .ref qt)]) hx hb dX4_dearestUnread_45 hl (k := 1) rfl (nI_1 _) (by decide) rfl (fun ls => ?_)
            clear hl
            intro hl
            refine lv_goto (tgt := 4) hx hb dX4_dearestUnread_48 (by decide) ?_
            exact ih_3 (j_4 + 1) (nI j_4) (by omega) (by omega) (by rw [du_upd ⟨h_14, Or.inl (hxB_7 ▸ c_17)⟩]) _ (lv_sub hl [0, 1, 2] rfl)
          · refine lv_aload_n hx hb dX4_dearestUnread_28 rfl (lv_at hl 2 rfl) ?_
            refine va_get (D := G) (ci := 3) (v := .ref qtw) (C := RX4) (T := TX4) (N := 13) hx hb hts iX_X4 hown hK hP 0 rfl rfl 5 (by decide) (hts _ m_t48) (fun _ h9 => h9) rfl dX4_dearestUnread_29 ?_
            refine lv_iload_n hx hb dX4_dearestUnread_32 rfl (lv_at hl 0 rfl) ?_
            refine va_iald hx hb hK hP 1 0 rfl rfl (in8 (by omega)) dX4_dearestUnread_33 ?_
            refine lv_seti (v := (T_wo tA) j_4) (congrArg (T_wo tA) (cl8 (by omega))) ?_
            refine lv_aload_n hx hb dX4_dearestUnread_34 rfl (lv_at hl 2 rfl) ?_
            refine va_get (D := G) (ci := 3) (v := .ref qtw) (C := RX4) (T := TX4) (N := 13) hx hb hts iX_X4 hown hK hP 0 rfl rfl 5 (by decide) (hts _ m_t48) (fun _ h9 => h9) rfl dX4_dearestUnread_35 ?_
            refine lv_iload_n hx hb dX4_dearestUnread_38 rfl (lv_at hl 1 rfl) ?_
            obtain ⟨k_18, hk_19, ek_20⟩ : ∃ k : Nat, k < j_4 ∧ xB_5 = nI k := by
              rcases du_in tA j_4 with q | ⟨k, h1, h2⟩
              · exact absurd (hxB_7.trans q) c_17
              · exact ⟨k, h1, hxB_7.trans h2⟩
            refine lv_seti (v := nI k_18) ek_20 ?_
            refine va_iald hx hb hK hP 1 0 rfl rfl (in8 (by omega)) dX4_dearestUnread_39 ?_
            refine lv_seti (v := (T_wo tA) k_18) (congrArg (T_wo tA) (cl8 (by omega))) ?_
            refine lv_icmp_le (tgt := 45) hx hb dX4_dearestUnread_40 (by decide) (fun c_21 => ?_) (fun c_21 => ?_)
            · refine lv_iinc (v := nI (j_4 + 1)) (lv' := [(2, .int (nI (j_4 + 1))), (1, .int xB_5), (0, .ref qt)]) hx hb dX4_dearestUnread_45 hl (k := 0) rfl (nI_1 _) (by decide) rfl (fun ls => ?_)
              clear hl
              intro hl
              refine lv_goto (tgt := 4) hx hb dX4_dearestUnread_48 (by decide) ?_
              exact ih_3 (j_4 + 1) xB_5 (by omega) (by omega) (by rw [du_skip (fun q => q.2.elim (fun r => c_17 (hxB_7.trans r)) (fun r => by rw [← hxB_7, ek_20, nI_clamp (by omega)] at r; exact Int32.not_lt.mpr c_21 r))]; exact hxB_7) _ (lv_sub hl [0, 1, 2] rfl)
            · refine lv_iload_n hx hb dX4_dearestUnread_43 rfl (lv_at hl 0 rfl) ?_
              refine lv_istore_n (lv' := [(1, .int (nI j_4)), (2, .int (nI j_4)), (0, .ref qt)]) hx hb dX4_dearestUnread_44 rfl hl (by decide) rfl (fun ls => ?_)
              clear hl
              intro hl
              refine lv_iinc (v := nI (j_4 + 1)) (lv' := [(2, .int (nI (j_4 + 1))), (1, .int (nI j_4)), (0, .ref qt)]) hx hb dX4_dearestUnread_45 hl (k := 1) rfl (nI_1 _) (by decide) rfl (fun ls => ?_)
              clear hl
              intro hl
              refine lv_goto (tgt := 4) hx hb dX4_dearestUnread_48 (by decide) ?_
              exact ih_3 (j_4 + 1) (nI j_4) (by omega) (by omega) (by rw [du_upd ⟨h_14, Or.inr (by rw [← hxB_7, ek_20, nI_clamp (by omega)]; exact Int32.not_le.mp c_21)⟩]) _ (lv_sub hl [0, 1, 2] rfl)
  exact lp_1 ((8 - 0) + 1) 0 (-1) (Nat.lt_succ_self _) (Nat.zero_le _) rfl ls (lv_sub hl [0, 1, 2] rfl)
set_option maxHeartbeats 4000000 in
set_option maxRecDepth 100000 in
theorem c_X4_youngestBut (l : Launch) (G : va_G) (cy : Nat → ClassId) (qt : Nat) (tA : TA) (qtw : Nat) (qtn : Nat) (qtg : Nat) (qta : Nat) (qtr : Nat) (qtm : Nat) (qtt : Nat) (qts : Nat) (iO : Int32)  (hPp : T_np tA ≤ 8) : MR l yX4_youngestBut cX4_youngestBut 4 (some .int) 2 G cy [zzO qt 3 [.int (nI (T_nb tA)), .int (nI (T_np tA)), .int (wb (T_wh tA)), .int (wb (T_gn tA)), .int (T_sd tA), .ref qtw, .ref qtn, .ref qtg, .ref qta, .ref qtr, .ref qtm, .ref qtt, .ref qts], zzI cy qtw 8 (T_wo tA), zzI cy qtn 8 (T_ne tA), zzI cy qtg 8 (T_go tA), zzI cy qta 8 (T_ag tA), zzI cy qtr 8 (T_re tA), zzI cy qtm 8 (T_me tA), zzI cy qtt 8 (T_te tA), zzI cy qts 64 (shF (T_kn tA))] [.ref qt, .int iO] (vp_Si (fun r => (r = (zyb tA iO)))) := by
  refine enR RX4 (by decide) rfl (Nat.le_of_ble_eq_true rfl) (fun p e s m below meth c ls hx hb hml hown hts hr hlocks hP hN hl => ?_)
  have hK := hN.1
  replace hl : lv_has ls 4 [(0, .ref qt), (1, .int iO)] := hl
  refine lv_iconst (v := (-1)) hx hb dX4_youngestBut_0 (by decide) ?_
  refine lv_istore_n (lv' := [(2, .int (-1)), (0, .ref qt), (1, .int iO)]) hx hb dX4_youngestBut_1 rfl hl (by decide) rfl (fun ls => ?_)
  clear hl
  intro hl
  refine lv_iconst (v := 0) hx hb dX4_youngestBut_2 (by decide) ?_
  refine lv_istore_n (lv' := [(3, .int 0), (2, .int (-1)), (0, .ref qt), (1, .int iO)]) hx hb dX4_youngestBut_3 rfl hl (by decide) rfl (fun ls => ?_)
  clear hl
  intro hl
  have lp_1 : ∀ (n_2 : Nat) (j_4 : Nat) (xB_5 : Int32), 8 - j_4 < n_2 → j_4 ≤ T_np tA → xB_5 = ybF tA iO j_4 → ∀ (ls : Array Slot), lv_has ls 4 [(3, .int (nI j_4)), (2, .int xB_5), (0, .ref qt), (1, .int iO)] → W p l e (Rm 2 0 0) s m (List.toArray (α := Value) [.ref qt, .int iO]) below meth c s.heap [] 0 0 (MQ below (vp_Si (fun r => (r = (zyb tA iO)))) (List.toArray (α := Value) [.ref qt, .int iO]) s 0 0 (fun _ => False)) (F0 m 4 ls []) := by
    intro n_2
    induction n_2 with
    | zero => intro j_4 xB_5 hm9; exact absurd hm9 (Nat.not_lt_zero _)
    | succ n_2 ih_3 =>
      intro j_4 xB_5 hm_8 hj_6 hxB_7 ls hl
      refine lv_iload_n hx hb dX4_youngestBut_4 rfl (lv_at hl 0 rfl) ?_
      refine lv_aload_n hx hb dX4_youngestBut_5 rfl (lv_at hl 2 rfl) ?_
      refine va_get (D := G) (ci := 3) (v := .int (nI (T_np tA))) (C := RX4) (T := TX4) (N := 13) hx hb hts iX_X4 hown hK hP 0 rfl rfl 1 (by decide) (hts _ m_t34) (fun _ h9 => h9) rfl dX4_youngestBut_6 ?_
      refine lv_icmp_ge (tgt := 56) hx hb dX4_youngestBut_9 (by decide) (fun c_9 => ?_) (fun c_9 => ?_)
      · have hlt_10 : j_4 = T_np tA := Nat.le_antisymm (by omega) (lp_ge rfl rfl (by omega) (by omega) c_9)
        refine lv_iload_n hx hb dX4_youngestBut_56 rfl (lv_at hl 1 rfl) ?_
        exact endR hx hb hr hlocks rfl (by rw [hxB_7, hlt_10]; rfl) dX4_youngestBut_57
      · have hlt_11 : j_4 < T_np tA := lp_lt rfl rfl (by omega) (by omega) c_9
        refine lv_iload_n hx hb dX4_youngestBut_12 rfl (lv_at hl 0 rfl) ?_
        refine lv_iload_n hx hb dX4_youngestBut_13 rfl (lv_at hl 3 rfl) ?_
        refine lv_icmp_eq (tgt := 50) hx hb dX4_youngestBut_14 (by decide) (fun c_12 => ?_) (fun c_12 => ?_)
        · refine lv_iinc (v := nI (j_4 + 1)) (lv' := [(3, .int (nI (j_4 + 1))), (2, .int xB_5), (0, .ref qt), (1, .int iO)]) hx hb dX4_youngestBut_50 hl (k := 0) rfl (nI_1 _) (by decide) rfl (fun ls => ?_)
          clear hl
          intro hl
          refine lv_goto (tgt := 4) hx hb dX4_youngestBut_53 (by decide) ?_
          exact ih_3 (j_4 + 1) xB_5 (by omega) (by omega) (by rw [yb_skip (fun q => q.1 c_12)]; exact hxB_7) _ (lv_sub hl [0, 1, 2, 3] rfl)
        · refine lv_aload_n hx hb dX4_youngestBut_17 rfl (lv_at hl 2 rfl) ?_
          refine va_get (D := G) (ci := 3) (v := .int (wb (T_gn tA))) (C := RX4) (T := TX4) (N := 13) hx hb hts iX_X4 hown hK hP 0 rfl rfl 3 (by decide) (hts _ m_t43) (fun _ h9 => h9) rfl dX4_youngestBut_18 ?_
          refine lv_iload_n hx hb dX4_youngestBut_21 rfl (lv_at hl 0 rfl) ?_
          refine kRi (rSN (As := [.int (wb (T_gn tA)), .int (nI j_4)]) (rest := []) ⟨hx, hb, hml, hown, hts⟩ hN (c_X5_has l G cy (wb (T_gn tA)) j_4) L_X4_62 (preRS hN hP [] rfl) rfl ⟨Nat.le_of_ble_eq_true rfl, Nat.le_of_ble_eq_true rfl⟩ hl.1 (Nat.le_of_ble_eq_true rfl) dX4_youngestBut_22 ⟨Nat.le_of_ble_eq_true rfl, Nat.le_of_ble_eq_true rfl⟩) (fun r_13 h_14 => ?_)
          rcases h_14 with ⟨rfl, h_15⟩ | ⟨rfl, h_15⟩
          · rw [bit_wb _ (by omega)] at h_15
            refine lv_if_ne (tgt := 50) hx hb dX4_youngestBut_25 (by decide) (fun _ => ?_) (fun h9 => absurd h9 (by decide))
            refine lv_iinc (v := nI (j_4 + 1)) (lv' := [(3, .int (nI (j_4 + 1))), (2, .int xB_5), (0, .ref qt), (1, .int iO)]) hx hb dX4_youngestBut_50 hl (k := 0) rfl (nI_1 _) (by decide) rfl (fun ls => ?_)
            clear hl
            intro hl
            refine lv_goto (tgt := 4) hx hb dX4_youngestBut_53 (by decide) ?_
            exact ih_3 (j_4 + 1) xB_5 (by omega) (by omega) (by rw [yb_skip (fun q => by rw [h_15] at q; exact absurd q.2.1 (by decide))]; exact hxB_7) _ (lv_sub hl [0, 1, 2, 3] rfl)
          · rw [bit_wb _ (by omega)] at h_15
            refine lv_if_ne (tgt := 50) hx hb dX4_youngestBut_25 (by decide) (fun h9 => absurd (by decide) h9) (fun _ => ?_)
            refine lv_iload_n hx hb dX4_youngestBut_28 rfl (lv_at hl 1 rfl) ?_
            refine lv_iconst (v := (-1)) hx hb dX4_youngestBut_29 (by decide) ?_
            refine lv_icmp_eq (tgt := 48) hx hb dX4_youngestBut_30 (by decide) (fun c_18 => ?_) (fun c_18 => ?_)
            · refine lv_iload_n hx hb dX4_youngestBut_48 rfl (lv_at hl 0 rfl) ?_
              refine lv_istore_n (lv' := [(2, .int (nI j_4)), (3, .int (nI j_4)), (0, .ref qt), (1, .int iO)]) hx hb dX4_youngestBut_49 rfl hl (by decide) rfl (fun ls => ?_)
              clear hl
              intro hl
              refine lv_iinc (v := nI (j_4 + 1)) (lv' := [(3, .int (nI (j_4 + 1))), (2, .int (nI j_4)), (0, .ref qt), (1, .int iO)]) hx hb dX4_youngestBut_50 hl (k := 1) rfl (nI_1 _) (by decide) rfl (fun ls => ?_)
              clear hl
              intro hl
              refine lv_goto (tgt := 4) hx hb dX4_youngestBut_53 (by decide) ?_
              exact ih_3 (j_4 + 1) (nI j_4) (by omega) (by omega) (by rw [yb_upd ⟨c_12, h_15, Or.inl (hxB_7 ▸ c_18)⟩]) _ (lv_sub hl [0, 1, 2, 3] rfl)
            · refine lv_aload_n hx hb dX4_youngestBut_33 rfl (lv_at hl 2 rfl) ?_
              refine va_get (D := G) (ci := 3) (v := .ref qta) (C := RX4) (T := TX4) (N := 13) hx hb hts iX_X4 hown hK hP 0 rfl rfl 8 (by decide) (hts _ m_t56) (fun _ h9 => h9) rfl dX4_youngestBut_34 ?_
              refine lv_iload_n hx hb dX4_youngestBut_37 rfl (lv_at hl 0 rfl) ?_
              refine va_iald hx hb hK hP 4 0 rfl rfl (in8 (by omega)) dX4_youngestBut_38 ?_
              refine lv_seti (v := (T_ag tA) j_4) (congrArg (T_ag tA) (cl8 (by omega))) ?_
              refine lv_aload_n hx hb dX4_youngestBut_39 rfl (lv_at hl 2 rfl) ?_
              refine va_get (D := G) (ci := 3) (v := .ref qta) (C := RX4) (T := TX4) (N := 13) hx hb hts iX_X4 hown hK hP 0 rfl rfl 8 (by decide) (hts _ m_t56) (fun _ h9 => h9) rfl dX4_youngestBut_40 ?_
              refine lv_iload_n hx hb dX4_youngestBut_43 rfl (lv_at hl 1 rfl) ?_
              obtain ⟨k_19, hk_20, ek_21⟩ : ∃ k : Nat, k < j_4 ∧ xB_5 = nI k := by
                rcases yb_in tA iO j_4 with q | ⟨k, h1, h2⟩
                · exact absurd (hxB_7.trans q) c_18
                · exact ⟨k, h1, hxB_7.trans h2⟩
              refine lv_seti (v := nI k_19) ek_21 ?_
              refine va_iald hx hb hK hP 4 0 rfl rfl (in8 (by omega)) dX4_youngestBut_44 ?_
              refine lv_seti (v := (T_ag tA) k_19) (congrArg (T_ag tA) (cl8 (by omega))) ?_
              refine lv_icmp_ge (tgt := 50) hx hb dX4_youngestBut_45 (by decide) (fun c_22 => ?_) (fun c_22 => ?_)
              · refine lv_iinc (v := nI (j_4 + 1)) (lv' := [(3, .int (nI (j_4 + 1))), (2, .int xB_5), (0, .ref qt), (1, .int iO)]) hx hb dX4_youngestBut_50 hl (k := 0) rfl (nI_1 _) (by decide) rfl (fun ls => ?_)
                clear hl
                intro hl
                refine lv_goto (tgt := 4) hx hb dX4_youngestBut_53 (by decide) ?_
                exact ih_3 (j_4 + 1) xB_5 (by omega) (by omega) (by rw [yb_skip (fun q => q.2.2.elim (fun r => c_18 (hxB_7.trans r)) (fun r => by rw [← hxB_7, ek_21, nI_clamp (by omega)] at r; exact Int32.not_lt.mpr c_22 r))]; exact hxB_7) _ (lv_sub hl [0, 1, 2, 3] rfl)
              · refine lv_iload_n hx hb dX4_youngestBut_48 rfl (lv_at hl 0 rfl) ?_
                refine lv_istore_n (lv' := [(2, .int (nI j_4)), (3, .int (nI j_4)), (0, .ref qt), (1, .int iO)]) hx hb dX4_youngestBut_49 rfl hl (by decide) rfl (fun ls => ?_)
                clear hl
                intro hl
                refine lv_iinc (v := nI (j_4 + 1)) (lv' := [(3, .int (nI (j_4 + 1))), (2, .int (nI j_4)), (0, .ref qt), (1, .int iO)]) hx hb dX4_youngestBut_50 hl (k := 1) rfl (nI_1 _) (by decide) rfl (fun ls => ?_)
                clear hl
                intro hl
                refine lv_goto (tgt := 4) hx hb dX4_youngestBut_53 (by decide) ?_
                exact ih_3 (j_4 + 1) (nI j_4) (by omega) (by omega) (by rw [yb_upd ⟨c_12, h_15, Or.inr (by rw [← hxB_7, ek_21, nI_clamp (by omega)]; exact Int32.not_le.mp c_22)⟩]) _ (lv_sub hl [0, 1, 2, 3] rfl)
  exact lp_1 ((8 - 0) + 1) 0 (-1) (Nat.lt_succ_self _) (Nat.zero_le _) rfl ls (lv_sub hl [0, 1, 2, 3] rfl)
end
section
theorem dJ6_bitCount_0f7a4_0 : decode cJ6_bitCount_0f7a4 0 = .ok (.iload_n 0, 1) := g_26 bJ6_bitCount_0f7a4 rfl
theorem dJ6_bitCount_0f7a4_1 : decode cJ6_bitCount_0f7a4 1 = .ok (.iload_n 0, 1) := g_26 bJ6_bitCount_0f7a4 rfl
theorem dJ6_bitCount_0f7a4_2 : decode cJ6_bitCount_0f7a4 2 = .ok (.iconst 1, 1) := g_4 bJ6_bitCount_0f7a4 rfl
theorem dJ6_bitCount_0f7a4_3 : decode cJ6_bitCount_0f7a4 3 = .ok (.iushr, 1) := g_124 bJ6_bitCount_0f7a4 rfl
theorem dJ6_bitCount_0f7a4_4 : decode cJ6_bitCount_0f7a4 4 = .ok (.ldc_w 265, 3) := g_19 bJ6_bitCount_0f7a4 rfl
theorem dJ6_bitCount_0f7a4_7 : decode cJ6_bitCount_0f7a4 7 = .ok (.iand, 1) := g_126 bJ6_bitCount_0f7a4 rfl
theorem dJ6_bitCount_0f7a4_8 : decode cJ6_bitCount_0f7a4 8 = .ok (.isub, 1) := g_100 bJ6_bitCount_0f7a4 rfl
theorem dJ6_bitCount_0f7a4_9 : decode cJ6_bitCount_0f7a4 9 = .ok (.istore_n 0, 1) := g_59 bJ6_bitCount_0f7a4 rfl
theorem dJ6_bitCount_0f7a4_10 : decode cJ6_bitCount_0f7a4 10 = .ok (.iload_n 0, 1) := g_26 bJ6_bitCount_0f7a4 rfl
theorem dJ6_bitCount_0f7a4_11 : decode cJ6_bitCount_0f7a4 11 = .ok (.ldc_w 266, 3) := g_19 bJ6_bitCount_0f7a4 rfl
theorem dJ6_bitCount_0f7a4_14 : decode cJ6_bitCount_0f7a4 14 = .ok (.iand, 1) := g_126 bJ6_bitCount_0f7a4 rfl
theorem dJ6_bitCount_0f7a4_15 : decode cJ6_bitCount_0f7a4 15 = .ok (.iload_n 0, 1) := g_26 bJ6_bitCount_0f7a4 rfl
theorem dJ6_bitCount_0f7a4_16 : decode cJ6_bitCount_0f7a4 16 = .ok (.iconst 2, 1) := g_5 bJ6_bitCount_0f7a4 rfl
theorem dJ6_bitCount_0f7a4_17 : decode cJ6_bitCount_0f7a4 17 = .ok (.iushr, 1) := g_124 bJ6_bitCount_0f7a4 rfl
theorem dJ6_bitCount_0f7a4_18 : decode cJ6_bitCount_0f7a4 18 = .ok (.ldc_w 266, 3) := g_19 bJ6_bitCount_0f7a4 rfl
theorem dJ6_bitCount_0f7a4_21 : decode cJ6_bitCount_0f7a4 21 = .ok (.iand, 1) := g_126 bJ6_bitCount_0f7a4 rfl
theorem dJ6_bitCount_0f7a4_22 : decode cJ6_bitCount_0f7a4 22 = .ok (.iadd, 1) := g_96 bJ6_bitCount_0f7a4 rfl
theorem dJ6_bitCount_0f7a4_23 : decode cJ6_bitCount_0f7a4 23 = .ok (.istore_n 0, 1) := g_59 bJ6_bitCount_0f7a4 rfl
theorem dJ6_bitCount_0f7a4_24 : decode cJ6_bitCount_0f7a4 24 = .ok (.iload_n 0, 1) := g_26 bJ6_bitCount_0f7a4 rfl
theorem dJ6_bitCount_0f7a4_25 : decode cJ6_bitCount_0f7a4 25 = .ok (.iload_n 0, 1) := g_26 bJ6_bitCount_0f7a4 rfl
theorem dJ6_bitCount_0f7a4_26 : decode cJ6_bitCount_0f7a4 26 = .ok (.iconst 4, 1) := g_7 bJ6_bitCount_0f7a4 rfl
theorem dJ6_bitCount_0f7a4_27 : decode cJ6_bitCount_0f7a4 27 = .ok (.iushr, 1) := g_124 bJ6_bitCount_0f7a4 rfl
theorem dJ6_bitCount_0f7a4_28 : decode cJ6_bitCount_0f7a4 28 = .ok (.iadd, 1) := g_96 bJ6_bitCount_0f7a4 rfl
theorem dJ6_bitCount_0f7a4_29 : decode cJ6_bitCount_0f7a4 29 = .ok (.ldc_w 267, 3) := g_19 bJ6_bitCount_0f7a4 rfl
theorem dJ6_bitCount_0f7a4_32 : decode cJ6_bitCount_0f7a4 32 = .ok (.iand, 1) := g_126 bJ6_bitCount_0f7a4 rfl
theorem dJ6_bitCount_0f7a4_33 : decode cJ6_bitCount_0f7a4 33 = .ok (.istore_n 0, 1) := g_59 bJ6_bitCount_0f7a4 rfl
theorem dJ6_bitCount_0f7a4_34 : decode cJ6_bitCount_0f7a4 34 = .ok (.iload_n 0, 1) := g_26 bJ6_bitCount_0f7a4 rfl
theorem dJ6_bitCount_0f7a4_35 : decode cJ6_bitCount_0f7a4 35 = .ok (.iload_n 0, 1) := g_26 bJ6_bitCount_0f7a4 rfl
theorem dJ6_bitCount_0f7a4_36 : decode cJ6_bitCount_0f7a4 36 = .ok (.bipush 8, 2) := g_16 8 bJ6_bitCount_0f7a4 rfl rfl
theorem dJ6_bitCount_0f7a4_38 : decode cJ6_bitCount_0f7a4 38 = .ok (.iushr, 1) := g_124 bJ6_bitCount_0f7a4 rfl
theorem dJ6_bitCount_0f7a4_39 : decode cJ6_bitCount_0f7a4 39 = .ok (.iadd, 1) := g_96 bJ6_bitCount_0f7a4 rfl
theorem dJ6_bitCount_0f7a4_40 : decode cJ6_bitCount_0f7a4 40 = .ok (.istore_n 0, 1) := g_59 bJ6_bitCount_0f7a4 rfl
theorem dJ6_bitCount_0f7a4_41 : decode cJ6_bitCount_0f7a4 41 = .ok (.iload_n 0, 1) := g_26 bJ6_bitCount_0f7a4 rfl
theorem dJ6_bitCount_0f7a4_42 : decode cJ6_bitCount_0f7a4 42 = .ok (.iload_n 0, 1) := g_26 bJ6_bitCount_0f7a4 rfl
theorem dJ6_bitCount_0f7a4_43 : decode cJ6_bitCount_0f7a4 43 = .ok (.bipush 16, 2) := g_16 16 bJ6_bitCount_0f7a4 rfl rfl
theorem dJ6_bitCount_0f7a4_45 : decode cJ6_bitCount_0f7a4 45 = .ok (.iushr, 1) := g_124 bJ6_bitCount_0f7a4 rfl
theorem dJ6_bitCount_0f7a4_46 : decode cJ6_bitCount_0f7a4 46 = .ok (.iadd, 1) := g_96 bJ6_bitCount_0f7a4 rfl
theorem dJ6_bitCount_0f7a4_47 : decode cJ6_bitCount_0f7a4 47 = .ok (.istore_n 0, 1) := g_59 bJ6_bitCount_0f7a4 rfl
theorem dJ6_bitCount_0f7a4_48 : decode cJ6_bitCount_0f7a4 48 = .ok (.iload_n 0, 1) := g_26 bJ6_bitCount_0f7a4 rfl
theorem dJ6_bitCount_0f7a4_49 : decode cJ6_bitCount_0f7a4 49 = .ok (.bipush 63, 2) := g_16 63 bJ6_bitCount_0f7a4 rfl rfl
theorem dJ6_bitCount_0f7a4_51 : decode cJ6_bitCount_0f7a4 51 = .ok (.iand, 1) := g_126 bJ6_bitCount_0f7a4 rfl
theorem dJ6_bitCount_0f7a4_52 : decode cJ6_bitCount_0f7a4 52 = .ok (.ireturn, 1) := g_172 bJ6_bitCount_0f7a4 rfl
theorem dX4_allNeededBy_0 : decode cX4_allNeededBy 0 = .ok (.aload_n 0, 1) := g_42 bX4_allNeededBy rfl
theorem dX4_allNeededBy_1 : decode cX4_allNeededBy 1 = .ok (.getfield 19, 3) := g_180 bX4_allNeededBy rfl
theorem dX4_allNeededBy_4 : decode cX4_allNeededBy 4 = .ok (.iload_n 1, 1) := g_27 bX4_allNeededBy rfl
theorem dX4_allNeededBy_5 : decode cX4_allNeededBy 5 = .ok (.iaload, 1) := g_46 bX4_allNeededBy rfl
theorem dX4_allNeededBy_6 : decode cX4_allNeededBy 6 = .ok (.istore_n 2, 1) := g_61 bX4_allNeededBy rfl
theorem dX4_allNeededBy_7 : decode cX4_allNeededBy 7 = .ok (.iload_n 1, 1) := g_27 bX4_allNeededBy rfl
theorem dX4_allNeededBy_8 : decode cX4_allNeededBy 8 = .ok (.iconst 1, 1) := g_4 bX4_allNeededBy rfl
theorem dX4_allNeededBy_9 : decode cX4_allNeededBy 9 = .ok (.isub, 1) := g_100 bX4_allNeededBy rfl
theorem dX4_allNeededBy_10 : decode cX4_allNeededBy 10 = .ok (.istore_n 3, 1) := g_62 bX4_allNeededBy rfl
theorem dX4_allNeededBy_11 : decode cX4_allNeededBy 11 = .ok (.iload_n 3, 1) := g_29 bX4_allNeededBy rfl
theorem dX4_allNeededBy_12 : decode cX4_allNeededBy 12 = .ok (.ifCond .lt 26, 3) := g_155 26 bX4_allNeededBy rfl rfl
theorem dX4_allNeededBy_15 : decode cX4_allNeededBy 15 = .ok (.iload_n 2, 1) := g_28 bX4_allNeededBy rfl
theorem dX4_allNeededBy_16 : decode cX4_allNeededBy 16 = .ok (.iload_n 3, 1) := g_29 bX4_allNeededBy rfl
theorem dX4_allNeededBy_17 : decode cX4_allNeededBy 17 = .ok (.invokestatic 62, 3) := g_184 bX4_allNeededBy rfl
theorem dX4_allNeededBy_20 : decode cX4_allNeededBy 20 = .ok (.ifCond .eq 12, 3) := g_153 12 bX4_allNeededBy rfl rfl
theorem dX4_allNeededBy_23 : decode cX4_allNeededBy 23 = .ok (.iload_n 2, 1) := g_28 bX4_allNeededBy rfl
theorem dX4_allNeededBy_24 : decode cX4_allNeededBy 24 = .ok (.aload_n 0, 1) := g_42 bX4_allNeededBy rfl
theorem dX4_allNeededBy_25 : decode cX4_allNeededBy 25 = .ok (.getfield 19, 3) := g_180 bX4_allNeededBy rfl
theorem dX4_allNeededBy_28 : decode cX4_allNeededBy 28 = .ok (.iload_n 3, 1) := g_29 bX4_allNeededBy rfl
theorem dX4_allNeededBy_29 : decode cX4_allNeededBy 29 = .ok (.iaload, 1) := g_46 bX4_allNeededBy rfl
theorem dX4_allNeededBy_30 : decode cX4_allNeededBy 30 = .ok (.ior, 1) := g_128 bX4_allNeededBy rfl
theorem dX4_allNeededBy_31 : decode cX4_allNeededBy 31 = .ok (.istore_n 2, 1) := g_61 bX4_allNeededBy rfl
theorem dX4_allNeededBy_32 : decode cX4_allNeededBy 32 = .ok (.iinc 3 (-1), 3) := g_132 255 bX4_allNeededBy rfl rfl
theorem dX4_allNeededBy_35 : decode cX4_allNeededBy 35 = .ok (.goto (-24), 3) := g_167 65512 bX4_allNeededBy rfl rfl
theorem dX4_allNeededBy_38 : decode cX4_allNeededBy 38 = .ok (.iload_n 2, 1) := g_28 bX4_allNeededBy rfl
theorem dX4_allNeededBy_39 : decode cX4_allNeededBy 39 = .ok (.ireturn, 1) := g_172 bX4_allNeededBy rfl
theorem dX4_allThatNeed_0 : decode cX4_allThatNeed 0 = .ok (.iconst 0, 1) := g_3 bX4_allThatNeed rfl
theorem dX4_allThatNeed_1 : decode cX4_allThatNeed 1 = .ok (.istore_n 2, 1) := g_61 bX4_allThatNeed rfl
theorem dX4_allThatNeed_2 : decode cX4_allThatNeed 2 = .ok (.iload_n 1, 1) := g_27 bX4_allThatNeed rfl
theorem dX4_allThatNeed_3 : decode cX4_allThatNeed 3 = .ok (.iconst 1, 1) := g_4 bX4_allThatNeed rfl
theorem dX4_allThatNeed_4 : decode cX4_allThatNeed 4 = .ok (.iadd, 1) := g_96 bX4_allThatNeed rfl
theorem dX4_allThatNeed_5 : decode cX4_allThatNeed 5 = .ok (.istore_n 3, 1) := g_62 bX4_allThatNeed rfl
theorem dX4_allThatNeed_6 : decode cX4_allThatNeed 6 = .ok (.iload_n 3, 1) := g_29 bX4_allThatNeed rfl
theorem dX4_allThatNeed_7 : decode cX4_allThatNeed 7 = .ok (.aload_n 0, 1) := g_42 bX4_allThatNeed rfl
theorem dX4_allThatNeed_8 : decode cX4_allThatNeed 8 = .ok (.getfield 40, 3) := g_180 bX4_allThatNeed rfl
theorem dX4_allThatNeed_11 : decode cX4_allThatNeed 11 = .ok (.if_icmp .ge 27, 3) := g_162 27 bX4_allThatNeed rfl rfl
theorem dX4_allThatNeed_14 : decode cX4_allThatNeed 14 = .ok (.aload_n 0, 1) := g_42 bX4_allThatNeed rfl
theorem dX4_allThatNeed_15 : decode cX4_allThatNeed 15 = .ok (.iload_n 3, 1) := g_29 bX4_allThatNeed rfl
theorem dX4_allThatNeed_16 : decode cX4_allThatNeed 16 = .ok (.invokevirtual 108, 3) := g_182 bX4_allThatNeed rfl
theorem dX4_allThatNeed_19 : decode cX4_allThatNeed 19 = .ok (.iload_n 1, 1) := g_27 bX4_allThatNeed rfl
theorem dX4_allThatNeed_20 : decode cX4_allThatNeed 20 = .ok (.invokestatic 62, 3) := g_184 bX4_allThatNeed rfl
theorem dX4_allThatNeed_23 : decode cX4_allThatNeed 23 = .ok (.ifCond .eq 9, 3) := g_153 9 bX4_allThatNeed rfl rfl
theorem dX4_allThatNeed_26 : decode cX4_allThatNeed 26 = .ok (.iload_n 2, 1) := g_28 bX4_allThatNeed rfl
theorem dX4_allThatNeed_27 : decode cX4_allThatNeed 27 = .ok (.iconst 1, 1) := g_4 bX4_allThatNeed rfl
theorem dX4_allThatNeed_28 : decode cX4_allThatNeed 28 = .ok (.iload_n 3, 1) := g_29 bX4_allThatNeed rfl
theorem dX4_allThatNeed_29 : decode cX4_allThatNeed 29 = .ok (.ishl, 1) := g_120 bX4_allThatNeed rfl
theorem dX4_allThatNeed_30 : decode cX4_allThatNeed 30 = .ok (.ior, 1) := g_128 bX4_allThatNeed rfl
theorem dX4_allThatNeed_31 : decode cX4_allThatNeed 31 = .ok (.istore_n 2, 1) := g_61 bX4_allThatNeed rfl
theorem dX4_allThatNeed_32 : decode cX4_allThatNeed 32 = .ok (.iinc 3 1, 3) := g_132 1 bX4_allThatNeed rfl rfl
theorem dX4_allThatNeed_35 : decode cX4_allThatNeed 35 = .ok (.goto (-29), 3) := g_167 65507 bX4_allThatNeed rfl rfl
theorem dX4_allThatNeed_38 : decode cX4_allThatNeed 38 = .ok (.iload_n 2, 1) := g_28 bX4_allThatNeed rfl
theorem dX4_allThatNeed_39 : decode cX4_allThatNeed 39 = .ok (.ireturn, 1) := g_172 bX4_allThatNeed rfl
theorem dX4_drawBelow20_0 : decode cX4_drawBelow20 0 = .ok (.aload_n 0, 1) := g_42 bX4_drawBelow20 rfl
theorem dX4_drawBelow20_1 : decode cX4_drawBelow20 1 = .ok (.aload_n 0, 1) := g_42 bX4_drawBelow20 rfl
theorem dX4_drawBelow20_2 : decode cX4_drawBelow20 2 = .ok (.getfield 9, 3) := g_180 bX4_drawBelow20 rfl
theorem dX4_drawBelow20_5 : decode cX4_drawBelow20 5 = .ok (.ldc 123, 2) := g_18 bX4_drawBelow20 rfl
theorem dX4_drawBelow20_7 : decode cX4_drawBelow20 7 = .ok (.imul, 1) := g_104 bX4_drawBelow20 rfl
theorem dX4_drawBelow20_8 : decode cX4_drawBelow20 8 = .ok (.sipush 12345, 3) := g_17 12345 bX4_drawBelow20 rfl rfl
theorem dX4_drawBelow20_11 : decode cX4_drawBelow20 11 = .ok (.iadd, 1) := g_96 bX4_drawBelow20 rfl
theorem dX4_drawBelow20_12 : decode cX4_drawBelow20 12 = .ok (.putfield 9, 3) := g_181 bX4_drawBelow20 rfl
theorem dX4_drawBelow20_15 : decode cX4_drawBelow20 15 = .ok (.aload_n 0, 1) := g_42 bX4_drawBelow20 rfl
theorem dX4_drawBelow20_16 : decode cX4_drawBelow20 16 = .ok (.getfield 9, 3) := g_180 bX4_drawBelow20 rfl
theorem dX4_drawBelow20_19 : decode cX4_drawBelow20 19 = .ok (.bipush 16, 2) := g_16 16 bX4_drawBelow20 rfl rfl
theorem dX4_drawBelow20_21 : decode cX4_drawBelow20 21 = .ok (.iushr, 1) := g_124 bX4_drawBelow20 rfl
theorem dX4_drawBelow20_22 : decode cX4_drawBelow20 22 = .ok (.bipush 20, 2) := g_16 20 bX4_drawBelow20 rfl rfl
theorem dX4_drawBelow20_24 : decode cX4_drawBelow20 24 = .ok (.irem, 1) := g_112 bX4_drawBelow20 rfl
theorem dX4_drawBelow20_25 : decode cX4_drawBelow20 25 = .ok (.ireturn, 1) := g_172 bX4_drawBelow20 rfl
theorem dX4_forget_0 : decode cX4_forget 0 = .ok (.aload_n 0, 1) := g_42 bX4_forget rfl
theorem dX4_forget_1 : decode cX4_forget 1 = .ok (.getfield 49, 3) := g_180 bX4_forget rfl
theorem dX4_forget_4 : decode cX4_forget 4 = .ok (.iload_n 1, 1) := g_27 bX4_forget rfl
theorem dX4_forget_5 : decode cX4_forget 5 = .ok (.invokestatic 62, 3) := g_184 bX4_forget rfl
theorem dX4_forget_8 : decode cX4_forget 8 = .ok (.ifCond .eq 7, 3) := g_153 7 bX4_forget rfl rfl
theorem dX4_forget_11 : decode cX4_forget 11 = .ok (.iconst 0, 1) := g_3 bX4_forget rfl
theorem dX4_forget_12 : decode cX4_forget 12 = .ok (.goto 12, 3) := g_167 12 bX4_forget rfl rfl
theorem dX4_forget_15 : decode cX4_forget 15 = .ok (.bipush 90, 2) := g_16 90 bX4_forget rfl rfl
theorem dX4_forget_17 : decode cX4_forget 17 = .ok (.aload_n 0, 1) := g_42 bX4_forget rfl
theorem dX4_forget_18 : decode cX4_forget 18 = .ok (.getfield 31, 3) := g_180 bX4_forget rfl
theorem dX4_forget_21 : decode cX4_forget 21 = .ok (.iload_n 1, 1) := g_27 bX4_forget rfl
theorem dX4_forget_22 : decode cX4_forget 22 = .ok (.iaload, 1) := g_46 bX4_forget rfl
theorem dX4_forget_23 : decode cX4_forget 23 = .ok (.iadd, 1) := g_96 bX4_forget rfl
theorem dX4_forget_24 : decode cX4_forget 24 = .ok (.istore_n 2, 1) := g_61 bX4_forget rfl
theorem dX4_forget_25 : decode cX4_forget 25 = .ok (.iconst 0, 1) := g_3 bX4_forget rfl
theorem dX4_forget_26 : decode cX4_forget 26 = .ok (.istore_n 3, 1) := g_62 bX4_forget rfl
theorem dX4_forget_27 : decode cX4_forget 27 = .ok (.iload_n 3, 1) := g_29 bX4_forget rfl
theorem dX4_forget_28 : decode cX4_forget 28 = .ok (.aload_n 0, 1) := g_42 bX4_forget rfl
theorem dX4_forget_29 : decode cX4_forget 29 = .ok (.getfield 40, 3) := g_180 bX4_forget rfl
theorem dX4_forget_32 : decode cX4_forget 32 = .ok (.if_icmp .ge 26, 3) := g_162 26 bX4_forget rfl rfl
theorem dX4_forget_35 : decode cX4_forget 35 = .ok (.aload_n 0, 1) := g_42 bX4_forget rfl
theorem dX4_forget_36 : decode cX4_forget 36 = .ok (.iload_n 1, 1) := g_27 bX4_forget rfl
theorem dX4_forget_37 : decode cX4_forget 37 = .ok (.iload_n 3, 1) := g_29 bX4_forget rfl
theorem dX4_forget_38 : decode cX4_forget 38 = .ok (.aload_n 0, 1) := g_42 bX4_forget rfl
theorem dX4_forget_39 : decode cX4_forget 39 = .ok (.iload_n 1, 1) := g_27 bX4_forget rfl
theorem dX4_forget_40 : decode cX4_forget 40 = .ok (.iload_n 3, 1) := g_29 bX4_forget rfl
theorem dX4_forget_41 : decode cX4_forget 41 = .ok (.invokevirtual 66, 3) := g_182 bX4_forget rfl
theorem dX4_forget_44 : decode cX4_forget 44 = .ok (.iload_n 2, 1) := g_28 bX4_forget rfl
theorem dX4_forget_45 : decode cX4_forget 45 = .ok (.imul, 1) := g_104 bX4_forget rfl
theorem dX4_forget_46 : decode cX4_forget 46 = .ok (.bipush 100, 2) := g_16 100 bX4_forget rfl rfl
theorem dX4_forget_48 : decode cX4_forget 48 = .ok (.idiv, 1) := g_108 bX4_forget rfl
theorem dX4_forget_49 : decode cX4_forget 49 = .ok (.invokevirtual 94, 3) := g_182 bX4_forget rfl
theorem dX4_forget_52 : decode cX4_forget 52 = .ok (.iinc 3 1, 3) := g_132 1 bX4_forget rfl rfl
theorem dX4_forget_55 : decode cX4_forget 55 = .ok (.goto (-28), 3) := g_167 65508 bX4_forget rfl rfl
theorem dX4_forget_58 : decode cX4_forget 58 = .ok (.return_, 1) := g_177 bX4_forget rfl
theorem dX4_gainByReading_0 : decode cX4_gainByReading 0 = .ok (.aload_n 0, 1) := g_42 bX4_gainByReading rfl
theorem dX4_gainByReading_1 : decode cX4_gainByReading 1 = .ok (.iload_n 1, 1) := g_27 bX4_gainByReading rfl
theorem dX4_gainByReading_2 : decode cX4_gainByReading 2 = .ok (.invokevirtual 105, 3) := g_182 bX4_gainByReading rfl
theorem dX4_gainByReading_5 : decode cX4_gainByReading 5 = .ok (.istore_n 2, 1) := g_61 bX4_gainByReading rfl
theorem dX4_gainByReading_6 : decode cX4_gainByReading 6 = .ok (.iload_n 2, 1) := g_28 bX4_gainByReading rfl
theorem dX4_gainByReading_7 : decode cX4_gainByReading 7 = .ok (.iconst (-1), 1) := g_2 bX4_gainByReading rfl
theorem dX4_gainByReading_8 : decode cX4_gainByReading 8 = .ok (.if_icmp .ne 7, 3) := g_160 7 bX4_gainByReading rfl rfl
theorem dX4_gainByReading_11 : decode cX4_gainByReading 11 = .ok (.iconst 0, 1) := g_3 bX4_gainByReading rfl
theorem dX4_gainByReading_12 : decode cX4_gainByReading 12 = .ok (.goto 26, 3) := g_167 26 bX4_gainByReading rfl rfl
theorem dX4_gainByReading_15 : decode cX4_gainByReading 15 = .ok (.aload_n 0, 1) := g_42 bX4_gainByReading rfl
theorem dX4_gainByReading_16 : decode cX4_gainByReading 16 = .ok (.getfield 15, 3) := g_180 bX4_gainByReading rfl
theorem dX4_gainByReading_19 : decode cX4_gainByReading 19 = .ok (.iload_n 1, 1) := g_27 bX4_gainByReading rfl
theorem dX4_gainByReading_20 : decode cX4_gainByReading 20 = .ok (.iaload, 1) := g_46 bX4_gainByReading rfl
theorem dX4_gainByReading_21 : decode cX4_gainByReading 21 = .ok (.aload_n 0, 1) := g_42 bX4_gainByReading rfl
theorem dX4_gainByReading_22 : decode cX4_gainByReading 22 = .ok (.iload_n 2, 1) := g_28 bX4_gainByReading rfl
theorem dX4_gainByReading_23 : decode cX4_gainByReading 23 = .ok (.iload_n 1, 1) := g_27 bX4_gainByReading rfl
theorem dX4_gainByReading_24 : decode cX4_gainByReading 24 = .ok (.invokevirtual 91, 3) := g_182 bX4_gainByReading rfl
theorem dX4_gainByReading_27 : decode cX4_gainByReading 27 = .ok (.aload_n 0, 1) := g_42 bX4_gainByReading rfl
theorem dX4_gainByReading_28 : decode cX4_gainByReading 28 = .ok (.iload_n 1, 1) := g_27 bX4_gainByReading rfl
theorem dX4_gainByReading_29 : decode cX4_gainByReading 29 = .ok (.aload_n 0, 1) := g_42 bX4_gainByReading rfl
theorem dX4_gainByReading_30 : decode cX4_gainByReading 30 = .ok (.invokevirtual 78, 3) := g_182 bX4_gainByReading rfl
theorem dX4_gainByReading_33 : decode cX4_gainByReading 33 = .ok (.invokevirtual 75, 3) := g_182 bX4_gainByReading rfl
theorem dX4_gainByReading_36 : decode cX4_gainByReading 36 = .ok (.isub, 1) := g_100 bX4_gainByReading rfl
theorem dX4_gainByReading_37 : decode cX4_gainByReading 37 = .ok (.imul, 1) := g_104 bX4_gainByReading rfl
theorem dX4_gainByReading_38 : decode cX4_gainByReading 38 = .ok (.ireturn, 1) := g_172 bX4_gainByReading rfl
theorem dX4_unreadAt_0 : decode cX4_unreadAt 0 = .ok (.iconst 0, 1) := g_3 bX4_unreadAt rfl
theorem dX4_unreadAt_1 : decode cX4_unreadAt 1 = .ok (.istore_n 2, 1) := g_61 bX4_unreadAt rfl
theorem dX4_unreadAt_2 : decode cX4_unreadAt 2 = .ok (.iconst 0, 1) := g_3 bX4_unreadAt rfl
theorem dX4_unreadAt_3 : decode cX4_unreadAt 3 = .ok (.istore_n 3, 1) := g_62 bX4_unreadAt rfl
theorem dX4_unreadAt_4 : decode cX4_unreadAt 4 = .ok (.iload_n 3, 1) := g_29 bX4_unreadAt rfl
theorem dX4_unreadAt_5 : decode cX4_unreadAt 5 = .ok (.aload_n 0, 1) := g_42 bX4_unreadAt rfl
theorem dX4_unreadAt_6 : decode cX4_unreadAt 6 = .ok (.getfield 40, 3) := g_180 bX4_unreadAt rfl
theorem dX4_unreadAt_9 : decode cX4_unreadAt 9 = .ok (.if_icmp .ge 30, 3) := g_162 30 bX4_unreadAt rfl rfl
theorem dX4_unreadAt_12 : decode cX4_unreadAt 12 = .ok (.aload_n 0, 1) := g_42 bX4_unreadAt rfl
theorem dX4_unreadAt_13 : decode cX4_unreadAt 13 = .ok (.getfield 46, 3) := g_180 bX4_unreadAt rfl
theorem dX4_unreadAt_16 : decode cX4_unreadAt 16 = .ok (.iload_n 3, 1) := g_29 bX4_unreadAt rfl
theorem dX4_unreadAt_17 : decode cX4_unreadAt 17 = .ok (.invokestatic 62, 3) := g_184 bX4_unreadAt rfl
theorem dX4_unreadAt_20 : decode cX4_unreadAt 20 = .ok (.ifCond .ne 13, 3) := g_154 13 bX4_unreadAt rfl rfl
theorem dX4_unreadAt_23 : decode cX4_unreadAt 23 = .ok (.iload_n 2, 1) := g_28 bX4_unreadAt rfl
theorem dX4_unreadAt_24 : decode cX4_unreadAt 24 = .ok (.iload_n 1, 1) := g_27 bX4_unreadAt rfl
theorem dX4_unreadAt_25 : decode cX4_unreadAt 25 = .ok (.if_icmp .ne 5, 3) := g_160 5 bX4_unreadAt rfl rfl
theorem dX4_unreadAt_28 : decode cX4_unreadAt 28 = .ok (.iload_n 3, 1) := g_29 bX4_unreadAt rfl
theorem dX4_unreadAt_29 : decode cX4_unreadAt 29 = .ok (.ireturn, 1) := g_172 bX4_unreadAt rfl
theorem dX4_unreadAt_30 : decode cX4_unreadAt 30 = .ok (.iinc 2 1, 3) := g_132 1 bX4_unreadAt rfl rfl
theorem dX4_unreadAt_33 : decode cX4_unreadAt 33 = .ok (.iinc 3 1, 3) := g_132 1 bX4_unreadAt rfl rfl
theorem dX4_unreadAt_36 : decode cX4_unreadAt 36 = .ok (.goto (-32), 3) := g_167 65504 bX4_unreadAt rfl rfl
theorem dX4_unreadAt_39 : decode cX4_unreadAt 39 = .ok (.iconst (-1), 1) := g_2 bX4_unreadAt rfl
theorem dX4_unreadAt_40 : decode cX4_unreadAt 40 = .ok (.ireturn, 1) := g_172 bX4_unreadAt rfl
set_option maxHeartbeats 4000000 in
set_option maxRecDepth 100000 in
theorem c_J6_bitCount (l : Launch) (G : va_G) (cy : Nat → ClassId) (iA : Int32)   : MR l yJ6_bitCount_0f7a4 cJ6_bitCount_0f7a4 1 (some .int) 1 G cy [] [.int iA] (vp_Si (fun r => (r = (zbc iA)))) := by
  refine enR RJ6 (by decide) rfl (Nat.le_of_ble_eq_true rfl) (fun p e s m below meth c ls hx hb hml hown hts hr hlocks hP hN hl => ?_)
  have hK := hN.1
  replace hl : lv_has ls 1 [(0, .int iA)] := hl
  refine lv_iload_n hx hb dJ6_bitCount_0f7a4_0 rfl (lv_at hl 0 rfl) ?_
  refine lv_iload_n hx hb dJ6_bitCount_0f7a4_1 rfl (lv_at hl 0 rfl) ?_
  refine lv_iconst (v := 1) hx hb dJ6_bitCount_0f7a4_2 (by decide) ?_
  refine lv_iushr (v := (iA.toUInt32 >>> (Int32.toUInt32 1 &&& Int32.toUInt32 31)).toInt32) hx hb dJ6_bitCount_0f7a4_3 (rfl) ?_
  refine lv_ldcw hx hb hown (hts _ m_t664) dJ6_bitCount_0f7a4_4 ?_
  refine lv_iand hx hb dJ6_bitCount_0f7a4_7 ?_
  refine lv_isub hx hb dJ6_bitCount_0f7a4_8 ?_
  refine lv_istore_n (lv' := [(0, .int (iA - (((iA.toUInt32 >>> (Int32.toUInt32 1 &&& Int32.toUInt32 31)).toInt32) &&& 1431655765)))]) hx hb dJ6_bitCount_0f7a4_9 rfl hl (by decide) rfl (fun ls => ?_)
  clear hl
  intro hl
  refine lv_iload_n hx hb dJ6_bitCount_0f7a4_10 rfl (lv_at hl 0 rfl) ?_
  refine lv_ldcw hx hb hown (hts _ m_t665) dJ6_bitCount_0f7a4_11 ?_
  refine lv_iand hx hb dJ6_bitCount_0f7a4_14 ?_
  refine lv_iload_n hx hb dJ6_bitCount_0f7a4_15 rfl (lv_at hl 0 rfl) ?_
  refine lv_iconst (v := 2) hx hb dJ6_bitCount_0f7a4_16 (by decide) ?_
  refine lv_iushr (v := ((iA - (((iA.toUInt32 >>> (Int32.toUInt32 1 &&& Int32.toUInt32 31)).toInt32) &&& 1431655765)).toUInt32 >>> (Int32.toUInt32 2 &&& Int32.toUInt32 31)).toInt32) hx hb dJ6_bitCount_0f7a4_17 (rfl) ?_
  refine lv_ldcw hx hb hown (hts _ m_t665) dJ6_bitCount_0f7a4_18 ?_
  refine lv_iand hx hb dJ6_bitCount_0f7a4_21 ?_
  refine lv_iadd hx hb dJ6_bitCount_0f7a4_22 ?_
  refine lv_istore_n (lv' := [(0, .int (((iA - (((iA.toUInt32 >>> (Int32.toUInt32 1 &&& Int32.toUInt32 31)).toInt32) &&& 1431655765)) &&& 858993459) + ((((iA - (((iA.toUInt32 >>> (Int32.toUInt32 1 &&& Int32.toUInt32 31)).toInt32) &&& 1431655765)).toUInt32 >>> (Int32.toUInt32 2 &&& Int32.toUInt32 31)).toInt32) &&& 858993459)))]) hx hb dJ6_bitCount_0f7a4_23 rfl hl (by decide) rfl (fun ls => ?_)
  clear hl
  intro hl
  refine lv_iload_n hx hb dJ6_bitCount_0f7a4_24 rfl (lv_at hl 0 rfl) ?_
  refine lv_iload_n hx hb dJ6_bitCount_0f7a4_25 rfl (lv_at hl 0 rfl) ?_
  refine lv_iconst (v := 4) hx hb dJ6_bitCount_0f7a4_26 (by decide) ?_
  refine lv_iushr (v := ((((iA - (((iA.toUInt32 >>> (Int32.toUInt32 1 &&& Int32.toUInt32 31)).toInt32) &&& 1431655765)) &&& 858993459) + ((((iA - (((iA.toUInt32 >>> (Int32.toUInt32 1 &&& Int32.toUInt32 31)).toInt32) &&& 1431655765)).toUInt32 >>> (Int32.toUInt32 2 &&& Int32.toUInt32 31)).toInt32) &&& 858993459)).toUInt32 >>> (Int32.toUInt32 4 &&& Int32.toUInt32 31)).toInt32) hx hb dJ6_bitCount_0f7a4_27 (rfl) ?_
  refine lv_iadd hx hb dJ6_bitCount_0f7a4_28 ?_
  refine lv_ldcw hx hb hown (hts _ m_t666) dJ6_bitCount_0f7a4_29 ?_
  refine lv_iand hx hb dJ6_bitCount_0f7a4_32 ?_
  refine lv_istore_n (lv' := [(0, .int (((((iA - (((iA.toUInt32 >>> (Int32.toUInt32 1 &&& Int32.toUInt32 31)).toInt32) &&& 1431655765)) &&& 858993459) + ((((iA - (((iA.toUInt32 >>> (Int32.toUInt32 1 &&& Int32.toUInt32 31)).toInt32) &&& 1431655765)).toUInt32 >>> (Int32.toUInt32 2 &&& Int32.toUInt32 31)).toInt32) &&& 858993459)) + (((((iA - (((iA.toUInt32 >>> (Int32.toUInt32 1 &&& Int32.toUInt32 31)).toInt32) &&& 1431655765)) &&& 858993459) + ((((iA - (((iA.toUInt32 >>> (Int32.toUInt32 1 &&& Int32.toUInt32 31)).toInt32) &&& 1431655765)).toUInt32 >>> (Int32.toUInt32 2 &&& Int32.toUInt32 31)).toInt32) &&& 858993459)).toUInt32 >>> (Int32.toUInt32 4 &&& Int32.toUInt32 31)).toInt32)) &&& 252645135))]) hx hb dJ6_bitCount_0f7a4_33 rfl hl (by decide) rfl (fun ls => ?_)
  clear hl
  intro hl
  refine lv_iload_n hx hb dJ6_bitCount_0f7a4_34 rfl (lv_at hl 0 rfl) ?_
  refine lv_iload_n hx hb dJ6_bitCount_0f7a4_35 rfl (lv_at hl 0 rfl) ?_
  refine lv_bipush (v := 8) hx hb dJ6_bitCount_0f7a4_36 (by decide) ?_
  refine lv_iushr (v := ((((((iA - (((iA.toUInt32 >>> (Int32.toUInt32 1 &&& Int32.toUInt32 31)).toInt32) &&& 1431655765)) &&& 858993459) + ((((iA - (((iA.toUInt32 >>> (Int32.toUInt32 1 &&& Int32.toUInt32 31)).toInt32) &&& 1431655765)).toUInt32 >>> (Int32.toUInt32 2 &&& Int32.toUInt32 31)).toInt32) &&& 858993459)) + (((((iA - (((iA.toUInt32 >>> (Int32.toUInt32 1 &&& Int32.toUInt32 31)).toInt32) &&& 1431655765)) &&& 858993459) + ((((iA - (((iA.toUInt32 >>> (Int32.toUInt32 1 &&& Int32.toUInt32 31)).toInt32) &&& 1431655765)).toUInt32 >>> (Int32.toUInt32 2 &&& Int32.toUInt32 31)).toInt32) &&& 858993459)).toUInt32 >>> (Int32.toUInt32 4 &&& Int32.toUInt32 31)).toInt32)) &&& 252645135).toUInt32 >>> (Int32.toUInt32 8 &&& Int32.toUInt32 31)).toInt32) hx hb dJ6_bitCount_0f7a4_38 (rfl) ?_
  refine lv_iadd hx hb dJ6_bitCount_0f7a4_39 ?_
  refine lv_istore_n (lv' := [(0, .int ((((((iA - (((iA.toUInt32 >>> (Int32.toUInt32 1 &&& Int32.toUInt32 31)).toInt32) &&& 1431655765)) &&& 858993459) + ((((iA - (((iA.toUInt32 >>> (Int32.toUInt32 1 &&& Int32.toUInt32 31)).toInt32) &&& 1431655765)).toUInt32 >>> (Int32.toUInt32 2 &&& Int32.toUInt32 31)).toInt32) &&& 858993459)) + (((((iA - (((iA.toUInt32 >>> (Int32.toUInt32 1 &&& Int32.toUInt32 31)).toInt32) &&& 1431655765)) &&& 858993459) + ((((iA - (((iA.toUInt32 >>> (Int32.toUInt32 1 &&& Int32.toUInt32 31)).toInt32) &&& 1431655765)).toUInt32 >>> (Int32.toUInt32 2 &&& Int32.toUInt32 31)).toInt32) &&& 858993459)).toUInt32 >>> (Int32.toUInt32 4 &&& Int32.toUInt32 31)).toInt32)) &&& 252645135) + (((((((iA - (((iA.toUInt32 >>> (Int32.toUInt32 1 &&& Int32.toUInt32 31)).toInt32) &&& 1431655765)) &&& 858993459) + ((((iA - (((iA.toUInt32 >>> (Int32.toUInt32 1 &&& Int32.toUInt32 31)).toInt32) &&& 1431655765)).toUInt32 >>> (Int32.toUInt32 2 &&& Int32.toUInt32 31)).toInt32) &&& 858993459)) + (((((iA - (((iA.toUInt32 >>> (Int32.toUInt32 1 &&& Int32.toUInt32 31)).toInt32) &&& 1431655765)) &&& 858993459) + ((((iA - (((iA.toUInt32 >>> (Int32.toUInt32 1 &&& Int32.toUInt32 31)).toInt32) &&& 1431655765)).toUInt32 >>> (Int32.toUInt32 2 &&& Int32.toUInt32 31)).toInt32) &&& 858993459)).toUInt32 >>> (Int32.toUInt32 4 &&& Int32.toUInt32 31)).toInt32)) &&& 252645135).toUInt32 >>> (Int32.toUInt32 8 &&& Int32.toUInt32 31)).toInt32)))]) hx hb dJ6_bitCount_0f7a4_40 rfl hl (by decide) rfl (fun ls => ?_)
  clear hl
  intro hl
  refine lv_iload_n hx hb dJ6_bitCount_0f7a4_41 rfl (lv_at hl 0 rfl) ?_
  refine lv_iload_n hx hb dJ6_bitCount_0f7a4_42 rfl (lv_at hl 0 rfl) ?_
  refine lv_bipush (v := 16) hx hb dJ6_bitCount_0f7a4_43 (by decide) ?_
  refine lv_iushr (v := (((((((iA - (((iA.toUInt32 >>> (Int32.toUInt32 1 &&& Int32.toUInt32 31)).toInt32) &&& 1431655765)) &&& 858993459) + ((((iA - (((iA.toUInt32 >>> (Int32.toUInt32 1 &&& Int32.toUInt32 31)).toInt32) &&& 1431655765)).toUInt32 >>> (Int32.toUInt32 2 &&& Int32.toUInt32 31)).toInt32) &&& 858993459)) + (((((iA - (((iA.toUInt32 >>> (Int32.toUInt32 1 &&& Int32.toUInt32 31)).toInt32) &&& 1431655765)) &&& 858993459) + ((((iA - (((iA.toUInt32 >>> (Int32.toUInt32 1 &&& Int32.toUInt32 31)).toInt32) &&& 1431655765)).toUInt32 >>> (Int32.toUInt32 2 &&& Int32.toUInt32 31)).toInt32) &&& 858993459)).toUInt32 >>> (Int32.toUInt32 4 &&& Int32.toUInt32 31)).toInt32)) &&& 252645135) + (((((((iA - (((iA.toUInt32 >>> (Int32.toUInt32 1 &&& Int32.toUInt32 31)).toInt32) &&& 1431655765)) &&& 858993459) + ((((iA - (((iA.toUInt32 >>> (Int32.toUInt32 1 &&& Int32.toUInt32 31)).toInt32) &&& 1431655765)).toUInt32 >>> (Int32.toUInt32 2 &&& Int32.toUInt32 31)).toInt32) &&& 858993459)) + (((((iA - (((iA.toUInt32 >>> (Int32.toUInt32 1 &&& Int32.toUInt32 31)).toInt32) &&& 1431655765)) &&& 858993459) + ((((iA - (((iA.toUInt32 >>> (Int32.toUInt32 1 &&& Int32.toUInt32 31)).toInt32) &&& 1431655765)).toUInt32 >>> (Int32.toUInt32 2 &&& Int32.toUInt32 31)).toInt32) &&& 858993459)).toUInt32 >>> (Int32.toUInt32 4 &&& Int32.toUInt32 31)).toInt32)) &&& 252645135).toUInt32 >>> (Int32.toUInt32 8 &&& Int32.toUInt32 31)).toInt32)).toUInt32 >>> (Int32.toUInt32 16 &&& Int32.toUInt32 31)).toInt32) hx hb dJ6_bitCount_0f7a4_45 (rfl) ?_
  refine lv_iadd hx hb dJ6_bitCount_0f7a4_46 ?_
  refine lv_istore_n (lv' := [(0, .int (((((((iA - (((iA.toUInt32 >>> (Int32.toUInt32 1 &&& Int32.toUInt32 31)).toInt32) &&& 1431655765)) &&& 858993459) + ((((iA - (((iA.toUInt32 >>> (Int32.toUInt32 1 &&& Int32.toUInt32 31)).toInt32) &&& 1431655765)).toUInt32 >>> (Int32.toUInt32 2 &&& Int32.toUInt32 31)).toInt32) &&& 858993459)) + (((((iA - (((iA.toUInt32 >>> (Int32.toUInt32 1 &&& Int32.toUInt32 31)).toInt32) &&& 1431655765)) &&& 858993459) + ((((iA - (((iA.toUInt32 >>> (Int32.toUInt32 1 &&& Int32.toUInt32 31)).toInt32) &&& 1431655765)).toUInt32 >>> (Int32.toUInt32 2 &&& Int32.toUInt32 31)).toInt32) &&& 858993459)).toUInt32 >>> (Int32.toUInt32 4 &&& Int32.toUInt32 31)).toInt32)) &&& 252645135) + (((((((iA - (((iA.toUInt32 >>> (Int32.toUInt32 1 &&& Int32.toUInt32 31)).toInt32) &&& 1431655765)) &&& 858993459) + ((((iA - (((iA.toUInt32 >>> (Int32.toUInt32 1 &&& Int32.toUInt32 31)).toInt32) &&& 1431655765)).toUInt32 >>> (Int32.toUInt32 2 &&& Int32.toUInt32 31)).toInt32) &&& 858993459)) + (((((iA - (((iA.toUInt32 >>> (Int32.toUInt32 1 &&& Int32.toUInt32 31)).toInt32) &&& 1431655765)) &&& 858993459) + ((((iA - (((iA.toUInt32 >>> (Int32.toUInt32 1 &&& Int32.toUInt32 31)).toInt32) &&& 1431655765)).toUInt32 >>> (Int32.toUInt32 2 &&& Int32.toUInt32 31)).toInt32) &&& 858993459)).toUInt32 >>> (Int32.toUInt32 4 &&& Int32.toUInt32 31)).toInt32)) &&& 252645135).toUInt32 >>> (Int32.toUInt32 8 &&& Int32.toUInt32 31)).toInt32)) + ((((((((iA - (((iA.toUInt32 >>> (Int32.toUInt32 1 &&& Int32.toUInt32 31)).toInt32) &&& 1431655765)) &&& 858993459) + ((((iA - (((iA.toUInt32 >>> (Int32.toUInt32 1 &&& Int32.toUInt32 31)).toInt32) &&& 1431655765)).toUInt32 >>> (Int32.toUInt32 2 &&& Int32.toUInt32 31)).toInt32) &&& 858993459)) + (((((iA - (((iA.toUInt32 >>> (Int32.toUInt32 1 &&& Int32.toUInt32 31)).toInt32) &&& 1431655765)) &&& 858993459) + ((((iA - (((iA.toUInt32 >>> (Int32.toUInt32 1 &&& Int32.toUInt32 31)).toInt32) &&& 1431655765)).toUInt32 >>> (Int32.toUInt32 2 &&& Int32.toUInt32 31)).toInt32) &&& 858993459)).toUInt32 >>> (Int32.toUInt32 4 &&& Int32.toUInt32 31)).toInt32)) &&& 252645135) + (((((((iA - (((iA.toUInt32 >>> (Int32.toUInt32 1 &&& Int32.toUInt32 31)).toInt32) &&& 1431655765)) &&& 858993459) + ((((iA - (((iA.toUInt32 >>> (Int32.toUInt32 1 &&& Int32.toUInt32 31)).toInt32) &&& 1431655765)).toUInt32 >>> (Int32.toUInt32 2 &&& Int32.toUInt32 31)).toInt32) &&& 858993459)) + (((((iA - (((iA.toUInt32 >>> (Int32.toUInt32 1 &&& Int32.toUInt32 31)).toInt32) &&& 1431655765)) &&& 858993459) + ((((iA - (((iA.toUInt32 >>> (Int32.toUInt32 1 &&& Int32.toUInt32 31)).toInt32) &&& 1431655765)).toUInt32 >>> (Int32.toUInt32 2 &&& Int32.toUInt32 31)).toInt32) &&& 858993459)).toUInt32 >>> (Int32.toUInt32 4 &&& Int32.toUInt32 31)).toInt32)) &&& 252645135).toUInt32 >>> (Int32.toUInt32 8 &&& Int32.toUInt32 31)).toInt32)).toUInt32 >>> (Int32.toUInt32 16 &&& Int32.toUInt32 31)).toInt32)))]) hx hb dJ6_bitCount_0f7a4_47 rfl hl (by decide) rfl (fun ls => ?_)
  clear hl
  intro hl
  refine lv_iload_n hx hb dJ6_bitCount_0f7a4_48 rfl (lv_at hl 0 rfl) ?_
  refine lv_bipush (v := 63) hx hb dJ6_bitCount_0f7a4_49 (by decide) ?_
  refine lv_iand hx hb dJ6_bitCount_0f7a4_51 ?_
  exact endR hx hb hr hlocks rfl (by rfl) dJ6_bitCount_0f7a4_52
set_option maxHeartbeats 4000000 in
set_option maxRecDepth 100000 in
theorem c_X4_unreadAt (l : Launch) (G : va_G) (cy : Nat → ClassId) (qt : Nat) (tA : TA) (qtw : Nat) (qtn : Nat) (qtg : Nat) (qta : Nat) (qtr : Nat) (qtm : Nat) (qtt : Nat) (qts : Nat) (iA : Int32)  (hB : T_nb tA ≤ 8) : MR l yX4_unreadAt cX4_unreadAt 4 (some .int) 2 G cy [zzO qt 3 [.int (nI (T_nb tA)), .int (nI (T_np tA)), .int (wb (T_wh tA)), .int (wb (T_gn tA)), .int (T_sd tA), .ref qtw, .ref qtn, .ref qtg, .ref qta, .ref qtr, .ref qtm, .ref qtt, .ref qts], zzI cy qtw 8 (T_wo tA), zzI cy qtn 8 (T_ne tA), zzI cy qtg 8 (T_go tA), zzI cy qta 8 (T_ag tA), zzI cy qtr 8 (T_re tA), zzI cy qtm 8 (T_me tA), zzI cy qtt 8 (T_te tA), zzI cy qts 64 (shF (T_kn tA))] [.ref qt, .int iA] (vp_Si (fun r => (r = (zua tA iA)))) := by
  refine enR RX4 (by decide) rfl (Nat.le_of_ble_eq_true rfl) (fun p e s m below meth c ls hx hb hml hown hts hr hlocks hP hN hl => ?_)
  have hK := hN.1
  replace hl : lv_has ls 4 [(0, .ref qt), (1, .int iA)] := hl
  refine lv_iconst (v := 0) hx hb dX4_unreadAt_0 (by decide) ?_
  refine lv_istore_n (lv' := [(2, .int 0), (0, .ref qt), (1, .int iA)]) hx hb dX4_unreadAt_1 rfl hl (by decide) rfl (fun ls => ?_)
  clear hl
  intro hl
  refine lv_iconst (v := 0) hx hb dX4_unreadAt_2 (by decide) ?_
  refine lv_istore_n (lv' := [(3, .int 0), (2, .int 0), (0, .ref qt), (1, .int iA)]) hx hb dX4_unreadAt_3 rfl hl (by decide) rfl (fun ls => ?_)
  clear hl
  intro hl
  have lp_1 : ∀ (n_2 : Nat) (j_4 : Nat) (xC_5 : Int32), 8 - j_4 < n_2 → j_4 ≤ T_nb tA → uaG tA iA (T_nb tA - j_4) j_4 xC_5 = zua tA iA → ∀ (ls : Array Slot), lv_has ls 4 [(3, .int (nI j_4)), (2, .int xC_5), (0, .ref qt), (1, .int iA)] → W p l e (Rm 2 0 0) s m (List.toArray (α := Value) [.ref qt, .int iA]) below meth c s.heap [] 0 0 (MQ below (vp_Si (fun r => (r = (zua tA iA)))) (List.toArray (α := Value) [.ref qt, .int iA]) s 0 0 (fun _ => False)) (F0 m 4 ls []) := by
    intro n_2
    induction n_2 with
    | zero => intro j_4 xC_5 hm9; exact absurd hm9 (Nat.not_lt_zero _)
    | succ n_2 ih_3 =>
      intro j_4 xC_5 hm_8 hj_6 hT_7 ls hl
      refine lv_iload_n hx hb dX4_unreadAt_4 rfl (lv_at hl 0 rfl) ?_
      refine lv_aload_n hx hb dX4_unreadAt_5 rfl (lv_at hl 2 rfl) ?_
      refine va_get (D := G) (ci := 3) (v := .int (nI (T_nb tA))) (C := RX4) (T := TX4) (N := 13) hx hb hts iX_X4 hown hK hP 0 rfl rfl 0 (by decide) (hts _ m_t29) (fun _ h9 => h9) rfl dX4_unreadAt_6 ?_
      refine lv_icmp_ge (tgt := 39) hx hb dX4_unreadAt_9 (by decide) (fun c_9 => ?_) (fun c_9 => ?_)
      · have hlt_10 : j_4 = T_nb tA := Nat.le_antisymm (by omega) (lp_ge rfl rfl (by omega) (by omega) c_9)
        refine lv_iconst (v := (-1)) hx hb dX4_unreadAt_39 (by decide) ?_
        exact endR hx hb hr hlocks rfl (by rw [← hT_7, hlt_10, Nat.sub_self]; rfl) dX4_unreadAt_40
      · have hlt_11 : j_4 < T_nb tA := lp_lt rfl rfl (by omega) (by omega) c_9
        refine lv_aload_n hx hb dX4_unreadAt_12 rfl (lv_at hl 2 rfl) ?_
        refine va_get (D := G) (ci := 3) (v := .int (wb (T_wh tA))) (C := RX4) (T := TX4) (N := 13) hx hb hts iX_X4 hown hK hP 0 rfl rfl 2 (by decide) (hts _ m_t39) (fun _ h9 => h9) rfl dX4_unreadAt_13 ?_
        refine lv_iload_n hx hb dX4_unreadAt_16 rfl (lv_at hl 0 rfl) ?_
        refine kRi (rSN (As := [.int (wb (T_wh tA)), .int (nI j_4)]) (rest := []) ⟨hx, hb, hml, hown, hts⟩ hN (c_X5_has l G cy (wb (T_wh tA)) j_4) L_X4_62 (preRS hN hP [] rfl) rfl ⟨Nat.le_of_ble_eq_true rfl, Nat.le_of_ble_eq_true rfl⟩ hl.1 (Nat.le_of_ble_eq_true rfl) dX4_unreadAt_17 ⟨Nat.le_of_ble_eq_true rfl, Nat.le_of_ble_eq_true rfl⟩) (fun r_12 h_13 => ?_)
        rcases h_13 with ⟨rfl, h_14⟩ | ⟨rfl, h_14⟩
        · rw [bit_wb _ (by omega)] at h_14
          refine lv_if_ne (tgt := 33) hx hb dX4_unreadAt_20 (by decide) (fun _ => ?_) (fun h9 => absurd h9 (by decide))
          refine lv_iinc (v := nI (j_4 + 1)) (lv' := [(3, .int (nI (j_4 + 1))), (2, .int xC_5), (0, .ref qt), (1, .int iA)]) hx hb dX4_unreadAt_33 hl (k := 0) rfl (nI_1 _) (by decide) rfl (fun ls => ?_)
          clear hl
          intro hl
          refine lv_goto (tgt := 4) hx hb dX4_unreadAt_36 (by decide) ?_
          exact ih_3 (j_4 + 1) xC_5 (by omega) (by omega) (by rw [← hT_7, show T_nb tA - j_4 = T_nb tA - (j_4 + 1) + 1 by omega, ua_white h_14]) _ (lv_sub hl [0, 1, 2, 3] rfl)
        · rw [bit_wb _ (by omega)] at h_14
          refine lv_if_ne (tgt := 33) hx hb dX4_unreadAt_20 (by decide) (fun h9 => absurd (by decide) h9) (fun _ => ?_)
          refine lv_iload_n hx hb dX4_unreadAt_23 rfl (lv_at hl 1 rfl) ?_
          refine lv_iload_n hx hb dX4_unreadAt_24 rfl (lv_at hl 3 rfl) ?_
          refine lv_icmp_ne (tgt := 30) hx hb dX4_unreadAt_25 (by decide) (fun c_17 => ?_) (fun c_17 => ?_)
          · refine lv_iinc (v := xC_5 + 1) (lv' := [(2, .int (xC_5 + 1)), (3, .int (nI j_4)), (0, .ref qt), (1, .int iA)]) hx hb dX4_unreadAt_30 hl (k := 1) rfl (rfl) (by decide) rfl (fun ls => ?_)
            clear hl
            intro hl
            refine lv_iinc (v := nI (j_4 + 1)) (lv' := [(3, .int (nI (j_4 + 1))), (2, .int (xC_5 + 1)), (0, .ref qt), (1, .int iA)]) hx hb dX4_unreadAt_33 hl (k := 1) rfl (nI_1 _) (by decide) rfl (fun ls => ?_)
            clear hl
            intro hl
            refine lv_goto (tgt := 4) hx hb dX4_unreadAt_36 (by decide) ?_
            exact ih_3 (j_4 + 1) (xC_5 + 1) (by omega) (by omega) (by rw [← hT_7, show T_nb tA - j_4 = T_nb tA - (j_4 + 1) + 1 by omega, ua_pass h_14 c_17]) _ (lv_sub hl [0, 1, 2, 3] rfl)
          · refine lv_iload_n hx hb dX4_unreadAt_28 rfl (lv_at hl 0 rfl) ?_
            exact endR hx hb hr hlocks rfl (by rw [← hT_7, show T_nb tA - j_4 = T_nb tA - (j_4 + 1) + 1 by omega, ua_hit h_14 c_17]) dX4_unreadAt_29
  exact lp_1 ((8 - 0) + 1) 0 0 (Nat.lt_succ_self _) (Nat.zero_le _) rfl ls (lv_sub hl [0, 1, 2, 3] rfl)
set_option maxHeartbeats 4000000 in
set_option maxRecDepth 100000 in
theorem c_X4_allNeededBy (l : Launch) (G : va_G) (cy : Nat → ClassId) (qt : Nat) (tA : TA) (qtw : Nat) (qtn : Nat) (qtg : Nat) (qta : Nat) (qtr : Nat) (qtm : Nat) (qtt : Nat) (qts : Nat) (kB : Nat)  (hJ : kB < 8) : MR l yX4_allNeededBy cX4_allNeededBy 4 (some .int) 2 G cy [zzO qt 3 [.int (nI (T_nb tA)), .int (nI (T_np tA)), .int (wb (T_wh tA)), .int (wb (T_gn tA)), .int (T_sd tA), .ref qtw, .ref qtn, .ref qtg, .ref qta, .ref qtr, .ref qtm, .ref qtt, .ref qts], zzI cy qtw 8 (T_wo tA), zzI cy qtn 8 (T_ne tA), zzI cy qtg 8 (T_go tA), zzI cy qta 8 (T_ag tA), zzI cy qtr 8 (T_re tA), zzI cy qtm 8 (T_me tA), zzI cy qtt 8 (T_te tA), zzI cy qts 64 (shF (T_kn tA))] [.ref qt, .int (nI kB)] (vp_Si (fun r => (r = (zan tA kB)))) := by
  refine enR RX4 (by decide) rfl (Nat.le_of_ble_eq_true rfl) (fun p e s m below meth c ls hx hb hml hown hts hr hlocks hP hN hl => ?_)
  have hK := hN.1
  replace hl : lv_has ls 4 [(0, .ref qt), (1, .int (nI kB))] := hl
  refine lv_aload_n hx hb dX4_allNeededBy_0 rfl (lv_at hl 0 rfl) ?_
  refine va_get (D := G) (ci := 3) (v := .ref qtn) (C := RX4) (T := TX4) (N := 13) hx hb hts iX_X4 hown hK hP 0 rfl rfl 6 (by decide) (hts _ m_t50) (fun _ h9 => h9) rfl dX4_allNeededBy_1 ?_
  refine lv_iload_n hx hb dX4_allNeededBy_4 rfl (lv_at hl 1 rfl) ?_
  refine va_iald hx hb hK hP 2 0 rfl rfl (in8 (by omega)) dX4_allNeededBy_5 ?_
  refine lv_seti (v := (T_ne tA) kB) (congrArg (T_ne tA) (cl8 (by omega))) ?_
  refine lv_istore_n (lv' := [(2, .int ((T_ne tA) kB)), (0, .ref qt), (1, .int (nI kB))]) hx hb dX4_allNeededBy_6 rfl hl (by decide) rfl (fun ls => ?_)
  clear hl
  intro hl
  refine lv_iload_n hx hb dX4_allNeededBy_7 rfl (lv_at hl 2 rfl) ?_
  refine lv_iconst (v := 1) hx hb dX4_allNeededBy_8 (by decide) ?_
  refine lv_isub hx hb dX4_allNeededBy_9 ?_
  refine lv_istore_n (lv' := [(3, .int ((nI kB) - 1)), (2, .int ((T_ne tA) kB)), (0, .ref qt), (1, .int (nI kB))]) hx hb dX4_allNeededBy_10 rfl hl (by decide) rfl (fun ls => ?_)
  clear hl
  intro hl
  have lp_1 : ∀ (n_2 : Nat) (j_4 : Nat) (xS_5 : Int32), j_4 < n_2 → j_4 ≤ kB → anF tA j_4 xS_5 = zan tA kB → ∀ (ls : Array Slot), lv_has ls 4 [(3, .int (nI j_4 - 1)), (2, .int xS_5), (0, .ref qt), (1, .int (nI kB))] → W p l e (Rm 2 0 0) s m (List.toArray (α := Value) [.ref qt, .int (nI kB)]) below meth c s.heap [] 0 0 (MQ below (vp_Si (fun r => (r = (zan tA kB)))) (List.toArray (α := Value) [.ref qt, .int (nI kB)]) s 0 0 (fun _ => False)) (F0 m 11 ls []) := by
    intro n_2
    induction n_2 with
    | zero => intro j_4 xS_5 hm9; exact absurd hm9 (Nat.not_lt_zero _)
    | succ n_2 ih_3 =>
      intro j_4 xS_5 hm_8 hj_6 hT_7 ls hl
      refine lv_iload_n hx hb dX4_allNeededBy_11 rfl (lv_at hl 0 rfl) ?_
      refine lv_if_lt (tgt := 38) hx hb dX4_allNeededBy_12 (by decide) (fun c_9 => ?_) (fun c_9 => ?_)
      · have hz_10 : j_4 = 0 := m1_neg (by omega) c_9
        refine lv_iload_n hx hb dX4_allNeededBy_38 rfl (lv_at hl 1 rfl) ?_
        exact endR hx hb hr hlocks rfl (by rw [← hT_7, hz_10]; rfl) dX4_allNeededBy_39
      · obtain ⟨m_11, em_12⟩ := m1_pos c_9
        subst em_12
        rw [nI_pred] at hl
        refine lv_iload_n hx hb dX4_allNeededBy_15 rfl (lv_at hl 1 rfl) ?_
        refine lv_iload_n hx hb dX4_allNeededBy_16 rfl (lv_at hl 0 rfl) ?_
        refine kRi (rSN (As := [.int xS_5, .int (nI m_11)]) (rest := []) ⟨hx, hb, hml, hown, hts⟩ hN (c_X5_has l G cy xS_5 m_11) L_X4_62 (preRS hN hP [] rfl) rfl ⟨Nat.le_of_ble_eq_true rfl, Nat.le_of_ble_eq_true rfl⟩ hl.1 (Nat.le_of_ble_eq_true rfl) dX4_allNeededBy_17 ⟨Nat.le_of_ble_eq_true rfl, Nat.le_of_ble_eq_true rfl⟩) (fun r_13 h_14 => ?_)
        rcases h_14 with ⟨rfl, h_15⟩ | ⟨rfl, h_15⟩
        · refine lv_if_eq (tgt := 32) hx hb dX4_allNeededBy_20 (by decide) (fun h9 => absurd h9 (by decide)) (fun _ => ?_)
          refine lv_iload_n hx hb dX4_allNeededBy_23 rfl (lv_at hl 1 rfl) ?_
          refine lv_aload_n hx hb dX4_allNeededBy_24 rfl (lv_at hl 2 rfl) ?_
          refine va_get (D := G) (ci := 3) (v := .ref qtn) (C := RX4) (T := TX4) (N := 13) hx hb hts iX_X4 hown hK hP 0 rfl rfl 6 (by decide) (hts _ m_t50) (fun _ h9 => h9) rfl dX4_allNeededBy_25 ?_
          refine lv_iload_n hx hb dX4_allNeededBy_28 rfl (lv_at hl 0 rfl) ?_
          refine va_iald hx hb hK hP 2 0 rfl rfl (in8 (by omega)) dX4_allNeededBy_29 ?_
          refine lv_seti (v := (T_ne tA) m_11) (congrArg (T_ne tA) (cl8 (by omega))) ?_
          refine lv_ior hx hb dX4_allNeededBy_30 ?_
          refine lv_istore_n (lv' := [(2, .int (xS_5 ||| ((T_ne tA) m_11))), (3, .int (nI m_11)), (0, .ref qt), (1, .int (nI kB))]) hx hb dX4_allNeededBy_31 rfl hl (by decide) rfl (fun ls => ?_)
          clear hl
          intro hl
          refine lv_iinc (v := nI m_11 - 1) (lv' := [(3, .int (nI m_11 - 1)), (2, .int (xS_5 ||| ((T_ne tA) m_11))), (0, .ref qt), (1, .int (nI kB))]) hx hb dX4_allNeededBy_32 hl (k := 1) rfl (ii_m1 _) (by decide) rfl (fun ls => ?_)
          clear hl
          intro hl
          refine lv_goto (tgt := 11) hx hb dX4_allNeededBy_35 (by decide) ?_
          exact ih_3 m_11 (xS_5 ||| ((T_ne tA) m_11)) (by omega) (by omega) (by rw [← hT_7, an_go h_15]) _ (lv_sub hl [0, 1, 2, 3] rfl)
        · refine lv_if_eq (tgt := 32) hx hb dX4_allNeededBy_20 (by decide) (fun _ => ?_) (fun h9 => absurd (by decide) h9)
          refine lv_iinc (v := nI m_11 - 1) (lv' := [(3, .int (nI m_11 - 1)), (2, .int xS_5), (0, .ref qt), (1, .int (nI kB))]) hx hb dX4_allNeededBy_32 hl (k := 0) rfl (ii_m1 _) (by decide) rfl (fun ls => ?_)
          clear hl
          intro hl
          refine lv_goto (tgt := 11) hx hb dX4_allNeededBy_35 (by decide) ?_
          exact ih_3 m_11 xS_5 (by omega) (by omega) (by rw [← hT_7, an_no h_15]) _ (lv_sub hl [0, 1, 2, 3] rfl)
  exact lp_1 (kB + 1) kB (T_ne tA kB) (Nat.lt_succ_self _) (Nat.le_refl _) rfl ls (lv_sub hl [0, 1, 2, 3] rfl)
set_option maxHeartbeats 4000000 in
set_option maxRecDepth 100000 in
theorem c_X4_allThatNeed (l : Launch) (G : va_G) (cy : Nat → ClassId) (qt : Nat) (tA : TA) (qtw : Nat) (qtn : Nat) (qtg : Nat) (qta : Nat) (qtr : Nat) (qtm : Nat) (qtt : Nat) (qts : Nat) (kB : Nat)  (hB : T_nb tA ≤ 8) (hK2 : kB < T_nb tA) : MR l yX4_allThatNeed cX4_allThatNeed 4 (some .int) 3 G cy [zzO qt 3 [.int (nI (T_nb tA)), .int (nI (T_np tA)), .int (wb (T_wh tA)), .int (wb (T_gn tA)), .int (T_sd tA), .ref qtw, .ref qtn, .ref qtg, .ref qta, .ref qtr, .ref qtm, .ref qtt, .ref qts], zzI cy qtw 8 (T_wo tA), zzI cy qtn 8 (T_ne tA), zzI cy qtg 8 (T_go tA), zzI cy qta 8 (T_ag tA), zzI cy qtr 8 (T_re tA), zzI cy qtm 8 (T_me tA), zzI cy qtt 8 (T_te tA), zzI cy qts 64 (shF (T_kn tA))] [.ref qt, .int (nI kB)] (vp_Si (fun r => (r = (zat tA kB)))) := by
  refine enR RX4 (by decide) rfl (Nat.le_of_ble_eq_true rfl) (fun p e s m below meth c ls hx hb hml hown hts hr hlocks hP hN hl => ?_)
  have hK := hN.1
  replace hl : lv_has ls 4 [(0, .ref qt), (1, .int (nI kB))] := hl
  refine lv_iconst (v := 0) hx hb dX4_allThatNeed_0 (by decide) ?_
  refine lv_istore_n (lv' := [(2, .int 0), (0, .ref qt), (1, .int (nI kB))]) hx hb dX4_allThatNeed_1 rfl hl (by decide) rfl (fun ls => ?_)
  clear hl
  intro hl
  refine lv_iload_n hx hb dX4_allThatNeed_2 rfl (lv_at hl 2 rfl) ?_
  refine lv_iconst (v := 1) hx hb dX4_allThatNeed_3 (by decide) ?_
  refine lv_iadd hx hb dX4_allThatNeed_4 ?_
  refine lv_seti (v := nI (kB + 1)) (nI_1 _) ?_
  refine lv_istore_n (lv' := [(3, .int (nI (kB + 1))), (2, .int 0), (0, .ref qt), (1, .int (nI kB))]) hx hb dX4_allThatNeed_5 rfl hl (by decide) rfl (fun ls => ?_)
  clear hl
  intro hl
  have lp_1 : ∀ (n_2 : Nat) (j_4 : Nat) (xS_5 : Int32), 8 - j_4 < n_2 → j_4 ≤ T_nb tA → kB + 1 ≤ j_4 → xS_5 = atF tA kB j_4 → ∀ (ls : Array Slot), lv_has ls 4 [(3, .int (nI j_4)), (2, .int xS_5), (0, .ref qt), (1, .int (nI kB))] → W p l e (Rm 3 0 0) s m (List.toArray (α := Value) [.ref qt, .int (nI kB)]) below meth c s.heap [] 0 0 (MQ below (vp_Si (fun r => (r = (zat tA kB)))) (List.toArray (α := Value) [.ref qt, .int (nI kB)]) s 0 0 (fun _ => False)) (F0 m 6 ls []) := by
    intro n_2
    induction n_2 with
    | zero => intro j_4 xS_5 hm9; exact absurd hm9 (Nat.not_lt_zero _)
    | succ n_2 ih_3 =>
      intro j_4 xS_5 hm_9 hj_6 hk_7 hxS_8 ls hl
      refine lv_iload_n hx hb dX4_allThatNeed_6 rfl (lv_at hl 0 rfl) ?_
      refine lv_aload_n hx hb dX4_allThatNeed_7 rfl (lv_at hl 2 rfl) ?_
      refine va_get (D := G) (ci := 3) (v := .int (nI (T_nb tA))) (C := RX4) (T := TX4) (N := 13) hx hb hts iX_X4 hown hK hP 0 rfl rfl 0 (by decide) (hts _ m_t29) (fun _ h9 => h9) rfl dX4_allThatNeed_8 ?_
      refine lv_icmp_ge (tgt := 38) hx hb dX4_allThatNeed_11 (by decide) (fun c_10 => ?_) (fun c_10 => ?_)
      · have hlt_11 : j_4 = T_nb tA := Nat.le_antisymm (by omega) (lp_ge rfl rfl (by omega) (by omega) c_10)
        refine lv_iload_n hx hb dX4_allThatNeed_38 rfl (lv_at hl 1 rfl) ?_
        exact endR hx hb hr hlocks rfl (by rw [hxS_8, hlt_11]; rfl) dX4_allThatNeed_39
      · have hlt_12 : j_4 < T_nb tA := lp_lt rfl rfl (by omega) (by omega) c_10
        refine lv_aload_n hx hb dX4_allThatNeed_14 rfl (lv_at hl 2 rfl) ?_
        refine lv_iload_n hx hb dX4_allThatNeed_15 rfl (lv_at hl 0 rfl) ?_
        refine kRi (rV (As := [.int (nI j_4)]) (rest := []) (b := qt) ⟨hx, hb, hml, hown, hts⟩ (c_X4_allNeededBy l G cy qt tA qtw qtn qtg qta qtr qtm qtt qts j_4 (by omega)) L_X4_108 (preRV (q := (RX4, TX4, 13)) hN hP [0, 1, 2, 3, 4, 5, 6, 7, 8] rfl 0 3 rfl rfl) rfl ⟨Nat.le_of_ble_eq_true rfl, Nat.le_of_ble_eq_true rfl⟩ hl.1 (Nat.le_of_ble_eq_true rfl) dX4_allThatNeed_16 ⟨Nat.le_of_ble_eq_true rfl, Nat.le_of_ble_eq_true rfl⟩) (fun r_13 h_14 => ?_)
        subst h_14
        refine lv_iload_n hx hb dX4_allThatNeed_19 rfl (lv_at hl 3 rfl) ?_
        refine kRi (rSN (As := [.int (zan tA j_4), .int (nI kB)]) (rest := []) ⟨hx, hb, hml, hown, hts⟩ hN (c_X5_has l G cy (zan tA j_4) kB) L_X4_62 (preRS hN hP [] rfl) rfl ⟨Nat.le_of_ble_eq_true rfl, Nat.le_of_ble_eq_true rfl⟩ hl.1 (Nat.le_of_ble_eq_true rfl) dX4_allThatNeed_20 ⟨Nat.le_of_ble_eq_true rfl, Nat.le_of_ble_eq_true rfl⟩) (fun r_15 h_16 => ?_)
        rcases h_16 with ⟨rfl, h_17⟩ | ⟨rfl, h_17⟩
        · refine lv_if_eq (tgt := 32) hx hb dX4_allThatNeed_23 (by decide) (fun h9 => absurd h9 (by decide)) (fun _ => ?_)
          refine lv_iload_n hx hb dX4_allThatNeed_26 rfl (lv_at hl 1 rfl) ?_
          refine lv_iconst (v := 1) hx hb dX4_allThatNeed_27 (by decide) ?_
          refine lv_iload_n hx hb dX4_allThatNeed_28 rfl (lv_at hl 0 rfl) ?_
          refine lv_ishl hx hb dX4_allThatNeed_29 ?_
          refine lv_ior hx hb dX4_allThatNeed_30 ?_
          refine lv_istore_n (lv' := [(2, .int (xS_5 ||| (1 <<< ((nI j_4) &&& 31)))), (3, .int (nI j_4)), (0, .ref qt), (1, .int (nI kB))]) hx hb dX4_allThatNeed_31 rfl hl (by decide) rfl (fun ls => ?_)
          clear hl
          intro hl
          refine lv_iinc (v := nI (j_4 + 1)) (lv' := [(3, .int (nI (j_4 + 1))), (2, .int (xS_5 ||| (1 <<< ((nI j_4) &&& 31)))), (0, .ref qt), (1, .int (nI kB))]) hx hb dX4_allThatNeed_32 hl (k := 1) rfl (nI_1 _) (by decide) rfl (fun ls => ?_)
          clear hl
          intro hl
          refine lv_goto (tgt := 6) hx hb dX4_allThatNeed_35 (by decide) ?_
          exact ih_3 (j_4 + 1) (xS_5 ||| (1 <<< ((nI j_4) &&& 31))) (by omega) (by omega) (by omega) (by rw [at_go (by omega) h_17, hxS_8]) _ (lv_sub hl [0, 1, 2, 3] rfl)
        · refine lv_if_eq (tgt := 32) hx hb dX4_allThatNeed_23 (by decide) (fun _ => ?_) (fun h9 => absurd (by decide) h9)
          refine lv_iinc (v := nI (j_4 + 1)) (lv' := [(3, .int (nI (j_4 + 1))), (2, .int xS_5), (0, .ref qt), (1, .int (nI kB))]) hx hb dX4_allThatNeed_32 hl (k := 0) rfl (nI_1 _) (by decide) rfl (fun ls => ?_)
          clear hl
          intro hl
          refine lv_goto (tgt := 6) hx hb dX4_allThatNeed_35 (by decide) ?_
          exact ih_3 (j_4 + 1) xS_5 (by omega) (by omega) (by omega) (by rw [at_no h_17]; exact hxS_8) _ (lv_sub hl [0, 1, 2, 3] rfl)
  exact lp_1 ((8 - (kB + 1)) + 1) (kB + 1) 0 (Nat.lt_succ_self _) (by omega) (Nat.le_refl _) ((at_0 _ _ _ (Nat.le_refl _)).symm) ls (lv_sub hl [0, 1, 2, 3] rfl)
set_option maxHeartbeats 4000000 in
set_option maxRecDepth 100000 in
theorem c_X4_gainByReading (l : Launch) (G : va_G) (cy : Nat → ClassId) (qt : Nat) (tA : TA) (qtw : Nat) (qtn : Nat) (qtg : Nat) (qta : Nat) (qtr : Nat) (qtm : Nat) (qtt : Nat) (qts : Nat) (kB : Nat)  (hPp : T_np tA ≤ 8) (hJ : kB < 8) : MR l yX4_gainByReading cX4_gainByReading 3 (some .int) 4 G cy [zzO qt 3 [.int (nI (T_nb tA)), .int (nI (T_np tA)), .int (wb (T_wh tA)), .int (wb (T_gn tA)), .int (T_sd tA), .ref qtw, .ref qtn, .ref qtg, .ref qta, .ref qtr, .ref qtm, .ref qtt, .ref qts], zzI cy qtw 8 (T_wo tA), zzI cy qtn 8 (T_ne tA), zzI cy qtg 8 (T_go tA), zzI cy qta 8 (T_ag tA), zzI cy qtr 8 (T_re tA), zzI cy qtm 8 (T_me tA), zzI cy qtt 8 (T_te tA), zzI cy qts 64 (shF (T_kn tA))] [.ref qt, .int (nI kB)] (vp_Si (fun r => (r = (zgb tA kB)))) := by
  refine enR RX4 (by decide) rfl (Nat.le_of_ble_eq_true rfl) (fun p e s m below meth c ls hx hb hml hown hts hr hlocks hP hN hl => ?_)
  have hK := hN.1
  replace hl : lv_has ls 3 [(0, .ref qt), (1, .int (nI kB))] := hl
  refine lv_aload_n hx hb dX4_gainByReading_0 rfl (lv_at hl 0 rfl) ?_
  refine lv_iload_n hx hb dX4_gainByReading_1 rfl (lv_at hl 1 rfl) ?_
  refine kRi (rV (As := [.int (nI kB)]) (rest := []) (b := qt) ⟨hx, hb, hml, hown, hts⟩ (c_X4_bestReader l G cy qt tA qtw qtn qtg qta qtr qtm qtt qts kB hPp hJ) L_X4_105 (preRV (q := (RX4, TX4, 13)) hN hP [0, 1, 2, 3, 4, 5, 6, 7, 8] rfl 0 3 rfl rfl) rfl ⟨Nat.le_of_ble_eq_true rfl, Nat.le_of_ble_eq_true rfl⟩ hl.1 (Nat.le_of_ble_eq_true rfl) dX4_gainByReading_2 ⟨Nat.le_of_ble_eq_true rfl, Nat.le_of_ble_eq_true rfl⟩) (fun r_1 h_2 => ?_)
  subst h_2
  refine lv_istore_n (lv' := [(2, .int (zbr tA kB)), (0, .ref qt), (1, .int (nI kB))]) hx hb dX4_gainByReading_5 rfl hl (by decide) rfl (fun ls => ?_)
  clear hl
  intro hl
  refine lv_iload_n hx hb dX4_gainByReading_6 rfl (lv_at hl 0 rfl) ?_
  refine lv_iconst (v := (-1)) hx hb dX4_gainByReading_7 (by decide) ?_
  refine lv_icmp_ne (tgt := 15) hx hb dX4_gainByReading_8 (by decide) (fun c_3 => ?_) (fun c_3 => ?_)
  · obtain ⟨k_4, hk_5, ek_6⟩ : ∃ k : Nat, k < T_np tA ∧ zbr tA kB = nI k := (br_in tA kB (T_np tA)).resolve_left c_3
    rw [ek_6] at hl
    refine lv_aload_n hx hb dX4_gainByReading_15 rfl (lv_at hl 1 rfl) ?_
    refine va_get (D := G) (ci := 3) (v := .ref qtw) (C := RX4) (T := TX4) (N := 13) hx hb hts iX_X4 hown hK hP 0 rfl rfl 5 (by decide) (hts _ m_t48) (fun _ h9 => h9) rfl dX4_gainByReading_16 ?_
    refine lv_iload_n hx hb dX4_gainByReading_19 rfl (lv_at hl 2 rfl) ?_
    refine va_iald hx hb hK hP 1 0 rfl rfl (in8 (by omega)) dX4_gainByReading_20 ?_
    refine lv_seti (v := (T_wo tA) kB) (congrArg (T_wo tA) (cl8 (by omega))) ?_
    refine lv_aload_n hx hb dX4_gainByReading_21 rfl (lv_at hl 1 rfl) ?_
    refine lv_iload_n hx hb dX4_gainByReading_22 rfl (lv_at hl 0 rfl) ?_
    refine lv_iload_n hx hb dX4_gainByReading_23 rfl (lv_at hl 2 rfl) ?_
    refine kRi (rV (As := [.int (nI k_4), .int (nI kB)]) (rest := [.int ((T_wo tA) kB)]) (b := qt) ⟨hx, hb, hml, hown, hts⟩ (c_X4_wouldKnow l G cy qt tA qtw qtn qtg qta qtr qtm qtt qts k_4 kB (by omega) hJ) L_X4_91 (preRV (q := (RX4, TX4, 13)) hN hP [0, 2, 3, 5, 8] rfl 0 3 rfl rfl) rfl ⟨Nat.le_of_ble_eq_true rfl, Nat.le_of_ble_eq_true rfl⟩ hl.1 (Nat.le_of_ble_eq_true rfl) dX4_gainByReading_24 ⟨Nat.le_of_ble_eq_true rfl, Nat.le_of_ble_eq_true rfl⟩) (fun r_7 h_8 => ?_)
    subst h_8
    refine lv_aload_n hx hb dX4_gainByReading_27 rfl (lv_at hl 1 rfl) ?_
    refine lv_iload_n hx hb dX4_gainByReading_28 rfl (lv_at hl 2 rfl) ?_
    refine lv_aload_n hx hb dX4_gainByReading_29 rfl (lv_at hl 1 rfl) ?_
    refine kRi (rV (As := []) (rest := [.int (nI kB), .ref qt, .int (zwk tA k_4 kB), .int ((T_wo tA) kB)]) (b := qt) ⟨hx, hb, hml, hown, hts⟩ (c_X4_setThere l G cy qt tA qtw qtn qtg qta qtr qtm qtt qts hPp) L_X4_78 (preRV (q := (RX4, TX4, 13)) hN hP [0] rfl 0 3 rfl rfl) rfl ⟨Nat.le_of_ble_eq_true rfl, Nat.le_of_ble_eq_true rfl⟩ hl.1 (Nat.le_of_ble_eq_true rfl) dX4_gainByReading_30 ⟨Nat.le_of_ble_eq_true rfl, Nat.le_of_ble_eq_true rfl⟩) (fun r_9 h_10 => ?_)
    subst h_10
    refine kRi (rV (As := [.int (nI kB), .int (zthere tA)]) (rest := [.int (zwk tA k_4 kB), .int ((T_wo tA) kB)]) (b := qt) ⟨hx, hb, hml, hown, hts⟩ (c_X4_mostKnown l G cy qt tA qtw qtn qtg qta qtr qtm qtt qts kB (zthere tA) hPp hJ) L_X4_75 (preRV (q := (RX4, TX4, 13)) hN hP [0, 8] rfl 0 3 rfl rfl) rfl ⟨Nat.le_of_ble_eq_true rfl, Nat.le_of_ble_eq_true rfl⟩ hl.1 (Nat.le_of_ble_eq_true rfl) dX4_gainByReading_33 ⟨Nat.le_of_ble_eq_true rfl, Nat.le_of_ble_eq_true rfl⟩) (fun r_11 h_12 => ?_)
    subst h_12
    refine lv_isub hx hb dX4_gainByReading_36 ?_
    refine lv_imul hx hb dX4_gainByReading_37 ?_
    exact endR hx hb hr hlocks rfl (by rw [zgb, if_neg c_3, ek_6, nI_clamp (by omega)]) dX4_gainByReading_38
  · refine lv_iconst (v := 0) hx hb dX4_gainByReading_11 (by decide) ?_
    refine lv_goto (tgt := 38) hx hb dX4_gainByReading_12 (by decide) ?_
    exact endR hx hb hr hlocks rfl (by rw [zgb, if_pos c_3]) dX4_gainByReading_38
set_option maxHeartbeats 4000000 in
set_option maxRecDepth 100000 in
theorem c_X4_drawBelow20 (l : Launch) (G : va_G) (cy : Nat → ClassId) (sz : Nat) (qt : Nat) (tA : TA) (qtw : Nat) (qtn : Nat) (qtg : Nat) (qta : Nat) (qtr : Nat) (qtm : Nat) (qtt : Nat) (qts : Nat)   : MW l yX4_drawBelow20 cX4_drawBelow20 1 (some .int) 1 0 0 G cy [zzO qt 3 [.int (nI (T_nb tA)), .int (nI (T_np tA)), .int (wb (T_wh tA)), .int (wb (T_gn tA)), .int (T_sd tA), .ref qtw, .ref qtn, .ref qtg, .ref qta, .ref qtr, .ref qtm, .ref qtt, .ref qts], zzI cy qtw 8 (T_wo tA), zzI cy qtn 8 (T_ne tA), zzI cy qtg 8 (T_go tA), zzI cy qta 8 (T_ag tA), zzI cy qtr 8 (T_re tA), zzI cy qtm 8 (T_me tA), zzI cy qtt 8 (T_te tA), zzI cy qts 64 (shF (T_kn tA))] sz [.ref qt] (Wi G (fun r u => u = [zzO qt 3 [.int (nI (T_nb (T_setsd tA (ltS (T_sd tA))))), .int (nI (T_np (T_setsd tA (ltS (T_sd tA))))), .int (wb (T_wh (T_setsd tA (ltS (T_sd tA))))), .int (wb (T_gn (T_setsd tA (ltS (T_sd tA))))), .int (T_sd (T_setsd tA (ltS (T_sd tA)))), .ref qtw, .ref qtn, .ref qtg, .ref qta, .ref qtr, .ref qtm, .ref qtt, .ref qts], zzI cy qtw 8 (T_wo (T_setsd tA (ltS (T_sd tA)))), zzI cy qtn 8 (T_ne (T_setsd tA (ltS (T_sd tA)))), zzI cy qtg 8 (T_go (T_setsd tA (ltS (T_sd tA)))), zzI cy qta 8 (T_ag (T_setsd tA (ltS (T_sd tA)))), zzI cy qtr 8 (T_re (T_setsd tA (ltS (T_sd tA)))), zzI cy qtm 8 (T_me (T_setsd tA (ltS (T_sd tA)))), zzI cy qtt 8 (T_te (T_setsd tA (ltS (T_sd tA)))), zzI cy qts 64 (shF (T_kn (T_setsd tA (ltS (T_sd tA)))))] ∧ ((r = (ltR (T_sd tA)))))) := by
  refine enW RX4 (by decide) rfl (Nat.le_of_ble_eq_true rfl) (fun p e s m below meth c ls A hx hb hml hown hts hr hlocks hP hN hl hin hD hA hS => ?_)
  have hin : meth.name = _ := hin
  have hK := hN.1
  replace hl : lv_has ls 1 [(0, .ref qt)] := hl
  refine lv_aload_n hx hb dX4_drawBelow20_0 rfl (lv_at hl 0 rfl) ?_
  refine lv_aload_n hx hb dX4_drawBelow20_1 rfl (lv_at hl 0 rfl) ?_
  refine va_get (D := G) (ci := 3) (v := .int (T_sd tA)) (C := RX4) (T := TX4) (N := 13) hx hb hts iX_X4 hown hK hP 0 rfl rfl 4 (by decide) (hts _ m_t46) (fun _ h9 => h9) rfl dX4_drawBelow20_2 ?_
  refine lv_ldc hx hb hown (hts _ m_t810) dX4_drawBelow20_5 ?_
  refine lv_imul hx hb dX4_drawBelow20_7 ?_
  refine lv_sipush (v := 12345) hx hb dX4_drawBelow20_8 (by decide) ?_
  refine lv_iadd hx hb dX4_drawBelow20_11 ?_
  refine lv_seti (v := ltS (T_sd tA)) (ltS_eq _) ?_
  refine va_put (D := G) (ci := 3) (v := .int (ltS (T_sd tA))) (ty := .int) (C := RX4) (T := TX4) (N := 13) hx hb hts iX_X4 tyX4 tyX4_ok nmX4 hown hK hP hD hS 0 rfl rfl 4 (by decide) (hts _ m_t46) (fun _ h9 => h9) rfl (by decide +kernel) rfl rfl (Nat.le_of_ble_eq_true rfl) dX4_drawBelow20_12 (fun H locs => ?_)
  clear hP hD hS
  intro hP hD hS
  have hPD := pd_as [zzO qt 3 [.int (nI (T_nb tA)), .int (nI (T_np tA)), .int (wb (T_wh tA)), .int (wb (T_gn tA)), .int (ltS (T_sd tA)), .ref qtw, .ref qtn, .ref qtg, .ref qta, .ref qtr, .ref qtm, .ref qtt, .ref qts], zzI cy qtw 8 (T_wo tA), zzI cy qtn 8 (T_ne tA), zzI cy qtg 8 (T_go tA), zzI cy qta 8 (T_ag tA), zzI cy qtr 8 (T_re tA), zzI cy qtm 8 (T_me tA), zzI cy qtt 8 (T_te tA), zzI cy qts 64 (shF (T_kn tA))] hP hD rfl
  clear hP hD
  obtain ⟨hP, hD⟩ := hPD
  refine lv_aload_n hx hb dX4_drawBelow20_15 rfl (lv_at hl 0 rfl) ?_
  refine va_get (D := G) (ci := 3) (v := .int (ltS (T_sd tA))) (C := RX4) (T := TX4) (N := 13) hx hb hts iX_X4 hown hK hP 0 rfl rfl 4 (by decide) (hts _ m_t46) (fun _ h9 => h9) rfl dX4_drawBelow20_16 ?_
  refine lv_bipush (v := 16) hx hb dX4_drawBelow20_19 (by decide) ?_
  refine lv_iushr (v := ((ltS (T_sd tA)).toUInt32 >>> (Int32.toUInt32 16 &&& Int32.toUInt32 31)).toInt32) hx hb dX4_drawBelow20_21 (rfl) ?_
  refine lv_seti (v := ltD (T_sd tA)) (ltD_eq _) ?_
  refine lv_bipush (v := 20) hx hb dX4_drawBelow20_22 (by decide) ?_
  refine lv_irem hx hb dX4_drawBelow20_24 (by decide) ?_
  refine lv_seti (v := ltR (T_sd tA)) (ltR_eq _) ?_
  exact endW (u := [zzO qt 3 [.int (nI (T_nb tA)), .int (nI (T_np tA)), .int (wb (T_wh tA)), .int (wb (T_gn tA)), .int (ltS (T_sd tA)), .ref qtw, .ref qtn, .ref qtg, .ref qta, .ref qtr, .ref qtm, .ref qtt, .ref qts], zzI cy qtw 8 (T_wo tA), zzI cy qtn 8 (T_ne tA), zzI cy qtg 8 (T_go tA), zzI cy qta 8 (T_ag tA), zzI cy qtr 8 (T_re tA), zzI cy qtm 8 (T_me tA), zzI cy qtt 8 (T_te tA), zzI cy qts 64 (shF (T_kn tA))]) hx hb hr hlocks rfl (hP.sub [0, 1, 2, 3, 4, 5, 6, 7, 8] rfl) (hD.sub [0, 1, 2, 3, 4, 5, 6, 7, 8] (by decide +kernel) rfl) hS ⟨rfl, rfl⟩ dX4_drawBelow20_25
set_option maxHeartbeats 4000000 in
set_option maxRecDepth 100000 in
theorem c_X4_forget (l : Launch) (G : va_G) (cy : Nat → ClassId) (sz : Nat) (qt : Nat) (tA : TA) (qtw : Nat) (qtn : Nat) (qtg : Nat) (qta : Nat) (qtr : Nat) (qtm : Nat) (qtt : Nat) (qts : Nat) (kI : Nat)  (hI : kI < 8) (hB : T_nb tA ≤ 8) : MW l yX4_forget cX4_forget 4 none 3 0 0 G cy [zzO qt 3 [.int (nI (T_nb tA)), .int (nI (T_np tA)), .int (wb (T_wh tA)), .int (wb (T_gn tA)), .int (T_sd tA), .ref qtw, .ref qtn, .ref qtg, .ref qta, .ref qtr, .ref qtm, .ref qtt, .ref qts], zzI cy qtw 8 (T_wo tA), zzI cy qtn 8 (T_ne tA), zzI cy qtg 8 (T_go tA), zzI cy qta 8 (T_ag tA), zzI cy qtr 8 (T_re tA), zzI cy qtm 8 (T_me tA), zzI cy qtt 8 (T_te tA), zzI cy qts 64 (shF (T_kn tA))] sz [.ref qt, .int (nI kI)] (Wv G (fun u => u = [zzO qt 3 [.int (nI (T_nb (fgT tA kI))), .int (nI (T_np (fgT tA kI))), .int (wb (T_wh (fgT tA kI))), .int (wb (T_gn (fgT tA kI))), .int (T_sd (fgT tA kI)), .ref qtw, .ref qtn, .ref qtg, .ref qta, .ref qtr, .ref qtm, .ref qtt, .ref qts], zzI cy qtw 8 (T_wo (fgT tA kI)), zzI cy qtn 8 (T_ne (fgT tA kI)), zzI cy qtg 8 (T_go (fgT tA kI)), zzI cy qta 8 (T_ag (fgT tA kI)), zzI cy qtr 8 (T_re (fgT tA kI)), zzI cy qtm 8 (T_me (fgT tA kI)), zzI cy qtt 8 (T_te (fgT tA kI)), zzI cy qts 64 (shF (T_kn (fgT tA kI)))])) := by
  refine enW RX4 (by decide) rfl (Nat.le_of_ble_eq_true rfl) (fun p e s m below meth c ls A hx hb hml hown hts hr hlocks hP hN hl hin hD hA hS => ?_)
  have hin : meth.name = _ := hin
  have hK := hN.1
  replace hl : lv_has ls 4 [(0, .ref qt), (1, .int (nI kI))] := hl
  refine lv_aload_n hx hb dX4_forget_0 rfl (lv_at hl 0 rfl) ?_
  refine va_get (D := G) (ci := 3) (v := .int (wb (T_gn tA))) (C := RX4) (T := TX4) (N := 13) hx hb hts iX_X4 hown hK hP 0 rfl rfl 3 (by decide) (hts _ m_t43) (fun _ h9 => h9) rfl dX4_forget_1 ?_
  refine lv_iload_n hx hb dX4_forget_4 rfl (lv_at hl 1 rfl) ?_
  refine kRi (rSN (As := [.int (wb (T_gn tA)), .int (nI kI)]) (rest := []) ⟨hx, hb, hml, hown, hts⟩ hN (c_X5_has l G cy (wb (T_gn tA)) kI) L_X4_62 (preRS hN hP [] rfl) rfl ⟨Nat.le_of_ble_eq_true rfl, Nat.le_of_ble_eq_true rfl⟩ hl.1 (Nat.le_of_ble_eq_true rfl) dX4_forget_5 ⟨Nat.le_of_ble_eq_true rfl, Nat.le_of_ble_eq_true rfl⟩) (fun r_1 h_2 => ?_)
  rcases h_2 with ⟨rfl, h_3⟩ | ⟨rfl, h_3⟩
  · rw [bit_wb _ (by omega)] at h_3
    refine lv_if_eq (tgt := 15) hx hb dX4_forget_8 (by decide) (fun h9 => absurd h9 (by decide)) (fun _ => ?_)
    refine lv_iconst (v := 0) hx hb dX4_forget_11 (by decide) ?_
    refine lv_goto (tgt := 24) hx hb dX4_forget_12 (by decide) ?_
    refine lv_istore_n (lv' := [(2, .int 0), (0, .ref qt), (1, .int (nI kI))]) hx hb dX4_forget_24 rfl hl (by decide) rfl (fun ls => ?_)
    clear hl
    intro hl
    refine lv_iconst (v := 0) hx hb dX4_forget_25 (by decide) ?_
    refine lv_istore_n (lv' := [(3, .int 0), (2, .int 0), (0, .ref qt), (1, .int (nI kI))]) hx hb dX4_forget_26 rfl hl (by decide) rfl (fun ls => ?_)
    clear hl
    intro hl
    have lp_5 : ∀ (n_6 : Nat) (j_8 : Nat) (tJ_9 : TA), 8 - j_8 < n_6 → j_8 ≤ T_nb tA → tJ_9 = T_setkn tA (fgK (T_kn tA) kI 0 j_8) → ∀ (H : Heap) (locs : List Loc) (ls : Array Slot), va_P G CL [zzO qt 3 [.int (nI (T_nb tJ_9)), .int (nI (T_np tJ_9)), .int (wb (T_wh tJ_9)), .int (wb (T_gn tJ_9)), .int (T_sd tJ_9), .ref qtw, .ref qtn, .ref qtg, .ref qta, .ref qtr, .ref qtm, .ref qtt, .ref qts], zzI cy qtw 8 (T_wo tJ_9), zzI cy qtn 8 (T_ne tJ_9), zzI cy qtg 8 (T_go tJ_9), zzI cy qta 8 (T_ag tJ_9), zzI cy qtr 8 (T_re tJ_9), zzI cy qtm 8 (T_me tJ_9), zzI cy qtt 8 (T_te tJ_9), zzI cy qts 64 (shF (T_kn tJ_9))] H → va_D A [zzO qt 3 [.int (nI (T_nb tJ_9)), .int (nI (T_np tJ_9)), .int (wb (T_wh tJ_9)), .int (wb (T_gn tJ_9)), .int (T_sd tJ_9), .ref qtw, .ref qtn, .ref qtg, .ref qta, .ref qtr, .ref qtm, .ref qtt, .ref qts], zzI cy qtw 8 (T_wo tJ_9), zzI cy qtn 8 (T_ne tJ_9), zzI cy qtg 8 (T_go tJ_9), zzI cy qta 8 (T_ag tJ_9), zzI cy qtr 8 (T_re tJ_9), zzI cy qtm 8 (T_me tJ_9), zzI cy qtt 8 (T_te tJ_9), zzI cy qts 64 (shF (T_kn tJ_9))] → va_S A s.heap H locs → lv_has ls 4 [(3, .int (nI j_8)), (2, .int 0), (0, .ref qt), (1, .int (nI kI))] → W p l e (Rm 3 0 0) s m (List.toArray (α := Value) [.ref qt, .int (nI kI)]) below meth c H locs 0 0 (MQ below ((Wv G (fun u => u = [zzO qt 3 [.int (nI (T_nb (fgT tA kI))), .int (nI (T_np (fgT tA kI))), .int (wb (T_wh (fgT tA kI))), .int (wb (T_gn (fgT tA kI))), .int (T_sd (fgT tA kI)), .ref qtw, .ref qtn, .ref qtg, .ref qta, .ref qtr, .ref qtm, .ref qtt, .ref qts], zzI cy qtw 8 (T_wo (fgT tA kI)), zzI cy qtn 8 (T_ne (fgT tA kI)), zzI cy qtg 8 (T_go (fgT tA kI)), zzI cy qta 8 (T_ag (fgT tA kI)), zzI cy qtr 8 (T_re (fgT tA kI)), zzI cy qtm 8 (T_me (fgT tA kI)), zzI cy qtt 8 (T_te (fgT tA kI)), zzI cy qts 64 (shF (T_kn (fgT tA kI)))])) A) (List.toArray (α := Value) [.ref qt, .int (nI kI)]) s 0 0 A) (F0 m 27 ls []) := by
      intro n_6
      induction n_6 with
      | zero => intro j_8 tJ_9 hm9; exact absurd hm9 (Nat.not_lt_zero _)
      | succ n_6 ih_7 =>
        intro j_8 tJ_9 hm_12 hj_10 htJ_11 H locs ls hP hD hS hl
        refine lv_iload_n hx hb dX4_forget_27 rfl (lv_at hl 0 rfl) ?_
        refine lv_aload_n hx hb dX4_forget_28 rfl (lv_at hl 2 rfl) ?_
        refine va_get (D := G) (ci := 3) (v := .int (nI (T_nb tJ_9))) (C := RX4) (T := TX4) (N := 13) hx hb hts iX_X4 hown hK hP 0 rfl rfl 0 (by decide) (hts _ m_t29) (fun _ h9 => h9) rfl dX4_forget_29 ?_
        refine lv_icmp_ge (tgt := 58) hx hb dX4_forget_32 (by decide) (fun c_13 => ?_) (fun c_13 => ?_)
        · have hlt_14e : T_nb tJ_9 = T_nb tA := by rw [htJ_11]
          have hlt_14 : j_8 = T_nb tA := Nat.le_antisymm (by omega) (by rw [hlt_14e] at c_13; exact lp_ge rfl rfl (by omega) (by omega) c_13)
          have e9_15 : tJ_9 = fgT tA kI := by rw [htJ_11, hlt_14, fgT, if_pos h_3]
          subst e9_15
          exact endV (u := [zzO qt 3 [.int (nI (T_nb (fgT tA kI))), .int (nI (T_np (fgT tA kI))), .int (wb (T_wh (fgT tA kI))), .int (wb (T_gn (fgT tA kI))), .int (T_sd (fgT tA kI)), .ref qtw, .ref qtn, .ref qtg, .ref qta, .ref qtr, .ref qtm, .ref qtt, .ref qts], zzI cy qtw 8 (T_wo (fgT tA kI)), zzI cy qtn 8 (T_ne (fgT tA kI)), zzI cy qtg 8 (T_go (fgT tA kI)), zzI cy qta 8 (T_ag (fgT tA kI)), zzI cy qtr 8 (T_re (fgT tA kI)), zzI cy qtm 8 (T_me (fgT tA kI)), zzI cy qtt 8 (T_te (fgT tA kI)), zzI cy qts 64 (shF (T_kn (fgT tA kI)))]) hx hb hr hlocks (hP.sub [0, 1, 2, 3, 4, 5, 6, 7, 8] rfl) (hD.sub [0, 1, 2, 3, 4, 5, 6, 7, 8] (by decide +kernel) rfl) hS rfl dX4_forget_58
        · have hlt_16e : T_nb tJ_9 = T_nb tA := by rw [htJ_11]
          have hlt_16 : j_8 < T_nb tA := by rw [hlt_16e] at c_13; exact lp_lt rfl rfl (by omega) (by omega) c_13
          refine lv_aload_n hx hb dX4_forget_35 rfl (lv_at hl 2 rfl) ?_
          refine lv_iload_n hx hb dX4_forget_36 rfl (lv_at hl 3 rfl) ?_
          refine lv_iload_n hx hb dX4_forget_37 rfl (lv_at hl 0 rfl) ?_
          refine lv_aload_n hx hb dX4_forget_38 rfl (lv_at hl 2 rfl) ?_
          refine lv_iload_n hx hb dX4_forget_39 rfl (lv_at hl 3 rfl) ?_
          refine lv_iload_n hx hb dX4_forget_40 rfl (lv_at hl 0 rfl) ?_
          refine kRi (rV (As := [.int (nI kI), .int (nI j_8)]) (rest := [.int (nI j_8), .int (nI kI), .ref qt]) (b := qt) ⟨hx, hb, hml, hown, hts⟩ (c_X4_knows l G cy qt tJ_9 qtw qtn qtg qta qtr qtm qtt qts kI j_8 hI (by omega)) L_X4_66 (preRV (q := (RX4, TX4, 13)) hN hP [0, 8] rfl 0 3 rfl rfl) rfl ⟨Nat.le_of_ble_eq_true rfl, Nat.le_of_ble_eq_true rfl⟩ hl.1 (Nat.le_of_ble_eq_true rfl) dX4_forget_41 ⟨Nat.le_of_ble_eq_true rfl, Nat.le_of_ble_eq_true rfl⟩) (fun r_17 h_18 => ?_)
          subst h_18
          refine lv_iload_n hx hb dX4_forget_44 rfl (lv_at hl 1 rfl) ?_
          refine lv_imul hx hb dX4_forget_45 ?_
          refine lv_bipush (v := 100) hx hb dX4_forget_46 (by decide) ?_
          refine lv_idiv hx hb dX4_forget_48 (by decide) ?_
          refine cVv (As := [.int (nI kI), .int (nI j_8), .int (((T_kn tJ_9 kI j_8) * 0) / 100)]) (rest := []) (b := qt) (q := (RX4, TX4, 13)) ⟨hx, hb, hml, hown, hts⟩ (c_X4_learn l G cy (H).size qt tJ_9 qtw qtn qtg qta qtr qtm qtt qts kI j_8 (((T_kn tJ_9 kI j_8) * 0) / 100) hI (by omega)) L_X4_94 hN hP hD hS hA [0, 8] [false, true, true, true, true, true, true, true, false] rfl (by decide +kernel) rfl 0 3 rfl rfl rfl ⟨Nat.le_of_ble_eq_true rfl, Nat.le_of_ble_eq_true rfl⟩ hl.1 (Nat.le_of_ble_eq_true rfl) dX4_forget_49 ⟨Nat.le_of_ble_eq_true rfl, Nat.le_of_ble_eq_true rfl⟩ (fun u_21 H locs h_20 => ?_)
          clear hP hD hS
          intro hP hD hS
          subst h_20
          have hPD := pd_as [zzI cy qtw 8 (T_wo (T_setkn tJ_9 (updM (T_kn tJ_9) kI j_8 (((T_kn tJ_9 kI j_8) * 0) / 100)))), zzI cy qtn 8 (T_ne (T_setkn tJ_9 (updM (T_kn tJ_9) kI j_8 (((T_kn tJ_9 kI j_8) * 0) / 100)))), zzI cy qtg 8 (T_go (T_setkn tJ_9 (updM (T_kn tJ_9) kI j_8 (((T_kn tJ_9 kI j_8) * 0) / 100)))), zzI cy qta 8 (T_ag (T_setkn tJ_9 (updM (T_kn tJ_9) kI j_8 (((T_kn tJ_9 kI j_8) * 0) / 100)))), zzI cy qtr 8 (T_re (T_setkn tJ_9 (updM (T_kn tJ_9) kI j_8 (((T_kn tJ_9 kI j_8) * 0) / 100)))), zzI cy qtm 8 (T_me (T_setkn tJ_9 (updM (T_kn tJ_9) kI j_8 (((T_kn tJ_9 kI j_8) * 0) / 100)))), zzI cy qtt 8 (T_te (T_setkn tJ_9 (updM (T_kn tJ_9) kI j_8 (((T_kn tJ_9 kI j_8) * 0) / 100)))), zzO qt 3 [.int (nI (T_nb (T_setkn tJ_9 (updM (T_kn tJ_9) kI j_8 (((T_kn tJ_9 kI j_8) * 0) / 100))))), .int (nI (T_np (T_setkn tJ_9 (updM (T_kn tJ_9) kI j_8 (((T_kn tJ_9 kI j_8) * 0) / 100))))), .int (wb (T_wh (T_setkn tJ_9 (updM (T_kn tJ_9) kI j_8 (((T_kn tJ_9 kI j_8) * 0) / 100))))), .int (wb (T_gn (T_setkn tJ_9 (updM (T_kn tJ_9) kI j_8 (((T_kn tJ_9 kI j_8) * 0) / 100))))), .int (T_sd (T_setkn tJ_9 (updM (T_kn tJ_9) kI j_8 (((T_kn tJ_9 kI j_8) * 0) / 100)))), .ref qtw, .ref qtn, .ref qtg, .ref qta, .ref qtr, .ref qtm, .ref qtt, .ref qts], zzI cy qts 64 (shF (T_kn (T_setkn tJ_9 (updM (T_kn tJ_9) kI j_8 (((T_kn tJ_9 kI j_8) * 0) / 100)))))] hP hD rfl
          clear hP hD
          obtain ⟨hP, hD⟩ := hPD
          refine lv_iinc (v := nI (j_8 + 1)) (lv' := [(3, .int (nI (j_8 + 1))), (2, .int 0), (0, .ref qt), (1, .int (nI kI))]) hx hb dX4_forget_52 hl (k := 0) rfl (nI_1 _) (by decide) rfl (fun ls => ?_)
          clear hl
          intro hl
          refine lv_goto (tgt := 27) hx hb dX4_forget_55 (by decide) ?_
          exact ih_7 (j_8 + 1) (T_setkn tJ_9 (updM (T_kn tJ_9) kI j_8 (((T_kn tJ_9 kI j_8) * 0) / 100))) (by omega) (by omega) (by rw [htJ_11]; rfl) _ _ _ (hP.sub [7, 0, 1, 2, 3, 4, 5, 6, 8] rfl) (hD.sub [7, 0, 1, 2, 3, 4, 5, 6, 8] (by decide +kernel) rfl) hS (lv_sub hl [0, 1, 2, 3] rfl)
    exact lp_5 ((8 - 0) + 1) 0 tA (Nat.lt_succ_self _) (Nat.zero_le _) rfl _ _ ls hP hD hS (lv_sub hl [0, 1, 2, 3] rfl)
  · rw [bit_wb _ (by omega)] at h_3
    refine lv_if_eq (tgt := 15) hx hb dX4_forget_8 (by decide) (fun _ => ?_) (fun h9 => absurd (by decide) h9)
    refine lv_bipush (v := 90) hx hb dX4_forget_15 (by decide) ?_
    refine lv_aload_n hx hb dX4_forget_17 rfl (lv_at hl 0 rfl) ?_
    refine va_get (D := G) (ci := 3) (v := .ref qtm) (C := RX4) (T := TX4) (N := 13) hx hb hts iX_X4 hown hK hP 0 rfl rfl 10 (by decide) (hts _ m_t60) (fun _ h9 => h9) rfl dX4_forget_18 ?_
    refine lv_iload_n hx hb dX4_forget_21 rfl (lv_at hl 1 rfl) ?_
    refine va_iald hx hb hK hP 6 0 rfl rfl (in8 (by omega)) dX4_forget_22 ?_
    refine lv_seti (v := (T_me tA) kI) (congrArg (T_me tA) (cl8 (by omega))) ?_
    refine lv_iadd hx hb dX4_forget_23 ?_
    refine lv_istore_n (lv' := [(2, .int (90 + ((T_me tA) kI))), (0, .ref qt), (1, .int (nI kI))]) hx hb dX4_forget_24 rfl hl (by decide) rfl (fun ls => ?_)
    clear hl
    intro hl
    refine lv_iconst (v := 0) hx hb dX4_forget_25 (by decide) ?_
    refine lv_istore_n (lv' := [(3, .int 0), (2, .int (90 + ((T_me tA) kI))), (0, .ref qt), (1, .int (nI kI))]) hx hb dX4_forget_26 rfl hl (by decide) rfl (fun ls => ?_)
    clear hl
    intro hl
    have lp_23 : ∀ (n_24 : Nat) (j_26 : Nat) (tJ_27 : TA), 8 - j_26 < n_24 → j_26 ≤ T_nb tA → tJ_27 = T_setkn tA (fgK (T_kn tA) kI (90 + ((T_me tA) kI)) j_26) → ∀ (H : Heap) (locs : List Loc) (ls : Array Slot), va_P G CL [zzO qt 3 [.int (nI (T_nb tJ_27)), .int (nI (T_np tJ_27)), .int (wb (T_wh tJ_27)), .int (wb (T_gn tJ_27)), .int (T_sd tJ_27), .ref qtw, .ref qtn, .ref qtg, .ref qta, .ref qtr, .ref qtm, .ref qtt, .ref qts], zzI cy qtw 8 (T_wo tJ_27), zzI cy qtn 8 (T_ne tJ_27), zzI cy qtg 8 (T_go tJ_27), zzI cy qta 8 (T_ag tJ_27), zzI cy qtr 8 (T_re tJ_27), zzI cy qtm 8 (T_me tJ_27), zzI cy qtt 8 (T_te tJ_27), zzI cy qts 64 (shF (T_kn tJ_27))] H → va_D A [zzO qt 3 [.int (nI (T_nb tJ_27)), .int (nI (T_np tJ_27)), .int (wb (T_wh tJ_27)), .int (wb (T_gn tJ_27)), .int (T_sd tJ_27), .ref qtw, .ref qtn, .ref qtg, .ref qta, .ref qtr, .ref qtm, .ref qtt, .ref qts], zzI cy qtw 8 (T_wo tJ_27), zzI cy qtn 8 (T_ne tJ_27), zzI cy qtg 8 (T_go tJ_27), zzI cy qta 8 (T_ag tJ_27), zzI cy qtr 8 (T_re tJ_27), zzI cy qtm 8 (T_me tJ_27), zzI cy qtt 8 (T_te tJ_27), zzI cy qts 64 (shF (T_kn tJ_27))] → va_S A s.heap H locs → lv_has ls 4 [(3, .int (nI j_26)), (2, .int (90 + ((T_me tA) kI))), (0, .ref qt), (1, .int (nI kI))] → W p l e (Rm 3 0 0) s m (List.toArray (α := Value) [.ref qt, .int (nI kI)]) below meth c H locs 0 0 (MQ below ((Wv G (fun u => u = [zzO qt 3 [.int (nI (T_nb (fgT tA kI))), .int (nI (T_np (fgT tA kI))), .int (wb (T_wh (fgT tA kI))), .int (wb (T_gn (fgT tA kI))), .int (T_sd (fgT tA kI)), .ref qtw, .ref qtn, .ref qtg, .ref qta, .ref qtr, .ref qtm, .ref qtt, .ref qts], zzI cy qtw 8 (T_wo (fgT tA kI)), zzI cy qtn 8 (T_ne (fgT tA kI)), zzI cy qtg 8 (T_go (fgT tA kI)), zzI cy qta 8 (T_ag (fgT tA kI)), zzI cy qtr 8 (T_re (fgT tA kI)), zzI cy qtm 8 (T_me (fgT tA kI)), zzI cy qtt 8 (T_te (fgT tA kI)), zzI cy qts 64 (shF (T_kn (fgT tA kI)))])) A) (List.toArray (α := Value) [.ref qt, .int (nI kI)]) s 0 0 A) (F0 m 27 ls []) := by
      intro n_24
      induction n_24 with
      | zero => intro j_26 tJ_27 hm9; exact absurd hm9 (Nat.not_lt_zero _)
      | succ n_24 ih_25 =>
        intro j_26 tJ_27 hm_30 hj_28 htJ_29 H locs ls hP hD hS hl
        refine lv_iload_n hx hb dX4_forget_27 rfl (lv_at hl 0 rfl) ?_
        refine lv_aload_n hx hb dX4_forget_28 rfl (lv_at hl 2 rfl) ?_
        refine va_get (D := G) (ci := 3) (v := .int (nI (T_nb tJ_27))) (C := RX4) (T := TX4) (N := 13) hx hb hts iX_X4 hown hK hP 0 rfl rfl 0 (by decide) (hts _ m_t29) (fun _ h9 => h9) rfl dX4_forget_29 ?_
        refine lv_icmp_ge (tgt := 58) hx hb dX4_forget_32 (by decide) (fun c_31 => ?_) (fun c_31 => ?_)
        · have hlt_32e : T_nb tJ_27 = T_nb tA := by rw [htJ_29]
          have hlt_32 : j_26 = T_nb tA := Nat.le_antisymm (by omega) (by rw [hlt_32e] at c_31; exact lp_ge rfl rfl (by omega) (by omega) c_31)
          have e9_33 : tJ_27 = fgT tA kI := by rw [htJ_29, hlt_32, fgT, if_neg (by rw [h_3]; decide)]
          subst e9_33
          exact endV (u := [zzO qt 3 [.int (nI (T_nb (fgT tA kI))), .int (nI (T_np (fgT tA kI))), .int (wb (T_wh (fgT tA kI))), .int (wb (T_gn (fgT tA kI))), .int (T_sd (fgT tA kI)), .ref qtw, .ref qtn, .ref qtg, .ref qta, .ref qtr, .ref qtm, .ref qtt, .ref qts], zzI cy qtw 8 (T_wo (fgT tA kI)), zzI cy qtn 8 (T_ne (fgT tA kI)), zzI cy qtg 8 (T_go (fgT tA kI)), zzI cy qta 8 (T_ag (fgT tA kI)), zzI cy qtr 8 (T_re (fgT tA kI)), zzI cy qtm 8 (T_me (fgT tA kI)), zzI cy qtt 8 (T_te (fgT tA kI)), zzI cy qts 64 (shF (T_kn (fgT tA kI)))]) hx hb hr hlocks (hP.sub [0, 1, 2, 3, 4, 5, 6, 7, 8] rfl) (hD.sub [0, 1, 2, 3, 4, 5, 6, 7, 8] (by decide +kernel) rfl) hS rfl dX4_forget_58
        · have hlt_34e : T_nb tJ_27 = T_nb tA := by rw [htJ_29]
          have hlt_34 : j_26 < T_nb tA := by rw [hlt_34e] at c_31; exact lp_lt rfl rfl (by omega) (by omega) c_31
          refine lv_aload_n hx hb dX4_forget_35 rfl (lv_at hl 2 rfl) ?_
          refine lv_iload_n hx hb dX4_forget_36 rfl (lv_at hl 3 rfl) ?_
          refine lv_iload_n hx hb dX4_forget_37 rfl (lv_at hl 0 rfl) ?_
          refine lv_aload_n hx hb dX4_forget_38 rfl (lv_at hl 2 rfl) ?_
          refine lv_iload_n hx hb dX4_forget_39 rfl (lv_at hl 3 rfl) ?_
          refine lv_iload_n hx hb dX4_forget_40 rfl (lv_at hl 0 rfl) ?_
          refine kRi (rV (As := [.int (nI kI), .int (nI j_26)]) (rest := [.int (nI j_26), .int (nI kI), .ref qt]) (b := qt) ⟨hx, hb, hml, hown, hts⟩ (c_X4_knows l G cy qt tJ_27 qtw qtn qtg qta qtr qtm qtt qts kI j_26 hI (by omega)) L_X4_66 (preRV (q := (RX4, TX4, 13)) hN hP [0, 8] rfl 0 3 rfl rfl) rfl ⟨Nat.le_of_ble_eq_true rfl, Nat.le_of_ble_eq_true rfl⟩ hl.1 (Nat.le_of_ble_eq_true rfl) dX4_forget_41 ⟨Nat.le_of_ble_eq_true rfl, Nat.le_of_ble_eq_true rfl⟩) (fun r_35 h_36 => ?_)
          subst h_36
          refine lv_iload_n hx hb dX4_forget_44 rfl (lv_at hl 1 rfl) ?_
          refine lv_imul hx hb dX4_forget_45 ?_
          refine lv_bipush (v := 100) hx hb dX4_forget_46 (by decide) ?_
          refine lv_idiv hx hb dX4_forget_48 (by decide) ?_
          refine cVv (As := [.int (nI kI), .int (nI j_26), .int (((T_kn tJ_27 kI j_26) * (90 + ((T_me tA) kI))) / 100)]) (rest := []) (b := qt) (q := (RX4, TX4, 13)) ⟨hx, hb, hml, hown, hts⟩ (c_X4_learn l G cy (H).size qt tJ_27 qtw qtn qtg qta qtr qtm qtt qts kI j_26 (((T_kn tJ_27 kI j_26) * (90 + ((T_me tA) kI))) / 100) hI (by omega)) L_X4_94 hN hP hD hS hA [0, 8] [false, true, true, true, true, true, true, true, false] rfl (by decide +kernel) rfl 0 3 rfl rfl rfl ⟨Nat.le_of_ble_eq_true rfl, Nat.le_of_ble_eq_true rfl⟩ hl.1 (Nat.le_of_ble_eq_true rfl) dX4_forget_49 ⟨Nat.le_of_ble_eq_true rfl, Nat.le_of_ble_eq_true rfl⟩ (fun u_39 H locs h_38 => ?_)
          clear hP hD hS
          intro hP hD hS
          subst h_38
          have hPD := pd_as [zzI cy qtw 8 (T_wo (T_setkn tJ_27 (updM (T_kn tJ_27) kI j_26 (((T_kn tJ_27 kI j_26) * (90 + ((T_me tA) kI))) / 100)))), zzI cy qtn 8 (T_ne (T_setkn tJ_27 (updM (T_kn tJ_27) kI j_26 (((T_kn tJ_27 kI j_26) * (90 + ((T_me tA) kI))) / 100)))), zzI cy qtg 8 (T_go (T_setkn tJ_27 (updM (T_kn tJ_27) kI j_26 (((T_kn tJ_27 kI j_26) * (90 + ((T_me tA) kI))) / 100)))), zzI cy qta 8 (T_ag (T_setkn tJ_27 (updM (T_kn tJ_27) kI j_26 (((T_kn tJ_27 kI j_26) * (90 + ((T_me tA) kI))) / 100)))), zzI cy qtr 8 (T_re (T_setkn tJ_27 (updM (T_kn tJ_27) kI j_26 (((T_kn tJ_27 kI j_26) * (90 + ((T_me tA) kI))) / 100)))), zzI cy qtm 8 (T_me (T_setkn tJ_27 (updM (T_kn tJ_27) kI j_26 (((T_kn tJ_27 kI j_26) * (90 + ((T_me tA) kI))) / 100)))), zzI cy qtt 8 (T_te (T_setkn tJ_27 (updM (T_kn tJ_27) kI j_26 (((T_kn tJ_27 kI j_26) * (90 + ((T_me tA) kI))) / 100)))), zzO qt 3 [.int (nI (T_nb (T_setkn tJ_27 (updM (T_kn tJ_27) kI j_26 (((T_kn tJ_27 kI j_26) * (90 + ((T_me tA) kI))) / 100))))), .int (nI (T_np (T_setkn tJ_27 (updM (T_kn tJ_27) kI j_26 (((T_kn tJ_27 kI j_26) * (90 + ((T_me tA) kI))) / 100))))), .int (wb (T_wh (T_setkn tJ_27 (updM (T_kn tJ_27) kI j_26 (((T_kn tJ_27 kI j_26) * (90 + ((T_me tA) kI))) / 100))))), .int (wb (T_gn (T_setkn tJ_27 (updM (T_kn tJ_27) kI j_26 (((T_kn tJ_27 kI j_26) * (90 + ((T_me tA) kI))) / 100))))), .int (T_sd (T_setkn tJ_27 (updM (T_kn tJ_27) kI j_26 (((T_kn tJ_27 kI j_26) * (90 + ((T_me tA) kI))) / 100)))), .ref qtw, .ref qtn, .ref qtg, .ref qta, .ref qtr, .ref qtm, .ref qtt, .ref qts], zzI cy qts 64 (shF (T_kn (T_setkn tJ_27 (updM (T_kn tJ_27) kI j_26 (((T_kn tJ_27 kI j_26) * (90 + ((T_me tA) kI))) / 100)))))] hP hD rfl
          clear hP hD
          obtain ⟨hP, hD⟩ := hPD
          refine lv_iinc (v := nI (j_26 + 1)) (lv' := [(3, .int (nI (j_26 + 1))), (2, .int (90 + ((T_me tA) kI))), (0, .ref qt), (1, .int (nI kI))]) hx hb dX4_forget_52 hl (k := 0) rfl (nI_1 _) (by decide) rfl (fun ls => ?_)
          clear hl
          intro hl
          refine lv_goto (tgt := 27) hx hb dX4_forget_55 (by decide) ?_
          exact ih_25 (j_26 + 1) (T_setkn tJ_27 (updM (T_kn tJ_27) kI j_26 (((T_kn tJ_27 kI j_26) * (90 + ((T_me tA) kI))) / 100))) (by omega) (by omega) (by rw [htJ_29]; rfl) _ _ _ (hP.sub [7, 0, 1, 2, 3, 4, 5, 6, 8] rfl) (hD.sub [7, 0, 1, 2, 3, 4, 5, 6, 8] (by decide +kernel) rfl) hS (lv_sub hl [0, 1, 2, 3] rfl)
    exact lp_23 ((8 - 0) + 1) 0 tA (Nat.lt_succ_self _) (Nat.zero_le _) rfl _ _ ls hP hD hS (lv_sub hl [0, 1, 2, 3] rfl)
end
section
theorem dX4_become_0 : decode cX4_become 0 = .ok (.aload_n 0, 1) := g_42 bX4_become rfl
theorem dX4_become_1 : decode cX4_become 1 = .ok (.aload_n 1, 1) := g_43 bX4_become rfl
theorem dX4_become_2 : decode cX4_become 2 = .ok (.getfield 40, 3) := g_180 bX4_become rfl
theorem dX4_become_5 : decode cX4_become 5 = .ok (.putfield 40, 3) := g_181 bX4_become rfl
theorem dX4_become_8 : decode cX4_become 8 = .ok (.aload_n 0, 1) := g_42 bX4_become rfl
theorem dX4_become_9 : decode cX4_become 9 = .ok (.aload_n 1, 1) := g_43 bX4_become rfl
theorem dX4_become_10 : decode cX4_become 10 = .ok (.getfield 43, 3) := g_180 bX4_become rfl
theorem dX4_become_13 : decode cX4_become 13 = .ok (.putfield 43, 3) := g_181 bX4_become rfl
theorem dX4_become_16 : decode cX4_become 16 = .ok (.aload_n 0, 1) := g_42 bX4_become rfl
theorem dX4_become_17 : decode cX4_become 17 = .ok (.aload_n 1, 1) := g_43 bX4_become rfl
theorem dX4_become_18 : decode cX4_become 18 = .ok (.getfield 46, 3) := g_180 bX4_become rfl
theorem dX4_become_21 : decode cX4_become 21 = .ok (.putfield 46, 3) := g_181 bX4_become rfl
theorem dX4_become_24 : decode cX4_become 24 = .ok (.aload_n 0, 1) := g_42 bX4_become rfl
theorem dX4_become_25 : decode cX4_become 25 = .ok (.aload_n 1, 1) := g_43 bX4_become rfl
theorem dX4_become_26 : decode cX4_become 26 = .ok (.getfield 49, 3) := g_180 bX4_become rfl
theorem dX4_become_29 : decode cX4_become 29 = .ok (.putfield 49, 3) := g_181 bX4_become rfl
theorem dX4_become_32 : decode cX4_become 32 = .ok (.aload_n 0, 1) := g_42 bX4_become rfl
theorem dX4_become_33 : decode cX4_become 33 = .ok (.aload_n 1, 1) := g_43 bX4_become rfl
theorem dX4_become_34 : decode cX4_become 34 = .ok (.getfield 9, 3) := g_180 bX4_become rfl
theorem dX4_become_37 : decode cX4_become 37 = .ok (.putfield 9, 3) := g_181 bX4_become rfl
theorem dX4_become_40 : decode cX4_become 40 = .ok (.aload_n 1, 1) := g_43 bX4_become rfl
theorem dX4_become_41 : decode cX4_become 41 = .ok (.getfield 15, 3) := g_180 bX4_become rfl
theorem dX4_become_44 : decode cX4_become 44 = .ok (.iconst 0, 1) := g_3 bX4_become rfl
theorem dX4_become_45 : decode cX4_become 45 = .ok (.aload_n 0, 1) := g_42 bX4_become rfl
theorem dX4_become_46 : decode cX4_become 46 = .ok (.getfield 15, 3) := g_180 bX4_become rfl
theorem dX4_become_49 : decode cX4_become 49 = .ok (.iconst 0, 1) := g_3 bX4_become rfl
theorem dX4_become_50 : decode cX4_become 50 = .ok (.bipush 8, 2) := g_16 8 bX4_become rfl rfl
theorem dX4_become_52 : decode cX4_become 52 = .ok (.invokestatic 52, 3) := g_184 bX4_become rfl
theorem dX4_become_55 : decode cX4_become 55 = .ok (.aload_n 1, 1) := g_43 bX4_become rfl
theorem dX4_become_56 : decode cX4_become 56 = .ok (.getfield 19, 3) := g_180 bX4_become rfl
theorem dX4_become_59 : decode cX4_become 59 = .ok (.iconst 0, 1) := g_3 bX4_become rfl
theorem dX4_become_60 : decode cX4_become 60 = .ok (.aload_n 0, 1) := g_42 bX4_become rfl
theorem dX4_become_61 : decode cX4_become 61 = .ok (.getfield 19, 3) := g_180 bX4_become rfl
theorem dX4_become_64 : decode cX4_become 64 = .ok (.iconst 0, 1) := g_3 bX4_become rfl
theorem dX4_become_65 : decode cX4_become 65 = .ok (.bipush 8, 2) := g_16 8 bX4_become rfl rfl
theorem dX4_become_67 : decode cX4_become 67 = .ok (.invokestatic 52, 3) := g_184 bX4_become rfl
theorem dX4_become_70 : decode cX4_become 70 = .ok (.aload_n 1, 1) := g_43 bX4_become rfl
theorem dX4_become_71 : decode cX4_become 71 = .ok (.getfield 22, 3) := g_180 bX4_become rfl
theorem dX4_become_74 : decode cX4_become 74 = .ok (.iconst 0, 1) := g_3 bX4_become rfl
theorem dX4_become_75 : decode cX4_become 75 = .ok (.aload_n 0, 1) := g_42 bX4_become rfl
theorem dX4_become_76 : decode cX4_become 76 = .ok (.getfield 22, 3) := g_180 bX4_become rfl
theorem dX4_become_79 : decode cX4_become 79 = .ok (.iconst 0, 1) := g_3 bX4_become rfl
theorem dX4_become_80 : decode cX4_become 80 = .ok (.bipush 8, 2) := g_16 8 bX4_become rfl rfl
theorem dX4_become_82 : decode cX4_become 82 = .ok (.invokestatic 52, 3) := g_184 bX4_become rfl
theorem dX4_become_85 : decode cX4_become 85 = .ok (.aload_n 1, 1) := g_43 bX4_become rfl
theorem dX4_become_86 : decode cX4_become 86 = .ok (.getfield 25, 3) := g_180 bX4_become rfl
theorem dX4_become_89 : decode cX4_become 89 = .ok (.iconst 0, 1) := g_3 bX4_become rfl
theorem dX4_become_90 : decode cX4_become 90 = .ok (.aload_n 0, 1) := g_42 bX4_become rfl
theorem dX4_become_91 : decode cX4_become 91 = .ok (.getfield 25, 3) := g_180 bX4_become rfl
theorem dX4_become_94 : decode cX4_become 94 = .ok (.iconst 0, 1) := g_3 bX4_become rfl
theorem dX4_become_95 : decode cX4_become 95 = .ok (.bipush 8, 2) := g_16 8 bX4_become rfl rfl
theorem dX4_become_97 : decode cX4_become 97 = .ok (.invokestatic 52, 3) := g_184 bX4_become rfl
theorem dX4_become_100 : decode cX4_become 100 = .ok (.aload_n 1, 1) := g_43 bX4_become rfl
theorem dX4_become_101 : decode cX4_become 101 = .ok (.getfield 28, 3) := g_180 bX4_become rfl
theorem dX4_become_104 : decode cX4_become 104 = .ok (.iconst 0, 1) := g_3 bX4_become rfl
theorem dX4_become_105 : decode cX4_become 105 = .ok (.aload_n 0, 1) := g_42 bX4_become rfl
theorem dX4_become_106 : decode cX4_become 106 = .ok (.getfield 28, 3) := g_180 bX4_become rfl
theorem dX4_become_109 : decode cX4_become 109 = .ok (.iconst 0, 1) := g_3 bX4_become rfl
theorem dX4_become_110 : decode cX4_become 110 = .ok (.bipush 8, 2) := g_16 8 bX4_become rfl rfl
theorem dX4_become_112 : decode cX4_become 112 = .ok (.invokestatic 52, 3) := g_184 bX4_become rfl
theorem dX4_become_115 : decode cX4_become 115 = .ok (.aload_n 1, 1) := g_43 bX4_become rfl
theorem dX4_become_116 : decode cX4_become 116 = .ok (.getfield 31, 3) := g_180 bX4_become rfl
theorem dX4_become_119 : decode cX4_become 119 = .ok (.iconst 0, 1) := g_3 bX4_become rfl
theorem dX4_become_120 : decode cX4_become 120 = .ok (.aload_n 0, 1) := g_42 bX4_become rfl
theorem dX4_become_121 : decode cX4_become 121 = .ok (.getfield 31, 3) := g_180 bX4_become rfl
theorem dX4_become_124 : decode cX4_become 124 = .ok (.iconst 0, 1) := g_3 bX4_become rfl
theorem dX4_become_125 : decode cX4_become 125 = .ok (.bipush 8, 2) := g_16 8 bX4_become rfl rfl
theorem dX4_become_127 : decode cX4_become 127 = .ok (.invokestatic 52, 3) := g_184 bX4_become rfl
theorem dX4_become_130 : decode cX4_become 130 = .ok (.aload_n 1, 1) := g_43 bX4_become rfl
theorem dX4_become_131 : decode cX4_become 131 = .ok (.getfield 34, 3) := g_180 bX4_become rfl
theorem dX4_become_134 : decode cX4_become 134 = .ok (.iconst 0, 1) := g_3 bX4_become rfl
theorem dX4_become_135 : decode cX4_become 135 = .ok (.aload_n 0, 1) := g_42 bX4_become rfl
theorem dX4_become_136 : decode cX4_become 136 = .ok (.getfield 34, 3) := g_180 bX4_become rfl
theorem dX4_become_139 : decode cX4_become 139 = .ok (.iconst 0, 1) := g_3 bX4_become rfl
theorem dX4_become_140 : decode cX4_become 140 = .ok (.bipush 8, 2) := g_16 8 bX4_become rfl rfl
theorem dX4_become_142 : decode cX4_become 142 = .ok (.invokestatic 52, 3) := g_184 bX4_become rfl
theorem dX4_become_145 : decode cX4_become 145 = .ok (.aload_n 1, 1) := g_43 bX4_become rfl
theorem dX4_become_146 : decode cX4_become 146 = .ok (.getfield 37, 3) := g_180 bX4_become rfl
theorem dX4_become_149 : decode cX4_become 149 = .ok (.iconst 0, 1) := g_3 bX4_become rfl
theorem dX4_become_150 : decode cX4_become 150 = .ok (.aload_n 0, 1) := g_42 bX4_become rfl
theorem dX4_become_151 : decode cX4_become 151 = .ok (.getfield 37, 3) := g_180 bX4_become rfl
theorem dX4_become_154 : decode cX4_become 154 = .ok (.iconst 0, 1) := g_3 bX4_become rfl
theorem dX4_become_155 : decode cX4_become 155 = .ok (.bipush 64, 2) := g_16 64 bX4_become rfl rfl
theorem dX4_become_157 : decode cX4_become 157 = .ok (.invokestatic 52, 3) := g_184 bX4_become rfl
theorem dX4_become_160 : decode cX4_become 160 = .ok (.return_, 1) := g_177 bX4_become rfl
theorem dX4_drawDeaths_0 : decode cX4_drawDeaths 0 = .ok (.iconst 0, 1) := g_3 bX4_drawDeaths rfl
theorem dX4_drawDeaths_1 : decode cX4_drawDeaths 1 = .ok (.istore_n 1, 1) := g_60 bX4_drawDeaths rfl
theorem dX4_drawDeaths_2 : decode cX4_drawDeaths 2 = .ok (.iload_n 1, 1) := g_27 bX4_drawDeaths rfl
theorem dX4_drawDeaths_3 : decode cX4_drawDeaths 3 = .ok (.aload_n 0, 1) := g_42 bX4_drawDeaths rfl
theorem dX4_drawDeaths_4 : decode cX4_drawDeaths 4 = .ok (.getfield 43, 3) := g_180 bX4_drawDeaths rfl
theorem dX4_drawDeaths_7 : decode cX4_drawDeaths 7 = .ok (.if_icmp .ge 45, 3) := g_162 45 bX4_drawDeaths rfl rfl
theorem dX4_drawDeaths_10 : decode cX4_drawDeaths 10 = .ok (.aload_n 0, 1) := g_42 bX4_drawDeaths rfl
theorem dX4_drawDeaths_11 : decode cX4_drawDeaths 11 = .ok (.getfield 49, 3) := g_180 bX4_drawDeaths rfl
theorem dX4_drawDeaths_14 : decode cX4_drawDeaths 14 = .ok (.iload_n 1, 1) := g_27 bX4_drawDeaths rfl
theorem dX4_drawDeaths_15 : decode cX4_drawDeaths 15 = .ok (.invokestatic 62, 3) := g_184 bX4_drawDeaths rfl
theorem dX4_drawDeaths_18 : decode cX4_drawDeaths 18 = .ok (.ifCond .ne 28, 3) := g_154 28 bX4_drawDeaths rfl rfl
theorem dX4_drawDeaths_21 : decode cX4_drawDeaths 21 = .ok (.aload_n 0, 1) := g_42 bX4_drawDeaths rfl
theorem dX4_drawDeaths_22 : decode cX4_drawDeaths 22 = .ok (.invokevirtual 120, 3) := g_182 bX4_drawDeaths rfl
theorem dX4_drawDeaths_25 : decode cX4_drawDeaths 25 = .ok (.aload_n 0, 1) := g_42 bX4_drawDeaths rfl
theorem dX4_drawDeaths_26 : decode cX4_drawDeaths 26 = .ok (.getfield 25, 3) := g_180 bX4_drawDeaths rfl
theorem dX4_drawDeaths_29 : decode cX4_drawDeaths 29 = .ok (.iload_n 1, 1) := g_27 bX4_drawDeaths rfl
theorem dX4_drawDeaths_30 : decode cX4_drawDeaths 30 = .ok (.iaload, 1) := g_46 bX4_drawDeaths rfl
theorem dX4_drawDeaths_31 : decode cX4_drawDeaths 31 = .ok (.if_icmp .ge 15, 3) := g_162 15 bX4_drawDeaths rfl rfl
theorem dX4_drawDeaths_34 : decode cX4_drawDeaths 34 = .ok (.aload_n 0, 1) := g_42 bX4_drawDeaths rfl
theorem dX4_drawDeaths_35 : decode cX4_drawDeaths 35 = .ok (.dup, 1) := g_89 bX4_drawDeaths rfl
theorem dX4_drawDeaths_36 : decode cX4_drawDeaths 36 = .ok (.getfield 49, 3) := g_180 bX4_drawDeaths rfl
theorem dX4_drawDeaths_39 : decode cX4_drawDeaths 39 = .ok (.iconst 1, 1) := g_4 bX4_drawDeaths rfl
theorem dX4_drawDeaths_40 : decode cX4_drawDeaths 40 = .ok (.iload_n 1, 1) := g_27 bX4_drawDeaths rfl
theorem dX4_drawDeaths_41 : decode cX4_drawDeaths 41 = .ok (.ishl, 1) := g_120 bX4_drawDeaths rfl
theorem dX4_drawDeaths_42 : decode cX4_drawDeaths 42 = .ok (.ior, 1) := g_128 bX4_drawDeaths rfl
theorem dX4_drawDeaths_43 : decode cX4_drawDeaths 43 = .ok (.putfield 49, 3) := g_181 bX4_drawDeaths rfl
theorem dX4_drawDeaths_46 : decode cX4_drawDeaths 46 = .ok (.iinc 1 1, 3) := g_132 1 bX4_drawDeaths rfl rfl
theorem dX4_drawDeaths_49 : decode cX4_drawDeaths 49 = .ok (.goto (-47), 3) := g_167 65489 bX4_drawDeaths rfl rfl
theorem dX4_drawDeaths_52 : decode cX4_drawDeaths 52 = .ok (.return_, 1) := g_177 bX4_drawDeaths rfl
theorem dX4_endYear_0 : decode cX4_endYear 0 = .ok (.aload_n 0, 1) := g_42 bX4_endYear rfl
theorem dX4_endYear_1 : decode cX4_endYear 1 = .ok (.invokevirtual 78, 3) := g_182 bX4_endYear rfl
theorem dX4_endYear_4 : decode cX4_endYear 4 = .ok (.istore_n 1, 1) := g_60 bX4_endYear rfl
theorem dX4_endYear_5 : decode cX4_endYear 5 = .ok (.iconst 0, 1) := g_3 bX4_endYear rfl
theorem dX4_endYear_6 : decode cX4_endYear 6 = .ok (.istore_n 2, 1) := g_61 bX4_endYear rfl
theorem dX4_endYear_7 : decode cX4_endYear 7 = .ok (.iload_n 2, 1) := g_28 bX4_endYear rfl
theorem dX4_endYear_8 : decode cX4_endYear 8 = .ok (.aload_n 0, 1) := g_42 bX4_endYear rfl
theorem dX4_endYear_9 : decode cX4_endYear 9 = .ok (.getfield 43, 3) := g_180 bX4_endYear rfl
theorem dX4_endYear_12 : decode cX4_endYear 12 = .ok (.if_icmp .ge 55, 3) := g_162 55 bX4_endYear rfl rfl
theorem dX4_endYear_15 : decode cX4_endYear 15 = .ok (.iload_n 1, 1) := g_27 bX4_endYear rfl
theorem dX4_endYear_16 : decode cX4_endYear 16 = .ok (.iload_n 2, 1) := g_28 bX4_endYear rfl
theorem dX4_endYear_17 : decode cX4_endYear 17 = .ok (.invokestatic 62, 3) := g_184 bX4_endYear rfl
theorem dX4_endYear_20 : decode cX4_endYear 20 = .ok (.ifCond .eq 41, 3) := g_153 41 bX4_endYear rfl rfl
theorem dX4_endYear_23 : decode cX4_endYear 23 = .ok (.aload_n 0, 1) := g_42 bX4_endYear rfl
theorem dX4_endYear_24 : decode cX4_endYear 24 = .ok (.getfield 25, 3) := g_180 bX4_endYear rfl
theorem dX4_endYear_27 : decode cX4_endYear 27 = .ok (.iload_n 2, 1) := g_28 bX4_endYear rfl
theorem dX4_endYear_28 : decode cX4_endYear 28 = .ok (.dup2, 1) := g_92 bX4_endYear rfl
theorem dX4_endYear_29 : decode cX4_endYear 29 = .ok (.iaload, 1) := g_46 bX4_endYear rfl
theorem dX4_endYear_30 : decode cX4_endYear 30 = .ok (.iconst 1, 1) := g_4 bX4_endYear rfl
theorem dX4_endYear_31 : decode cX4_endYear 31 = .ok (.iadd, 1) := g_96 bX4_endYear rfl
theorem dX4_endYear_32 : decode cX4_endYear 32 = .ok (.iastore, 1) := g_79 bX4_endYear rfl
theorem dX4_endYear_33 : decode cX4_endYear 33 = .ok (.aload_n 0, 1) := g_42 bX4_endYear rfl
theorem dX4_endYear_34 : decode cX4_endYear 34 = .ok (.getfield 25, 3) := g_180 bX4_endYear rfl
theorem dX4_endYear_37 : decode cX4_endYear 37 = .ok (.iload_n 2, 1) := g_28 bX4_endYear rfl
theorem dX4_endYear_38 : decode cX4_endYear 38 = .ok (.iaload, 1) := g_46 bX4_endYear rfl
theorem dX4_endYear_39 : decode cX4_endYear 39 = .ok (.bipush 9, 2) := g_16 9 bX4_endYear rfl rfl
theorem dX4_endYear_41 : decode cX4_endYear 41 = .ok (.if_icmp .le 15, 3) := g_164 15 bX4_endYear rfl rfl
theorem dX4_endYear_44 : decode cX4_endYear 44 = .ok (.aload_n 0, 1) := g_42 bX4_endYear rfl
theorem dX4_endYear_45 : decode cX4_endYear 45 = .ok (.dup, 1) := g_89 bX4_endYear rfl
theorem dX4_endYear_46 : decode cX4_endYear 46 = .ok (.getfield 49, 3) := g_180 bX4_endYear rfl
theorem dX4_endYear_49 : decode cX4_endYear 49 = .ok (.iconst 1, 1) := g_4 bX4_endYear rfl
theorem dX4_endYear_50 : decode cX4_endYear 50 = .ok (.iload_n 2, 1) := g_28 bX4_endYear rfl
theorem dX4_endYear_51 : decode cX4_endYear 51 = .ok (.ishl, 1) := g_120 bX4_endYear rfl
theorem dX4_endYear_52 : decode cX4_endYear 52 = .ok (.ior, 1) := g_128 bX4_endYear rfl
theorem dX4_endYear_53 : decode cX4_endYear 53 = .ok (.putfield 49, 3) := g_181 bX4_endYear rfl
theorem dX4_endYear_56 : decode cX4_endYear 56 = .ok (.aload_n 0, 1) := g_42 bX4_endYear rfl
theorem dX4_endYear_57 : decode cX4_endYear 57 = .ok (.iload_n 2, 1) := g_28 bX4_endYear rfl
theorem dX4_endYear_58 : decode cX4_endYear 58 = .ok (.invokevirtual 111, 3) := g_182 bX4_endYear rfl
theorem dX4_endYear_61 : decode cX4_endYear 61 = .ok (.iinc 2 1, 3) := g_132 1 bX4_endYear rfl rfl
theorem dX4_endYear_64 : decode cX4_endYear 64 = .ok (.goto (-57), 3) := g_167 65479 bX4_endYear rfl rfl
theorem dX4_endYear_67 : decode cX4_endYear 67 = .ok (.iload_n 1, 1) := g_27 bX4_endYear rfl
theorem dX4_endYear_68 : decode cX4_endYear 68 = .ok (.aload_n 0, 1) := g_42 bX4_endYear rfl
theorem dX4_endYear_69 : decode cX4_endYear 69 = .ok (.getfield 49, 3) := g_180 bX4_endYear rfl
theorem dX4_endYear_72 : decode cX4_endYear 72 = .ok (.iand, 1) := g_126 bX4_endYear rfl
theorem dX4_endYear_73 : decode cX4_endYear 73 = .ok (.invokestatic 115, 3) := g_184 bX4_endYear rfl
theorem dX4_endYear_76 : decode cX4_endYear 76 = .ok (.ireturn, 1) := g_172 bX4_endYear rfl
theorem dX4_hearFrom_0 : decode cX4_hearFrom 0 = .ok (.aload_n 0, 1) := g_42 bX4_hearFrom rfl
theorem dX4_hearFrom_1 : decode cX4_hearFrom 1 = .ok (.iload_n 1, 1) := g_27 bX4_hearFrom rfl
theorem dX4_hearFrom_2 : decode cX4_hearFrom 2 = .ok (.iload_n 2, 1) := g_28 bX4_hearFrom rfl
theorem dX4_hearFrom_3 : decode cX4_hearFrom 3 = .ok (.invokevirtual 66, 3) := g_182 bX4_hearFrom rfl
theorem dX4_hearFrom_6 : decode cX4_hearFrom 6 = .ok (.iconst 2, 1) := g_5 bX4_hearFrom rfl
theorem dX4_hearFrom_7 : decode cX4_hearFrom 7 = .ok (.idiv, 1) := g_108 bX4_hearFrom rfl
theorem dX4_hearFrom_8 : decode cX4_hearFrom 8 = .ok (.istore 4, 2) := g_54 bX4_hearFrom rfl
theorem dX4_hearFrom_10 : decode cX4_hearFrom 10 = .ok (.iload_n 3, 1) := g_29 bX4_hearFrom rfl
theorem dX4_hearFrom_11 : decode cX4_hearFrom 11 = .ok (.aload_n 0, 1) := g_42 bX4_hearFrom rfl
theorem dX4_hearFrom_12 : decode cX4_hearFrom 12 = .ok (.invokevirtual 78, 3) := g_182 bX4_hearFrom rfl
theorem dX4_hearFrom_15 : decode cX4_hearFrom 15 = .ok (.iand, 1) := g_126 bX4_hearFrom rfl
theorem dX4_hearFrom_16 : decode cX4_hearFrom 16 = .ok (.iconst 1, 1) := g_4 bX4_hearFrom rfl
theorem dX4_hearFrom_17 : decode cX4_hearFrom 17 = .ok (.iload_n 1, 1) := g_27 bX4_hearFrom rfl
theorem dX4_hearFrom_18 : decode cX4_hearFrom 18 = .ok (.ishl, 1) := g_120 bX4_hearFrom rfl
theorem dX4_hearFrom_19 : decode cX4_hearFrom 19 = .ok (.iconst (-1), 1) := g_2 bX4_hearFrom rfl
theorem dX4_hearFrom_20 : decode cX4_hearFrom 20 = .ok (.ixor, 1) := g_130 bX4_hearFrom rfl
theorem dX4_hearFrom_21 : decode cX4_hearFrom 21 = .ok (.iand, 1) := g_126 bX4_hearFrom rfl
theorem dX4_hearFrom_22 : decode cX4_hearFrom 22 = .ok (.istore 5, 2) := g_54 bX4_hearFrom rfl
theorem dX4_hearFrom_24 : decode cX4_hearFrom 24 = .ok (.iconst 0, 1) := g_3 bX4_hearFrom rfl
theorem dX4_hearFrom_25 : decode cX4_hearFrom 25 = .ok (.istore 6, 2) := g_54 bX4_hearFrom rfl
theorem dX4_hearFrom_27 : decode cX4_hearFrom 27 = .ok (.iconst 0, 1) := g_3 bX4_hearFrom rfl
theorem dX4_hearFrom_28 : decode cX4_hearFrom 28 = .ok (.istore 7, 2) := g_54 bX4_hearFrom rfl
theorem dX4_hearFrom_30 : decode cX4_hearFrom 30 = .ok (.iload 7, 2) := g_21 bX4_hearFrom rfl
theorem dX4_hearFrom_32 : decode cX4_hearFrom 32 = .ok (.aload_n 0, 1) := g_42 bX4_hearFrom rfl
theorem dX4_hearFrom_33 : decode cX4_hearFrom 33 = .ok (.getfield 43, 3) := g_180 bX4_hearFrom rfl
theorem dX4_hearFrom_36 : decode cX4_hearFrom 36 = .ok (.if_icmp .ge 57, 3) := g_162 57 bX4_hearFrom rfl rfl
theorem dX4_hearFrom_39 : decode cX4_hearFrom 39 = .ok (.iload 4, 2) := g_21 bX4_hearFrom rfl
theorem dX4_hearFrom_41 : decode cX4_hearFrom 41 = .ok (.aload_n 0, 1) := g_42 bX4_hearFrom rfl
theorem dX4_hearFrom_42 : decode cX4_hearFrom 42 = .ok (.iload 7, 2) := g_21 bX4_hearFrom rfl
theorem dX4_hearFrom_44 : decode cX4_hearFrom 44 = .ok (.iload_n 2, 1) := g_28 bX4_hearFrom rfl
theorem dX4_hearFrom_45 : decode cX4_hearFrom 45 = .ok (.invokevirtual 85, 3) := g_182 bX4_hearFrom rfl
theorem dX4_hearFrom_48 : decode cX4_hearFrom 48 = .ok (.invokestatic 88, 3) := g_184 bX4_hearFrom rfl
theorem dX4_hearFrom_51 : decode cX4_hearFrom 51 = .ok (.istore 8, 2) := g_54 bX4_hearFrom rfl
theorem dX4_hearFrom_53 : decode cX4_hearFrom 53 = .ok (.iload 5, 2) := g_21 bX4_hearFrom rfl
theorem dX4_hearFrom_55 : decode cX4_hearFrom 55 = .ok (.iload 7, 2) := g_21 bX4_hearFrom rfl
theorem dX4_hearFrom_57 : decode cX4_hearFrom 57 = .ok (.invokestatic 62, 3) := g_184 bX4_hearFrom rfl
theorem dX4_hearFrom_60 : decode cX4_hearFrom 60 = .ok (.ifCond .eq 27, 3) := g_153 27 bX4_hearFrom rfl rfl
theorem dX4_hearFrom_63 : decode cX4_hearFrom 63 = .ok (.iload 8, 2) := g_21 bX4_hearFrom rfl
theorem dX4_hearFrom_65 : decode cX4_hearFrom 65 = .ok (.aload_n 0, 1) := g_42 bX4_hearFrom rfl
theorem dX4_hearFrom_66 : decode cX4_hearFrom 66 = .ok (.iload 7, 2) := g_21 bX4_hearFrom rfl
theorem dX4_hearFrom_68 : decode cX4_hearFrom 68 = .ok (.iload_n 2, 1) := g_28 bX4_hearFrom rfl
theorem dX4_hearFrom_69 : decode cX4_hearFrom 69 = .ok (.invokevirtual 66, 3) := g_182 bX4_hearFrom rfl
theorem dX4_hearFrom_72 : decode cX4_hearFrom 72 = .ok (.if_icmp .le 15, 3) := g_164 15 bX4_hearFrom rfl rfl
theorem dX4_hearFrom_75 : decode cX4_hearFrom 75 = .ok (.aload_n 0, 1) := g_42 bX4_hearFrom rfl
theorem dX4_hearFrom_76 : decode cX4_hearFrom 76 = .ok (.iload 7, 2) := g_21 bX4_hearFrom rfl
theorem dX4_hearFrom_78 : decode cX4_hearFrom 78 = .ok (.iload_n 2, 1) := g_28 bX4_hearFrom rfl
theorem dX4_hearFrom_79 : decode cX4_hearFrom 79 = .ok (.iload 8, 2) := g_21 bX4_hearFrom rfl
theorem dX4_hearFrom_81 : decode cX4_hearFrom 81 = .ok (.invokevirtual 94, 3) := g_182 bX4_hearFrom rfl
theorem dX4_hearFrom_84 : decode cX4_hearFrom 84 = .ok (.iinc 6 1, 3) := g_132 1 bX4_hearFrom rfl rfl
theorem dX4_hearFrom_87 : decode cX4_hearFrom 87 = .ok (.iinc 7 1, 3) := g_132 1 bX4_hearFrom rfl rfl
theorem dX4_hearFrom_90 : decode cX4_hearFrom 90 = .ok (.goto (-60), 3) := g_167 65476 bX4_hearFrom rfl rfl
theorem dX4_hearFrom_93 : decode cX4_hearFrom 93 = .ok (.iload 6, 2) := g_21 bX4_hearFrom rfl
theorem dX4_hearFrom_95 : decode cX4_hearFrom 95 = .ok (.ireturn, 1) := g_172 bX4_hearFrom rfl
set_option maxHeartbeats 4000000 in
set_option maxRecDepth 100000 in
theorem c_X4_become (l : Launch) (G : va_G) (cy : Nat → ClassId) (sz : Nat) (qk : Nat) (tB : TA) (qkw : Nat) (qkn : Nat) (qkg : Nat) (qka : Nat) (qkr : Nat) (qkm : Nat) (qkt : Nat) (qks : Nat) (qt : Nat) (tA : TA) (qtw : Nat) (qtn : Nat) (qtg : Nat) (qta : Nat) (qtr : Nat) (qtm : Nat) (qtt : Nat) (qts : Nat)   : MW l yX4_become cX4_become 2 none 2 0 0 G cy [zzO qk 3 [.int (nI (T_nb tB)), .int (nI (T_np tB)), .int (wb (T_wh tB)), .int (wb (T_gn tB)), .int (T_sd tB), .ref qkw, .ref qkn, .ref qkg, .ref qka, .ref qkr, .ref qkm, .ref qkt, .ref qks], zzI cy qkw 8 (T_wo tB), zzI cy qkn 8 (T_ne tB), zzI cy qkg 8 (T_go tB), zzI cy qka 8 (T_ag tB), zzI cy qkr 8 (T_re tB), zzI cy qkm 8 (T_me tB), zzI cy qkt 8 (T_te tB), zzI cy qks 64 (shF (T_kn tB)), zzO qt 3 [.int (nI (T_nb tA)), .int (nI (T_np tA)), .int (wb (T_wh tA)), .int (wb (T_gn tA)), .int (T_sd tA), .ref qtw, .ref qtn, .ref qtg, .ref qta, .ref qtr, .ref qtm, .ref qtt, .ref qts], zzI cy qtw 8 (T_wo tA), zzI cy qtn 8 (T_ne tA), zzI cy qtg 8 (T_go tA), zzI cy qta 8 (T_ag tA), zzI cy qtr 8 (T_re tA), zzI cy qtm 8 (T_me tA), zzI cy qtt 8 (T_te tA), zzI cy qts 64 (shF (T_kn tA))] sz [.ref qk, .ref qt] (Wv G (fun u => u = [zzO qk 3 [.int (nI (T_nb tA)), .int (nI (T_np tA)), .int (wb (T_wh tA)), .int (wb (T_gn tA)), .int (T_sd tA), .ref qkw, .ref qkn, .ref qkg, .ref qka, .ref qkr, .ref qkm, .ref qkt, .ref qks], zzI cy qkw 8 (T_wo tA), zzI cy qkn 8 (T_ne tA), zzI cy qkg 8 (T_go tA), zzI cy qka 8 (T_ag tA), zzI cy qkr 8 (T_re tA), zzI cy qkm 8 (T_me tA), zzI cy qkt 8 (T_te tA), zzI cy qks 64 (shF (T_kn tA)), zzO qt 3 [.int (nI (T_nb tA)), .int (nI (T_np tA)), .int (wb (T_wh tA)), .int (wb (T_gn tA)), .int (T_sd tA), .ref qtw, .ref qtn, .ref qtg, .ref qta, .ref qtr, .ref qtm, .ref qtt, .ref qts], zzI cy qtw 8 (T_wo tA), zzI cy qtn 8 (T_ne tA), zzI cy qtg 8 (T_go tA), zzI cy qta 8 (T_ag tA), zzI cy qtr 8 (T_re tA), zzI cy qtm 8 (T_me tA), zzI cy qtt 8 (T_te tA), zzI cy qts 64 (shF (T_kn tA))])) := by
  refine enW RX4 (by decide) rfl (Nat.le_of_ble_eq_true rfl) (fun p e s m below meth c ls A hx hb hml hown hts hr hlocks hP hN hl hin hD hA hS => ?_)
  have hin : meth.name = _ := hin
  have hK := hN.1
  replace hl : lv_has ls 2 [(0, .ref qk), (1, .ref qt)] := hl
  refine lv_aload_n hx hb dX4_become_0 rfl (lv_at hl 0 rfl) ?_
  refine lv_aload_n hx hb dX4_become_1 rfl (lv_at hl 1 rfl) ?_
  refine va_get (D := G) (ci := 3) (v := .int (nI (T_nb tA))) (C := RX4) (T := TX4) (N := 13) hx hb hts iX_X4 hown hK hP 9 rfl rfl 0 (by decide) (hts _ m_t29) (fun _ h9 => h9) rfl dX4_become_2 ?_
  refine va_put (D := G) (ci := 3) (v := .int (nI (T_nb tA))) (ty := .int) (C := RX4) (T := TX4) (N := 13) hx hb hts iX_X4 tyX4 tyX4_ok nmX4 hown hK hP hD hS 0 rfl rfl 0 (by decide) (hts _ m_t29) (fun _ h9 => h9) rfl (by decide +kernel) rfl rfl (Nat.le_of_ble_eq_true rfl) dX4_become_5 (fun H locs => ?_)
  clear hP hD hS
  intro hP hD hS
  have hPD := pd_as [zzO qk 3 [.int (nI (T_nb tA)), .int (nI (T_np tB)), .int (wb (T_wh tB)), .int (wb (T_gn tB)), .int (T_sd tB), .ref qkw, .ref qkn, .ref qkg, .ref qka, .ref qkr, .ref qkm, .ref qkt, .ref qks], zzI cy qkw 8 (T_wo tB), zzI cy qkn 8 (T_ne tB), zzI cy qkg 8 (T_go tB), zzI cy qka 8 (T_ag tB), zzI cy qkr 8 (T_re tB), zzI cy qkm 8 (T_me tB), zzI cy qkt 8 (T_te tB), zzI cy qks 64 (shF (T_kn tB)), zzO qt 3 [.int (nI (T_nb tA)), .int (nI (T_np tA)), .int (wb (T_wh tA)), .int (wb (T_gn tA)), .int (T_sd tA), .ref qtw, .ref qtn, .ref qtg, .ref qta, .ref qtr, .ref qtm, .ref qtt, .ref qts], zzI cy qtw 8 (T_wo tA), zzI cy qtn 8 (T_ne tA), zzI cy qtg 8 (T_go tA), zzI cy qta 8 (T_ag tA), zzI cy qtr 8 (T_re tA), zzI cy qtm 8 (T_me tA), zzI cy qtt 8 (T_te tA), zzI cy qts 64 (shF (T_kn tA))] hP hD rfl
  clear hP hD
  obtain ⟨hP, hD⟩ := hPD
  refine lv_aload_n hx hb dX4_become_8 rfl (lv_at hl 0 rfl) ?_
  refine lv_aload_n hx hb dX4_become_9 rfl (lv_at hl 1 rfl) ?_
  refine va_get (D := G) (ci := 3) (v := .int (nI (T_np tA))) (C := RX4) (T := TX4) (N := 13) hx hb hts iX_X4 hown hK hP 9 rfl rfl 1 (by decide) (hts _ m_t34) (fun _ h9 => h9) rfl dX4_become_10 ?_
  refine va_put (D := G) (ci := 3) (v := .int (nI (T_np tA))) (ty := .int) (C := RX4) (T := TX4) (N := 13) hx hb hts iX_X4 tyX4 tyX4_ok nmX4 hown hK hP hD hS 0 rfl rfl 1 (by decide) (hts _ m_t34) (fun _ h9 => h9) rfl (by decide +kernel) rfl rfl (Nat.le_of_ble_eq_true rfl) dX4_become_13 (fun H locs => ?_)
  clear hP hD hS
  intro hP hD hS
  have hPD := pd_as [zzO qk 3 [.int (nI (T_nb tA)), .int (nI (T_np tA)), .int (wb (T_wh tB)), .int (wb (T_gn tB)), .int (T_sd tB), .ref qkw, .ref qkn, .ref qkg, .ref qka, .ref qkr, .ref qkm, .ref qkt, .ref qks], zzI cy qkw 8 (T_wo tB), zzI cy qkn 8 (T_ne tB), zzI cy qkg 8 (T_go tB), zzI cy qka 8 (T_ag tB), zzI cy qkr 8 (T_re tB), zzI cy qkm 8 (T_me tB), zzI cy qkt 8 (T_te tB), zzI cy qks 64 (shF (T_kn tB)), zzO qt 3 [.int (nI (T_nb tA)), .int (nI (T_np tA)), .int (wb (T_wh tA)), .int (wb (T_gn tA)), .int (T_sd tA), .ref qtw, .ref qtn, .ref qtg, .ref qta, .ref qtr, .ref qtm, .ref qtt, .ref qts], zzI cy qtw 8 (T_wo tA), zzI cy qtn 8 (T_ne tA), zzI cy qtg 8 (T_go tA), zzI cy qta 8 (T_ag tA), zzI cy qtr 8 (T_re tA), zzI cy qtm 8 (T_me tA), zzI cy qtt 8 (T_te tA), zzI cy qts 64 (shF (T_kn tA))] hP hD rfl
  clear hP hD
  obtain ⟨hP, hD⟩ := hPD
  refine lv_aload_n hx hb dX4_become_16 rfl (lv_at hl 0 rfl) ?_
  refine lv_aload_n hx hb dX4_become_17 rfl (lv_at hl 1 rfl) ?_
  refine va_get (D := G) (ci := 3) (v := .int (wb (T_wh tA))) (C := RX4) (T := TX4) (N := 13) hx hb hts iX_X4 hown hK hP 9 rfl rfl 2 (by decide) (hts _ m_t39) (fun _ h9 => h9) rfl dX4_become_18 ?_
  refine va_put (D := G) (ci := 3) (v := .int (wb (T_wh tA))) (ty := .int) (C := RX4) (T := TX4) (N := 13) hx hb hts iX_X4 tyX4 tyX4_ok nmX4 hown hK hP hD hS 0 rfl rfl 2 (by decide) (hts _ m_t39) (fun _ h9 => h9) rfl (by decide +kernel) rfl rfl (Nat.le_of_ble_eq_true rfl) dX4_become_21 (fun H locs => ?_)
  clear hP hD hS
  intro hP hD hS
  have hPD := pd_as [zzO qk 3 [.int (nI (T_nb tA)), .int (nI (T_np tA)), .int (wb (T_wh tA)), .int (wb (T_gn tB)), .int (T_sd tB), .ref qkw, .ref qkn, .ref qkg, .ref qka, .ref qkr, .ref qkm, .ref qkt, .ref qks], zzI cy qkw 8 (T_wo tB), zzI cy qkn 8 (T_ne tB), zzI cy qkg 8 (T_go tB), zzI cy qka 8 (T_ag tB), zzI cy qkr 8 (T_re tB), zzI cy qkm 8 (T_me tB), zzI cy qkt 8 (T_te tB), zzI cy qks 64 (shF (T_kn tB)), zzO qt 3 [.int (nI (T_nb tA)), .int (nI (T_np tA)), .int (wb (T_wh tA)), .int (wb (T_gn tA)), .int (T_sd tA), .ref qtw, .ref qtn, .ref qtg, .ref qta, .ref qtr, .ref qtm, .ref qtt, .ref qts], zzI cy qtw 8 (T_wo tA), zzI cy qtn 8 (T_ne tA), zzI cy qtg 8 (T_go tA), zzI cy qta 8 (T_ag tA), zzI cy qtr 8 (T_re tA), zzI cy qtm 8 (T_me tA), zzI cy qtt 8 (T_te tA), zzI cy qts 64 (shF (T_kn tA))] hP hD rfl
  clear hP hD
  obtain ⟨hP, hD⟩ := hPD
  refine lv_aload_n hx hb dX4_become_24 rfl (lv_at hl 0 rfl) ?_
  refine lv_aload_n hx hb dX4_become_25 rfl (lv_at hl 1 rfl) ?_
  refine va_get (D := G) (ci := 3) (v := .int (wb (T_gn tA))) (C := RX4) (T := TX4) (N := 13) hx hb hts iX_X4 hown hK hP 9 rfl rfl 3 (by decide) (hts _ m_t43) (fun _ h9 => h9) rfl dX4_become_26 ?_
  refine va_put (D := G) (ci := 3) (v := .int (wb (T_gn tA))) (ty := .int) (C := RX4) (T := TX4) (N := 13) hx hb hts iX_X4 tyX4 tyX4_ok nmX4 hown hK hP hD hS 0 rfl rfl 3 (by decide) (hts _ m_t43) (fun _ h9 => h9) rfl (by decide +kernel) rfl rfl (Nat.le_of_ble_eq_true rfl) dX4_become_29 (fun H locs => ?_)
  clear hP hD hS
  intro hP hD hS
  have hPD := pd_as [zzO qk 3 [.int (nI (T_nb tA)), .int (nI (T_np tA)), .int (wb (T_wh tA)), .int (wb (T_gn tA)), .int (T_sd tB), .ref qkw, .ref qkn, .ref qkg, .ref qka, .ref qkr, .ref qkm, .ref qkt, .ref qks], zzI cy qkw 8 (T_wo tB), zzI cy qkn 8 (T_ne tB), zzI cy qkg 8 (T_go tB), zzI cy qka 8 (T_ag tB), zzI cy qkr 8 (T_re tB), zzI cy qkm 8 (T_me tB), zzI cy qkt 8 (T_te tB), zzI cy qks 64 (shF (T_kn tB)), zzO qt 3 [.int (nI (T_nb tA)), .int (nI (T_np tA)), .int (wb (T_wh tA)), .int (wb (T_gn tA)), .int (T_sd tA), .ref qtw, .ref qtn, .ref qtg, .ref qta, .ref qtr, .ref qtm, .ref qtt, .ref qts], zzI cy qtw 8 (T_wo tA), zzI cy qtn 8 (T_ne tA), zzI cy qtg 8 (T_go tA), zzI cy qta 8 (T_ag tA), zzI cy qtr 8 (T_re tA), zzI cy qtm 8 (T_me tA), zzI cy qtt 8 (T_te tA), zzI cy qts 64 (shF (T_kn tA))] hP hD rfl
  clear hP hD
  obtain ⟨hP, hD⟩ := hPD
  refine lv_aload_n hx hb dX4_become_32 rfl (lv_at hl 0 rfl) ?_
  refine lv_aload_n hx hb dX4_become_33 rfl (lv_at hl 1 rfl) ?_
  refine va_get (D := G) (ci := 3) (v := .int (T_sd tA)) (C := RX4) (T := TX4) (N := 13) hx hb hts iX_X4 hown hK hP 9 rfl rfl 4 (by decide) (hts _ m_t46) (fun _ h9 => h9) rfl dX4_become_34 ?_
  refine va_put (D := G) (ci := 3) (v := .int (T_sd tA)) (ty := .int) (C := RX4) (T := TX4) (N := 13) hx hb hts iX_X4 tyX4 tyX4_ok nmX4 hown hK hP hD hS 0 rfl rfl 4 (by decide) (hts _ m_t46) (fun _ h9 => h9) rfl (by decide +kernel) rfl rfl (Nat.le_of_ble_eq_true rfl) dX4_become_37 (fun H locs => ?_)
  clear hP hD hS
  intro hP hD hS
  have hPD := pd_as [zzO qk 3 [.int (nI (T_nb tA)), .int (nI (T_np tA)), .int (wb (T_wh tA)), .int (wb (T_gn tA)), .int (T_sd tA), .ref qkw, .ref qkn, .ref qkg, .ref qka, .ref qkr, .ref qkm, .ref qkt, .ref qks], zzI cy qkw 8 (T_wo tB), zzI cy qkn 8 (T_ne tB), zzI cy qkg 8 (T_go tB), zzI cy qka 8 (T_ag tB), zzI cy qkr 8 (T_re tB), zzI cy qkm 8 (T_me tB), zzI cy qkt 8 (T_te tB), zzI cy qks 64 (shF (T_kn tB)), zzO qt 3 [.int (nI (T_nb tA)), .int (nI (T_np tA)), .int (wb (T_wh tA)), .int (wb (T_gn tA)), .int (T_sd tA), .ref qtw, .ref qtn, .ref qtg, .ref qta, .ref qtr, .ref qtm, .ref qtt, .ref qts], zzI cy qtw 8 (T_wo tA), zzI cy qtn 8 (T_ne tA), zzI cy qtg 8 (T_go tA), zzI cy qta 8 (T_ag tA), zzI cy qtr 8 (T_re tA), zzI cy qtm 8 (T_me tA), zzI cy qtt 8 (T_te tA), zzI cy qts 64 (shF (T_kn tA))] hP hD rfl
  clear hP hD
  obtain ⟨hP, hD⟩ := hPD
  refine lv_aload_n hx hb dX4_become_40 rfl (lv_at hl 1 rfl) ?_
  refine va_get (D := G) (ci := 3) (v := .ref qtw) (C := RX4) (T := TX4) (N := 13) hx hb hts iX_X4 hown hK hP 9 rfl rfl 5 (by decide) (hts _ m_t48) (fun _ h9 => h9) rfl dX4_become_41 ?_
  refine lv_iconst (v := 0) hx hb dX4_become_44 (by decide) ?_
  refine lv_aload_n hx hb dX4_become_45 rfl (lv_at hl 0 rfl) ?_
  refine va_get (D := G) (ci := 3) (v := .ref qkw) (C := RX4) (T := TX4) (N := 13) hx hb hts iX_X4 hown hK hP 0 rfl rfl 5 (by decide) (hts _ m_t48) (fun _ h9 => h9) rfl dX4_become_46 ?_
  refine lv_iconst (v := 0) hx hb dX4_become_49 (by decide) ?_
  refine lv_bipush (v := 8) hx hb dX4_become_50 (by decide) ?_
  refine cpAll hx hb (hml.trans hl.1.symm) hown (hts _ m_t310) (hts _ m_nat) (hts _ m_t263) (hts _ m_t7) hK hP hD hS 10 1 8 rfl rfl (by decide) (by decide) (Nat.le_of_ble_eq_true rfl) (Nat.le_of_ble_eq_true rfl) dX4_become_52 (fun H locs => ?_)
  clear hP hD hS
  intro hP hD hS
  have hPD := pd_as [zzO qk 3 [.int (nI (T_nb tA)), .int (nI (T_np tA)), .int (wb (T_wh tA)), .int (wb (T_gn tA)), .int (T_sd tA), .ref qkw, .ref qkn, .ref qkg, .ref qka, .ref qkr, .ref qkm, .ref qkt, .ref qks], zzI cy qkw 8 (T_wo tA), zzI cy qkn 8 (T_ne tB), zzI cy qkg 8 (T_go tB), zzI cy qka 8 (T_ag tB), zzI cy qkr 8 (T_re tB), zzI cy qkm 8 (T_me tB), zzI cy qkt 8 (T_te tB), zzI cy qks 64 (shF (T_kn tB)), zzO qt 3 [.int (nI (T_nb tA)), .int (nI (T_np tA)), .int (wb (T_wh tA)), .int (wb (T_gn tA)), .int (T_sd tA), .ref qtw, .ref qtn, .ref qtg, .ref qta, .ref qtr, .ref qtm, .ref qtt, .ref qts], zzI cy qtw 8 (T_wo tA), zzI cy qtn 8 (T_ne tA), zzI cy qtg 8 (T_go tA), zzI cy qta 8 (T_ag tA), zzI cy qtr 8 (T_re tA), zzI cy qtm 8 (T_me tA), zzI cy qtt 8 (T_te tA), zzI cy qts 64 (shF (T_kn tA))] hP hD rfl
  clear hP hD
  obtain ⟨hP, hD⟩ := hPD
  refine lv_aload_n hx hb dX4_become_55 rfl (lv_at hl 1 rfl) ?_
  refine va_get (D := G) (ci := 3) (v := .ref qtn) (C := RX4) (T := TX4) (N := 13) hx hb hts iX_X4 hown hK hP 9 rfl rfl 6 (by decide) (hts _ m_t50) (fun _ h9 => h9) rfl dX4_become_56 ?_
  refine lv_iconst (v := 0) hx hb dX4_become_59 (by decide) ?_
  refine lv_aload_n hx hb dX4_become_60 rfl (lv_at hl 0 rfl) ?_
  refine va_get (D := G) (ci := 3) (v := .ref qkn) (C := RX4) (T := TX4) (N := 13) hx hb hts iX_X4 hown hK hP 0 rfl rfl 6 (by decide) (hts _ m_t50) (fun _ h9 => h9) rfl dX4_become_61 ?_
  refine lv_iconst (v := 0) hx hb dX4_become_64 (by decide) ?_
  refine lv_bipush (v := 8) hx hb dX4_become_65 (by decide) ?_
  refine cpAll hx hb (hml.trans hl.1.symm) hown (hts _ m_t310) (hts _ m_nat) (hts _ m_t263) (hts _ m_t7) hK hP hD hS 11 2 8 rfl rfl (by decide) (by decide) (Nat.le_of_ble_eq_true rfl) (Nat.le_of_ble_eq_true rfl) dX4_become_67 (fun H locs => ?_)
  clear hP hD hS
  intro hP hD hS
  have hPD := pd_as [zzO qk 3 [.int (nI (T_nb tA)), .int (nI (T_np tA)), .int (wb (T_wh tA)), .int (wb (T_gn tA)), .int (T_sd tA), .ref qkw, .ref qkn, .ref qkg, .ref qka, .ref qkr, .ref qkm, .ref qkt, .ref qks], zzI cy qkw 8 (T_wo tA), zzI cy qkn 8 (T_ne tA), zzI cy qkg 8 (T_go tB), zzI cy qka 8 (T_ag tB), zzI cy qkr 8 (T_re tB), zzI cy qkm 8 (T_me tB), zzI cy qkt 8 (T_te tB), zzI cy qks 64 (shF (T_kn tB)), zzO qt 3 [.int (nI (T_nb tA)), .int (nI (T_np tA)), .int (wb (T_wh tA)), .int (wb (T_gn tA)), .int (T_sd tA), .ref qtw, .ref qtn, .ref qtg, .ref qta, .ref qtr, .ref qtm, .ref qtt, .ref qts], zzI cy qtw 8 (T_wo tA), zzI cy qtn 8 (T_ne tA), zzI cy qtg 8 (T_go tA), zzI cy qta 8 (T_ag tA), zzI cy qtr 8 (T_re tA), zzI cy qtm 8 (T_me tA), zzI cy qtt 8 (T_te tA), zzI cy qts 64 (shF (T_kn tA))] hP hD rfl
  clear hP hD
  obtain ⟨hP, hD⟩ := hPD
  refine lv_aload_n hx hb dX4_become_70 rfl (lv_at hl 1 rfl) ?_
  refine va_get (D := G) (ci := 3) (v := .ref qtg) (C := RX4) (T := TX4) (N := 13) hx hb hts iX_X4 hown hK hP 9 rfl rfl 7 (by decide) (hts _ m_t53) (fun _ h9 => h9) rfl dX4_become_71 ?_
  refine lv_iconst (v := 0) hx hb dX4_become_74 (by decide) ?_
  refine lv_aload_n hx hb dX4_become_75 rfl (lv_at hl 0 rfl) ?_
  refine va_get (D := G) (ci := 3) (v := .ref qkg) (C := RX4) (T := TX4) (N := 13) hx hb hts iX_X4 hown hK hP 0 rfl rfl 7 (by decide) (hts _ m_t53) (fun _ h9 => h9) rfl dX4_become_76 ?_
  refine lv_iconst (v := 0) hx hb dX4_become_79 (by decide) ?_
  refine lv_bipush (v := 8) hx hb dX4_become_80 (by decide) ?_
  refine cpAll hx hb (hml.trans hl.1.symm) hown (hts _ m_t310) (hts _ m_nat) (hts _ m_t263) (hts _ m_t7) hK hP hD hS 12 3 8 rfl rfl (by decide) (by decide) (Nat.le_of_ble_eq_true rfl) (Nat.le_of_ble_eq_true rfl) dX4_become_82 (fun H locs => ?_)
  clear hP hD hS
  intro hP hD hS
  have hPD := pd_as [zzO qk 3 [.int (nI (T_nb tA)), .int (nI (T_np tA)), .int (wb (T_wh tA)), .int (wb (T_gn tA)), .int (T_sd tA), .ref qkw, .ref qkn, .ref qkg, .ref qka, .ref qkr, .ref qkm, .ref qkt, .ref qks], zzI cy qkw 8 (T_wo tA), zzI cy qkn 8 (T_ne tA), zzI cy qkg 8 (T_go tA), zzI cy qka 8 (T_ag tB), zzI cy qkr 8 (T_re tB), zzI cy qkm 8 (T_me tB), zzI cy qkt 8 (T_te tB), zzI cy qks 64 (shF (T_kn tB)), zzO qt 3 [.int (nI (T_nb tA)), .int (nI (T_np tA)), .int (wb (T_wh tA)), .int (wb (T_gn tA)), .int (T_sd tA), .ref qtw, .ref qtn, .ref qtg, .ref qta, .ref qtr, .ref qtm, .ref qtt, .ref qts], zzI cy qtw 8 (T_wo tA), zzI cy qtn 8 (T_ne tA), zzI cy qtg 8 (T_go tA), zzI cy qta 8 (T_ag tA), zzI cy qtr 8 (T_re tA), zzI cy qtm 8 (T_me tA), zzI cy qtt 8 (T_te tA), zzI cy qts 64 (shF (T_kn tA))] hP hD rfl
  clear hP hD
  obtain ⟨hP, hD⟩ := hPD
  refine lv_aload_n hx hb dX4_become_85 rfl (lv_at hl 1 rfl) ?_
  refine va_get (D := G) (ci := 3) (v := .ref qta) (C := RX4) (T := TX4) (N := 13) hx hb hts iX_X4 hown hK hP 9 rfl rfl 8 (by decide) (hts _ m_t56) (fun _ h9 => h9) rfl dX4_become_86 ?_
  refine lv_iconst (v := 0) hx hb dX4_become_89 (by decide) ?_
  refine lv_aload_n hx hb dX4_become_90 rfl (lv_at hl 0 rfl) ?_
  refine va_get (D := G) (ci := 3) (v := .ref qka) (C := RX4) (T := TX4) (N := 13) hx hb hts iX_X4 hown hK hP 0 rfl rfl 8 (by decide) (hts _ m_t56) (fun _ h9 => h9) rfl dX4_become_91 ?_
  refine lv_iconst (v := 0) hx hb dX4_become_94 (by decide) ?_
  refine lv_bipush (v := 8) hx hb dX4_become_95 (by decide) ?_
  refine cpAll hx hb (hml.trans hl.1.symm) hown (hts _ m_t310) (hts _ m_nat) (hts _ m_t263) (hts _ m_t7) hK hP hD hS 13 4 8 rfl rfl (by decide) (by decide) (Nat.le_of_ble_eq_true rfl) (Nat.le_of_ble_eq_true rfl) dX4_become_97 (fun H locs => ?_)
  clear hP hD hS
  intro hP hD hS
  have hPD := pd_as [zzO qk 3 [.int (nI (T_nb tA)), .int (nI (T_np tA)), .int (wb (T_wh tA)), .int (wb (T_gn tA)), .int (T_sd tA), .ref qkw, .ref qkn, .ref qkg, .ref qka, .ref qkr, .ref qkm, .ref qkt, .ref qks], zzI cy qkw 8 (T_wo tA), zzI cy qkn 8 (T_ne tA), zzI cy qkg 8 (T_go tA), zzI cy qka 8 (T_ag tA), zzI cy qkr 8 (T_re tB), zzI cy qkm 8 (T_me tB), zzI cy qkt 8 (T_te tB), zzI cy qks 64 (shF (T_kn tB)), zzO qt 3 [.int (nI (T_nb tA)), .int (nI (T_np tA)), .int (wb (T_wh tA)), .int (wb (T_gn tA)), .int (T_sd tA), .ref qtw, .ref qtn, .ref qtg, .ref qta, .ref qtr, .ref qtm, .ref qtt, .ref qts], zzI cy qtw 8 (T_wo tA), zzI cy qtn 8 (T_ne tA), zzI cy qtg 8 (T_go tA), zzI cy qta 8 (T_ag tA), zzI cy qtr 8 (T_re tA), zzI cy qtm 8 (T_me tA), zzI cy qtt 8 (T_te tA), zzI cy qts 64 (shF (T_kn tA))] hP hD rfl
  clear hP hD
  obtain ⟨hP, hD⟩ := hPD
  refine lv_aload_n hx hb dX4_become_100 rfl (lv_at hl 1 rfl) ?_
  refine va_get (D := G) (ci := 3) (v := .ref qtr) (C := RX4) (T := TX4) (N := 13) hx hb hts iX_X4 hown hK hP 9 rfl rfl 9 (by decide) (hts _ m_t58) (fun _ h9 => h9) rfl dX4_become_101 ?_
  refine lv_iconst (v := 0) hx hb dX4_become_104 (by decide) ?_
  refine lv_aload_n hx hb dX4_become_105 rfl (lv_at hl 0 rfl) ?_
  refine va_get (D := G) (ci := 3) (v := .ref qkr) (C := RX4) (T := TX4) (N := 13) hx hb hts iX_X4 hown hK hP 0 rfl rfl 9 (by decide) (hts _ m_t58) (fun _ h9 => h9) rfl dX4_become_106 ?_
  refine lv_iconst (v := 0) hx hb dX4_become_109 (by decide) ?_
  refine lv_bipush (v := 8) hx hb dX4_become_110 (by decide) ?_
  refine cpAll hx hb (hml.trans hl.1.symm) hown (hts _ m_t310) (hts _ m_nat) (hts _ m_t263) (hts _ m_t7) hK hP hD hS 14 5 8 rfl rfl (by decide) (by decide) (Nat.le_of_ble_eq_true rfl) (Nat.le_of_ble_eq_true rfl) dX4_become_112 (fun H locs => ?_)
  clear hP hD hS
  intro hP hD hS
  have hPD := pd_as [zzO qk 3 [.int (nI (T_nb tA)), .int (nI (T_np tA)), .int (wb (T_wh tA)), .int (wb (T_gn tA)), .int (T_sd tA), .ref qkw, .ref qkn, .ref qkg, .ref qka, .ref qkr, .ref qkm, .ref qkt, .ref qks], zzI cy qkw 8 (T_wo tA), zzI cy qkn 8 (T_ne tA), zzI cy qkg 8 (T_go tA), zzI cy qka 8 (T_ag tA), zzI cy qkr 8 (T_re tA), zzI cy qkm 8 (T_me tB), zzI cy qkt 8 (T_te tB), zzI cy qks 64 (shF (T_kn tB)), zzO qt 3 [.int (nI (T_nb tA)), .int (nI (T_np tA)), .int (wb (T_wh tA)), .int (wb (T_gn tA)), .int (T_sd tA), .ref qtw, .ref qtn, .ref qtg, .ref qta, .ref qtr, .ref qtm, .ref qtt, .ref qts], zzI cy qtw 8 (T_wo tA), zzI cy qtn 8 (T_ne tA), zzI cy qtg 8 (T_go tA), zzI cy qta 8 (T_ag tA), zzI cy qtr 8 (T_re tA), zzI cy qtm 8 (T_me tA), zzI cy qtt 8 (T_te tA), zzI cy qts 64 (shF (T_kn tA))] hP hD rfl
  clear hP hD
  obtain ⟨hP, hD⟩ := hPD
  refine lv_aload_n hx hb dX4_become_115 rfl (lv_at hl 1 rfl) ?_
  refine va_get (D := G) (ci := 3) (v := .ref qtm) (C := RX4) (T := TX4) (N := 13) hx hb hts iX_X4 hown hK hP 9 rfl rfl 10 (by decide) (hts _ m_t60) (fun _ h9 => h9) rfl dX4_become_116 ?_
  refine lv_iconst (v := 0) hx hb dX4_become_119 (by decide) ?_
  refine lv_aload_n hx hb dX4_become_120 rfl (lv_at hl 0 rfl) ?_
  refine va_get (D := G) (ci := 3) (v := .ref qkm) (C := RX4) (T := TX4) (N := 13) hx hb hts iX_X4 hown hK hP 0 rfl rfl 10 (by decide) (hts _ m_t60) (fun _ h9 => h9) rfl dX4_become_121 ?_
  refine lv_iconst (v := 0) hx hb dX4_become_124 (by decide) ?_
  refine lv_bipush (v := 8) hx hb dX4_become_125 (by decide) ?_
  refine cpAll hx hb (hml.trans hl.1.symm) hown (hts _ m_t310) (hts _ m_nat) (hts _ m_t263) (hts _ m_t7) hK hP hD hS 15 6 8 rfl rfl (by decide) (by decide) (Nat.le_of_ble_eq_true rfl) (Nat.le_of_ble_eq_true rfl) dX4_become_127 (fun H locs => ?_)
  clear hP hD hS
  intro hP hD hS
  have hPD := pd_as [zzO qk 3 [.int (nI (T_nb tA)), .int (nI (T_np tA)), .int (wb (T_wh tA)), .int (wb (T_gn tA)), .int (T_sd tA), .ref qkw, .ref qkn, .ref qkg, .ref qka, .ref qkr, .ref qkm, .ref qkt, .ref qks], zzI cy qkw 8 (T_wo tA), zzI cy qkn 8 (T_ne tA), zzI cy qkg 8 (T_go tA), zzI cy qka 8 (T_ag tA), zzI cy qkr 8 (T_re tA), zzI cy qkm 8 (T_me tA), zzI cy qkt 8 (T_te tB), zzI cy qks 64 (shF (T_kn tB)), zzO qt 3 [.int (nI (T_nb tA)), .int (nI (T_np tA)), .int (wb (T_wh tA)), .int (wb (T_gn tA)), .int (T_sd tA), .ref qtw, .ref qtn, .ref qtg, .ref qta, .ref qtr, .ref qtm, .ref qtt, .ref qts], zzI cy qtw 8 (T_wo tA), zzI cy qtn 8 (T_ne tA), zzI cy qtg 8 (T_go tA), zzI cy qta 8 (T_ag tA), zzI cy qtr 8 (T_re tA), zzI cy qtm 8 (T_me tA), zzI cy qtt 8 (T_te tA), zzI cy qts 64 (shF (T_kn tA))] hP hD rfl
  clear hP hD
  obtain ⟨hP, hD⟩ := hPD
  refine lv_aload_n hx hb dX4_become_130 rfl (lv_at hl 1 rfl) ?_
  refine va_get (D := G) (ci := 3) (v := .ref qtt) (C := RX4) (T := TX4) (N := 13) hx hb hts iX_X4 hown hK hP 9 rfl rfl 11 (by decide) (hts _ m_t62) (fun _ h9 => h9) rfl dX4_become_131 ?_
  refine lv_iconst (v := 0) hx hb dX4_become_134 (by decide) ?_
  refine lv_aload_n hx hb dX4_become_135 rfl (lv_at hl 0 rfl) ?_
  refine va_get (D := G) (ci := 3) (v := .ref qkt) (C := RX4) (T := TX4) (N := 13) hx hb hts iX_X4 hown hK hP 0 rfl rfl 11 (by decide) (hts _ m_t62) (fun _ h9 => h9) rfl dX4_become_136 ?_
  refine lv_iconst (v := 0) hx hb dX4_become_139 (by decide) ?_
  refine lv_bipush (v := 8) hx hb dX4_become_140 (by decide) ?_
  refine cpAll hx hb (hml.trans hl.1.symm) hown (hts _ m_t310) (hts _ m_nat) (hts _ m_t263) (hts _ m_t7) hK hP hD hS 16 7 8 rfl rfl (by decide) (by decide) (Nat.le_of_ble_eq_true rfl) (Nat.le_of_ble_eq_true rfl) dX4_become_142 (fun H locs => ?_)
  clear hP hD hS
  intro hP hD hS
  have hPD := pd_as [zzO qk 3 [.int (nI (T_nb tA)), .int (nI (T_np tA)), .int (wb (T_wh tA)), .int (wb (T_gn tA)), .int (T_sd tA), .ref qkw, .ref qkn, .ref qkg, .ref qka, .ref qkr, .ref qkm, .ref qkt, .ref qks], zzI cy qkw 8 (T_wo tA), zzI cy qkn 8 (T_ne tA), zzI cy qkg 8 (T_go tA), zzI cy qka 8 (T_ag tA), zzI cy qkr 8 (T_re tA), zzI cy qkm 8 (T_me tA), zzI cy qkt 8 (T_te tA), zzI cy qks 64 (shF (T_kn tB)), zzO qt 3 [.int (nI (T_nb tA)), .int (nI (T_np tA)), .int (wb (T_wh tA)), .int (wb (T_gn tA)), .int (T_sd tA), .ref qtw, .ref qtn, .ref qtg, .ref qta, .ref qtr, .ref qtm, .ref qtt, .ref qts], zzI cy qtw 8 (T_wo tA), zzI cy qtn 8 (T_ne tA), zzI cy qtg 8 (T_go tA), zzI cy qta 8 (T_ag tA), zzI cy qtr 8 (T_re tA), zzI cy qtm 8 (T_me tA), zzI cy qtt 8 (T_te tA), zzI cy qts 64 (shF (T_kn tA))] hP hD rfl
  clear hP hD
  obtain ⟨hP, hD⟩ := hPD
  refine lv_aload_n hx hb dX4_become_145 rfl (lv_at hl 1 rfl) ?_
  refine va_get (D := G) (ci := 3) (v := .ref qts) (C := RX4) (T := TX4) (N := 13) hx hb hts iX_X4 hown hK hP 9 rfl rfl 12 (by decide) (hts _ m_t64) (fun _ h9 => h9) rfl dX4_become_146 ?_
  refine lv_iconst (v := 0) hx hb dX4_become_149 (by decide) ?_
  refine lv_aload_n hx hb dX4_become_150 rfl (lv_at hl 0 rfl) ?_
  refine va_get (D := G) (ci := 3) (v := .ref qks) (C := RX4) (T := TX4) (N := 13) hx hb hts iX_X4 hown hK hP 0 rfl rfl 12 (by decide) (hts _ m_t64) (fun _ h9 => h9) rfl dX4_become_151 ?_
  refine lv_iconst (v := 0) hx hb dX4_become_154 (by decide) ?_
  refine lv_bipush (v := 64) hx hb dX4_become_155 (by decide) ?_
  refine cpAll hx hb (hml.trans hl.1.symm) hown (hts _ m_t310) (hts _ m_nat) (hts _ m_t263) (hts _ m_t7) hK hP hD hS 17 8 64 rfl rfl (by decide) (by decide) (Nat.le_of_ble_eq_true rfl) (Nat.le_of_ble_eq_true rfl) dX4_become_157 (fun H locs => ?_)
  clear hP hD hS
  intro hP hD hS
  have hPD := pd_as [zzO qk 3 [.int (nI (T_nb tA)), .int (nI (T_np tA)), .int (wb (T_wh tA)), .int (wb (T_gn tA)), .int (T_sd tA), .ref qkw, .ref qkn, .ref qkg, .ref qka, .ref qkr, .ref qkm, .ref qkt, .ref qks], zzI cy qkw 8 (T_wo tA), zzI cy qkn 8 (T_ne tA), zzI cy qkg 8 (T_go tA), zzI cy qka 8 (T_ag tA), zzI cy qkr 8 (T_re tA), zzI cy qkm 8 (T_me tA), zzI cy qkt 8 (T_te tA), zzI cy qks 64 (shF (T_kn tA)), zzO qt 3 [.int (nI (T_nb tA)), .int (nI (T_np tA)), .int (wb (T_wh tA)), .int (wb (T_gn tA)), .int (T_sd tA), .ref qtw, .ref qtn, .ref qtg, .ref qta, .ref qtr, .ref qtm, .ref qtt, .ref qts], zzI cy qtw 8 (T_wo tA), zzI cy qtn 8 (T_ne tA), zzI cy qtg 8 (T_go tA), zzI cy qta 8 (T_ag tA), zzI cy qtr 8 (T_re tA), zzI cy qtm 8 (T_me tA), zzI cy qtt 8 (T_te tA), zzI cy qts 64 (shF (T_kn tA))] hP hD rfl
  clear hP hD
  obtain ⟨hP, hD⟩ := hPD
  exact endV (u := [zzO qk 3 [.int (nI (T_nb tA)), .int (nI (T_np tA)), .int (wb (T_wh tA)), .int (wb (T_gn tA)), .int (T_sd tA), .ref qkw, .ref qkn, .ref qkg, .ref qka, .ref qkr, .ref qkm, .ref qkt, .ref qks], zzI cy qkw 8 (T_wo tA), zzI cy qkn 8 (T_ne tA), zzI cy qkg 8 (T_go tA), zzI cy qka 8 (T_ag tA), zzI cy qkr 8 (T_re tA), zzI cy qkm 8 (T_me tA), zzI cy qkt 8 (T_te tA), zzI cy qks 64 (shF (T_kn tA)), zzO qt 3 [.int (nI (T_nb tA)), .int (nI (T_np tA)), .int (wb (T_wh tA)), .int (wb (T_gn tA)), .int (T_sd tA), .ref qtw, .ref qtn, .ref qtg, .ref qta, .ref qtr, .ref qtm, .ref qtt, .ref qts], zzI cy qtw 8 (T_wo tA), zzI cy qtn 8 (T_ne tA), zzI cy qtg 8 (T_go tA), zzI cy qta 8 (T_ag tA), zzI cy qtr 8 (T_re tA), zzI cy qtm 8 (T_me tA), zzI cy qtt 8 (T_te tA), zzI cy qts 64 (shF (T_kn tA))]) hx hb hr hlocks (hP.sub [0, 1, 2, 3, 4, 5, 6, 7, 8, 9, 10, 11, 12, 13, 14, 15, 16, 17] rfl) (hD.sub [0, 1, 2, 3, 4, 5, 6, 7, 8, 9, 10, 11, 12, 13, 14, 15, 16, 17] (by decide +kernel) rfl) hS rfl dX4_become_160
set_option maxHeartbeats 4000000 in
set_option maxRecDepth 100000 in
theorem c_X4_endYear (l : Launch) (G : va_G) (cy : Nat → ClassId) (sz : Nat) (qt : Nat) (tA : TA) (qtw : Nat) (qtn : Nat) (qtg : Nat) (qta : Nat) (qtr : Nat) (qtm : Nat) (qtt : Nat) (qts : Nat)  (hB : T_nb tA ≤ 8) (hPp : T_np tA ≤ 8) : MW l yX4_endYear cX4_endYear 3 (some .int) 4 0 0 G cy [zzO qt 3 [.int (nI (T_nb tA)), .int (nI (T_np tA)), .int (wb (T_wh tA)), .int (wb (T_gn tA)), .int (T_sd tA), .ref qtw, .ref qtn, .ref qtg, .ref qta, .ref qtr, .ref qtm, .ref qtt, .ref qts], zzI cy qtw 8 (T_wo tA), zzI cy qtn 8 (T_ne tA), zzI cy qtg 8 (T_go tA), zzI cy qta 8 (T_ag tA), zzI cy qtr 8 (T_re tA), zzI cy qtm 8 (T_me tA), zzI cy qtt 8 (T_te tA), zzI cy qts 64 (shF (T_kn tA))] sz [.ref qt] (Wi G (fun r u => u = [zzO qt 3 [.int (nI (T_nb (zey tA))), .int (nI (T_np (zey tA))), .int (wb (T_wh (zey tA))), .int (wb (T_gn (zey tA))), .int (T_sd (zey tA)), .ref qtw, .ref qtn, .ref qtg, .ref qta, .ref qtr, .ref qtm, .ref qtt, .ref qts], zzI cy qtw 8 (T_wo (zey tA)), zzI cy qtn 8 (T_ne (zey tA)), zzI cy qtg 8 (T_go (zey tA)), zzI cy qta 8 (T_ag (zey tA)), zzI cy qtr 8 (T_re (zey tA)), zzI cy qtm 8 (T_me (zey tA)), zzI cy qtt 8 (T_te (zey tA)), zzI cy qts 64 (shF (T_kn (zey tA)))] ∧ ((r = (zbc (zthere tA &&& wb (T_gn (zey tA)))))))) := by
  refine enW RX4 (by decide) rfl (Nat.le_of_ble_eq_true rfl) (fun p e s m below meth c ls A hx hb hml hown hts hr hlocks hP hN hl hin hD hA hS => ?_)
  have hin : meth.name = _ := hin
  have hK := hN.1
  replace hl : lv_has ls 3 [(0, .ref qt)] := hl
  refine lv_aload_n hx hb dX4_endYear_0 rfl (lv_at hl 0 rfl) ?_
  refine kRi (rV (As := []) (rest := []) (b := qt) ⟨hx, hb, hml, hown, hts⟩ (c_X4_setThere l G cy qt tA qtw qtn qtg qta qtr qtm qtt qts hPp) L_X4_78 (preRV (q := (RX4, TX4, 13)) hN hP [0] rfl 0 3 rfl rfl) rfl ⟨Nat.le_of_ble_eq_true rfl, Nat.le_of_ble_eq_true rfl⟩ hl.1 (Nat.le_of_ble_eq_true rfl) dX4_endYear_1 ⟨Nat.le_of_ble_eq_true rfl, Nat.le_of_ble_eq_true rfl⟩) (fun r_1 h_2 => ?_)
  subst h_2
  refine lv_istore_n (lv' := [(1, .int (zthere tA)), (0, .ref qt)]) hx hb dX4_endYear_4 rfl hl (by decide) rfl (fun ls => ?_)
  clear hl
  intro hl
  refine lv_iconst (v := 0) hx hb dX4_endYear_5 (by decide) ?_
  refine lv_istore_n (lv' := [(2, .int 0), (1, .int (zthere tA)), (0, .ref qt)]) hx hb dX4_endYear_6 rfl hl (by decide) rfl (fun ls => ?_)
  clear hl
  intro hl
  have lp_3 : ∀ (n_4 : Nat) (j_6 : Nat) (tJ_7 : TA), 8 - j_6 < n_4 → j_6 ≤ T_np tA → tJ_7 = eyF (zthere tA) tA j_6 → ∀ (H : Heap) (locs : List Loc) (ls : Array Slot), va_P G CL [zzO qt 3 [.int (nI (T_nb tJ_7)), .int (nI (T_np tJ_7)), .int (wb (T_wh tJ_7)), .int (wb (T_gn tJ_7)), .int (T_sd tJ_7), .ref qtw, .ref qtn, .ref qtg, .ref qta, .ref qtr, .ref qtm, .ref qtt, .ref qts], zzI cy qtw 8 (T_wo tJ_7), zzI cy qtn 8 (T_ne tJ_7), zzI cy qtg 8 (T_go tJ_7), zzI cy qta 8 (T_ag tJ_7), zzI cy qtr 8 (T_re tJ_7), zzI cy qtm 8 (T_me tJ_7), zzI cy qtt 8 (T_te tJ_7), zzI cy qts 64 (shF (T_kn tJ_7))] H → va_D A [zzO qt 3 [.int (nI (T_nb tJ_7)), .int (nI (T_np tJ_7)), .int (wb (T_wh tJ_7)), .int (wb (T_gn tJ_7)), .int (T_sd tJ_7), .ref qtw, .ref qtn, .ref qtg, .ref qta, .ref qtr, .ref qtm, .ref qtt, .ref qts], zzI cy qtw 8 (T_wo tJ_7), zzI cy qtn 8 (T_ne tJ_7), zzI cy qtg 8 (T_go tJ_7), zzI cy qta 8 (T_ag tJ_7), zzI cy qtr 8 (T_re tJ_7), zzI cy qtm 8 (T_me tJ_7), zzI cy qtt 8 (T_te tJ_7), zzI cy qts 64 (shF (T_kn tJ_7))] → va_S A s.heap H locs → lv_has ls 3 [(2, .int (nI j_6)), (1, .int (zthere tA)), (0, .ref qt)] → W p l e (Rm 4 0 0) s m (List.toArray (α := Value) [.ref qt]) below meth c H locs 0 0 (MQ below ((Wi G (fun r u => u = [zzO qt 3 [.int (nI (T_nb (zey tA))), .int (nI (T_np (zey tA))), .int (wb (T_wh (zey tA))), .int (wb (T_gn (zey tA))), .int (T_sd (zey tA)), .ref qtw, .ref qtn, .ref qtg, .ref qta, .ref qtr, .ref qtm, .ref qtt, .ref qts], zzI cy qtw 8 (T_wo (zey tA)), zzI cy qtn 8 (T_ne (zey tA)), zzI cy qtg 8 (T_go (zey tA)), zzI cy qta 8 (T_ag (zey tA)), zzI cy qtr 8 (T_re (zey tA)), zzI cy qtm 8 (T_me (zey tA)), zzI cy qtt 8 (T_te (zey tA)), zzI cy qts 64 (shF (T_kn (zey tA)))] ∧ ((r = (zbc (zthere tA &&& wb (T_gn (zey tA)))))))) A) (List.toArray (α := Value) [.ref qt]) s 0 0 A) (F0 m 7 ls []) := by
    intro n_4
    induction n_4 with
    | zero => intro j_6 tJ_7 hm9; exact absurd hm9 (Nat.not_lt_zero _)
    | succ n_4 ih_5 =>
      intro j_6 tJ_7 hm_10 hj_8 htJ_9 H locs ls hP hD hS hl
      refine lv_iload_n hx hb dX4_endYear_7 rfl (lv_at hl 0 rfl) ?_
      refine lv_aload_n hx hb dX4_endYear_8 rfl (lv_at hl 2 rfl) ?_
      refine va_get (D := G) (ci := 3) (v := .int (nI (T_np tJ_7))) (C := RX4) (T := TX4) (N := 13) hx hb hts iX_X4 hown hK hP 0 rfl rfl 1 (by decide) (hts _ m_t34) (fun _ h9 => h9) rfl dX4_endYear_9 ?_
      refine lv_icmp_ge (tgt := 67) hx hb dX4_endYear_12 (by decide) (fun c_11 => ?_) (fun c_11 => ?_)
      · have hlt_12e : T_np tJ_7 = T_np tA := by rw [htJ_9]; exact (ey_nb _ _ _).2
        have hlt_12 : j_6 = T_np tA := Nat.le_antisymm (by omega) (by rw [hlt_12e] at c_11; exact lp_ge rfl rfl (by omega) (by omega) c_11)
        have e9_13 : tJ_7 = zey tA := by rw [htJ_9, hlt_12]; rfl
        subst e9_13
        refine lv_iload_n hx hb dX4_endYear_67 rfl (lv_at hl 1 rfl) ?_
        refine lv_aload_n hx hb dX4_endYear_68 rfl (lv_at hl 2 rfl) ?_
        refine va_get (D := G) (ci := 3) (v := .int (wb (T_gn (zey tA)))) (C := RX4) (T := TX4) (N := 13) hx hb hts iX_X4 hown hK hP 0 rfl rfl 3 (by decide) (hts _ m_t43) (fun _ h9 => h9) rfl dX4_endYear_69 ?_
        refine lv_iand hx hb dX4_endYear_72 ?_
        refine kRi (rS (As := [.int ((zthere tA) &&& (wb (T_gn (zey tA))))]) (rest := []) ⟨hx, hb, hml, hown, hts⟩ (c_J6_bitCount l G cy ((zthere tA) &&& (wb (T_gn (zey tA))))) L_X4_115 (preRS hN hP [] rfl) rfl ⟨Nat.le_of_ble_eq_true rfl, Nat.le_of_ble_eq_true rfl⟩ hl.1 (Nat.le_of_ble_eq_true rfl) dX4_endYear_73 ⟨Nat.le_of_ble_eq_true rfl, Nat.le_of_ble_eq_true rfl⟩) (fun r_14 h_15 => ?_)
        subst h_15
        exact endW (u := [zzO qt 3 [.int (nI (T_nb (zey tA))), .int (nI (T_np (zey tA))), .int (wb (T_wh (zey tA))), .int (wb (T_gn (zey tA))), .int (T_sd (zey tA)), .ref qtw, .ref qtn, .ref qtg, .ref qta, .ref qtr, .ref qtm, .ref qtt, .ref qts], zzI cy qtw 8 (T_wo (zey tA)), zzI cy qtn 8 (T_ne (zey tA)), zzI cy qtg 8 (T_go (zey tA)), zzI cy qta 8 (T_ag (zey tA)), zzI cy qtr 8 (T_re (zey tA)), zzI cy qtm 8 (T_me (zey tA)), zzI cy qtt 8 (T_te (zey tA)), zzI cy qts 64 (shF (T_kn (zey tA)))]) hx hb hr hlocks rfl (hP.sub [0, 1, 2, 3, 4, 5, 6, 7, 8] rfl) (hD.sub [0, 1, 2, 3, 4, 5, 6, 7, 8] (by decide +kernel) rfl) hS ⟨rfl, (by simp [hB, hPp, c_11])⟩ dX4_endYear_76
      · have hlt_16e : T_np tJ_7 = T_np tA := by rw [htJ_9]; exact (ey_nb _ _ _).2
        have hlt_16 : j_6 < T_np tA := by rw [hlt_16e] at c_11; exact lp_lt rfl rfl (by omega) (by omega) c_11
        refine lv_iload_n hx hb dX4_endYear_15 rfl (lv_at hl 1 rfl) ?_
        refine lv_iload_n hx hb dX4_endYear_16 rfl (lv_at hl 0 rfl) ?_
        refine kRi (rSN (As := [.int (zthere tA), .int (nI j_6)]) (rest := []) ⟨hx, hb, hml, hown, hts⟩ hN (c_X5_has l G cy (zthere tA) j_6) L_X4_62 (preRS hN hP [] rfl) rfl ⟨Nat.le_of_ble_eq_true rfl, Nat.le_of_ble_eq_true rfl⟩ hl.1 (Nat.le_of_ble_eq_true rfl) dX4_endYear_17 ⟨Nat.le_of_ble_eq_true rfl, Nat.le_of_ble_eq_true rfl⟩) (fun r_17 h_18 => ?_)
        rcases h_18 with ⟨rfl, h_19⟩ | ⟨rfl, h_19⟩
        · refine lv_if_eq (tgt := 61) hx hb dX4_endYear_20 (by decide) (fun h9 => absurd h9 (by decide)) (fun _ => ?_)
          refine lv_aload_n hx hb dX4_endYear_23 rfl (lv_at hl 2 rfl) ?_
          refine va_get (D := G) (ci := 3) (v := .ref qta) (C := RX4) (T := TX4) (N := 13) hx hb hts iX_X4 hown hK hP 0 rfl rfl 8 (by decide) (hts _ m_t56) (fun _ h9 => h9) rfl dX4_endYear_24 ?_
          refine lv_iload_n hx hb dX4_endYear_27 rfl (lv_at hl 0 rfl) ?_
          refine lv_dup2_11 hx hb dX4_endYear_28 rfl rfl ?_
          refine va_iald hx hb hK hP 4 0 rfl rfl (in8 (by omega)) dX4_endYear_29 ?_
          refine lv_seti (v := (T_ag tJ_7) j_6) (congrArg (T_ag tJ_7) (cl8 (by omega))) ?_
          refine lv_iconst (v := 1) hx hb dX4_endYear_30 (by decide) ?_
          refine lv_iadd hx hb dX4_endYear_31 ?_
          refine va_iast hx hb hK hP hD hS 4 0 rfl rfl (in8 (by omega)) dX4_endYear_32 (fun H locs => ?_)
          clear hP hD hS
          intro hP hD hS
          rw [cl8 (k := j_6) (by omega)] at hP hD
          have hPD := pd_as [zzO qt 3 [.int (nI (T_nb tJ_7)), .int (nI (T_np tJ_7)), .int (wb (T_wh tJ_7)), .int (wb (T_gn tJ_7)), .int (T_sd tJ_7), .ref qtw, .ref qtn, .ref qtg, .ref qta, .ref qtr, .ref qtm, .ref qtt, .ref qts], zzI cy qtw 8 (T_wo tJ_7), zzI cy qtn 8 (T_ne tJ_7), zzI cy qtg 8 (T_go tJ_7), zzI cy qta 8 (upd (T_ag tJ_7) j_6 (((T_ag tJ_7) j_6) + 1)), zzI cy qtr 8 (T_re tJ_7), zzI cy qtm 8 (T_me tJ_7), zzI cy qtt 8 (T_te tJ_7), zzI cy qts 64 (shF (T_kn tJ_7))] hP hD rfl
          clear hP hD
          obtain ⟨hP, hD⟩ := hPD
          refine lv_aload_n hx hb dX4_endYear_33 rfl (lv_at hl 2 rfl) ?_
          refine va_get (D := G) (ci := 3) (v := .ref qta) (C := RX4) (T := TX4) (N := 13) hx hb hts iX_X4 hown hK hP 0 rfl rfl 8 (by decide) (hts _ m_t56) (fun _ h9 => h9) rfl dX4_endYear_34 ?_
          refine lv_iload_n hx hb dX4_endYear_37 rfl (lv_at hl 0 rfl) ?_
          refine va_iald hx hb hK hP 4 0 rfl rfl (in8 (by omega)) dX4_endYear_38 ?_
          refine lv_seti (v := ((T_ag tJ_7) j_6) + 1) ((congrArg (upd (T_ag tJ_7) j_6 (((T_ag tJ_7) j_6) + 1)) (cl8 (by omega))).trans pk_us) ?_
          refine lv_bipush (v := 9) hx hb dX4_endYear_39 (by decide) ?_
          refine lv_icmp_le (tgt := 56) hx hb dX4_endYear_41 (by decide) (fun c_21 => ?_) (fun c_21 => ?_)
          · have hPD := pd_as [zzO qt 3 [.int (nI (T_nb (T_setgn (T_setag tJ_7 (upd (T_ag tJ_7) j_6 (T_ag tJ_7 j_6 + 1))) (T_gn tJ_7)))), .int (nI (T_np (T_setgn (T_setag tJ_7 (upd (T_ag tJ_7) j_6 (T_ag tJ_7 j_6 + 1))) (T_gn tJ_7)))), .int (wb (T_wh (T_setgn (T_setag tJ_7 (upd (T_ag tJ_7) j_6 (T_ag tJ_7 j_6 + 1))) (T_gn tJ_7)))), .int (wb (T_gn (T_setgn (T_setag tJ_7 (upd (T_ag tJ_7) j_6 (T_ag tJ_7 j_6 + 1))) (T_gn tJ_7)))), .int (T_sd (T_setgn (T_setag tJ_7 (upd (T_ag tJ_7) j_6 (T_ag tJ_7 j_6 + 1))) (T_gn tJ_7))), .ref qtw, .ref qtn, .ref qtg, .ref qta, .ref qtr, .ref qtm, .ref qtt, .ref qts], zzI cy qtw 8 (T_wo (T_setgn (T_setag tJ_7 (upd (T_ag tJ_7) j_6 (T_ag tJ_7 j_6 + 1))) (T_gn tJ_7))), zzI cy qtn 8 (T_ne (T_setgn (T_setag tJ_7 (upd (T_ag tJ_7) j_6 (T_ag tJ_7 j_6 + 1))) (T_gn tJ_7))), zzI cy qtg 8 (T_go (T_setgn (T_setag tJ_7 (upd (T_ag tJ_7) j_6 (T_ag tJ_7 j_6 + 1))) (T_gn tJ_7))), zzI cy qta 8 (T_ag (T_setgn (T_setag tJ_7 (upd (T_ag tJ_7) j_6 (T_ag tJ_7 j_6 + 1))) (T_gn tJ_7))), zzI cy qtr 8 (T_re (T_setgn (T_setag tJ_7 (upd (T_ag tJ_7) j_6 (T_ag tJ_7 j_6 + 1))) (T_gn tJ_7))), zzI cy qtm 8 (T_me (T_setgn (T_setag tJ_7 (upd (T_ag tJ_7) j_6 (T_ag tJ_7 j_6 + 1))) (T_gn tJ_7))), zzI cy qtt 8 (T_te (T_setgn (T_setag tJ_7 (upd (T_ag tJ_7) j_6 (T_ag tJ_7 j_6 + 1))) (T_gn tJ_7))), zzI cy qts 64 (shF (T_kn (T_setgn (T_setag tJ_7 (upd (T_ag tJ_7) j_6 (T_ag tJ_7 j_6 + 1))) (T_gn tJ_7))))] hP hD rfl
            clear hP hD
            obtain ⟨hP, hD⟩ := hPD
            refine lv_aload_n hx hb dX4_endYear_56 rfl (lv_at hl 2 rfl) ?_
            refine lv_iload_n hx hb dX4_endYear_57 rfl (lv_at hl 0 rfl) ?_
            refine cVv (As := [.int (nI j_6)]) (rest := []) (b := qt) (q := (RX4, TX4, 13)) ⟨hx, hb, hml, hown, hts⟩ (c_X4_forget l G cy (H).size qt (T_setgn (T_setag tJ_7 (upd (T_ag tJ_7) j_6 (T_ag tJ_7 j_6 + 1))) (T_gn tJ_7)) qtw qtn qtg qta qtr qtm qtt qts j_6 (by omega) (by have := (ey_nb (zthere tA) tA j_6).1; rw [← htJ_9] at this; show T_nb tJ_7 ≤ 8; omega)) L_X4_111 hN hP hD hS hA [0, 1, 2, 3, 4, 5, 6, 7, 8] [false, false, false, false, false, false, false, false, false] rfl (by decide +kernel) rfl 0 3 rfl rfl rfl ⟨Nat.le_of_ble_eq_true rfl, Nat.le_of_ble_eq_true rfl⟩ hl.1 (Nat.le_of_ble_eq_true rfl) dX4_endYear_58 ⟨Nat.le_of_ble_eq_true rfl, Nat.le_of_ble_eq_true rfl⟩ (fun u_24 H locs h_23 => ?_)
            clear hP hD hS
            intro hP hD hS
            subst h_23
            have hPD := pd_as [zzO qt 3 [.int (nI (T_nb (fgT (T_setgn (T_setag tJ_7 (upd (T_ag tJ_7) j_6 (T_ag tJ_7 j_6 + 1))) (T_gn tJ_7)) j_6))), .int (nI (T_np (fgT (T_setgn (T_setag tJ_7 (upd (T_ag tJ_7) j_6 (T_ag tJ_7 j_6 + 1))) (T_gn tJ_7)) j_6))), .int (wb (T_wh (fgT (T_setgn (T_setag tJ_7 (upd (T_ag tJ_7) j_6 (T_ag tJ_7 j_6 + 1))) (T_gn tJ_7)) j_6))), .int (wb (T_gn (fgT (T_setgn (T_setag tJ_7 (upd (T_ag tJ_7) j_6 (T_ag tJ_7 j_6 + 1))) (T_gn tJ_7)) j_6))), .int (T_sd (fgT (T_setgn (T_setag tJ_7 (upd (T_ag tJ_7) j_6 (T_ag tJ_7 j_6 + 1))) (T_gn tJ_7)) j_6)), .ref qtw, .ref qtn, .ref qtg, .ref qta, .ref qtr, .ref qtm, .ref qtt, .ref qts], zzI cy qtw 8 (T_wo (fgT (T_setgn (T_setag tJ_7 (upd (T_ag tJ_7) j_6 (T_ag tJ_7 j_6 + 1))) (T_gn tJ_7)) j_6)), zzI cy qtn 8 (T_ne (fgT (T_setgn (T_setag tJ_7 (upd (T_ag tJ_7) j_6 (T_ag tJ_7 j_6 + 1))) (T_gn tJ_7)) j_6)), zzI cy qtg 8 (T_go (fgT (T_setgn (T_setag tJ_7 (upd (T_ag tJ_7) j_6 (T_ag tJ_7 j_6 + 1))) (T_gn tJ_7)) j_6)), zzI cy qta 8 (T_ag (fgT (T_setgn (T_setag tJ_7 (upd (T_ag tJ_7) j_6 (T_ag tJ_7 j_6 + 1))) (T_gn tJ_7)) j_6)), zzI cy qtr 8 (T_re (fgT (T_setgn (T_setag tJ_7 (upd (T_ag tJ_7) j_6 (T_ag tJ_7 j_6 + 1))) (T_gn tJ_7)) j_6)), zzI cy qtm 8 (T_me (fgT (T_setgn (T_setag tJ_7 (upd (T_ag tJ_7) j_6 (T_ag tJ_7 j_6 + 1))) (T_gn tJ_7)) j_6)), zzI cy qtt 8 (T_te (fgT (T_setgn (T_setag tJ_7 (upd (T_ag tJ_7) j_6 (T_ag tJ_7 j_6 + 1))) (T_gn tJ_7)) j_6)), zzI cy qts 64 (shF (T_kn (fgT (T_setgn (T_setag tJ_7 (upd (T_ag tJ_7) j_6 (T_ag tJ_7 j_6 + 1))) (T_gn tJ_7)) j_6)))] hP hD rfl
            clear hP hD
            obtain ⟨hP, hD⟩ := hPD
            refine lv_iinc (v := nI (j_6 + 1)) (lv' := [(2, .int (nI (j_6 + 1))), (1, .int (zthere tA)), (0, .ref qt)]) hx hb dX4_endYear_61 hl (k := 0) rfl (nI_1 _) (by decide) rfl (fun ls => ?_)
            clear hl
            intro hl
            refine lv_goto (tgt := 7) hx hb dX4_endYear_64 (by decide) ?_
            exact ih_5 (j_6 + 1) (fgT (T_setgn (T_setag tJ_7 (upd (T_ag tJ_7) j_6 (T_ag tJ_7 j_6 + 1))) (T_gn tJ_7)) j_6) (by omega) (by omega) (by rw [ey_on h_19, ← htJ_9, eyS, if_neg (Int32.not_lt.mpr c_21)]) _ _ _ hP hD hS (lv_sub hl [0, 1, 2] rfl)
          · refine lv_aload_n hx hb dX4_endYear_44 rfl (lv_at hl 2 rfl) ?_
            refine lv_dup hx hb dX4_endYear_45 rfl ?_
            refine va_get (D := G) (ci := 3) (v := .int (wb (T_gn tJ_7))) (C := RX4) (T := TX4) (N := 13) hx hb hts iX_X4 hown hK hP 0 rfl rfl 3 (by decide) (hts _ m_t43) (fun _ h9 => h9) rfl dX4_endYear_46 ?_
            refine lv_iconst (v := 1) hx hb dX4_endYear_49 (by decide) ?_
            refine lv_iload_n hx hb dX4_endYear_50 rfl (lv_at hl 0 rfl) ?_
            refine lv_ishl hx hb dX4_endYear_51 ?_
            refine lv_ior hx hb dX4_endYear_52 ?_
            refine lv_seti (v := wb (updB (T_gn tJ_7) j_6 true)) (wb_on _ (by omega)) ?_
            refine va_put (D := G) (ci := 3) (v := .int (wb (updB (T_gn tJ_7) j_6 true))) (ty := .int) (C := RX4) (T := TX4) (N := 13) hx hb hts iX_X4 tyX4 tyX4_ok nmX4 hown hK hP hD hS 0 rfl rfl 3 (by decide) (hts _ m_t43) (fun _ h9 => h9) rfl (by decide +kernel) rfl rfl (Nat.le_of_ble_eq_true rfl) dX4_endYear_53 (fun H locs => ?_)
            clear hP hD hS
            intro hP hD hS
            have hPD := pd_as [zzO qt 3 [.int (nI (T_nb tJ_7)), .int (nI (T_np tJ_7)), .int (wb (T_wh tJ_7)), .int (wb (updB (T_gn tJ_7) j_6 true)), .int (T_sd tJ_7), .ref qtw, .ref qtn, .ref qtg, .ref qta, .ref qtr, .ref qtm, .ref qtt, .ref qts], zzI cy qtw 8 (T_wo tJ_7), zzI cy qtn 8 (T_ne tJ_7), zzI cy qtg 8 (T_go tJ_7), zzI cy qta 8 (upd (T_ag tJ_7) j_6 (((T_ag tJ_7) j_6) + 1)), zzI cy qtr 8 (T_re tJ_7), zzI cy qtm 8 (T_me tJ_7), zzI cy qtt 8 (T_te tJ_7), zzI cy qts 64 (shF (T_kn tJ_7))] hP hD rfl
            clear hP hD
            obtain ⟨hP, hD⟩ := hPD
            have hPD := pd_as [zzO qt 3 [.int (nI (T_nb (T_setgn (T_setag tJ_7 (upd (T_ag tJ_7) j_6 (T_ag tJ_7 j_6 + 1))) (updB (T_gn tJ_7) j_6 true)))), .int (nI (T_np (T_setgn (T_setag tJ_7 (upd (T_ag tJ_7) j_6 (T_ag tJ_7 j_6 + 1))) (updB (T_gn tJ_7) j_6 true)))), .int (wb (T_wh (T_setgn (T_setag tJ_7 (upd (T_ag tJ_7) j_6 (T_ag tJ_7 j_6 + 1))) (updB (T_gn tJ_7) j_6 true)))), .int (wb (T_gn (T_setgn (T_setag tJ_7 (upd (T_ag tJ_7) j_6 (T_ag tJ_7 j_6 + 1))) (updB (T_gn tJ_7) j_6 true)))), .int (T_sd (T_setgn (T_setag tJ_7 (upd (T_ag tJ_7) j_6 (T_ag tJ_7 j_6 + 1))) (updB (T_gn tJ_7) j_6 true))), .ref qtw, .ref qtn, .ref qtg, .ref qta, .ref qtr, .ref qtm, .ref qtt, .ref qts], zzI cy qtw 8 (T_wo (T_setgn (T_setag tJ_7 (upd (T_ag tJ_7) j_6 (T_ag tJ_7 j_6 + 1))) (updB (T_gn tJ_7) j_6 true))), zzI cy qtn 8 (T_ne (T_setgn (T_setag tJ_7 (upd (T_ag tJ_7) j_6 (T_ag tJ_7 j_6 + 1))) (updB (T_gn tJ_7) j_6 true))), zzI cy qtg 8 (T_go (T_setgn (T_setag tJ_7 (upd (T_ag tJ_7) j_6 (T_ag tJ_7 j_6 + 1))) (updB (T_gn tJ_7) j_6 true))), zzI cy qta 8 (T_ag (T_setgn (T_setag tJ_7 (upd (T_ag tJ_7) j_6 (T_ag tJ_7 j_6 + 1))) (updB (T_gn tJ_7) j_6 true))), zzI cy qtr 8 (T_re (T_setgn (T_setag tJ_7 (upd (T_ag tJ_7) j_6 (T_ag tJ_7 j_6 + 1))) (updB (T_gn tJ_7) j_6 true))), zzI cy qtm 8 (T_me (T_setgn (T_setag tJ_7 (upd (T_ag tJ_7) j_6 (T_ag tJ_7 j_6 + 1))) (updB (T_gn tJ_7) j_6 true))), zzI cy qtt 8 (T_te (T_setgn (T_setag tJ_7 (upd (T_ag tJ_7) j_6 (T_ag tJ_7 j_6 + 1))) (updB (T_gn tJ_7) j_6 true))), zzI cy qts 64 (shF (T_kn (T_setgn (T_setag tJ_7 (upd (T_ag tJ_7) j_6 (T_ag tJ_7 j_6 + 1))) (updB (T_gn tJ_7) j_6 true))))] hP hD rfl
            clear hP hD
            obtain ⟨hP, hD⟩ := hPD
            refine lv_aload_n hx hb dX4_endYear_56 rfl (lv_at hl 2 rfl) ?_
            refine lv_iload_n hx hb dX4_endYear_57 rfl (lv_at hl 0 rfl) ?_
            refine cVv (As := [.int (nI j_6)]) (rest := []) (b := qt) (q := (RX4, TX4, 13)) ⟨hx, hb, hml, hown, hts⟩ (c_X4_forget l G cy (H).size qt (T_setgn (T_setag tJ_7 (upd (T_ag tJ_7) j_6 (T_ag tJ_7 j_6 + 1))) (updB (T_gn tJ_7) j_6 true)) qtw qtn qtg qta qtr qtm qtt qts j_6 (by omega) (by have := (ey_nb (zthere tA) tA j_6).1; rw [← htJ_9] at this; show T_nb tJ_7 ≤ 8; omega)) L_X4_111 hN hP hD hS hA [0, 1, 2, 3, 4, 5, 6, 7, 8] [false, false, false, false, false, false, false, false, false] rfl (by decide +kernel) rfl 0 3 rfl rfl rfl ⟨Nat.le_of_ble_eq_true rfl, Nat.le_of_ble_eq_true rfl⟩ hl.1 (Nat.le_of_ble_eq_true rfl) dX4_endYear_58 ⟨Nat.le_of_ble_eq_true rfl, Nat.le_of_ble_eq_true rfl⟩ (fun u_27 H locs h_26 => ?_)
            clear hP hD hS
            intro hP hD hS
            subst h_26
            have hPD := pd_as [zzO qt 3 [.int (nI (T_nb (fgT (T_setgn (T_setag tJ_7 (upd (T_ag tJ_7) j_6 (T_ag tJ_7 j_6 + 1))) (updB (T_gn tJ_7) j_6 true)) j_6))), .int (nI (T_np (fgT (T_setgn (T_setag tJ_7 (upd (T_ag tJ_7) j_6 (T_ag tJ_7 j_6 + 1))) (updB (T_gn tJ_7) j_6 true)) j_6))), .int (wb (T_wh (fgT (T_setgn (T_setag tJ_7 (upd (T_ag tJ_7) j_6 (T_ag tJ_7 j_6 + 1))) (updB (T_gn tJ_7) j_6 true)) j_6))), .int (wb (T_gn (fgT (T_setgn (T_setag tJ_7 (upd (T_ag tJ_7) j_6 (T_ag tJ_7 j_6 + 1))) (updB (T_gn tJ_7) j_6 true)) j_6))), .int (T_sd (fgT (T_setgn (T_setag tJ_7 (upd (T_ag tJ_7) j_6 (T_ag tJ_7 j_6 + 1))) (updB (T_gn tJ_7) j_6 true)) j_6)), .ref qtw, .ref qtn, .ref qtg, .ref qta, .ref qtr, .ref qtm, .ref qtt, .ref qts], zzI cy qtw 8 (T_wo (fgT (T_setgn (T_setag tJ_7 (upd (T_ag tJ_7) j_6 (T_ag tJ_7 j_6 + 1))) (updB (T_gn tJ_7) j_6 true)) j_6)), zzI cy qtn 8 (T_ne (fgT (T_setgn (T_setag tJ_7 (upd (T_ag tJ_7) j_6 (T_ag tJ_7 j_6 + 1))) (updB (T_gn tJ_7) j_6 true)) j_6)), zzI cy qtg 8 (T_go (fgT (T_setgn (T_setag tJ_7 (upd (T_ag tJ_7) j_6 (T_ag tJ_7 j_6 + 1))) (updB (T_gn tJ_7) j_6 true)) j_6)), zzI cy qta 8 (T_ag (fgT (T_setgn (T_setag tJ_7 (upd (T_ag tJ_7) j_6 (T_ag tJ_7 j_6 + 1))) (updB (T_gn tJ_7) j_6 true)) j_6)), zzI cy qtr 8 (T_re (fgT (T_setgn (T_setag tJ_7 (upd (T_ag tJ_7) j_6 (T_ag tJ_7 j_6 + 1))) (updB (T_gn tJ_7) j_6 true)) j_6)), zzI cy qtm 8 (T_me (fgT (T_setgn (T_setag tJ_7 (upd (T_ag tJ_7) j_6 (T_ag tJ_7 j_6 + 1))) (updB (T_gn tJ_7) j_6 true)) j_6)), zzI cy qtt 8 (T_te (fgT (T_setgn (T_setag tJ_7 (upd (T_ag tJ_7) j_6 (T_ag tJ_7 j_6 + 1))) (updB (T_gn tJ_7) j_6 true)) j_6)), zzI cy qts 64 (shF (T_kn (fgT (T_setgn (T_setag tJ_7 (upd (T_ag tJ_7) j_6 (T_ag tJ_7 j_6 + 1))) (updB (T_gn tJ_7) j_6 true)) j_6)))] hP hD rfl
            clear hP hD
            obtain ⟨hP, hD⟩ := hPD
            refine lv_iinc (v := nI (j_6 + 1)) (lv' := [(2, .int (nI (j_6 + 1))), (1, .int (zthere tA)), (0, .ref qt)]) hx hb dX4_endYear_61 hl (k := 0) rfl (nI_1 _) (by decide) rfl (fun ls => ?_)
            clear hl
            intro hl
            refine lv_goto (tgt := 7) hx hb dX4_endYear_64 (by decide) ?_
            exact ih_5 (j_6 + 1) (fgT (T_setgn (T_setag tJ_7 (upd (T_ag tJ_7) j_6 (T_ag tJ_7 j_6 + 1))) (updB (T_gn tJ_7) j_6 true)) j_6) (by omega) (by omega) (by rw [ey_on h_19, ← htJ_9, eyS, if_pos (Int32.not_le.mp c_21)]) _ _ _ hP hD hS (lv_sub hl [0, 1, 2] rfl)
        · refine lv_if_eq (tgt := 61) hx hb dX4_endYear_20 (by decide) (fun _ => ?_) (fun h9 => absurd (by decide) h9)
          refine lv_iinc (v := nI (j_6 + 1)) (lv' := [(2, .int (nI (j_6 + 1))), (1, .int (zthere tA)), (0, .ref qt)]) hx hb dX4_endYear_61 hl (k := 0) rfl (nI_1 _) (by decide) rfl (fun ls => ?_)
          clear hl
          intro hl
          refine lv_goto (tgt := 7) hx hb dX4_endYear_64 (by decide) ?_
          exact ih_5 (j_6 + 1) tJ_7 (by omega) (by omega) (by rw [ey_no h_19]; exact htJ_9) _ _ _ hP hD hS (lv_sub hl [0, 1, 2] rfl)
  exact lp_3 ((8 - 0) + 1) 0 tA (Nat.lt_succ_self _) (Nat.zero_le _) rfl _ _ ls hP hD hS (lv_sub hl [0, 1, 2] rfl)
set_option maxHeartbeats 4000000 in
set_option maxRecDepth 100000 in
theorem c_X4_drawDeaths (l : Launch) (G : va_G) (cy : Nat → ClassId) (sz : Nat) (qt : Nat) (tA : TA) (qtw : Nat) (qtn : Nat) (qtg : Nat) (qta : Nat) (qtr : Nat) (qtm : Nat) (qtt : Nat) (qts : Nat)  (hPp : T_np tA ≤ 8) : MW l yX4_drawDeaths cX4_drawDeaths 2 none 2 0 0 G cy [zzO qt 3 [.int (nI (T_nb tA)), .int (nI (T_np tA)), .int (wb (T_wh tA)), .int (wb (T_gn tA)), .int (T_sd tA), .ref qtw, .ref qtn, .ref qtg, .ref qta, .ref qtr, .ref qtm, .ref qtt, .ref qts], zzI cy qtw 8 (T_wo tA), zzI cy qtn 8 (T_ne tA), zzI cy qtg 8 (T_go tA), zzI cy qta 8 (T_ag tA), zzI cy qtr 8 (T_re tA), zzI cy qtm 8 (T_me tA), zzI cy qtt 8 (T_te tA), zzI cy qts 64 (shF (T_kn tA))] sz [.ref qt] (Wv G (fun u => u = [zzO qt 3 [.int (nI (T_nb (zdd tA))), .int (nI (T_np (zdd tA))), .int (wb (T_wh (zdd tA))), .int (wb (T_gn (zdd tA))), .int (T_sd (zdd tA)), .ref qtw, .ref qtn, .ref qtg, .ref qta, .ref qtr, .ref qtm, .ref qtt, .ref qts], zzI cy qtw 8 (T_wo (zdd tA)), zzI cy qtn 8 (T_ne (zdd tA)), zzI cy qtg 8 (T_go (zdd tA)), zzI cy qta 8 (T_ag (zdd tA)), zzI cy qtr 8 (T_re (zdd tA)), zzI cy qtm 8 (T_me (zdd tA)), zzI cy qtt 8 (T_te (zdd tA)), zzI cy qts 64 (shF (T_kn (zdd tA)))])) := by
  refine enW RX4 (by decide) rfl (Nat.le_of_ble_eq_true rfl) (fun p e s m below meth c ls A hx hb hml hown hts hr hlocks hP hN hl hin hD hA hS => ?_)
  have hin : meth.name = _ := hin
  have hK := hN.1
  replace hl : lv_has ls 2 [(0, .ref qt)] := hl
  refine lv_iconst (v := 0) hx hb dX4_drawDeaths_0 (by decide) ?_
  refine lv_istore_n (lv' := [(1, .int 0), (0, .ref qt)]) hx hb dX4_drawDeaths_1 rfl hl (by decide) rfl (fun ls => ?_)
  clear hl
  intro hl
  have lp_1 : ∀ (n_2 : Nat) (j_4 : Nat) (tJ_5 : TA), 8 - j_4 < n_2 → j_4 ≤ T_np tA → tJ_5 = ddF tA j_4 → ∀ (H : Heap) (locs : List Loc) (ls : Array Slot), va_P G CL [zzO qt 3 [.int (nI (T_nb tJ_5)), .int (nI (T_np tJ_5)), .int (wb (T_wh tJ_5)), .int (wb (T_gn tJ_5)), .int (T_sd tJ_5), .ref qtw, .ref qtn, .ref qtg, .ref qta, .ref qtr, .ref qtm, .ref qtt, .ref qts], zzI cy qtw 8 (T_wo tJ_5), zzI cy qtn 8 (T_ne tJ_5), zzI cy qtg 8 (T_go tJ_5), zzI cy qta 8 (T_ag tJ_5), zzI cy qtr 8 (T_re tJ_5), zzI cy qtm 8 (T_me tJ_5), zzI cy qtt 8 (T_te tJ_5), zzI cy qts 64 (shF (T_kn tJ_5))] H → va_D A [zzO qt 3 [.int (nI (T_nb tJ_5)), .int (nI (T_np tJ_5)), .int (wb (T_wh tJ_5)), .int (wb (T_gn tJ_5)), .int (T_sd tJ_5), .ref qtw, .ref qtn, .ref qtg, .ref qta, .ref qtr, .ref qtm, .ref qtt, .ref qts], zzI cy qtw 8 (T_wo tJ_5), zzI cy qtn 8 (T_ne tJ_5), zzI cy qtg 8 (T_go tJ_5), zzI cy qta 8 (T_ag tJ_5), zzI cy qtr 8 (T_re tJ_5), zzI cy qtm 8 (T_me tJ_5), zzI cy qtt 8 (T_te tJ_5), zzI cy qts 64 (shF (T_kn tJ_5))] → va_S A s.heap H locs → lv_has ls 2 [(1, .int (nI j_4)), (0, .ref qt)] → W p l e (Rm 2 0 0) s m (List.toArray (α := Value) [.ref qt]) below meth c H locs 0 0 (MQ below ((Wv G (fun u => u = [zzO qt 3 [.int (nI (T_nb (zdd tA))), .int (nI (T_np (zdd tA))), .int (wb (T_wh (zdd tA))), .int (wb (T_gn (zdd tA))), .int (T_sd (zdd tA)), .ref qtw, .ref qtn, .ref qtg, .ref qta, .ref qtr, .ref qtm, .ref qtt, .ref qts], zzI cy qtw 8 (T_wo (zdd tA)), zzI cy qtn 8 (T_ne (zdd tA)), zzI cy qtg 8 (T_go (zdd tA)), zzI cy qta 8 (T_ag (zdd tA)), zzI cy qtr 8 (T_re (zdd tA)), zzI cy qtm 8 (T_me (zdd tA)), zzI cy qtt 8 (T_te (zdd tA)), zzI cy qts 64 (shF (T_kn (zdd tA)))])) A) (List.toArray (α := Value) [.ref qt]) s 0 0 A) (F0 m 2 ls []) := by
    intro n_2
    induction n_2 with
    | zero => intro j_4 tJ_5 hm9; exact absurd hm9 (Nat.not_lt_zero _)
    | succ n_2 ih_3 =>
      intro j_4 tJ_5 hm_8 hj_6 htJ_7 H locs ls hP hD hS hl
      refine lv_iload_n hx hb dX4_drawDeaths_2 rfl (lv_at hl 0 rfl) ?_
      refine lv_aload_n hx hb dX4_drawDeaths_3 rfl (lv_at hl 1 rfl) ?_
      refine va_get (D := G) (ci := 3) (v := .int (nI (T_np tJ_5))) (C := RX4) (T := TX4) (N := 13) hx hb hts iX_X4 hown hK hP 0 rfl rfl 1 (by decide) (hts _ m_t34) (fun _ h9 => h9) rfl dX4_drawDeaths_4 ?_
      refine lv_icmp_ge (tgt := 52) hx hb dX4_drawDeaths_7 (by decide) (fun c_9 => ?_) (fun c_9 => ?_)
      · have hlt_10e : T_np tJ_5 = T_np tA := by rw [htJ_7]; exact (dd_nb _ _).2
        have hlt_10 : j_4 = T_np tA := Nat.le_antisymm (by omega) (by rw [hlt_10e] at c_9; exact lp_ge rfl rfl (by omega) (by omega) c_9)
        have e9_11 : tJ_5 = zdd tA := by rw [htJ_7, hlt_10]; rfl
        subst e9_11
        exact endV (u := [zzO qt 3 [.int (nI (T_nb (zdd tA))), .int (nI (T_np (zdd tA))), .int (wb (T_wh (zdd tA))), .int (wb (T_gn (zdd tA))), .int (T_sd (zdd tA)), .ref qtw, .ref qtn, .ref qtg, .ref qta, .ref qtr, .ref qtm, .ref qtt, .ref qts], zzI cy qtw 8 (T_wo (zdd tA)), zzI cy qtn 8 (T_ne (zdd tA)), zzI cy qtg 8 (T_go (zdd tA)), zzI cy qta 8 (T_ag (zdd tA)), zzI cy qtr 8 (T_re (zdd tA)), zzI cy qtm 8 (T_me (zdd tA)), zzI cy qtt 8 (T_te (zdd tA)), zzI cy qts 64 (shF (T_kn (zdd tA)))]) hx hb hr hlocks (hP.sub [0, 1, 2, 3, 4, 5, 6, 7, 8] rfl) (hD.sub [0, 1, 2, 3, 4, 5, 6, 7, 8] (by decide +kernel) rfl) hS rfl dX4_drawDeaths_52
      · have hlt_12e : T_np tJ_5 = T_np tA := by rw [htJ_7]; exact (dd_nb _ _).2
        have hlt_12 : j_4 < T_np tA := by rw [hlt_12e] at c_9; exact lp_lt rfl rfl (by omega) (by omega) c_9
        refine lv_aload_n hx hb dX4_drawDeaths_10 rfl (lv_at hl 1 rfl) ?_
        refine va_get (D := G) (ci := 3) (v := .int (wb (T_gn tJ_5))) (C := RX4) (T := TX4) (N := 13) hx hb hts iX_X4 hown hK hP 0 rfl rfl 3 (by decide) (hts _ m_t43) (fun _ h9 => h9) rfl dX4_drawDeaths_11 ?_
        refine lv_iload_n hx hb dX4_drawDeaths_14 rfl (lv_at hl 0 rfl) ?_
        refine kRi (rSN (As := [.int (wb (T_gn tJ_5)), .int (nI j_4)]) (rest := []) ⟨hx, hb, hml, hown, hts⟩ hN (c_X5_has l G cy (wb (T_gn tJ_5)) j_4) L_X4_62 (preRS hN hP [] rfl) rfl ⟨Nat.le_of_ble_eq_true rfl, Nat.le_of_ble_eq_true rfl⟩ hl.1 (Nat.le_of_ble_eq_true rfl) dX4_drawDeaths_15 ⟨Nat.le_of_ble_eq_true rfl, Nat.le_of_ble_eq_true rfl⟩) (fun r_13 h_14 => ?_)
        rcases h_14 with ⟨rfl, h_15⟩ | ⟨rfl, h_15⟩
        · rw [bit_wb _ (by omega)] at h_15
          refine lv_if_ne (tgt := 46) hx hb dX4_drawDeaths_18 (by decide) (fun _ => ?_) (fun h9 => absurd h9 (by decide))
          refine lv_iinc (v := nI (j_4 + 1)) (lv' := [(1, .int (nI (j_4 + 1))), (0, .ref qt)]) hx hb dX4_drawDeaths_46 hl (k := 0) rfl (nI_1 _) (by decide) rfl (fun ls => ?_)
          clear hl
          intro hl
          refine lv_goto (tgt := 2) hx hb dX4_drawDeaths_49 (by decide) ?_
          exact ih_3 (j_4 + 1) tJ_5 (by omega) (by omega) (by rw [dd_g (htJ_7 ▸ h_15)]; exact htJ_7) _ _ _ hP hD hS (lv_sub hl [0, 1] rfl)
        · rw [bit_wb _ (by omega)] at h_15
          refine lv_if_ne (tgt := 46) hx hb dX4_drawDeaths_18 (by decide) (fun h9 => absurd (by decide) h9) (fun _ => ?_)
          refine lv_aload_n hx hb dX4_drawDeaths_21 rfl (lv_at hl 1 rfl) ?_
          refine cVi (As := []) (rest := []) (b := qt) (q := (RX4, TX4, 13)) ⟨hx, hb, hml, hown, hts⟩ (c_X4_drawBelow20 l G cy (H).size qt tJ_5 qtw qtn qtg qta qtr qtm qtt qts) L_X4_120 hN hP hD hS hA [0, 1, 2, 3, 4, 5, 6, 7, 8] [false, false, false, false, false, false, false, false, false] rfl (by decide +kernel) rfl 0 3 rfl rfl rfl ⟨Nat.le_of_ble_eq_true rfl, Nat.le_of_ble_eq_true rfl⟩ hl.1 (Nat.le_of_ble_eq_true rfl) dX4_drawDeaths_22 ⟨Nat.le_of_ble_eq_true rfl, Nat.le_of_ble_eq_true rfl⟩ (fun r_18 u_20 H locs h_19 => ?_)
          clear hP hD hS
          intro hP hD hS
          obtain ⟨rfl, h_19⟩ := h_19
          have hPD := pd_as [zzO qt 3 [.int (nI (T_nb (T_setsd tJ_5 (ltS (T_sd tJ_5))))), .int (nI (T_np (T_setsd tJ_5 (ltS (T_sd tJ_5))))), .int (wb (T_wh (T_setsd tJ_5 (ltS (T_sd tJ_5))))), .int (wb (T_gn (T_setsd tJ_5 (ltS (T_sd tJ_5))))), .int (T_sd (T_setsd tJ_5 (ltS (T_sd tJ_5)))), .ref qtw, .ref qtn, .ref qtg, .ref qta, .ref qtr, .ref qtm, .ref qtt, .ref qts], zzI cy qtw 8 (T_wo (T_setsd tJ_5 (ltS (T_sd tJ_5)))), zzI cy qtn 8 (T_ne (T_setsd tJ_5 (ltS (T_sd tJ_5)))), zzI cy qtg 8 (T_go (T_setsd tJ_5 (ltS (T_sd tJ_5)))), zzI cy qta 8 (T_ag (T_setsd tJ_5 (ltS (T_sd tJ_5)))), zzI cy qtr 8 (T_re (T_setsd tJ_5 (ltS (T_sd tJ_5)))), zzI cy qtm 8 (T_me (T_setsd tJ_5 (ltS (T_sd tJ_5)))), zzI cy qtt 8 (T_te (T_setsd tJ_5 (ltS (T_sd tJ_5)))), zzI cy qts 64 (shF (T_kn (T_setsd tJ_5 (ltS (T_sd tJ_5)))))] hP hD rfl
          clear hP hD
          obtain ⟨hP, hD⟩ := hPD
          subst h_19
          refine lv_aload_n hx hb dX4_drawDeaths_25 rfl (lv_at hl 1 rfl) ?_
          refine va_get (D := G) (ci := 3) (v := .ref qta) (C := RX4) (T := TX4) (N := 13) hx hb hts iX_X4 hown hK hP 0 rfl rfl 8 (by decide) (hts _ m_t56) (fun _ h9 => h9) rfl dX4_drawDeaths_26 ?_
          refine lv_iload_n hx hb dX4_drawDeaths_29 rfl (lv_at hl 0 rfl) ?_
          refine va_iald hx hb hK hP 4 0 rfl rfl (in8 (by omega)) dX4_drawDeaths_30 ?_
          refine lv_seti (v := (T_ag (T_setsd tJ_5 (ltS (T_sd tJ_5)))) j_4) (congrArg (T_ag (T_setsd tJ_5 (ltS (T_sd tJ_5)))) (cl8 (by omega))) ?_
          refine lv_icmp_ge (tgt := 46) hx hb dX4_drawDeaths_31 (by decide) (fun c_21 => ?_) (fun c_21 => ?_)
          · refine lv_iinc (v := nI (j_4 + 1)) (lv' := [(1, .int (nI (j_4 + 1))), (0, .ref qt)]) hx hb dX4_drawDeaths_46 hl (k := 0) rfl (nI_1 _) (by decide) rfl (fun ls => ?_)
            clear hl
            intro hl
            refine lv_goto (tgt := 2) hx hb dX4_drawDeaths_49 (by decide) ?_
            exact ih_3 (j_4 + 1) (T_setsd tJ_5 (ltS (T_sd tJ_5))) (by omega) (by omega) (by rw [dd_live (htJ_7 ▸ h_15) (htJ_7 ▸ Int32.not_lt.mpr c_21), ← htJ_7]) _ _ _ hP hD hS (lv_sub hl [0, 1] rfl)
          · refine lv_aload_n hx hb dX4_drawDeaths_34 rfl (lv_at hl 1 rfl) ?_
            refine lv_dup hx hb dX4_drawDeaths_35 rfl ?_
            refine va_get (D := G) (ci := 3) (v := .int (wb (T_gn (T_setsd tJ_5 (ltS (T_sd tJ_5)))))) (C := RX4) (T := TX4) (N := 13) hx hb hts iX_X4 hown hK hP 0 rfl rfl 3 (by decide) (hts _ m_t43) (fun _ h9 => h9) rfl dX4_drawDeaths_36 ?_
            refine lv_iconst (v := 1) hx hb dX4_drawDeaths_39 (by decide) ?_
            refine lv_iload_n hx hb dX4_drawDeaths_40 rfl (lv_at hl 0 rfl) ?_
            refine lv_ishl hx hb dX4_drawDeaths_41 ?_
            refine lv_ior hx hb dX4_drawDeaths_42 ?_
            refine lv_seti (v := wb (updB (T_gn tJ_5) j_4 true)) (wb_on _ (by omega)) ?_
            refine va_put (D := G) (ci := 3) (v := .int (wb (updB (T_gn tJ_5) j_4 true))) (ty := .int) (C := RX4) (T := TX4) (N := 13) hx hb hts iX_X4 tyX4 tyX4_ok nmX4 hown hK hP hD hS 0 rfl rfl 3 (by decide) (hts _ m_t43) (fun _ h9 => h9) rfl (by decide +kernel) rfl rfl (Nat.le_of_ble_eq_true rfl) dX4_drawDeaths_43 (fun H locs => ?_)
            clear hP hD hS
            intro hP hD hS
            have hPD := pd_as [zzO qt 3 [.int (nI (T_nb (T_setsd tJ_5 (ltS (T_sd tJ_5))))), .int (nI (T_np (T_setsd tJ_5 (ltS (T_sd tJ_5))))), .int (wb (T_wh (T_setsd tJ_5 (ltS (T_sd tJ_5))))), .int (wb (updB (T_gn tJ_5) j_4 true)), .int (T_sd (T_setsd tJ_5 (ltS (T_sd tJ_5)))), .ref qtw, .ref qtn, .ref qtg, .ref qta, .ref qtr, .ref qtm, .ref qtt, .ref qts], zzI cy qtw 8 (T_wo (T_setsd tJ_5 (ltS (T_sd tJ_5)))), zzI cy qtn 8 (T_ne (T_setsd tJ_5 (ltS (T_sd tJ_5)))), zzI cy qtg 8 (T_go (T_setsd tJ_5 (ltS (T_sd tJ_5)))), zzI cy qta 8 (T_ag (T_setsd tJ_5 (ltS (T_sd tJ_5)))), zzI cy qtr 8 (T_re (T_setsd tJ_5 (ltS (T_sd tJ_5)))), zzI cy qtm 8 (T_me (T_setsd tJ_5 (ltS (T_sd tJ_5)))), zzI cy qtt 8 (T_te (T_setsd tJ_5 (ltS (T_sd tJ_5)))), zzI cy qts 64 (shF (T_kn (T_setsd tJ_5 (ltS (T_sd tJ_5)))))] hP hD rfl
            clear hP hD
            obtain ⟨hP, hD⟩ := hPD
            have hPD := pd_as [zzO qt 3 [.int (nI (T_nb (T_setgn (T_setsd tJ_5 (ltS (T_sd tJ_5))) (updB (T_gn tJ_5) j_4 true)))), .int (nI (T_np (T_setgn (T_setsd tJ_5 (ltS (T_sd tJ_5))) (updB (T_gn tJ_5) j_4 true)))), .int (wb (T_wh (T_setgn (T_setsd tJ_5 (ltS (T_sd tJ_5))) (updB (T_gn tJ_5) j_4 true)))), .int (wb (T_gn (T_setgn (T_setsd tJ_5 (ltS (T_sd tJ_5))) (updB (T_gn tJ_5) j_4 true)))), .int (T_sd (T_setgn (T_setsd tJ_5 (ltS (T_sd tJ_5))) (updB (T_gn tJ_5) j_4 true))), .ref qtw, .ref qtn, .ref qtg, .ref qta, .ref qtr, .ref qtm, .ref qtt, .ref qts], zzI cy qtw 8 (T_wo (T_setgn (T_setsd tJ_5 (ltS (T_sd tJ_5))) (updB (T_gn tJ_5) j_4 true))), zzI cy qtn 8 (T_ne (T_setgn (T_setsd tJ_5 (ltS (T_sd tJ_5))) (updB (T_gn tJ_5) j_4 true))), zzI cy qtg 8 (T_go (T_setgn (T_setsd tJ_5 (ltS (T_sd tJ_5))) (updB (T_gn tJ_5) j_4 true))), zzI cy qta 8 (T_ag (T_setgn (T_setsd tJ_5 (ltS (T_sd tJ_5))) (updB (T_gn tJ_5) j_4 true))), zzI cy qtr 8 (T_re (T_setgn (T_setsd tJ_5 (ltS (T_sd tJ_5))) (updB (T_gn tJ_5) j_4 true))), zzI cy qtm 8 (T_me (T_setgn (T_setsd tJ_5 (ltS (T_sd tJ_5))) (updB (T_gn tJ_5) j_4 true))), zzI cy qtt 8 (T_te (T_setgn (T_setsd tJ_5 (ltS (T_sd tJ_5))) (updB (T_gn tJ_5) j_4 true))), zzI cy qts 64 (shF (T_kn (T_setgn (T_setsd tJ_5 (ltS (T_sd tJ_5))) (updB (T_gn tJ_5) j_4 true))))] hP hD rfl
            clear hP hD
            obtain ⟨hP, hD⟩ := hPD
            refine lv_iinc (v := nI (j_4 + 1)) (lv' := [(1, .int (nI (j_4 + 1))), (0, .ref qt)]) hx hb dX4_drawDeaths_46 hl (k := 0) rfl (nI_1 _) (by decide) rfl (fun ls => ?_)
            clear hl
            intro hl
            refine lv_goto (tgt := 2) hx hb dX4_drawDeaths_49 (by decide) ?_
            exact ih_3 (j_4 + 1) (T_setgn (T_setsd tJ_5 (ltS (T_sd tJ_5))) (updB (T_gn tJ_5) j_4 true)) (by omega) (by omega) (by rw [dd_die (htJ_7 ▸ h_15) (htJ_7 ▸ Int32.not_le.mp c_21), ← htJ_7]) _ _ _ hP hD hS (lv_sub hl [0, 1] rfl)
  exact lp_1 ((8 - 0) + 1) 0 tA (Nat.lt_succ_self _) (Nat.zero_le _) rfl _ _ ls hP hD hS (lv_sub hl [0, 1] rfl)
set_option maxHeartbeats 4000000 in
set_option maxRecDepth 100000 in
theorem c_X4_hearFrom (l : Launch) (G : va_G) (cy : Nat → ClassId) (sz : Nat) (qt : Nat) (tA : TA) (qtw : Nat) (qtn : Nat) (qtg : Nat) (qta : Nat) (qtr : Nat) (qtm : Nat) (qtt : Nat) (qts : Nat) (kI : Nat) (kB : Nat) (iO : Int32)  (hI : kI < 8) (hJ : kB < 8) (hPp : T_np tA ≤ 8) : MW l yX4_hearFrom cX4_hearFrom 9 (some .int) 3 0 0 G cy [zzO qt 3 [.int (nI (T_nb tA)), .int (nI (T_np tA)), .int (wb (T_wh tA)), .int (wb (T_gn tA)), .int (T_sd tA), .ref qtw, .ref qtn, .ref qtg, .ref qta, .ref qtr, .ref qtm, .ref qtt, .ref qts], zzI cy qtw 8 (T_wo tA), zzI cy qtn 8 (T_ne tA), zzI cy qtg 8 (T_go tA), zzI cy qta 8 (T_ag tA), zzI cy qtr 8 (T_re tA), zzI cy qtm 8 (T_me tA), zzI cy qtt 8 (T_te tA), zzI cy qts 64 (shF (T_kn tA))] sz [.ref qt, .int (nI kI), .int (nI kB), .int iO] (Wi G (fun r u => u = [zzO qt 3 [.int (nI (T_nb ((zhf tA kI kB iO).1))), .int (nI (T_np ((zhf tA kI kB iO).1))), .int (wb (T_wh ((zhf tA kI kB iO).1))), .int (wb (T_gn ((zhf tA kI kB iO).1))), .int (T_sd ((zhf tA kI kB iO).1)), .ref qtw, .ref qtn, .ref qtg, .ref qta, .ref qtr, .ref qtm, .ref qtt, .ref qts], zzI cy qtw 8 (T_wo ((zhf tA kI kB iO).1)), zzI cy qtn 8 (T_ne ((zhf tA kI kB iO).1)), zzI cy qtg 8 (T_go ((zhf tA kI kB iO).1)), zzI cy qta 8 (T_ag ((zhf tA kI kB iO).1)), zzI cy qtr 8 (T_re ((zhf tA kI kB iO).1)), zzI cy qtm 8 (T_me ((zhf tA kI kB iO).1)), zzI cy qtt 8 (T_te ((zhf tA kI kB iO).1)), zzI cy qts 64 (shF (T_kn ((zhf tA kI kB iO).1)))] ∧ ((r = ((zhf tA kI kB iO).2))))) := by
  refine enW RX4 (by decide) rfl (Nat.le_of_ble_eq_true rfl) (fun p e s m below meth c ls A hx hb hml hown hts hr hlocks hP hN hl hin hD hA hS => ?_)
  have hin : meth.name = _ := hin
  have hK := hN.1
  replace hl : lv_has ls 9 [(0, .ref qt), (1, .int (nI kI)), (2, .int (nI kB)), (3, .int iO)] := hl
  refine lv_aload_n hx hb dX4_hearFrom_0 rfl (lv_at hl 0 rfl) ?_
  refine lv_iload_n hx hb dX4_hearFrom_1 rfl (lv_at hl 1 rfl) ?_
  refine lv_iload_n hx hb dX4_hearFrom_2 rfl (lv_at hl 2 rfl) ?_
  refine kRi (rV (As := [.int (nI kI), .int (nI kB)]) (rest := []) (b := qt) ⟨hx, hb, hml, hown, hts⟩ (c_X4_knows l G cy qt tA qtw qtn qtg qta qtr qtm qtt qts kI kB hI hJ) L_X4_66 (preRV (q := (RX4, TX4, 13)) hN hP [0, 8] rfl 0 3 rfl rfl) rfl ⟨Nat.le_of_ble_eq_true rfl, Nat.le_of_ble_eq_true rfl⟩ hl.1 (Nat.le_of_ble_eq_true rfl) dX4_hearFrom_3 ⟨Nat.le_of_ble_eq_true rfl, Nat.le_of_ble_eq_true rfl⟩) (fun r_1 h_2 => ?_)
  subst h_2
  refine lv_iconst (v := 2) hx hb dX4_hearFrom_6 (by decide) ?_
  refine lv_idiv hx hb dX4_hearFrom_7 (by decide) ?_
  refine lv_istore (lv' := [(4, .int ((T_kn tA kI kB) / 2)), (0, .ref qt), (1, .int (nI kI)), (2, .int (nI kB)), (3, .int iO)]) hx hb dX4_hearFrom_8 hl (by decide) rfl (fun ls => ?_)
  clear hl
  intro hl
  refine lv_iload_n hx hb dX4_hearFrom_10 rfl (lv_at hl 4 rfl) ?_
  refine lv_aload_n hx hb dX4_hearFrom_11 rfl (lv_at hl 1 rfl) ?_
  refine kRi (rV (As := []) (rest := [.int iO]) (b := qt) ⟨hx, hb, hml, hown, hts⟩ (c_X4_setThere l G cy qt tA qtw qtn qtg qta qtr qtm qtt qts hPp) L_X4_78 (preRV (q := (RX4, TX4, 13)) hN hP [0] rfl 0 3 rfl rfl) rfl ⟨Nat.le_of_ble_eq_true rfl, Nat.le_of_ble_eq_true rfl⟩ hl.1 (Nat.le_of_ble_eq_true rfl) dX4_hearFrom_12 ⟨Nat.le_of_ble_eq_true rfl, Nat.le_of_ble_eq_true rfl⟩) (fun r_3 h_4 => ?_)
  subst h_4
  refine lv_iand hx hb dX4_hearFrom_15 ?_
  refine lv_iconst (v := 1) hx hb dX4_hearFrom_16 (by decide) ?_
  refine lv_iload_n hx hb dX4_hearFrom_17 rfl (lv_at hl 2 rfl) ?_
  refine lv_ishl hx hb dX4_hearFrom_18 ?_
  refine lv_iconst (v := (-1)) hx hb dX4_hearFrom_19 (by decide) ?_
  refine lv_ixor hx hb dX4_hearFrom_20 ?_
  refine lv_iand hx hb dX4_hearFrom_21 ?_
  refine lv_istore (lv' := [(5, .int ((iO &&& (zthere tA)) &&& ((1 <<< ((nI kI) &&& 31)) ^^^ (-1)))), (4, .int ((T_kn tA kI kB) / 2)), (0, .ref qt), (1, .int (nI kI)), (2, .int (nI kB)), (3, .int iO)]) hx hb dX4_hearFrom_22 hl (by decide) rfl (fun ls => ?_)
  clear hl
  intro hl
  refine lv_iconst (v := 0) hx hb dX4_hearFrom_24 (by decide) ?_
  refine lv_istore (lv' := [(6, .int 0), (5, .int ((iO &&& (zthere tA)) &&& ((1 <<< ((nI kI) &&& 31)) ^^^ (-1)))), (4, .int ((T_kn tA kI kB) / 2)), (0, .ref qt), (1, .int (nI kI)), (2, .int (nI kB)), (3, .int iO)]) hx hb dX4_hearFrom_25 hl (by decide) rfl (fun ls => ?_)
  clear hl
  intro hl
  refine lv_iconst (v := 0) hx hb dX4_hearFrom_27 (by decide) ?_
  refine lv_istore (lv' := [(7, .int 0), (6, .int 0), (5, .int ((iO &&& (zthere tA)) &&& ((1 <<< ((nI kI) &&& 31)) ^^^ (-1)))), (4, .int ((T_kn tA kI kB) / 2)), (0, .ref qt), (1, .int (nI kI)), (2, .int (nI kB)), (3, .int iO)]) hx hb dX4_hearFrom_28 hl (by decide) rfl (fun ls => ?_)
  clear hl
  intro hl
  have lp_5 : ∀ (n_6 : Nat) (j_8 : Nat) (tJ_9 : TA) (xC_10 : Int32), 8 - j_8 < n_6 → j_8 ≤ T_np tA → tJ_9 = (hfF tA (T_kn tA kI kB / 2) ((iO &&& zthere tA) &&& ((1 <<< (nI kI &&& 31)) ^^^ (-1))) kB j_8).1 → xC_10 = (hfF tA (T_kn tA kI kB / 2) ((iO &&& zthere tA) &&& ((1 <<< (nI kI &&& 31)) ^^^ (-1))) kB j_8).2 → ∀ (H : Heap) (locs : List Loc) (ls : Array Slot), va_P G CL [zzO qt 3 [.int (nI (T_nb tJ_9)), .int (nI (T_np tJ_9)), .int (wb (T_wh tJ_9)), .int (wb (T_gn tJ_9)), .int (T_sd tJ_9), .ref qtw, .ref qtn, .ref qtg, .ref qta, .ref qtr, .ref qtm, .ref qtt, .ref qts], zzI cy qtw 8 (T_wo tJ_9), zzI cy qtn 8 (T_ne tJ_9), zzI cy qtg 8 (T_go tJ_9), zzI cy qta 8 (T_ag tJ_9), zzI cy qtr 8 (T_re tJ_9), zzI cy qtm 8 (T_me tJ_9), zzI cy qtt 8 (T_te tJ_9), zzI cy qts 64 (shF (T_kn tJ_9))] H → va_D A [zzO qt 3 [.int (nI (T_nb tJ_9)), .int (nI (T_np tJ_9)), .int (wb (T_wh tJ_9)), .int (wb (T_gn tJ_9)), .int (T_sd tJ_9), .ref qtw, .ref qtn, .ref qtg, .ref qta, .ref qtr, .ref qtm, .ref qtt, .ref qts], zzI cy qtw 8 (T_wo tJ_9), zzI cy qtn 8 (T_ne tJ_9), zzI cy qtg 8 (T_go tJ_9), zzI cy qta 8 (T_ag tJ_9), zzI cy qtr 8 (T_re tJ_9), zzI cy qtm 8 (T_me tJ_9), zzI cy qtt 8 (T_te tJ_9), zzI cy qts 64 (shF (T_kn tJ_9))] → va_S A s.heap H locs → lv_has ls 9 [(7, .int (nI j_8)), (6, .int xC_10), (5, .int ((iO &&& (zthere tA)) &&& ((1 <<< ((nI kI) &&& 31)) ^^^ (-1)))), (4, .int ((T_kn tA kI kB) / 2)), (0, .ref qt), (1, .int (nI kI)), (2, .int (nI kB)), (3, .int iO)] → W p l e (Rm 3 0 0) s m (List.toArray (α := Value) [.ref qt, .int (nI kI), .int (nI kB), .int iO]) below meth c H locs 0 0 (MQ below ((Wi G (fun r u => u = [zzO qt 3 [.int (nI (T_nb ((zhf tA kI kB iO).1))), .int (nI (T_np ((zhf tA kI kB iO).1))), .int (wb (T_wh ((zhf tA kI kB iO).1))), .int (wb (T_gn ((zhf tA kI kB iO).1))), .int (T_sd ((zhf tA kI kB iO).1)), .ref qtw, .ref qtn, .ref qtg, .ref qta, .ref qtr, .ref qtm, .ref qtt, .ref qts], zzI cy qtw 8 (T_wo ((zhf tA kI kB iO).1)), zzI cy qtn 8 (T_ne ((zhf tA kI kB iO).1)), zzI cy qtg 8 (T_go ((zhf tA kI kB iO).1)), zzI cy qta 8 (T_ag ((zhf tA kI kB iO).1)), zzI cy qtr 8 (T_re ((zhf tA kI kB iO).1)), zzI cy qtm 8 (T_me ((zhf tA kI kB iO).1)), zzI cy qtt 8 (T_te ((zhf tA kI kB iO).1)), zzI cy qts 64 (shF (T_kn ((zhf tA kI kB iO).1)))] ∧ ((r = ((zhf tA kI kB iO).2))))) A) (List.toArray (α := Value) [.ref qt, .int (nI kI), .int (nI kB), .int iO]) s 0 0 A) (F0 m 30 ls []) := by
    intro n_6
    induction n_6 with
    | zero => intro j_8 tJ_9 xC_10 hm9; exact absurd hm9 (Nat.not_lt_zero _)
    | succ n_6 ih_7 =>
      intro j_8 tJ_9 xC_10 hm_14 hj_11 htJ_12 hxC_13 H locs ls hP hD hS hl
      refine lv_iload hx hb dX4_hearFrom_30 (lv_at hl 0 rfl) ?_
      refine lv_aload_n hx hb dX4_hearFrom_32 rfl (lv_at hl 4 rfl) ?_
      refine va_get (D := G) (ci := 3) (v := .int (nI (T_np tJ_9))) (C := RX4) (T := TX4) (N := 13) hx hb hts iX_X4 hown hK hP 0 rfl rfl 1 (by decide) (hts _ m_t34) (fun _ h9 => h9) rfl dX4_hearFrom_33 ?_
      refine lv_icmp_ge (tgt := 93) hx hb dX4_hearFrom_36 (by decide) (fun c_15 => ?_) (fun c_15 => ?_)
      · have hlt_16e : T_np tJ_9 = T_np tA := by rw [htJ_12]; exact (hf_nb _ _ _ _ _).2
        have hlt_16 : j_8 = T_np tA := Nat.le_antisymm (by omega) (by rw [hlt_16e] at c_15; exact lp_ge rfl rfl (by omega) (by omega) c_15)
        have e9_17 : tJ_9 = (zhf tA kI kB iO).1 := by rw [htJ_12, hlt_16]; rfl
        subst e9_17
        refine lv_iload hx hb dX4_hearFrom_93 (lv_at hl 1 rfl) ?_
        exact endW (u := [zzO qt 3 [.int (nI (T_nb ((zhf tA kI kB iO).1))), .int (nI (T_np ((zhf tA kI kB iO).1))), .int (wb (T_wh ((zhf tA kI kB iO).1))), .int (wb (T_gn ((zhf tA kI kB iO).1))), .int (T_sd ((zhf tA kI kB iO).1)), .ref qtw, .ref qtn, .ref qtg, .ref qta, .ref qtr, .ref qtm, .ref qtt, .ref qts], zzI cy qtw 8 (T_wo ((zhf tA kI kB iO).1)), zzI cy qtn 8 (T_ne ((zhf tA kI kB iO).1)), zzI cy qtg 8 (T_go ((zhf tA kI kB iO).1)), zzI cy qta 8 (T_ag ((zhf tA kI kB iO).1)), zzI cy qtr 8 (T_re ((zhf tA kI kB iO).1)), zzI cy qtm 8 (T_me ((zhf tA kI kB iO).1)), zzI cy qtt 8 (T_te ((zhf tA kI kB iO).1)), zzI cy qts 64 (shF (T_kn ((zhf tA kI kB iO).1)))]) hx hb hr hlocks rfl (hP.sub [0, 1, 2, 3, 4, 5, 6, 7, 8] rfl) (hD.sub [0, 1, 2, 3, 4, 5, 6, 7, 8] (by decide +kernel) rfl) hS ⟨rfl, (by rw [hxC_13, hlt_16]; rfl)⟩ dX4_hearFrom_95
      · have hlt_18e : T_np tJ_9 = T_np tA := by rw [htJ_12]; exact (hf_nb _ _ _ _ _).2
        have hlt_18 : j_8 < T_np tA := by rw [hlt_18e] at c_15; exact lp_lt rfl rfl (by omega) (by omega) c_15
        refine lv_iload hx hb dX4_hearFrom_39 (lv_at hl 3 rfl) ?_
        refine lv_aload_n hx hb dX4_hearFrom_41 rfl (lv_at hl 4 rfl) ?_
        refine lv_iload hx hb dX4_hearFrom_42 (lv_at hl 0 rfl) ?_
        refine lv_iload_n hx hb dX4_hearFrom_44 rfl (lv_at hl 6 rfl) ?_
        refine kRi (rV (As := [.int (nI j_8), .int (nI kB)]) (rest := [.int ((T_kn tA kI kB) / 2)]) (b := qt) ⟨hx, hb, hml, hown, hts⟩ (c_X4_groundOf l G cy qt tJ_9 qtw qtn qtg qta qtr qtm qtt qts j_8 kB (by omega) hJ) L_X4_85 (preRV (q := (RX4, TX4, 13)) hN hP [0, 2, 8] rfl 0 3 rfl rfl) rfl ⟨Nat.le_of_ble_eq_true rfl, Nat.le_of_ble_eq_true rfl⟩ hl.1 (Nat.le_of_ble_eq_true rfl) dX4_hearFrom_45 ⟨Nat.le_of_ble_eq_true rfl, Nat.le_of_ble_eq_true rfl⟩) (fun r_19 h_20 => ?_)
        subst h_20
        refine kRi (rS (As := [.int ((T_kn tA kI kB) / 2), .int (zgd tJ_9 j_8 kB)]) (rest := []) ⟨hx, hb, hml, hown, hts⟩ (c_X4_grasped l G cy ((T_kn tA kI kB) / 2) (zgd tJ_9 j_8 kB)) L_X4_88 (preRS hN hP [] rfl) rfl ⟨Nat.le_of_ble_eq_true rfl, Nat.le_of_ble_eq_true rfl⟩ hl.1 (Nat.le_of_ble_eq_true rfl) dX4_hearFrom_48 ⟨Nat.le_of_ble_eq_true rfl, Nat.le_of_ble_eq_true rfl⟩) (fun r_21 h_22 => ?_)
        subst h_22
        refine lv_istore (lv' := [(8, .int (zgr ((T_kn tA kI kB) / 2) (zgd tJ_9 j_8 kB))), (7, .int (nI j_8)), (6, .int xC_10), (5, .int ((iO &&& (zthere tA)) &&& ((1 <<< ((nI kI) &&& 31)) ^^^ (-1)))), (4, .int ((T_kn tA kI kB) / 2)), (0, .ref qt), (1, .int (nI kI)), (2, .int (nI kB)), (3, .int iO)]) hx hb dX4_hearFrom_51 hl (by decide) rfl (fun ls => ?_)
        clear hl
        intro hl
        refine lv_iload hx hb dX4_hearFrom_53 (lv_at hl 3 rfl) ?_
        refine lv_iload hx hb dX4_hearFrom_55 (lv_at hl 1 rfl) ?_
        refine kRi (rSN (As := [.int ((iO &&& (zthere tA)) &&& ((1 <<< ((nI kI) &&& 31)) ^^^ (-1))), .int (nI j_8)]) (rest := []) ⟨hx, hb, hml, hown, hts⟩ hN (c_X5_has l G cy ((iO &&& (zthere tA)) &&& ((1 <<< ((nI kI) &&& 31)) ^^^ (-1))) j_8) L_X4_62 (preRS hN hP [] rfl) rfl ⟨Nat.le_of_ble_eq_true rfl, Nat.le_of_ble_eq_true rfl⟩ hl.1 (Nat.le_of_ble_eq_true rfl) dX4_hearFrom_57 ⟨Nat.le_of_ble_eq_true rfl, Nat.le_of_ble_eq_true rfl⟩) (fun r_23 h_24 => ?_)
        rcases h_24 with ⟨rfl, h_25⟩ | ⟨rfl, h_25⟩
        · refine lv_if_eq (tgt := 87) hx hb dX4_hearFrom_60 (by decide) (fun h9 => absurd h9 (by decide)) (fun _ => ?_)
          refine lv_iload hx hb dX4_hearFrom_63 (lv_at hl 0 rfl) ?_
          refine lv_aload_n hx hb dX4_hearFrom_65 rfl (lv_at hl 5 rfl) ?_
          refine lv_iload hx hb dX4_hearFrom_66 (lv_at hl 1 rfl) ?_
          refine lv_iload_n hx hb dX4_hearFrom_68 rfl (lv_at hl 7 rfl) ?_
          refine kRi (rV (As := [.int (nI j_8), .int (nI kB)]) (rest := [.int (zgr ((T_kn tA kI kB) / 2) (zgd tJ_9 j_8 kB))]) (b := qt) ⟨hx, hb, hml, hown, hts⟩ (c_X4_knows l G cy qt tJ_9 qtw qtn qtg qta qtr qtm qtt qts j_8 kB (by omega) hJ) L_X4_66 (preRV (q := (RX4, TX4, 13)) hN hP [0, 8] rfl 0 3 rfl rfl) rfl ⟨Nat.le_of_ble_eq_true rfl, Nat.le_of_ble_eq_true rfl⟩ hl.1 (Nat.le_of_ble_eq_true rfl) dX4_hearFrom_69 ⟨Nat.le_of_ble_eq_true rfl, Nat.le_of_ble_eq_true rfl⟩) (fun r_27 h_28 => ?_)
          subst h_28
          refine lv_icmp_le (tgt := 87) hx hb dX4_hearFrom_72 (by decide) (fun c_29 => ?_) (fun c_29 => ?_)
          · refine lv_iinc (v := nI (j_8 + 1)) (lv' := [(7, .int (nI (j_8 + 1))), (8, .int (zgr ((T_kn tA kI kB) / 2) (zgd tJ_9 j_8 kB))), (6, .int xC_10), (5, .int ((iO &&& (zthere tA)) &&& ((1 <<< ((nI kI) &&& 31)) ^^^ (-1)))), (4, .int ((T_kn tA kI kB) / 2)), (0, .ref qt), (1, .int (nI kI)), (2, .int (nI kB)), (3, .int iO)]) hx hb dX4_hearFrom_87 hl (k := 1) rfl (nI_1 _) (by decide) rfl (fun ls => ?_)
            clear hl
            intro hl
            refine lv_goto (tgt := 30) hx hb dX4_hearFrom_90 (by decide) ?_
            exact ih_7 (j_8 + 1) tJ_9 xC_10 (by omega) (by omega) (by rw [hf_no2 (htJ_12 ▸ Int32.not_lt.mpr c_29)]; exact htJ_12) (by rw [hf_no2 (htJ_12 ▸ Int32.not_lt.mpr c_29)]; exact hxC_13) _ _ _ hP hD hS (lv_sub hl [0, 2, 3, 4, 5, 6, 7, 8] rfl)
          · refine lv_aload_n hx hb dX4_hearFrom_75 rfl (lv_at hl 5 rfl) ?_
            refine lv_iload hx hb dX4_hearFrom_76 (lv_at hl 1 rfl) ?_
            refine lv_iload_n hx hb dX4_hearFrom_78 rfl (lv_at hl 7 rfl) ?_
            refine lv_iload hx hb dX4_hearFrom_79 (lv_at hl 0 rfl) ?_
            refine cVv (As := [.int (nI j_8), .int (nI kB), .int (zgr ((T_kn tA kI kB) / 2) (zgd tJ_9 j_8 kB))]) (rest := []) (b := qt) (q := (RX4, TX4, 13)) ⟨hx, hb, hml, hown, hts⟩ (c_X4_learn l G cy (H).size qt tJ_9 qtw qtn qtg qta qtr qtm qtt qts j_8 kB (zgr ((T_kn tA kI kB) / 2) (zgd tJ_9 j_8 kB)) (by omega) hJ) L_X4_94 hN hP hD hS hA [0, 8] [false, true, true, true, true, true, true, true, false] rfl (by decide +kernel) rfl 0 3 rfl rfl rfl ⟨Nat.le_of_ble_eq_true rfl, Nat.le_of_ble_eq_true rfl⟩ hl.1 (Nat.le_of_ble_eq_true rfl) dX4_hearFrom_81 ⟨Nat.le_of_ble_eq_true rfl, Nat.le_of_ble_eq_true rfl⟩ (fun u_32 H locs h_31 => ?_)
            clear hP hD hS
            intro hP hD hS
            subst h_31
            have hPD := pd_as [zzI cy qtw 8 (T_wo (T_setkn tJ_9 (updM (T_kn tJ_9) j_8 kB (zgr ((T_kn tA kI kB) / 2) (zgd tJ_9 j_8 kB))))), zzI cy qtn 8 (T_ne (T_setkn tJ_9 (updM (T_kn tJ_9) j_8 kB (zgr ((T_kn tA kI kB) / 2) (zgd tJ_9 j_8 kB))))), zzI cy qtg 8 (T_go (T_setkn tJ_9 (updM (T_kn tJ_9) j_8 kB (zgr ((T_kn tA kI kB) / 2) (zgd tJ_9 j_8 kB))))), zzI cy qta 8 (T_ag (T_setkn tJ_9 (updM (T_kn tJ_9) j_8 kB (zgr ((T_kn tA kI kB) / 2) (zgd tJ_9 j_8 kB))))), zzI cy qtr 8 (T_re (T_setkn tJ_9 (updM (T_kn tJ_9) j_8 kB (zgr ((T_kn tA kI kB) / 2) (zgd tJ_9 j_8 kB))))), zzI cy qtm 8 (T_me (T_setkn tJ_9 (updM (T_kn tJ_9) j_8 kB (zgr ((T_kn tA kI kB) / 2) (zgd tJ_9 j_8 kB))))), zzI cy qtt 8 (T_te (T_setkn tJ_9 (updM (T_kn tJ_9) j_8 kB (zgr ((T_kn tA kI kB) / 2) (zgd tJ_9 j_8 kB))))), zzO qt 3 [.int (nI (T_nb (T_setkn tJ_9 (updM (T_kn tJ_9) j_8 kB (zgr ((T_kn tA kI kB) / 2) (zgd tJ_9 j_8 kB)))))), .int (nI (T_np (T_setkn tJ_9 (updM (T_kn tJ_9) j_8 kB (zgr ((T_kn tA kI kB) / 2) (zgd tJ_9 j_8 kB)))))), .int (wb (T_wh (T_setkn tJ_9 (updM (T_kn tJ_9) j_8 kB (zgr ((T_kn tA kI kB) / 2) (zgd tJ_9 j_8 kB)))))), .int (wb (T_gn (T_setkn tJ_9 (updM (T_kn tJ_9) j_8 kB (zgr ((T_kn tA kI kB) / 2) (zgd tJ_9 j_8 kB)))))), .int (T_sd (T_setkn tJ_9 (updM (T_kn tJ_9) j_8 kB (zgr ((T_kn tA kI kB) / 2) (zgd tJ_9 j_8 kB))))), .ref qtw, .ref qtn, .ref qtg, .ref qta, .ref qtr, .ref qtm, .ref qtt, .ref qts], zzI cy qts 64 (shF (T_kn (T_setkn tJ_9 (updM (T_kn tJ_9) j_8 kB (zgr ((T_kn tA kI kB) / 2) (zgd tJ_9 j_8 kB))))))] hP hD rfl
            clear hP hD
            obtain ⟨hP, hD⟩ := hPD
            refine lv_iinc (v := xC_10 + 1) (lv' := [(6, .int (xC_10 + 1)), (8, .int (zgr ((T_kn tA kI kB) / 2) (zgd tJ_9 j_8 kB))), (7, .int (nI j_8)), (5, .int ((iO &&& (zthere tA)) &&& ((1 <<< ((nI kI) &&& 31)) ^^^ (-1)))), (4, .int ((T_kn tA kI kB) / 2)), (0, .ref qt), (1, .int (nI kI)), (2, .int (nI kB)), (3, .int iO)]) hx hb dX4_hearFrom_84 hl (k := 2) rfl (rfl) (by decide) rfl (fun ls => ?_)
            clear hl
            intro hl
            refine lv_iinc (v := nI (j_8 + 1)) (lv' := [(7, .int (nI (j_8 + 1))), (6, .int (xC_10 + 1)), (8, .int (zgr ((T_kn tA kI kB) / 2) (zgd tJ_9 j_8 kB))), (5, .int ((iO &&& (zthere tA)) &&& ((1 <<< ((nI kI) &&& 31)) ^^^ (-1)))), (4, .int ((T_kn tA kI kB) / 2)), (0, .ref qt), (1, .int (nI kI)), (2, .int (nI kB)), (3, .int iO)]) hx hb dX4_hearFrom_87 hl (k := 2) rfl (nI_1 _) (by decide) rfl (fun ls => ?_)
            clear hl
            intro hl
            refine lv_goto (tgt := 30) hx hb dX4_hearFrom_90 (by decide) ?_
            exact ih_7 (j_8 + 1) (T_setkn tJ_9 (updM (T_kn tJ_9) j_8 kB (zgr ((T_kn tA kI kB) / 2) (zgd tJ_9 j_8 kB)))) (xC_10 + 1) (by omega) (by omega) (by rw [hf_on h_25 (htJ_12 ▸ Int32.not_le.mp c_29), ← htJ_12]) (by rw [hf_on h_25 (htJ_12 ▸ Int32.not_le.mp c_29), ← hxC_13]) _ _ _ (hP.sub [7, 0, 1, 2, 3, 4, 5, 6, 8] rfl) (hD.sub [7, 0, 1, 2, 3, 4, 5, 6, 8] (by decide +kernel) rfl) hS (lv_sub hl [0, 1, 3, 4, 5, 6, 7, 8] rfl)
        · refine lv_if_eq (tgt := 87) hx hb dX4_hearFrom_60 (by decide) (fun _ => ?_) (fun h9 => absurd (by decide) h9)
          refine lv_iinc (v := nI (j_8 + 1)) (lv' := [(7, .int (nI (j_8 + 1))), (8, .int (zgr ((T_kn tA kI kB) / 2) (zgd tJ_9 j_8 kB))), (6, .int xC_10), (5, .int ((iO &&& (zthere tA)) &&& ((1 <<< ((nI kI) &&& 31)) ^^^ (-1)))), (4, .int ((T_kn tA kI kB) / 2)), (0, .ref qt), (1, .int (nI kI)), (2, .int (nI kB)), (3, .int iO)]) hx hb dX4_hearFrom_87 hl (k := 1) rfl (nI_1 _) (by decide) rfl (fun ls => ?_)
          clear hl
          intro hl
          refine lv_goto (tgt := 30) hx hb dX4_hearFrom_90 (by decide) ?_
          exact ih_7 (j_8 + 1) tJ_9 xC_10 (by omega) (by omega) (by rw [hf_no1 h_25]; exact htJ_12) (by rw [hf_no1 h_25]; exact hxC_13) _ _ _ hP hD hS (lv_sub hl [0, 2, 3, 4, 5, 6, 7, 8] rfl)
  exact lp_5 ((8 - 0) + 1) 0 tA 0 (Nat.lt_succ_self _) (Nat.zero_le _) rfl rfl _ _ ls hP hD hS (lv_sub hl [0, 1, 2, 3, 4, 5, 6, 7] rfl)
end
section
/-! rules and plans -/
noncomputable def tlT (t : TA) (p o b : Nat) : TA := T_setkn t (updM (T_kn t) o b (T_kn t o b + zgt t p o b))
noncomputable def tcI (t : TA) (p o : Nat) : Nat → TA
  | 0 => t
  | b + 1 => tlT (tcI t p o b) p o b
noncomputable def tcS (t : TA) (p : Nat) : TA := if T_gn t p = true then t else if zyb t (nI p) = -1 then t else tcI t p (zyb t (nI p)).toNatClampNeg (T_nb t)
noncomputable def tcF (t : TA) : Nat → TA
  | 0 => t
  | p + 1 => tcS (tcF t p) p
noncomputable def zch (t : TA) : TA := tcF t (T_np t)
theorem tcI_nb (t : TA) (p o : Nat) : ∀ n, T_nb (tcI t p o n) = T_nb t ∧ T_np (tcI t p o n) = T_np t := by
  intro n
  induction n with
  | zero => exact ⟨rfl, rfl⟩
  | succ n ih => exact ih
theorem tcS_nb (t : TA) (p : Nat) : T_nb (tcS t p) = T_nb t ∧ T_np (tcS t p) = T_np t := by
  unfold tcS
  split
  · exact ⟨rfl, rfl⟩
  · split
    · exact ⟨rfl, rfl⟩
    · exact tcI_nb _ _ _ _
theorem tcF_nb (t : TA) : ∀ n, T_nb (tcF t n) = T_nb t ∧ T_np (tcF t n) = T_np t := by
  intro n
  induction n with
  | zero => exact ⟨rfl, rfl⟩
  | succ n ih => exact ⟨(tcS_nb _ _).1.trans ih.1, (tcS_nb _ _).2.trans ih.2⟩
theorem tcS_g {t : TA} {p : Nat} (h : T_gn t p = true) : tcS t p = t := by rw [tcS, if_pos h]
theorem tcS_n {t : TA} {p : Nat} (h : T_gn t p = false) (e : zyb t (nI p) = -1) : tcS t p = t := by rw [tcS, if_neg (by rw [h]; decide), if_pos e]
theorem tcS_y {t : TA} {p k : Nat} (h : T_gn t p = false) (e : zyb t (nI p) = nI k) (hk : k < 8) : tcS t p = tcI t p k (T_nb t) := by
  rw [tcS, if_neg (by rw [h]; decide), if_neg (by rw [e]; intro q; have := nI_pos (n := k) (by omega); rw [q] at this; exact this (by decide)), e, nI_clamp (by omega)]
noncomputable def rdS (t : TA) (p b : Nat) (loud : Int32) : TA := if loud = 0 then rdT t p b else (zhf (rdT t p b) p b (zthere (rdT t p b))).1
noncomputable def rdG (loud most : Int32) : Nat → Nat → TA → Int32 → TA × Int32
  | 0, _, t, c => (t, c)
  | n + 1, j, t, c => if most ≤ nI j then (t, c) else if zdu t = -1 then (t, c) else if zbr t (zdu t).toNatClampNeg = -1 then (t, c) else rdG loud most n (j + 1) (rdS t (zbr t (zdu t).toNatClampNeg).toNatClampNeg (zdu t).toNatClampNeg loud) (c + 1)
noncomputable def zrd (t : TA) (most loud : Int32) : TA × Int32 := rdG loud most 8 0 t 0
theorem rd_m {loud most : Int32} {n j : Nat} {t : TA} {c : Int32} (h : most ≤ nI j) : rdG loud most n j t c = (t, c) := by
  cases n with
  | zero => rfl
  | succ n => rw [rdG, if_pos h]
theorem rd_u {loud most : Int32} {n j : Nat} {t : TA} {c : Int32} (e : zdu t = -1) : rdG loud most n j t c = (t, c) := by
  cases n with
  | zero => rfl
  | succ n =>
    rw [rdG]
    split
    · rfl
    · first | rfl | rw [if_pos e]
theorem rd_b {loud most : Int32} {n j k : Nat} {t : TA} {c : Int32} (e : zdu t = nI k) (hk : k < 8) (e2 : zbr t k = -1) : rdG loud most n j t c = (t, c) := by
  cases n with
  | zero => rfl
  | succ n =>
    rw [rdG]
    split
    · rfl
    · split
      · rfl
      · first | rfl | rw [e, nI_clamp (by omega), if_pos e2]
theorem nI_ne1 {k : Nat} (hk : k < 8) : ¬ nI k = -1 := fun q => by
  have := nI_pos (n := k) (by omega)
  rw [q] at this
  exact this (by decide)
theorem rd_go {loud most : Int32} {n j k i : Nat} {t : TA} {c : Int32} (h : ¬ most ≤ nI j) (e : zdu t = nI k) (hk : k < 8) (e2 : zbr t k = nI i) (hi : i < 8) : rdG loud most (n + 1) j t c = rdG loud most n (j + 1) (rdS t i k loud) (c + 1) := by
  rw [rdG, if_neg h, e, if_neg (nI_ne1 hk), nI_clamp (by omega), e2, if_neg (nI_ne1 hi), nI_clamp (by omega)]
theorem rdT_nb (t : TA) (p b : Nat) : T_nb (rdT t p b) = T_nb t ∧ T_np (rdT t p b) = T_np t := ⟨rfl, rfl⟩
theorem zhf_nb (t : TA) (p b : Nat) (o : Int32) : T_nb (zhf t p b o).1 = T_nb t ∧ T_np (zhf t p b o).1 = T_np t := hf_nb _ _ _ _ _
theorem rdS_nb (t : TA) (p b : Nat) (l : Int32) : T_nb (rdS t p b l) = T_nb t ∧ T_np (rdS t p b l) = T_np t := by
  unfold rdS
  split
  · exact rdT_nb _ _ _
  · exact ⟨(zhf_nb _ _ _ _).1.trans (rdT_nb t p b).1, (zhf_nb _ _ _ _).2.trans (rdT_nb t p b).2⟩
theorem rdG_nb (loud most : Int32) : ∀ (n j : Nat) (t : TA) (c : Int32), T_nb (rdG loud most n j t c).1 = T_nb t ∧ T_np (rdG loud most n j t c).1 = T_np t := by
  intro n
  induction n with
  | zero => intro j t c; exact ⟨rfl, rfl⟩
  | succ n ih =>
    intro j t c
    rw [rdG]
    split
    · exact ⟨rfl, rfl⟩
    · split
      · exact ⟨rfl, rfl⟩
      · split
        · exact ⟨rfl, rfl⟩
        · exact ⟨(ih _ _ _).1.trans (rdS_nb _ _ _ _).1, (ih _ _ _).2.trans (rdS_nb _ _ _ _).2⟩
noncomputable def zact (t : TA) (k a : Int32) : TA × Int32 := if k = 1 then zrd t 8 0 else if k = 2 then zrd t a 0 else if k = 3 then zrd t 8 1 else if k = 4 then (zch t, 0) else if k = 5 then (zch (zch t), 0) else if k = 6 then zrd (zch t) 1 0 else (t, 0)
theorem zch_nb (t : TA) : T_nb (zch t) = T_nb t ∧ T_np (zch t) = T_np t := tcF_nb _ _
theorem zrd_nb (t : TA) (m l : Int32) : T_nb (zrd t m l).1 = T_nb t ∧ T_np (zrd t m l).1 = T_np t := rdG_nb _ _ _ _ _ _
theorem zact_nb (t : TA) (k a : Int32) : T_nb (zact t k a).1 = T_nb t ∧ T_np (zact t k a).1 = T_np t := by
  unfold zact
  split
  · exact zrd_nb _ _ _
  · split
    · exact zrd_nb _ _ _
    · split
      · exact zrd_nb _ _ _
      · split
        · exact zch_nb _
        · split
          · exact ⟨(zch_nb _).1.trans (zch_nb _).1, (zch_nb _).2.trans (zch_nb _).2⟩
          · split
            · exact ⟨(zrd_nb _ _ _).1.trans (zch_nb _).1, (zrd_nb _ _ _).2.trans (zch_nb _).2⟩
            · exact ⟨rfl, rfl⟩
theorem zey_nb (t : TA) : T_nb (zey t) = T_nb t ∧ T_np (zey t) = T_np t := ey_nb _ _ _
/-- runs: the town, the last value, the sum -/
noncomputable def srG (k a : Int32) : Nat → TA → Int32 → Int32 → TA × Int32 × Int32
  | 0, t, l, s => (t, l, s)
  | n + 1, t, l, s => if zthere t = 0 then (t, 0, s) else srG k a n (zey (zact t k a).1) (zval (zact t k a).1) (s + zval (zact t k a).1)
theorem sr_0 {k a : Int32} {n : Nat} {t : TA} {l s : Int32} (h : zthere t = 0) : srG k a (n + 1) t l s = (t, 0, s) := by rw [srG, if_pos h]
theorem sr_go {k a : Int32} {n : Nat} {t : TA} {l s : Int32} (h : ¬ zthere t = 0) : srG k a (n + 1) t l s = srG k a n (zey (zact t k a).1) (zval (zact t k a).1) (s + zval (zact t k a).1) := by rw [srG, if_neg h]
noncomputable def soG : Nat → TA → Int32 → TA × Int32
  | 0, t, s => (t, s)
  | n + 1, t, s => if zthere t = 0 then (t, s) else soG n (zey t) (s + zval t)
theorem so_0 {n : Nat} {t : TA} {s : Int32} (h : zthere t = 0) : soG n t s = (t, s) := by
  cases n with
  | zero => rfl
  | succ n => rw [soG, if_pos h]
theorem so_go {n : Nat} {t : TA} {s : Int32} (h : ¬ zthere t = 0) : soG (n + 1) t s = soG n (zey t) (s + zval t) := by rw [soG, if_neg h]
theorem soG_nb : ∀ (n : Nat) (t : TA) (s : Int32), T_nb (soG n t s).1 = T_nb t ∧ T_np (soG n t s).1 = T_np t := by
  intro n
  induction n with
  | zero => intro t s; exact ⟨rfl, rfl⟩
  | succ n ih =>
    intro t s
    rw [soG]
    split
    · exact ⟨rfl, rfl⟩
    · exact ⟨(ih _ _).1.trans (zey_nb _).1, (ih _ _).2.trans (zey_nb _).2⟩
end
section
theorem dX1_tellChain_0 : decode cX1_tellChain 0 = .ok (.iconst 0, 1) := g_3 bX1_tellChain rfl
theorem dX1_tellChain_1 : decode cX1_tellChain 1 = .ok (.istore_n 1, 1) := g_60 bX1_tellChain rfl
theorem dX1_tellChain_2 : decode cX1_tellChain 2 = .ok (.iload_n 1, 1) := g_27 bX1_tellChain rfl
theorem dX1_tellChain_3 : decode cX1_tellChain 3 = .ok (.aload_n 0, 1) := g_42 bX1_tellChain rfl
theorem dX1_tellChain_4 : decode cX1_tellChain 4 = .ok (.getfield 40, 3) := g_180 bX1_tellChain rfl
theorem dX1_tellChain_7 : decode cX1_tellChain 7 = .ok (.if_icmp .ge 58, 3) := g_162 58 bX1_tellChain rfl rfl
theorem dX1_tellChain_10 : decode cX1_tellChain 10 = .ok (.aload_n 0, 1) := g_42 bX1_tellChain rfl
theorem dX1_tellChain_11 : decode cX1_tellChain 11 = .ok (.getfield 44, 3) := g_180 bX1_tellChain rfl
theorem dX1_tellChain_14 : decode cX1_tellChain 14 = .ok (.iload_n 1, 1) := g_27 bX1_tellChain rfl
theorem dX1_tellChain_15 : decode cX1_tellChain 15 = .ok (.invokestatic 47, 3) := g_184 bX1_tellChain rfl
theorem dX1_tellChain_18 : decode cX1_tellChain 18 = .ok (.ifCond .eq 7, 3) := g_153 7 bX1_tellChain rfl rfl
theorem dX1_tellChain_21 : decode cX1_tellChain 21 = .ok (.iconst (-1), 1) := g_2 bX1_tellChain rfl
theorem dX1_tellChain_22 : decode cX1_tellChain 22 = .ok (.goto 8, 3) := g_167 8 bX1_tellChain rfl rfl
theorem dX1_tellChain_25 : decode cX1_tellChain 25 = .ok (.aload_n 0, 1) := g_42 bX1_tellChain rfl
theorem dX1_tellChain_26 : decode cX1_tellChain 26 = .ok (.iload_n 1, 1) := g_27 bX1_tellChain rfl
theorem dX1_tellChain_27 : decode cX1_tellChain 27 = .ok (.invokevirtual 51, 3) := g_182 bX1_tellChain rfl
theorem dX1_tellChain_30 : decode cX1_tellChain 30 = .ok (.istore_n 2, 1) := g_61 bX1_tellChain rfl
theorem dX1_tellChain_31 : decode cX1_tellChain 31 = .ok (.iconst 0, 1) := g_3 bX1_tellChain rfl
theorem dX1_tellChain_32 : decode cX1_tellChain 32 = .ok (.istore_n 3, 1) := g_62 bX1_tellChain rfl
theorem dX1_tellChain_33 : decode cX1_tellChain 33 = .ok (.iload_n 3, 1) := g_29 bX1_tellChain rfl
theorem dX1_tellChain_34 : decode cX1_tellChain 34 = .ok (.aload_n 0, 1) := g_42 bX1_tellChain rfl
theorem dX1_tellChain_35 : decode cX1_tellChain 35 = .ok (.getfield 54, 3) := g_180 bX1_tellChain rfl
theorem dX1_tellChain_38 : decode cX1_tellChain 38 = .ok (.if_icmp .ge 21, 3) := g_162 21 bX1_tellChain rfl rfl
theorem dX1_tellChain_41 : decode cX1_tellChain 41 = .ok (.iload_n 2, 1) := g_28 bX1_tellChain rfl
theorem dX1_tellChain_42 : decode cX1_tellChain 42 = .ok (.iconst (-1), 1) := g_2 bX1_tellChain rfl
theorem dX1_tellChain_43 : decode cX1_tellChain 43 = .ok (.if_icmp .eq 16, 3) := g_159 16 bX1_tellChain rfl rfl
theorem dX1_tellChain_46 : decode cX1_tellChain 46 = .ok (.aload_n 0, 1) := g_42 bX1_tellChain rfl
theorem dX1_tellChain_47 : decode cX1_tellChain 47 = .ok (.iload_n 1, 1) := g_27 bX1_tellChain rfl
theorem dX1_tellChain_48 : decode cX1_tellChain 48 = .ok (.iload_n 2, 1) := g_28 bX1_tellChain rfl
theorem dX1_tellChain_49 : decode cX1_tellChain 49 = .ok (.iload_n 3, 1) := g_29 bX1_tellChain rfl
theorem dX1_tellChain_50 : decode cX1_tellChain 50 = .ok (.invokevirtual 57, 3) := g_182 bX1_tellChain rfl
theorem dX1_tellChain_53 : decode cX1_tellChain 53 = .ok (.iinc 3 1, 3) := g_132 1 bX1_tellChain rfl rfl
theorem dX1_tellChain_56 : decode cX1_tellChain 56 = .ok (.goto (-23), 3) := g_167 65513 bX1_tellChain rfl rfl
theorem dX1_tellChain_59 : decode cX1_tellChain 59 = .ok (.iinc 1 1, 3) := g_132 1 bX1_tellChain rfl rfl
theorem dX1_tellChain_62 : decode cX1_tellChain 62 = .ok (.goto (-60), 3) := g_167 65476 bX1_tellChain rfl rfl
theorem dX1_tellChain_65 : decode cX1_tellChain 65 = .ok (.return_, 1) := g_177 bX1_tellChain rfl
set_option maxHeartbeats 4000000 in
set_option maxRecDepth 100000 in
theorem c_X1_tellChain (l : Launch) (G : va_G) (cy : Nat → ClassId) (sz : Nat) (qt : Nat) (tA : TA) (qtw : Nat) (qtn : Nat) (qtg : Nat) (qta : Nat) (qtr : Nat) (qtm : Nat) (qtt : Nat) (qts : Nat)  (hB : T_nb tA ≤ 8) (hPp : T_np tA ≤ 8) : MW l yX1_tellChain cX1_tellChain 4 none 4 0 0 G cy [zzO qt 3 [.int (nI (T_nb tA)), .int (nI (T_np tA)), .int (wb (T_wh tA)), .int (wb (T_gn tA)), .int (T_sd tA), .ref qtw, .ref qtn, .ref qtg, .ref qta, .ref qtr, .ref qtm, .ref qtt, .ref qts], zzI cy qtw 8 (T_wo tA), zzI cy qtn 8 (T_ne tA), zzI cy qtg 8 (T_go tA), zzI cy qta 8 (T_ag tA), zzI cy qtr 8 (T_re tA), zzI cy qtm 8 (T_me tA), zzI cy qtt 8 (T_te tA), zzI cy qts 64 (shF (T_kn tA))] sz [.ref qt] (Wv G (fun u => u = [zzO qt 3 [.int (nI (T_nb (zch tA))), .int (nI (T_np (zch tA))), .int (wb (T_wh (zch tA))), .int (wb (T_gn (zch tA))), .int (T_sd (zch tA)), .ref qtw, .ref qtn, .ref qtg, .ref qta, .ref qtr, .ref qtm, .ref qtt, .ref qts], zzI cy qtw 8 (T_wo (zch tA)), zzI cy qtn 8 (T_ne (zch tA)), zzI cy qtg 8 (T_go (zch tA)), zzI cy qta 8 (T_ag (zch tA)), zzI cy qtr 8 (T_re (zch tA)), zzI cy qtm 8 (T_me (zch tA)), zzI cy qtt 8 (T_te (zch tA)), zzI cy qts 64 (shF (T_kn (zch tA)))])) := by
  refine enW RX1 (by decide) rfl (Nat.le_of_ble_eq_true rfl) (fun p e s m below meth c ls A hx hb hml hown hts hr hlocks hP hN hl hin hD hA hS => ?_)
  have hin : meth.name = _ := hin
  have hK := hN.1
  replace hl : lv_has ls 4 [(0, .ref qt)] := hl
  refine lv_iconst (v := 0) hx hb dX1_tellChain_0 (by decide) ?_
  refine lv_istore_n (lv' := [(1, .int 0), (0, .ref qt)]) hx hb dX1_tellChain_1 rfl hl (by decide) rfl (fun ls => ?_)
  clear hl
  intro hl
  have lp_1 : ∀ (n_2 : Nat) (j_4 : Nat) (tJ_5 : TA), 8 - j_4 < n_2 → j_4 ≤ T_np tA → tJ_5 = tcF tA j_4 → ∀ (H : Heap) (locs : List Loc) (ls : Array Slot), va_P G CL [zzO qt 3 [.int (nI (T_nb tJ_5)), .int (nI (T_np tJ_5)), .int (wb (T_wh tJ_5)), .int (wb (T_gn tJ_5)), .int (T_sd tJ_5), .ref qtw, .ref qtn, .ref qtg, .ref qta, .ref qtr, .ref qtm, .ref qtt, .ref qts], zzI cy qtw 8 (T_wo tJ_5), zzI cy qtn 8 (T_ne tJ_5), zzI cy qtg 8 (T_go tJ_5), zzI cy qta 8 (T_ag tJ_5), zzI cy qtr 8 (T_re tJ_5), zzI cy qtm 8 (T_me tJ_5), zzI cy qtt 8 (T_te tJ_5), zzI cy qts 64 (shF (T_kn tJ_5))] H → va_D A [zzO qt 3 [.int (nI (T_nb tJ_5)), .int (nI (T_np tJ_5)), .int (wb (T_wh tJ_5)), .int (wb (T_gn tJ_5)), .int (T_sd tJ_5), .ref qtw, .ref qtn, .ref qtg, .ref qta, .ref qtr, .ref qtm, .ref qtt, .ref qts], zzI cy qtw 8 (T_wo tJ_5), zzI cy qtn 8 (T_ne tJ_5), zzI cy qtg 8 (T_go tJ_5), zzI cy qta 8 (T_ag tJ_5), zzI cy qtr 8 (T_re tJ_5), zzI cy qtm 8 (T_me tJ_5), zzI cy qtt 8 (T_te tJ_5), zzI cy qts 64 (shF (T_kn tJ_5))] → va_S A s.heap H locs → lv_has ls 4 [(1, .int (nI j_4)), (0, .ref qt)] → W p l e (Rm 4 0 0) s m (List.toArray (α := Value) [.ref qt]) below meth c H locs 0 0 (MQ below ((Wv G (fun u => u = [zzO qt 3 [.int (nI (T_nb (zch tA))), .int (nI (T_np (zch tA))), .int (wb (T_wh (zch tA))), .int (wb (T_gn (zch tA))), .int (T_sd (zch tA)), .ref qtw, .ref qtn, .ref qtg, .ref qta, .ref qtr, .ref qtm, .ref qtt, .ref qts], zzI cy qtw 8 (T_wo (zch tA)), zzI cy qtn 8 (T_ne (zch tA)), zzI cy qtg 8 (T_go (zch tA)), zzI cy qta 8 (T_ag (zch tA)), zzI cy qtr 8 (T_re (zch tA)), zzI cy qtm 8 (T_me (zch tA)), zzI cy qtt 8 (T_te (zch tA)), zzI cy qts 64 (shF (T_kn (zch tA)))])) A) (List.toArray (α := Value) [.ref qt]) s 0 0 A) (F0 m 2 ls []) := by
    intro n_2
    induction n_2 with
    | zero => intro j_4 tJ_5 hm9; exact absurd hm9 (Nat.not_lt_zero _)
    | succ n_2 ih_3 =>
      intro j_4 tJ_5 hm_8 hj_6 htJ_7 H locs ls hP hD hS hl
      refine lv_iload_n hx hb dX1_tellChain_2 rfl (lv_at hl 0 rfl) ?_
      refine lv_aload_n hx hb dX1_tellChain_3 rfl (lv_at hl 1 rfl) ?_
      refine va_getN (D := G) (ci := 3) (v := .int (nI (T_np tJ_5))) (C := RX4) (T := TX4) (N := 13) hx hb hts iX_X4 hown hK hP 0 rfl rfl 1 (by decide) (va_Nw.use rfl (hN.2.1 (RX1, 40, "EachBookOnce$Town", "people", "I") (List.mem_of_getElem? (i := 4) rfl))) (fun _ h9 => h9) rfl dX1_tellChain_4 ?_
      refine lv_icmp_ge (tgt := 65) hx hb dX1_tellChain_7 (by decide) (fun c_9 => ?_) (fun c_9 => ?_)
      · have hlt_10e : T_np tJ_5 = T_np tA := by rw [htJ_7]; exact (tcF_nb _ _).2
        have hlt_10 : j_4 = T_np tA := Nat.le_antisymm (by omega) (by rw [hlt_10e] at c_9; exact lp_ge rfl rfl (by omega) (by omega) c_9)
        have e9_11 : tJ_5 = zch tA := by rw [htJ_7, hlt_10]; rfl
        subst e9_11
        exact endV (u := [zzO qt 3 [.int (nI (T_nb (zch tA))), .int (nI (T_np (zch tA))), .int (wb (T_wh (zch tA))), .int (wb (T_gn (zch tA))), .int (T_sd (zch tA)), .ref qtw, .ref qtn, .ref qtg, .ref qta, .ref qtr, .ref qtm, .ref qtt, .ref qts], zzI cy qtw 8 (T_wo (zch tA)), zzI cy qtn 8 (T_ne (zch tA)), zzI cy qtg 8 (T_go (zch tA)), zzI cy qta 8 (T_ag (zch tA)), zzI cy qtr 8 (T_re (zch tA)), zzI cy qtm 8 (T_me (zch tA)), zzI cy qtt 8 (T_te (zch tA)), zzI cy qts 64 (shF (T_kn (zch tA)))]) hx hb hr hlocks (hP.sub [0, 1, 2, 3, 4, 5, 6, 7, 8] rfl) (hD.sub [0, 1, 2, 3, 4, 5, 6, 7, 8] (by decide +kernel) rfl) hS rfl dX1_tellChain_65
      · have hlt_12e : T_np tJ_5 = T_np tA := by rw [htJ_7]; exact (tcF_nb _ _).2
        have hlt_12 : j_4 < T_np tA := by rw [hlt_12e] at c_9; exact lp_lt rfl rfl (by omega) (by omega) c_9
        have hlt_12b : T_nb tJ_5 = T_nb tA := by rw [htJ_7]; exact (tcF_nb _ _).1
        refine lv_aload_n hx hb dX1_tellChain_10 rfl (lv_at hl 1 rfl) ?_
        refine va_getN (D := G) (ci := 3) (v := .int (wb (T_gn tJ_5))) (C := RX4) (T := TX4) (N := 13) hx hb hts iX_X4 hown hK hP 0 rfl rfl 3 (by decide) (va_Nw.use rfl (hN.2.1 (RX1, 44, "EachBookOnce$Town", "gone", "I") (List.mem_of_getElem? (i := 11) rfl))) (fun _ h9 => h9) rfl dX1_tellChain_11 ?_
        refine lv_iload_n hx hb dX1_tellChain_14 rfl (lv_at hl 0 rfl) ?_
        refine kRi (rSN (As := [.int (wb (T_gn tJ_5)), .int (nI j_4)]) (rest := []) ⟨hx, hb, hml, hown, hts⟩ hN (c_X5_has l G cy (wb (T_gn tJ_5)) j_4) L_X1_47 (preRS hN hP [] rfl) rfl ⟨Nat.le_of_ble_eq_true rfl, Nat.le_of_ble_eq_true rfl⟩ hl.1 (Nat.le_of_ble_eq_true rfl) dX1_tellChain_15 ⟨Nat.le_of_ble_eq_true rfl, Nat.le_of_ble_eq_true rfl⟩) (fun r_13 h_14 => ?_)
        rcases h_14 with ⟨rfl, h_15⟩ | ⟨rfl, h_15⟩
        · rw [bit_wb _ (by omega)] at h_15
          refine lv_if_eq (tgt := 25) hx hb dX1_tellChain_18 (by decide) (fun h9 => absurd h9 (by decide)) (fun _ => ?_)
          refine lv_iconst (v := (-1)) hx hb dX1_tellChain_21 (by decide) ?_
          refine lv_goto (tgt := 30) hx hb dX1_tellChain_22 (by decide) ?_
          refine lv_istore_n (lv' := [(2, .int (-1)), (1, .int (nI j_4)), (0, .ref qt)]) hx hb dX1_tellChain_30 rfl hl (by decide) rfl (fun ls => ?_)
          clear hl
          intro hl
          refine lv_iconst (v := 0) hx hb dX1_tellChain_31 (by decide) ?_
          refine lv_istore_n (lv' := [(3, .int 0), (2, .int (-1)), (1, .int (nI j_4)), (0, .ref qt)]) hx hb dX1_tellChain_32 rfl hl (by decide) rfl (fun ls => ?_)
          clear hl
          intro hl
          refine lv_iload_n hx hb dX1_tellChain_33 rfl (lv_at hl 0 rfl) ?_
          refine lv_aload_n hx hb dX1_tellChain_34 rfl (lv_at hl 3 rfl) ?_
          refine va_getN (D := G) (ci := 3) (v := .int (nI (T_nb tJ_5))) (C := RX4) (T := TX4) (N := 13) hx hb hts iX_X4 hown hK hP 0 rfl rfl 0 (by decide) (va_Nw.use rfl (hN.2.1 (RX1, 54, "EachBookOnce$Town", "books", "I") (List.mem_of_getElem? (i := 1) rfl))) (fun _ h9 => h9) rfl dX1_tellChain_35 ?_
          refine lv_icmp_ge (tgt := 59) hx hb dX1_tellChain_38 (by decide) (fun c_17 => ?_) (fun c_17 => ?_)
          · refine lv_iinc (v := nI (j_4 + 1)) (lv' := [(1, .int (nI (j_4 + 1))), (3, .int 0), (2, .int (-1)), (0, .ref qt)]) hx hb dX1_tellChain_59 hl (k := 2) rfl (nI_1 _) (by decide) rfl (fun ls => ?_)
            clear hl
            intro hl
            refine lv_goto (tgt := 2) hx hb dX1_tellChain_62 (by decide) ?_
            exact ih_3 (j_4 + 1) tJ_5 (by omega) (by omega) (by show _ = tcS _ _; rw [← htJ_7, tcS_g h_15]) _ _ _ hP hD hS (lv_sub hl [0, 3] rfl)
          · refine lv_iload_n hx hb dX1_tellChain_41 rfl (lv_at hl 1 rfl) ?_
            refine lv_iconst (v := (-1)) hx hb dX1_tellChain_42 (by decide) ?_
            refine lv_icmp_eq (tgt := 59) hx hb dX1_tellChain_43 (by decide) (fun _ => ?_) (fun h9 => absurd (by decide) h9)
            refine lv_iinc (v := nI (j_4 + 1)) (lv' := [(1, .int (nI (j_4 + 1))), (3, .int 0), (2, .int (-1)), (0, .ref qt)]) hx hb dX1_tellChain_59 hl (k := 2) rfl (nI_1 _) (by decide) rfl (fun ls => ?_)
            clear hl
            intro hl
            refine lv_goto (tgt := 2) hx hb dX1_tellChain_62 (by decide) ?_
            exact ih_3 (j_4 + 1) tJ_5 (by omega) (by omega) (by show _ = tcS _ _; rw [← htJ_7, tcS_g h_15]) _ _ _ hP hD hS (lv_sub hl [0, 3] rfl)
        · rw [bit_wb _ (by omega)] at h_15
          refine lv_if_eq (tgt := 25) hx hb dX1_tellChain_18 (by decide) (fun _ => ?_) (fun h9 => absurd (by decide) h9)
          refine lv_aload_n hx hb dX1_tellChain_25 rfl (lv_at hl 1 rfl) ?_
          refine lv_iload_n hx hb dX1_tellChain_26 rfl (lv_at hl 0 rfl) ?_
          refine kRi (rV (As := [.int (nI j_4)]) (rest := []) (b := qt) ⟨hx, hb, hml, hown, hts⟩ (c_X4_youngestBut l G cy qt tJ_5 qtw qtn qtg qta qtr qtm qtt qts (nI j_4) (by omega)) L_X1_51 (preRV (q := (RX4, TX4, 13)) hN hP [0, 1, 2, 3, 4, 5, 6, 7, 8] rfl 0 3 rfl rfl) rfl ⟨Nat.le_of_ble_eq_true rfl, Nat.le_of_ble_eq_true rfl⟩ hl.1 (Nat.le_of_ble_eq_true rfl) dX1_tellChain_27 ⟨Nat.le_of_ble_eq_true rfl, Nat.le_of_ble_eq_true rfl⟩) (fun r_20 h_21 => ?_)
          subst h_21
          refine lv_istore_n (lv' := [(2, .int (zyb tJ_5 (nI j_4))), (1, .int (nI j_4)), (0, .ref qt)]) hx hb dX1_tellChain_30 rfl hl (by decide) rfl (fun ls => ?_)
          clear hl
          intro hl
          refine lv_iconst (v := 0) hx hb dX1_tellChain_31 (by decide) ?_
          refine lv_istore_n (lv' := [(3, .int 0), (2, .int (zyb tJ_5 (nI j_4))), (1, .int (nI j_4)), (0, .ref qt)]) hx hb dX1_tellChain_32 rfl hl (by decide) rfl (fun ls => ?_)
          clear hl
          intro hl
          rcases yb_in tJ_5 (nI j_4) (T_np tJ_5) with ek_25 | ⟨k_23, hk_24, ek_25⟩
          · have ek_25 : zyb tJ_5 (nI j_4) = -1 := ek_25
            rw [ek_25] at hl
            refine lv_iload_n hx hb dX1_tellChain_33 rfl (lv_at hl 0 rfl) ?_
            refine lv_aload_n hx hb dX1_tellChain_34 rfl (lv_at hl 3 rfl) ?_
            refine va_getN (D := G) (ci := 3) (v := .int (nI (T_nb tJ_5))) (C := RX4) (T := TX4) (N := 13) hx hb hts iX_X4 hown hK hP 0 rfl rfl 0 (by decide) (va_Nw.use rfl (hN.2.1 (RX1, 54, "EachBookOnce$Town", "books", "I") (List.mem_of_getElem? (i := 1) rfl))) (fun _ h9 => h9) rfl dX1_tellChain_35 ?_
            refine lv_icmp_ge (tgt := 59) hx hb dX1_tellChain_38 (by decide) (fun c_26 => ?_) (fun c_26 => ?_)
            · refine lv_iinc (v := nI (j_4 + 1)) (lv' := [(1, .int (nI (j_4 + 1))), (3, .int 0), (2, .int (-1)), (0, .ref qt)]) hx hb dX1_tellChain_59 hl (k := 2) rfl (nI_1 _) (by decide) rfl (fun ls => ?_)
              clear hl
              intro hl
              refine lv_goto (tgt := 2) hx hb dX1_tellChain_62 (by decide) ?_
              exact ih_3 (j_4 + 1) tJ_5 (by omega) (by omega) (by show _ = tcS _ _; rw [← htJ_7, tcS_n h_15 ek_25]) _ _ _ hP hD hS (lv_sub hl [0, 3] rfl)
            · refine lv_iload_n hx hb dX1_tellChain_41 rfl (lv_at hl 1 rfl) ?_
              refine lv_iconst (v := (-1)) hx hb dX1_tellChain_42 (by decide) ?_
              refine lv_icmp_eq (tgt := 59) hx hb dX1_tellChain_43 (by decide) (fun _ => ?_) (fun h9 => absurd (by decide) h9)
              refine lv_iinc (v := nI (j_4 + 1)) (lv' := [(1, .int (nI (j_4 + 1))), (3, .int 0), (2, .int (-1)), (0, .ref qt)]) hx hb dX1_tellChain_59 hl (k := 2) rfl (nI_1 _) (by decide) rfl (fun ls => ?_)
              clear hl
              intro hl
              refine lv_goto (tgt := 2) hx hb dX1_tellChain_62 (by decide) ?_
              exact ih_3 (j_4 + 1) tJ_5 (by omega) (by omega) (by show _ = tcS _ _; rw [← htJ_7, tcS_n h_15 ek_25]) _ _ _ hP hD hS (lv_sub hl [0, 3] rfl)
          · have ek_25 : zyb tJ_5 (nI j_4) = nI k_23 := ek_25
            rw [ek_25] at hl
            have hq_22 : T_np tJ_5 = T_np tA := by rw [htJ_7]; exact (tcF_nb _ _).2
            have lp_28 : ∀ (n_29 : Nat) (j_31 : Nat) (tJ_32 : TA), 8 - j_31 < n_29 → j_31 ≤ T_nb tJ_5 → tJ_32 = tcI tJ_5 j_4 k_23 j_31 → ∀ (H : Heap) (locs : List Loc) (ls : Array Slot), va_P G CL [zzO qt 3 [.int (nI (T_nb tJ_32)), .int (nI (T_np tJ_32)), .int (wb (T_wh tJ_32)), .int (wb (T_gn tJ_32)), .int (T_sd tJ_32), .ref qtw, .ref qtn, .ref qtg, .ref qta, .ref qtr, .ref qtm, .ref qtt, .ref qts], zzI cy qtw 8 (T_wo tJ_32), zzI cy qtn 8 (T_ne tJ_32), zzI cy qtg 8 (T_go tJ_32), zzI cy qta 8 (T_ag tJ_32), zzI cy qtr 8 (T_re tJ_32), zzI cy qtm 8 (T_me tJ_32), zzI cy qtt 8 (T_te tJ_32), zzI cy qts 64 (shF (T_kn tJ_32))] H → va_D A [zzO qt 3 [.int (nI (T_nb tJ_32)), .int (nI (T_np tJ_32)), .int (wb (T_wh tJ_32)), .int (wb (T_gn tJ_32)), .int (T_sd tJ_32), .ref qtw, .ref qtn, .ref qtg, .ref qta, .ref qtr, .ref qtm, .ref qtt, .ref qts], zzI cy qtw 8 (T_wo tJ_32), zzI cy qtn 8 (T_ne tJ_32), zzI cy qtg 8 (T_go tJ_32), zzI cy qta 8 (T_ag tJ_32), zzI cy qtr 8 (T_re tJ_32), zzI cy qtm 8 (T_me tJ_32), zzI cy qtt 8 (T_te tJ_32), zzI cy qts 64 (shF (T_kn tJ_32))] → va_S A s.heap H locs → lv_has ls 4 [(3, .int (nI j_31)), (2, .int (nI k_23)), (1, .int (nI j_4)), (0, .ref qt)] → W p l e (Rm 4 0 0) s m (List.toArray (α := Value) [.ref qt]) below meth c H locs 0 0 (MQ below ((Wv G (fun u => u = [zzO qt 3 [.int (nI (T_nb (zch tA))), .int (nI (T_np (zch tA))), .int (wb (T_wh (zch tA))), .int (wb (T_gn (zch tA))), .int (T_sd (zch tA)), .ref qtw, .ref qtn, .ref qtg, .ref qta, .ref qtr, .ref qtm, .ref qtt, .ref qts], zzI cy qtw 8 (T_wo (zch tA)), zzI cy qtn 8 (T_ne (zch tA)), zzI cy qtg 8 (T_go (zch tA)), zzI cy qta 8 (T_ag (zch tA)), zzI cy qtr 8 (T_re (zch tA)), zzI cy qtm 8 (T_me (zch tA)), zzI cy qtt 8 (T_te (zch tA)), zzI cy qts 64 (shF (T_kn (zch tA)))])) A) (List.toArray (α := Value) [.ref qt]) s 0 0 A) (F0 m 33 ls []) := by
              intro n_29
              induction n_29 with
              | zero => intro j_31 tJ_32 hm9; exact absurd hm9 (Nat.not_lt_zero _)
              | succ n_29 ih_30 =>
                intro j_31 tJ_32 hm_35 hj_33 htJ_34 H locs ls hP hD hS hl
                refine lv_iload_n hx hb dX1_tellChain_33 rfl (lv_at hl 0 rfl) ?_
                refine lv_aload_n hx hb dX1_tellChain_34 rfl (lv_at hl 3 rfl) ?_
                refine va_getN (D := G) (ci := 3) (v := .int (nI (T_nb tJ_32))) (C := RX4) (T := TX4) (N := 13) hx hb hts iX_X4 hown hK hP 0 rfl rfl 0 (by decide) (va_Nw.use rfl (hN.2.1 (RX1, 54, "EachBookOnce$Town", "books", "I") (List.mem_of_getElem? (i := 1) rfl))) (fun _ h9 => h9) rfl dX1_tellChain_35 ?_
                refine lv_icmp_ge (tgt := 59) hx hb dX1_tellChain_38 (by decide) (fun c_36 => ?_) (fun c_36 => ?_)
                · have hlt_37e : T_nb tJ_32 = T_nb tJ_5 := by rw [htJ_34]; exact (tcI_nb _ _ _ _).1
                  have hlt_37 : j_31 = T_nb tJ_5 := Nat.le_antisymm (by omega) (by rw [hlt_37e] at c_36; exact lp_ge rfl rfl (by omega) (by omega) c_36)
                  refine lv_iinc (v := nI (j_4 + 1)) (lv' := [(1, .int (nI (j_4 + 1))), (3, .int (nI j_31)), (2, .int (nI k_23)), (0, .ref qt)]) hx hb dX1_tellChain_59 hl (k := 2) rfl (nI_1 _) (by decide) rfl (fun ls => ?_)
                  clear hl
                  intro hl
                  refine lv_goto (tgt := 2) hx hb dX1_tellChain_62 (by decide) ?_
                  exact ih_3 (j_4 + 1) tJ_32 (by omega) (by omega) (by show _ = tcS _ _; rw [← htJ_7, tcS_y h_15 ek_25 (by omega), htJ_34, hlt_37]) _ _ _ hP hD hS (lv_sub hl [0, 3] rfl)
                · have hlt_38e : T_nb tJ_32 = T_nb tJ_5 := by rw [htJ_34]; exact (tcI_nb _ _ _ _).1
                  have hlt_38 : j_31 < T_nb tJ_5 := by rw [hlt_38e] at c_36; exact lp_lt rfl rfl (by omega) (by omega) c_36
                  refine lv_iload_n hx hb dX1_tellChain_41 rfl (lv_at hl 1 rfl) ?_
                  refine lv_iconst (v := (-1)) hx hb dX1_tellChain_42 (by decide) ?_
                  refine lv_icmp_eq (tgt := 59) hx hb dX1_tellChain_43 (by decide) (fun c_39 => ?_) (fun c_39 => ?_)
                  · exact absurd c_39 (nI_ne1 (by omega))
                  · refine lv_aload_n hx hb dX1_tellChain_46 rfl (lv_at hl 3 rfl) ?_
                    refine lv_iload_n hx hb dX1_tellChain_47 rfl (lv_at hl 2 rfl) ?_
                    refine lv_iload_n hx hb dX1_tellChain_48 rfl (lv_at hl 1 rfl) ?_
                    refine lv_iload_n hx hb dX1_tellChain_49 rfl (lv_at hl 0 rfl) ?_
                    refine cVv (As := [.int (nI j_4), .int (nI k_23), .int (nI j_31)]) (rest := []) (b := qt) (q := (RX4, TX4, 13)) ⟨hx, hb, hml, hown, hts⟩ (c_X4_tellTo l G cy (H).size qt tJ_32 qtw qtn qtg qta qtr qtm qtt qts j_4 k_23 j_31 (by omega) (by omega) (by omega)) L_X1_57 hN hP hD hS hA [0, 7, 8] [false, true, true, true, true, true, true, false, false] rfl (by decide +kernel) rfl 0 3 rfl rfl rfl ⟨Nat.le_of_ble_eq_true rfl, Nat.le_of_ble_eq_true rfl⟩ hl.1 (Nat.le_of_ble_eq_true rfl) dX1_tellChain_50 ⟨Nat.le_of_ble_eq_true rfl, Nat.le_of_ble_eq_true rfl⟩ (fun u_42 H locs h_41 => ?_)
                    clear hP hD hS
                    intro hP hD hS
                    subst h_41
                    have hPD := pd_as [zzI cy qtw 8 (T_wo (T_setkn tJ_32 (updM (T_kn tJ_32) k_23 j_31 (T_kn tJ_32 k_23 j_31 + zgt tJ_32 j_4 k_23 j_31)))), zzI cy qtn 8 (T_ne (T_setkn tJ_32 (updM (T_kn tJ_32) k_23 j_31 (T_kn tJ_32 k_23 j_31 + zgt tJ_32 j_4 k_23 j_31)))), zzI cy qtg 8 (T_go (T_setkn tJ_32 (updM (T_kn tJ_32) k_23 j_31 (T_kn tJ_32 k_23 j_31 + zgt tJ_32 j_4 k_23 j_31)))), zzI cy qta 8 (T_ag (T_setkn tJ_32 (updM (T_kn tJ_32) k_23 j_31 (T_kn tJ_32 k_23 j_31 + zgt tJ_32 j_4 k_23 j_31)))), zzI cy qtr 8 (T_re (T_setkn tJ_32 (updM (T_kn tJ_32) k_23 j_31 (T_kn tJ_32 k_23 j_31 + zgt tJ_32 j_4 k_23 j_31)))), zzI cy qtm 8 (T_me (T_setkn tJ_32 (updM (T_kn tJ_32) k_23 j_31 (T_kn tJ_32 k_23 j_31 + zgt tJ_32 j_4 k_23 j_31)))), zzO qt 3 [.int (nI (T_nb (T_setkn tJ_32 (updM (T_kn tJ_32) k_23 j_31 (T_kn tJ_32 k_23 j_31 + zgt tJ_32 j_4 k_23 j_31))))), .int (nI (T_np (T_setkn tJ_32 (updM (T_kn tJ_32) k_23 j_31 (T_kn tJ_32 k_23 j_31 + zgt tJ_32 j_4 k_23 j_31))))), .int (wb (T_wh (T_setkn tJ_32 (updM (T_kn tJ_32) k_23 j_31 (T_kn tJ_32 k_23 j_31 + zgt tJ_32 j_4 k_23 j_31))))), .int (wb (T_gn (T_setkn tJ_32 (updM (T_kn tJ_32) k_23 j_31 (T_kn tJ_32 k_23 j_31 + zgt tJ_32 j_4 k_23 j_31))))), .int (T_sd (T_setkn tJ_32 (updM (T_kn tJ_32) k_23 j_31 (T_kn tJ_32 k_23 j_31 + zgt tJ_32 j_4 k_23 j_31)))), .ref qtw, .ref qtn, .ref qtg, .ref qta, .ref qtr, .ref qtm, .ref qtt, .ref qts], zzI cy qtt 8 (T_te (T_setkn tJ_32 (updM (T_kn tJ_32) k_23 j_31 (T_kn tJ_32 k_23 j_31 + zgt tJ_32 j_4 k_23 j_31)))), zzI cy qts 64 (shF (T_kn (T_setkn tJ_32 (updM (T_kn tJ_32) k_23 j_31 (T_kn tJ_32 k_23 j_31 + zgt tJ_32 j_4 k_23 j_31)))))] hP hD rfl
                    clear hP hD
                    obtain ⟨hP, hD⟩ := hPD
                    refine lv_iinc (v := nI (j_31 + 1)) (lv' := [(3, .int (nI (j_31 + 1))), (2, .int (nI k_23)), (1, .int (nI j_4)), (0, .ref qt)]) hx hb dX1_tellChain_53 hl (k := 0) rfl (nI_1 _) (by decide) rfl (fun ls => ?_)
                    clear hl
                    intro hl
                    refine lv_goto (tgt := 33) hx hb dX1_tellChain_56 (by decide) ?_
                    exact ih_30 (j_31 + 1) (T_setkn tJ_32 (updM (T_kn tJ_32) k_23 j_31 (T_kn tJ_32 k_23 j_31 + zgt tJ_32 j_4 k_23 j_31))) (by omega) (by omega) (by rw [htJ_34]; rfl) _ _ _ (hP.sub [6, 0, 1, 2, 3, 4, 5, 7, 8] rfl) (hD.sub [6, 0, 1, 2, 3, 4, 5, 7, 8] (by decide +kernel) rfl) hS (lv_sub hl [0, 1, 2, 3] rfl)
            exact lp_28 ((8 - 0) + 1) 0 tJ_5 (Nat.lt_succ_self _) (Nat.zero_le _) rfl _ _ ls hP hD hS (lv_sub hl [0, 1, 2, 3] rfl)
  exact lp_1 ((8 - 0) + 1) 0 tA (Nat.lt_succ_self _) (Nat.zero_le _) rfl _ _ ls hP hD hS (lv_sub hl [0, 1] rfl)
end
section
theorem sw_1_6 (x : Int32) : x = 1 ∨ x = 2 ∨ x = 3 ∨ x = 4 ∨ x = 5 ∨ x = 6 ∨ (x.toInt < 1 ∨ 6 < x.toInt) := by
  rcases (show x.toInt = 1 ∨ x.toInt = 2 ∨ x.toInt = 3 ∨ x.toInt = 4 ∨ x.toInt = 5 ∨ x.toInt = 6 ∨ (x.toInt < 1 ∨ 6 < x.toInt) by omega) with e | e | e | e | e | e | e
  · exact Or.inl (eqI (by decide) e)
  · exact Or.inr (Or.inl (eqI (by decide) e))
  · exact Or.inr (Or.inr (Or.inl (eqI (by decide) e)))
  · exact Or.inr (Or.inr (Or.inr (Or.inl (eqI (by decide) e))))
  · exact Or.inr (Or.inr (Or.inr (Or.inr (Or.inl (eqI (by decide) e)))))
  · exact Or.inr (Or.inr (Or.inr (Or.inr (Or.inr (Or.inl (eqI (by decide) e))))))
  · exact Or.inr (Or.inr (Or.inr (Or.inr (Or.inr (Or.inr e)))))
theorem act_1 (t : TA) (a : Int32) : zact t 1 a = zrd t 8 0 := if_pos rfl
theorem act_2 (t : TA) (a : Int32) : zact t 2 a = zrd t a 0 := (if_neg (by decide)).trans (if_pos rfl)
theorem act_3 (t : TA) (a : Int32) : zact t 3 a = zrd t 8 1 := (if_neg (by decide)).trans ((if_neg (by decide)).trans (if_pos rfl))
theorem act_4 (t : TA) (a : Int32) : zact t 4 a = (zch t, 0) := (if_neg (by decide)).trans ((if_neg (by decide)).trans ((if_neg (by decide)).trans (if_pos rfl)))
theorem act_5 (t : TA) (a : Int32) : zact t 5 a = (zch (zch t), 0) := (if_neg (by decide)).trans ((if_neg (by decide)).trans ((if_neg (by decide)).trans ((if_neg (by decide)).trans (if_pos rfl))))
theorem act_6 (t : TA) (a : Int32) : zact t 6 a = zrd (zch t) 1 0 := (if_neg (by decide)).trans ((if_neg (by decide)).trans ((if_neg (by decide)).trans ((if_neg (by decide)).trans ((if_neg (by decide)).trans (if_pos rfl)))))
theorem act_no {x : Int32} (h : x.toInt < 1 ∨ 6 < x.toInt) (t : TA) (a : Int32) : zact t x a = (t, 0) := by
  have n : ∀ k : Int32, 1 ≤ k.toInt → k.toInt ≤ 6 → ¬ x = k := fun k h1 h2 e => by subst e; omega
  exact (if_neg (n 1 (by decide) (by decide))).trans ((if_neg (n 2 (by decide) (by decide))).trans ((if_neg (n 3 (by decide) (by decide))).trans ((if_neg (n 4 (by decide) (by decide))).trans ((if_neg (n 5 (by decide) (by decide))).trans (if_neg (n 6 (by decide) (by decide)))))))
theorem nb_rd (t : TA) (p b : Nat) : T_nb (rdT t p b) = T_nb t := (rdT_nb t p b).1
theorem np_rd (t : TA) (p b : Nat) : T_np (rdT t p b) = T_np t := (rdT_nb t p b).2
theorem nb_ch (t : TA) : T_nb (zch t) = T_nb t := (zch_nb t).1
theorem np_ch (t : TA) : T_np (zch t) = T_np t := (zch_nb t).2
theorem nb_zr (t : TA) (m l : Int32) : T_nb ((zrd t m l).1) = T_nb t := (zrd_nb t m l).1
theorem np_zr (t : TA) (m l : Int32) : T_np ((zrd t m l).1) = T_np t := (zrd_nb t m l).2
theorem nb_za (t : TA) (k a : Int32) : T_nb ((zact t k a).1) = T_nb t := (zact_nb t k a).1
theorem np_za (t : TA) (k a : Int32) : T_np ((zact t k a).1) = T_np t := (zact_nb t k a).2
theorem nb_ey (t : TA) : T_nb (zey t) = T_nb t := (zey_nb t).1
theorem np_ey (t : TA) : T_np (zey t) = T_np t := (zey_nb t).2
theorem nb_hf (t : TA) (p b : Nat) (o : Int32) : T_nb ((zhf t p b o).1) = T_nb t := (zhf_nb t p b o).1
theorem np_hf (t : TA) (p b : Nat) (o : Int32) : T_np ((zhf t p b o).1) = T_np t := (zhf_nb t p b o).2
theorem nb_dd (t : TA) : T_nb (zdd t) = T_nb t := (dd_nb t _).1
theorem np_dd (t : TA) : T_np (zdd t) = T_np t := (dd_nb t _).2
theorem nb_so (n : Nat) (t : TA) (s : Int32) : T_nb ((soG n t s).1) = T_nb t := (soG_nb n t s).1
theorem np_so (n : Nat) (t : TA) (s : Int32) : T_np ((soG n t s).1) = T_np t := (soG_nb n t s).2
theorem nb_skn (t : TA) (x : Nat → Nat → Int32) : T_nb (T_setkn t x) = T_nb t := ((⟨rfl, rfl⟩ : T_nb (T_setkn t x) = T_nb t ∧ T_np (T_setkn t x) = T_np t)).1
theorem np_skn (t : TA) (x : Nat → Nat → Int32) : T_np (T_setkn t x) = T_np t := ((⟨rfl, rfl⟩ : T_nb (T_setkn t x) = T_nb t ∧ T_np (T_setkn t x) = T_np t)).2
theorem nb_swh (t : TA) (x : Nat → Bool) : T_nb (T_setwh t x) = T_nb t := ((⟨rfl, rfl⟩ : T_nb (T_setwh t x) = T_nb t ∧ T_np (T_setwh t x) = T_np t)).1
theorem np_swh (t : TA) (x : Nat → Bool) : T_np (T_setwh t x) = T_np t := ((⟨rfl, rfl⟩ : T_nb (T_setwh t x) = T_nb t ∧ T_np (T_setwh t x) = T_np t)).2
theorem nb_sgn (t : TA) (x : Nat → Bool) : T_nb (T_setgn t x) = T_nb t := ((⟨rfl, rfl⟩ : T_nb (T_setgn t x) = T_nb t ∧ T_np (T_setgn t x) = T_np t)).1
theorem np_sgn (t : TA) (x : Nat → Bool) : T_np (T_setgn t x) = T_np t := ((⟨rfl, rfl⟩ : T_nb (T_setgn t x) = T_nb t ∧ T_np (T_setgn t x) = T_np t)).2
theorem nb_ssd (t : TA) (x : Int32) : T_nb (T_setsd t x) = T_nb t := ((⟨rfl, rfl⟩ : T_nb (T_setsd t x) = T_nb t ∧ T_np (T_setsd t x) = T_np t)).1
theorem np_ssd (t : TA) (x : Int32) : T_np (T_setsd t x) = T_np t := ((⟨rfl, rfl⟩ : T_nb (T_setsd t x) = T_nb t ∧ T_np (T_setsd t x) = T_np t)).2
theorem nb_sgo (t : TA) (x : Nat → Int32) : T_nb (T_setgo t x) = T_nb t := ((⟨rfl, rfl⟩ : T_nb (T_setgo t x) = T_nb t ∧ T_np (T_setgo t x) = T_np t)).1
theorem np_sgo (t : TA) (x : Nat → Int32) : T_np (T_setgo t x) = T_np t := ((⟨rfl, rfl⟩ : T_nb (T_setgo t x) = T_nb t ∧ T_np (T_setgo t x) = T_np t)).2
theorem nb_sag (t : TA) (x : Nat → Int32) : T_nb (T_setag t x) = T_nb t := ((⟨rfl, rfl⟩ : T_nb (T_setag t x) = T_nb t ∧ T_np (T_setag t x) = T_np t)).1
theorem np_sag (t : TA) (x : Nat → Int32) : T_np (T_setag t x) = T_np t := ((⟨rfl, rfl⟩ : T_nb (T_setag t x) = T_nb t ∧ T_np (T_setag t x) = T_np t)).2
end
