theorem dX6_needs_117 : decode cX6_needs 117 = .ok (.iinc 4 (-1), 3) := g_132 255 bX6_needs rfl rfl
theorem dX6_needs_120 : decode cX6_needs 120 = .ok (.goto (-33), 3) := g_167 65503 bX6_needs rfl rfl
theorem dX6_needs_123 : decode cX6_needs 123 = .ok (.iload_n 3, 1) := g_29 bX6_needs rfl
theorem dX6_needs_124 : decode cX6_needs 124 = .ok (.ireturn, 1) := g_172 bX6_needs rfl
theorem dX6_one_0 : decode cX6_one 0 = .ok (.aload_n 0, 1) := g_42 bX6_one rfl
theorem dX6_one_1 : decode cX6_one 1 = .ok (.iload_n 1, 1) := g_27 bX6_one rfl
theorem dX6_one_2 : decode cX6_one 2 = .ok (.i2l, 1) := g_133 bX6_one rfl
theorem dX6_one_3 : decode cX6_one 3 = .ok (.iload_n 2, 1) := g_28 bX6_one rfl
theorem dX6_one_4 : decode cX6_one 4 = .ok (.i2l, 1) := g_133 bX6_one rfl
theorem dX6_one_5 : decode cX6_one 5 = .ok (.iload_n 3, 1) := g_29 bX6_one rfl
theorem dX6_one_6 : decode cX6_one 6 = .ok (.i2l, 1) := g_133 bX6_one rfl
theorem dX6_one_7 : decode cX6_one 7 = .ok (.iload 4, 2) := g_21 bX6_one rfl
theorem dX6_one_9 : decode cX6_one 9 = .ok (.i2l, 1) := g_133 bX6_one rfl
theorem dX6_one_10 : decode cX6_one 10 = .ok (.invokevirtual 137, 3) := g_182 bX6_one rfl
theorem dX6_one_13 : decode cX6_one 13 = .ok (.istore 5, 2) := g_54 bX6_one rfl
theorem dX6_one_15 : decode cX6_one 15 = .ok (.iload 5, 2) := g_21 bX6_one rfl
theorem dX6_one_17 : decode cX6_one 17 = .ok (.ifCond .ge 12, 3) := g_156 12 bX6_one rfl rfl
theorem dX6_one_20 : decode cX6_one 20 = .ok (.aload_n 0, 1) := g_42 bX6_one rfl
theorem dX6_one_21 : decode cX6_one 21 = .ok (.iload 5, 2) := g_21 bX6_one rfl
theorem dX6_one_23 : decode cX6_one 23 = .ok (.invokevirtual 91, 3) := g_182 bX6_one rfl
theorem dX6_one_26 : decode cX6_one 26 = .ok (.goto 5, 3) := g_167 5 bX6_one rfl rfl
theorem dX6_one_29 : decode cX6_one 29 = .ok (.iload 5, 2) := g_21 bX6_one rfl
theorem dX6_one_31 : decode cX6_one 31 = .ok (.ireturn, 1) := g_172 bX6_one rfl
theorem dX6_oneOf_0 : decode cX6_oneOf 0 = .ok (.aload_n 0, 1) := g_42 bX6_oneOf rfl
theorem dX6_oneOf_1 : decode cX6_oneOf 1 = .ok (.iload_n 1, 1) := g_27 bX6_oneOf rfl
theorem dX6_oneOf_2 : decode cX6_oneOf 2 = .ok (.i2l, 1) := g_133 bX6_oneOf rfl
theorem dX6_oneOf_3 : decode cX6_oneOf 3 = .ok (.invokevirtual 236, 3) := g_182 bX6_oneOf rfl
theorem dX6_oneOf_6 : decode cX6_oneOf 6 = .ok (.ifCond .eq 26, 3) := g_153 26 bX6_oneOf rfl rfl
theorem dX6_oneOf_9 : decode cX6_oneOf 9 = .ok (.iload_n 2, 1) := g_28 bX6_oneOf rfl
theorem dX6_oneOf_10 : decode cX6_oneOf 10 = .ok (.i2l, 1) := g_133 bX6_oneOf rfl
theorem dX6_oneOf_11 : decode cX6_oneOf 11 = .ok (.lconst 0, 1) := g_9 bX6_oneOf rfl
theorem dX6_oneOf_12 : decode cX6_oneOf 12 = .ok (.ldc2_w 87, 3) := g_20 bX6_oneOf rfl
theorem dX6_oneOf_15 : decode cX6_oneOf 15 = .ok (.invokestatic 74, 3) := g_184 bX6_oneOf rfl
theorem dX6_oneOf_18 : decode cX6_oneOf 18 = .ok (.ifCond .eq 14, 3) := g_153 14 bX6_oneOf rfl rfl
theorem dX6_oneOf_21 : decode cX6_oneOf 21 = .ok (.aload_n 0, 1) := g_42 bX6_oneOf rfl
theorem dX6_oneOf_22 : decode cX6_oneOf 22 = .ok (.getfield 45, 3) := g_180 bX6_oneOf rfl
theorem dX6_oneOf_25 : decode cX6_oneOf 25 = .ok (.iload_n 1, 1) := g_27 bX6_oneOf rfl
theorem dX6_oneOf_26 : decode cX6_oneOf 26 = .ok (.aaload, 1) := g_50 bX6_oneOf rfl
theorem dX6_oneOf_27 : decode cX6_oneOf 27 = .ok (.iload_n 2, 1) := g_28 bX6_oneOf rfl
theorem dX6_oneOf_28 : decode cX6_oneOf 28 = .ok (.iaload, 1) := g_46 bX6_oneOf rfl
theorem dX6_oneOf_29 : decode cX6_oneOf 29 = .ok (.goto 9, 3) := g_167 9 bX6_oneOf rfl rfl
theorem dX6_oneOf_32 : decode cX6_oneOf 32 = .ok (.aload_n 0, 1) := g_42 bX6_oneOf rfl
theorem dX6_oneOf_33 : decode cX6_oneOf 33 = .ok (.bipush (-2), 2) := g_16 254 bX6_oneOf rfl rfl
theorem dX6_oneOf_35 : decode cX6_oneOf 35 = .ok (.invokevirtual 91, 3) := g_182 bX6_oneOf rfl
theorem dX6_oneOf_38 : decode cX6_oneOf 38 = .ok (.ireturn, 1) := g_172 bX6_oneOf rfl
theorem dX6_ones_0 : decode cX6_ones 0 = .ok (.aload_n 0, 1) := g_42 bX6_ones rfl
theorem dX6_ones_1 : decode cX6_ones 1 = .ok (.iload_n 1, 1) := g_27 bX6_ones rfl
theorem dX6_ones_2 : decode cX6_ones 2 = .ok (.invokevirtual 95, 3) := g_182 bX6_ones rfl
theorem dX6_ones_5 : decode cX6_ones 5 = .ok (.istore_n 3, 1) := g_62 bX6_ones rfl
theorem dX6_ones_6 : decode cX6_ones 6 = .ok (.iload_n 3, 1) := g_29 bX6_ones rfl
theorem dX6_ones_7 : decode cX6_ones 7 = .ok (.ifCond .eq 5, 3) := g_153 5 bX6_ones rfl rfl
theorem dX6_ones_10 : decode cX6_ones 10 = .ok (.iload_n 3, 1) := g_29 bX6_ones rfl
theorem dX6_ones_11 : decode cX6_ones 11 = .ok (.ireturn, 1) := g_172 bX6_ones rfl
theorem dX6_ones_12 : decode cX6_ones 12 = .ok (.iload_n 2, 1) := g_28 bX6_ones rfl
theorem dX6_ones_13 : decode cX6_ones 13 = .ok (.ifCond .lt 19, 3) := g_155 19 bX6_ones rfl rfl
theorem dX6_ones_16 : decode cX6_ones 16 = .ok (.iload_n 2, 1) := g_28 bX6_ones rfl
theorem dX6_ones_17 : decode cX6_ones 17 = .ok (.iconst 4, 1) := g_7 bX6_ones rfl
theorem dX6_ones_18 : decode cX6_ones 18 = .ok (.irem, 1) := g_112 bX6_ones rfl
theorem dX6_ones_19 : decode cX6_ones 19 = .ok (.ifCond .ne 13, 3) := g_154 13 bX6_ones rfl rfl
theorem dX6_ones_22 : decode cX6_ones 22 = .ok (.iload_n 2, 1) := g_28 bX6_ones rfl
theorem dX6_ones_23 : decode cX6_ones 23 = .ok (.aload_n 0, 1) := g_42 bX6_ones rfl
theorem dX6_ones_24 : decode cX6_ones 24 = .ok (.getfield 16, 3) := g_180 bX6_ones rfl
theorem dX6_ones_27 : decode cX6_ones 27 = .ok (.iload_n 1, 1) := g_27 bX6_ones rfl
theorem dX6_ones_28 : decode cX6_ones 28 = .ok (.iaload, 1) := g_46 bX6_ones rfl
theorem dX6_ones_29 : decode cX6_ones 29 = .ok (.if_icmp .le 10, 3) := g_164 10 bX6_ones rfl rfl
theorem dX6_ones_32 : decode cX6_ones 32 = .ok (.aload_n 0, 1) := g_42 bX6_ones rfl
theorem dX6_ones_33 : decode cX6_ones 33 = .ok (.bipush (-2), 2) := g_16 254 bX6_ones rfl rfl
theorem dX6_ones_35 : decode cX6_ones 35 = .ok (.invokevirtual 91, 3) := g_182 bX6_ones rfl
theorem dX6_ones_38 : decode cX6_ones 38 = .ok (.ireturn, 1) := g_172 bX6_ones rfl
theorem dX6_ones_39 : decode cX6_ones 39 = .ok (.iconst 0, 1) := g_3 bX6_ones rfl
theorem dX6_ones_40 : decode cX6_ones 40 = .ok (.istore 4, 2) := g_54 bX6_ones rfl
theorem dX6_ones_42 : decode cX6_ones 42 = .ok (.iconst 0, 1) := g_3 bX6_ones rfl
theorem dX6_ones_43 : decode cX6_ones 43 = .ok (.istore 5, 2) := g_54 bX6_ones rfl
theorem dX6_ones_45 : decode cX6_ones 45 = .ok (.iload 5, 2) := g_21 bX6_ones rfl
theorem dX6_ones_47 : decode cX6_ones 47 = .ok (.iload_n 2, 1) := g_28 bX6_ones rfl
theorem dX6_ones_48 : decode cX6_ones 48 = .ok (.if_icmp .ge 64, 3) := g_162 64 bX6_ones rfl rfl
theorem dX6_ones_51 : decode cX6_ones 51 = .ok (.aload_n 0, 1) := g_42 bX6_ones rfl
theorem dX6_ones_52 : decode cX6_ones 52 = .ok (.aload_n 0, 1) := g_42 bX6_ones rfl
theorem dX6_ones_53 : decode cX6_ones 53 = .ok (.getfield 21, 3) := g_180 bX6_ones rfl
theorem dX6_ones_56 : decode cX6_ones 56 = .ok (.iload_n 1, 1) := g_27 bX6_ones rfl
theorem dX6_ones_57 : decode cX6_ones 57 = .ok (.aaload, 1) := g_50 bX6_ones rfl
theorem dX6_ones_58 : decode cX6_ones 58 = .ok (.iload 5, 2) := g_21 bX6_ones rfl
theorem dX6_ones_60 : decode cX6_ones 60 = .ok (.laload, 1) := g_47 bX6_ones rfl
theorem dX6_ones_61 : decode cX6_ones 61 = .ok (.aload_n 0, 1) := g_42 bX6_ones rfl
theorem dX6_ones_62 : decode cX6_ones 62 = .ok (.getfield 21, 3) := g_180 bX6_ones rfl
theorem dX6_ones_65 : decode cX6_ones 65 = .ok (.iload_n 1, 1) := g_27 bX6_ones rfl
theorem dX6_ones_66 : decode cX6_ones 66 = .ok (.aaload, 1) := g_50 bX6_ones rfl
theorem dX6_ones_67 : decode cX6_ones 67 = .ok (.iload 5, 2) := g_21 bX6_ones rfl
theorem dX6_ones_69 : decode cX6_ones 69 = .ok (.iconst 1, 1) := g_4 bX6_ones rfl
theorem dX6_ones_70 : decode cX6_ones 70 = .ok (.iadd, 1) := g_96 bX6_ones rfl
theorem dX6_ones_71 : decode cX6_ones 71 = .ok (.laload, 1) := g_47 bX6_ones rfl
theorem dX6_ones_72 : decode cX6_ones 72 = .ok (.aload_n 0, 1) := g_42 bX6_ones rfl
theorem dX6_ones_73 : decode cX6_ones 73 = .ok (.getfield 21, 3) := g_180 bX6_ones rfl
theorem dX6_ones_76 : decode cX6_ones 76 = .ok (.iload_n 1, 1) := g_27 bX6_ones rfl
theorem dX6_ones_77 : decode cX6_ones 77 = .ok (.aaload, 1) := g_50 bX6_ones rfl
theorem dX6_ones_78 : decode cX6_ones 78 = .ok (.iload 5, 2) := g_21 bX6_ones rfl
theorem dX6_ones_80 : decode cX6_ones 80 = .ok (.iconst 2, 1) := g_5 bX6_ones rfl
theorem dX6_ones_81 : decode cX6_ones 81 = .ok (.iadd, 1) := g_96 bX6_ones rfl
theorem dX6_ones_82 : decode cX6_ones 82 = .ok (.laload, 1) := g_47 bX6_ones rfl
theorem dX6_ones_83 : decode cX6_ones 83 = .ok (.aload_n 0, 1) := g_42 bX6_ones rfl
theorem dX6_ones_84 : decode cX6_ones 84 = .ok (.getfield 21, 3) := g_180 bX6_ones rfl
theorem dX6_ones_87 : decode cX6_ones 87 = .ok (.iload_n 1, 1) := g_27 bX6_ones rfl
theorem dX6_ones_88 : decode cX6_ones 88 = .ok (.aaload, 1) := g_50 bX6_ones rfl
theorem dX6_ones_89 : decode cX6_ones 89 = .ok (.iload 5, 2) := g_21 bX6_ones rfl
theorem dX6_ones_91 : decode cX6_ones 91 = .ok (.iconst 3, 1) := g_6 bX6_ones rfl
theorem dX6_ones_92 : decode cX6_ones 92 = .ok (.iadd, 1) := g_96 bX6_ones rfl
theorem dX6_ones_93 : decode cX6_ones 93 = .ok (.laload, 1) := g_47 bX6_ones rfl
theorem dX6_ones_94 : decode cX6_ones 94 = .ok (.invokevirtual 137, 3) := g_182 bX6_ones rfl
theorem dX6_ones_97 : decode cX6_ones 97 = .ok (.ifCond .ge 6, 3) := g_156 6 bX6_ones rfl rfl
theorem dX6_ones_100 : decode cX6_ones 100 = .ok (.iload 4, 2) := g_21 bX6_ones rfl
theorem dX6_ones_102 : decode cX6_ones 102 = .ok (.ireturn, 1) := g_172 bX6_ones rfl
theorem dX6_ones_103 : decode cX6_ones 103 = .ok (.iinc 4 1, 3) := g_132 1 bX6_ones rfl rfl
theorem dX6_ones_106 : decode cX6_ones 106 = .ok (.iinc 5 4, 3) := g_132 4 bX6_ones rfl rfl
theorem dX6_ones_109 : decode cX6_ones 109 = .ok (.goto (-64), 3) := g_167 65472 bX6_ones rfl rfl
theorem dX6_ones_112 : decode cX6_ones 112 = .ok (.iload 4, 2) := g_21 bX6_ones rfl
theorem dX6_ones_114 : decode cX6_ones 114 = .ok (.ireturn, 1) := g_172 bX6_ones rfl
theorem dX6_read_0 : decode cX6_read 0 = .ok (.aload_n 0, 1) := g_42 bX6_read rfl
theorem dX6_read_1 : decode cX6_read 1 = .ok (.iload_n 1, 1) := g_27 bX6_read rfl
theorem dX6_read_2 : decode cX6_read 2 = .ok (.iload_n 2, 1) := g_28 bX6_read rfl
theorem dX6_read_3 : decode cX6_read 3 = .ok (.invokevirtual 251, 3) := g_182 bX6_read rfl
theorem dX6_read_6 : decode cX6_read 6 = .ok (.istore_n 3, 1) := g_62 bX6_read rfl
theorem dX6_read_7 : decode cX6_read 7 = .ok (.iload_n 3, 1) := g_29 bX6_read rfl
theorem dX6_read_8 : decode cX6_read 8 = .ok (.ifCond .eq 5, 3) := g_153 5 bX6_read rfl rfl
theorem dX6_read_11 : decode cX6_read 11 = .ok (.iload_n 3, 1) := g_29 bX6_read rfl
theorem dX6_read_12 : decode cX6_read 12 = .ok (.ireturn, 1) := g_172 bX6_read rfl
theorem dX6_read_13 : decode cX6_read 13 = .ok (.aload_n 0, 1) := g_42 bX6_read rfl
theorem dX6_read_14 : decode cX6_read 14 = .ok (.iload_n 1, 1) := g_27 bX6_read rfl
theorem dX6_read_15 : decode cX6_read 15 = .ok (.iload_n 2, 1) := g_28 bX6_read rfl
theorem dX6_read_16 : decode cX6_read 16 = .ok (.invokevirtual 257, 3) := g_182 bX6_read rfl
theorem dX6_read_19 : decode cX6_read 19 = .ok (.aload_n 0, 1) := g_42 bX6_read rfl
theorem dX6_read_20 : decode cX6_read 20 = .ok (.getfield 48, 3) := g_180 bX6_read rfl
theorem dX6_read_23 : decode cX6_read 23 = .ok (.iload_n 1, 1) := g_27 bX6_read rfl
theorem dX6_read_24 : decode cX6_read 24 = .ok (.aaload, 1) := g_50 bX6_read rfl
theorem dX6_read_25 : decode cX6_read 25 = .ok (.iload_n 2, 1) := g_28 bX6_read rfl
theorem dX6_read_26 : decode cX6_read 26 = .ok (.iaload, 1) := g_46 bX6_read rfl
theorem dX6_read_27 : decode cX6_read 27 = .ok (.ireturn, 1) := g_172 bX6_read rfl
theorem dX6_reader_0 : decode cX6_reader 0 = .ok (.aload_n 0, 1) := g_42 bX6_reader rfl
theorem dX6_reader_1 : decode cX6_reader 1 = .ok (.iload_n 1, 1) := g_27 bX6_reader rfl
theorem dX6_reader_2 : decode cX6_reader 2 = .ok (.i2l, 1) := g_133 bX6_reader rfl
theorem dX6_reader_3 : decode cX6_reader 3 = .ok (.invokevirtual 229, 3) := g_182 bX6_reader rfl
theorem dX6_reader_6 : decode cX6_reader 6 = .ok (.ifCond .ne 10, 3) := g_154 10 bX6_reader rfl rfl
theorem dX6_reader_9 : decode cX6_reader 9 = .ok (.aload_n 0, 1) := g_42 bX6_reader rfl
theorem dX6_reader_10 : decode cX6_reader 10 = .ok (.bipush (-2), 2) := g_16 254 bX6_reader rfl rfl
theorem dX6_reader_12 : decode cX6_reader 12 = .ok (.invokevirtual 91, 3) := g_182 bX6_reader rfl
theorem dX6_reader_15 : decode cX6_reader 15 = .ok (.ireturn, 1) := g_172 bX6_reader rfl
theorem dX6_reader_16 : decode cX6_reader 16 = .ok (.aload_n 0, 1) := g_42 bX6_reader rfl
theorem dX6_reader_17 : decode cX6_reader 17 = .ok (.iload_n 1, 1) := g_27 bX6_reader rfl
theorem dX6_reader_18 : decode cX6_reader 18 = .ok (.invokevirtual 248, 3) := g_182 bX6_reader rfl
theorem dX6_reader_21 : decode cX6_reader 21 = .ok (.ifCond .eq 12, 3) := g_153 12 bX6_reader rfl rfl
theorem dX6_reader_24 : decode cX6_reader 24 = .ok (.aload_n 0, 1) := g_42 bX6_reader rfl
theorem dX6_reader_25 : decode cX6_reader 25 = .ok (.bipush (-5), 2) := g_16 251 bX6_reader rfl rfl
theorem dX6_reader_27 : decode cX6_reader 27 = .ok (.invokevirtual 91, 3) := g_182 bX6_reader rfl
theorem dX6_reader_30 : decode cX6_reader 30 = .ok (.goto 8, 3) := g_167 8 bX6_reader rfl rfl
theorem dX6_reader_33 : decode cX6_reader 33 = .ok (.aload_n 0, 1) := g_42 bX6_reader rfl
theorem dX6_reader_34 : decode cX6_reader 34 = .ok (.iload_n 1, 1) := g_27 bX6_reader rfl
theorem dX6_reader_35 : decode cX6_reader 35 = .ok (.invokevirtual 272, 3) := g_182 bX6_reader rfl
theorem dX6_reader_38 : decode cX6_reader 38 = .ok (.ireturn, 1) := g_172 bX6_reader rfl
theorem dX6_teach_0 : decode cX6_teach 0 = .ok (.aload_n 0, 1) := g_42 bX6_teach rfl
theorem dX6_teach_1 : decode cX6_teach 1 = .ok (.iload_n 1, 1) := g_27 bX6_teach rfl
theorem dX6_teach_2 : decode cX6_teach 2 = .ok (.i2l, 1) := g_133 bX6_teach rfl
theorem dX6_teach_3 : decode cX6_teach 3 = .ok (.invokevirtual 236, 3) := g_182 bX6_teach rfl
theorem dX6_teach_6 : decode cX6_teach 6 = .ok (.ifCond .eq 12, 3) := g_153 12 bX6_teach rfl rfl
theorem dX6_teach_9 : decode cX6_teach 9 = .ok (.aload_n 0, 1) := g_42 bX6_teach rfl
theorem dX6_teach_10 : decode cX6_teach 10 = .ok (.iload_n 2, 1) := g_28 bX6_teach rfl
theorem dX6_teach_11 : decode cX6_teach 11 = .ok (.i2l, 1) := g_133 bX6_teach rfl
theorem dX6_teach_12 : decode cX6_teach 12 = .ok (.invokevirtual 229, 3) := g_182 bX6_teach rfl
theorem dX6_teach_15 : decode cX6_teach 15 = .ok (.ifCond .ne 10, 3) := g_154 10 bX6_teach rfl rfl
theorem dX6_teach_18 : decode cX6_teach 18 = .ok (.aload_n 0, 1) := g_42 bX6_teach rfl
theorem dX6_teach_19 : decode cX6_teach 19 = .ok (.bipush (-2), 2) := g_16 254 bX6_teach rfl rfl
theorem dX6_teach_21 : decode cX6_teach 21 = .ok (.invokevirtual 91, 3) := g_182 bX6_teach rfl
theorem dX6_teach_24 : decode cX6_teach 24 = .ok (.ireturn, 1) := g_172 bX6_teach rfl
theorem dX6_teach_25 : decode cX6_teach 25 = .ok (.aload_n 0, 1) := g_42 bX6_teach rfl
theorem dX6_teach_26 : decode cX6_teach 26 = .ok (.iload_n 1, 1) := g_27 bX6_teach rfl
theorem dX6_teach_27 : decode cX6_teach 27 = .ok (.invokevirtual 81, 3) := g_182 bX6_teach rfl
theorem dX6_teach_30 : decode cX6_teach 30 = .ok (.ifCond .ne 10, 3) := g_154 10 bX6_teach rfl rfl
theorem dX6_teach_33 : decode cX6_teach 33 = .ok (.aload_n 0, 1) := g_42 bX6_teach rfl
theorem dX6_teach_34 : decode cX6_teach 34 = .ok (.bipush (-5), 2) := g_16 251 bX6_teach rfl rfl
theorem dX6_teach_36 : decode cX6_teach 36 = .ok (.invokevirtual 91, 3) := g_182 bX6_teach rfl
theorem dX6_teach_39 : decode cX6_teach 39 = .ok (.ireturn, 1) := g_172 bX6_teach rfl
theorem dX6_teach_40 : decode cX6_teach 40 = .ok (.iconst (-1), 1) := g_2 bX6_teach rfl
theorem dX6_teach_41 : decode cX6_teach 41 = .ok (.istore_n 3, 1) := g_62 bX6_teach rfl
theorem dX6_teach_42 : decode cX6_teach 42 = .ok (.iconst 0, 1) := g_3 bX6_teach rfl
theorem dX6_teach_43 : decode cX6_teach 43 = .ok (.istore 4, 2) := g_54 bX6_teach rfl
theorem dX6_teach_45 : decode cX6_teach 45 = .ok (.iconst 0, 1) := g_3 bX6_teach rfl
theorem dX6_teach_46 : decode cX6_teach 46 = .ok (.istore 5, 2) := g_54 bX6_teach rfl
theorem dX6_teach_48 : decode cX6_teach 48 = .ok (.iload 5, 2) := g_21 bX6_teach rfl
theorem dX6_teach_50 : decode cX6_teach 50 = .ok (.aload_n 0, 1) := g_42 bX6_teach rfl
theorem dX6_teach_51 : decode cX6_teach 51 = .ok (.getfield 78, 3) := g_180 bX6_teach rfl
theorem dX6_teach_54 : decode cX6_teach 54 = .ok (.if_icmp .ge 52, 3) := g_162 52 bX6_teach rfl rfl
theorem dX6_teach_57 : decode cX6_teach 57 = .ok (.iload 5, 2) := g_21 bX6_teach rfl
theorem dX6_teach_59 : decode cX6_teach 59 = .ok (.iload_n 1, 1) := g_27 bX6_teach rfl
theorem dX6_teach_60 : decode cX6_teach 60 = .ok (.if_icmp .eq 23, 3) := g_159 23 bX6_teach rfl rfl
theorem dX6_teach_63 : decode cX6_teach 63 = .ok (.aload_n 0, 1) := g_42 bX6_teach rfl
theorem dX6_teach_64 : decode cX6_teach 64 = .ok (.iload 5, 2) := g_21 bX6_teach rfl
theorem dX6_teach_66 : decode cX6_teach 66 = .ok (.invokevirtual 81, 3) := g_182 bX6_teach rfl
theorem dX6_teach_69 : decode cX6_teach 69 = .ok (.ifCond .eq 14, 3) := g_153 14 bX6_teach rfl rfl
theorem dX6_teach_72 : decode cX6_teach 72 = .ok (.aload_n 0, 1) := g_42 bX6_teach rfl
theorem dX6_teach_73 : decode cX6_teach 73 = .ok (.iload_n 1, 1) := g_27 bX6_teach rfl
theorem dX6_teach_74 : decode cX6_teach 74 = .ok (.iload 5, 2) := g_21 bX6_teach rfl
theorem dX6_teach_76 : decode cX6_teach 76 = .ok (.iload_n 2, 1) := g_28 bX6_teach rfl
theorem dX6_teach_77 : decode cX6_teach 77 = .ok (.invokevirtual 263, 3) := g_182 bX6_teach rfl
theorem dX6_teach_80 : decode cX6_teach 80 = .ok (.goto 4, 3) := g_167 4 bX6_teach rfl rfl
theorem dX6_teach_83 : decode cX6_teach 83 = .ok (.iconst 0, 1) := g_3 bX6_teach rfl
theorem dX6_teach_84 : decode cX6_teach 84 = .ok (.istore 6, 2) := g_54 bX6_teach rfl
theorem dX6_teach_86 : decode cX6_teach 86 = .ok (.iload 6, 2) := g_21 bX6_teach rfl
theorem dX6_teach_88 : decode cX6_teach 88 = .ok (.iload 4, 2) := g_21 bX6_teach rfl
theorem dX6_teach_90 : decode cX6_teach 90 = .ok (.if_icmp .le 10, 3) := g_164 10 bX6_teach rfl rfl
theorem dX6_teach_93 : decode cX6_teach 93 = .ok (.iload 5, 2) := g_21 bX6_teach rfl
theorem dX6_teach_95 : decode cX6_teach 95 = .ok (.istore_n 3, 1) := g_62 bX6_teach rfl
theorem dX6_teach_96 : decode cX6_teach 96 = .ok (.iload 6, 2) := g_21 bX6_teach rfl
theorem dX6_teach_98 : decode cX6_teach 98 = .ok (.istore 4, 2) := g_54 bX6_teach rfl
theorem dX6_teach_100 : decode cX6_teach 100 = .ok (.iinc 5 1, 3) := g_132 1 bX6_teach rfl rfl
theorem dX6_teach_103 : decode cX6_teach 103 = .ok (.goto (-55), 3) := g_167 65481 bX6_teach rfl rfl
theorem dX6_teach_106 : decode cX6_teach 106 = .ok (.iload_n 3, 1) := g_29 bX6_teach rfl
theorem dX6_teach_107 : decode cX6_teach 107 = .ok (.ireturn, 1) := g_172 bX6_teach rfl
theorem dX6_tell_0 : decode cX6_tell 0 = .ok (.aload_n 0, 1) := g_42 bX6_tell rfl
theorem dX6_tell_1 : decode cX6_tell 1 = .ok (.iload_n 1, 1) := g_27 bX6_tell rfl
theorem dX6_tell_2 : decode cX6_tell 2 = .ok (.i2l, 1) := g_133 bX6_tell rfl
theorem dX6_tell_3 : decode cX6_tell 3 = .ok (.invokevirtual 236, 3) := g_182 bX6_tell rfl
theorem dX6_tell_6 : decode cX6_tell 6 = .ok (.ifCond .eq 26, 3) := g_153 26 bX6_tell rfl rfl
theorem dX6_tell_9 : decode cX6_tell 9 = .ok (.aload_n 0, 1) := g_42 bX6_tell rfl
theorem dX6_tell_10 : decode cX6_tell 10 = .ok (.iload_n 2, 1) := g_28 bX6_tell rfl
theorem dX6_tell_11 : decode cX6_tell 11 = .ok (.i2l, 1) := g_133 bX6_tell rfl
theorem dX6_tell_12 : decode cX6_tell 12 = .ok (.invokevirtual 236, 3) := g_182 bX6_tell rfl
theorem dX6_tell_15 : decode cX6_tell 15 = .ok (.ifCond .eq 17, 3) := g_153 17 bX6_tell rfl rfl
theorem dX6_tell_18 : decode cX6_tell 18 = .ok (.iload_n 1, 1) := g_27 bX6_tell rfl
theorem dX6_tell_19 : decode cX6_tell 19 = .ok (.iload_n 2, 1) := g_28 bX6_tell rfl
theorem dX6_tell_20 : decode cX6_tell 20 = .ok (.if_icmp .eq 12, 3) := g_159 12 bX6_tell rfl rfl
theorem dX6_tell_23 : decode cX6_tell 23 = .ok (.aload_n 0, 1) := g_42 bX6_tell rfl
theorem dX6_tell_24 : decode cX6_tell 24 = .ok (.iload_n 3, 1) := g_29 bX6_tell rfl
theorem dX6_tell_25 : decode cX6_tell 25 = .ok (.i2l, 1) := g_133 bX6_tell rfl
theorem dX6_tell_26 : decode cX6_tell 26 = .ok (.invokevirtual 229, 3) := g_182 bX6_tell rfl
theorem dX6_tell_29 : decode cX6_tell 29 = .ok (.ifCond .ne 10, 3) := g_154 10 bX6_tell rfl rfl
theorem dX6_tell_32 : decode cX6_tell 32 = .ok (.aload_n 0, 1) := g_42 bX6_tell rfl
theorem dX6_tell_33 : decode cX6_tell 33 = .ok (.bipush (-2), 2) := g_16 254 bX6_tell rfl rfl
theorem dX6_tell_35 : decode cX6_tell 35 = .ok (.invokevirtual 91, 3) := g_182 bX6_tell rfl
theorem dX6_tell_38 : decode cX6_tell 38 = .ok (.ireturn, 1) := g_172 bX6_tell rfl
theorem dX6_tell_39 : decode cX6_tell 39 = .ok (.aload_n 0, 1) := g_42 bX6_tell rfl
theorem dX6_tell_40 : decode cX6_tell 40 = .ok (.iload_n 1, 1) := g_27 bX6_tell rfl
theorem dX6_tell_41 : decode cX6_tell 41 = .ok (.invokevirtual 81, 3) := g_182 bX6_tell rfl
theorem dX6_tell_44 : decode cX6_tell 44 = .ok (.ifCond .eq 11, 3) := g_153 11 bX6_tell rfl rfl
theorem dX6_tell_47 : decode cX6_tell 47 = .ok (.aload_n 0, 1) := g_42 bX6_tell rfl
theorem dX6_tell_48 : decode cX6_tell 48 = .ok (.iload_n 2, 1) := g_28 bX6_tell rfl
theorem dX6_tell_49 : decode cX6_tell 49 = .ok (.invokevirtual 81, 3) := g_182 bX6_tell rfl
theorem dX6_tell_52 : decode cX6_tell 52 = .ok (.ifCond .ne 10, 3) := g_154 10 bX6_tell rfl rfl
theorem dX6_tell_55 : decode cX6_tell 55 = .ok (.aload_n 0, 1) := g_42 bX6_tell rfl
theorem dX6_tell_56 : decode cX6_tell 56 = .ok (.bipush (-5), 2) := g_16 251 bX6_tell rfl rfl
theorem dX6_tell_58 : decode cX6_tell 58 = .ok (.invokevirtual 91, 3) := g_182 bX6_tell rfl
theorem dX6_tell_61 : decode cX6_tell 61 = .ok (.ireturn, 1) := g_172 bX6_tell rfl
theorem dX6_tell_62 : decode cX6_tell 62 = .ok (.aload_n 0, 1) := g_42 bX6_tell rfl
theorem dX6_tell_63 : decode cX6_tell 63 = .ok (.iload_n 1, 1) := g_27 bX6_tell rfl
theorem dX6_tell_64 : decode cX6_tell 64 = .ok (.iload_n 2, 1) := g_28 bX6_tell rfl
theorem dX6_tell_65 : decode cX6_tell 65 = .ok (.iload_n 3, 1) := g_29 bX6_tell rfl
theorem dX6_tell_66 : decode cX6_tell 66 = .ok (.invokevirtual 263, 3) := g_182 bX6_tell rfl
theorem dX6_tell_69 : decode cX6_tell 69 = .ok (.istore 4, 2) := g_54 bX6_tell rfl
theorem dX6_tell_71 : decode cX6_tell 71 = .ok (.aload_n 0, 1) := g_42 bX6_tell rfl
theorem dX6_tell_72 : decode cX6_tell 72 = .ok (.getfield 48, 3) := g_180 bX6_tell rfl
theorem dX6_tell_75 : decode cX6_tell 75 = .ok (.iload_n 2, 1) := g_28 bX6_tell rfl
theorem dX6_tell_76 : decode cX6_tell 76 = .ok (.aaload, 1) := g_50 bX6_tell rfl
theorem dX6_tell_77 : decode cX6_tell 77 = .ok (.iload_n 3, 1) := g_29 bX6_tell rfl
theorem dX6_tell_78 : decode cX6_tell 78 = .ok (.dup2, 1) := g_92 bX6_tell rfl
theorem dX6_tell_79 : decode cX6_tell 79 = .ok (.iaload, 1) := g_46 bX6_tell rfl
theorem dX6_tell_80 : decode cX6_tell 80 = .ok (.iload 4, 2) := g_21 bX6_tell rfl
theorem dX6_tell_82 : decode cX6_tell 82 = .ok (.iadd, 1) := g_96 bX6_tell rfl
theorem dX6_tell_83 : decode cX6_tell 83 = .ok (.iastore, 1) := g_79 bX6_tell rfl
theorem dX6_tell_84 : decode cX6_tell 84 = .ok (.iload 4, 2) := g_21 bX6_tell rfl
theorem dX6_tell_86 : decode cX6_tell 86 = .ok (.ireturn, 1) := g_172 bX6_tell rfl
theorem dX6_town_0 : decode cX6_town 0 = .ok (.aload_n 0, 1) := g_42 bX6_town rfl
theorem dX6_town_1 : decode cX6_town 1 = .ok (.invokevirtual 110, 3) := g_182 bX6_town rfl
theorem dX6_town_4 : decode cX6_town 4 = .ok (.astore_n 1, 1) := g_76 bX6_town rfl
theorem dX6_town_5 : decode cX6_town 5 = .ok (.aload_n 0, 1) := g_42 bX6_town rfl
theorem dX6_town_6 : decode cX6_town 6 = .ok (.invokevirtual 222, 3) := g_182 bX6_town rfl
theorem dX6_town_9 : decode cX6_town 9 = .ok (.istore_n 2, 1) := g_61 bX6_town rfl
theorem dX6_town_10 : decode cX6_town 10 = .ok (.aload_n 0, 1) := g_42 bX6_town rfl
theorem dX6_town_11 : decode cX6_town 11 = .ok (.iconst 0, 1) := g_3 bX6_town rfl
theorem dX6_town_12 : decode cX6_town 12 = .ok (.putfield 141, 3) := g_181 bX6_town rfl
theorem dX6_town_15 : decode cX6_town 15 = .ok (.iload_n 2, 1) := g_28 bX6_town rfl
theorem dX6_town_16 : decode cX6_town 16 = .ok (.ifCond .ne 23, 3) := g_154 23 bX6_town rfl rfl
theorem dX6_town_19 : decode cX6_town 19 = .ok (.aload_n 0, 1) := g_42 bX6_town rfl
theorem dX6_town_20 : decode cX6_town 20 = .ok (.aload_n 1, 1) := g_43 bX6_town rfl
theorem dX6_town_21 : decode cX6_town 21 = .ok (.invokevirtual 225, 3) := g_182 bX6_town rfl
theorem dX6_town_24 : decode cX6_town 24 = .ok (.aload_n 0, 1) := g_42 bX6_town rfl
theorem dX6_town_25 : decode cX6_town 25 = .ok (.bipush (-2), 2) := g_16 254 bX6_town rfl rfl
theorem dX6_town_27 : decode cX6_town 27 = .ok (.invokevirtual 91, 3) := g_182 bX6_town rfl
theorem dX6_town_30 : decode cX6_town 30 = .ok (.pop, 1) := g_87 bX6_town rfl
theorem dX6_town_31 : decode cX6_town 31 = .ok (.bipush (-20), 2) := g_16 236 bX6_town rfl rfl
theorem dX6_town_33 : decode cX6_town 33 = .ok (.aload_n 0, 1) := g_42 bX6_town rfl
theorem dX6_town_34 : decode cX6_town 34 = .ok (.getfield 167, 3) := g_180 bX6_town rfl
theorem dX6_town_37 : decode cX6_town 37 = .ok (.isub, 1) := g_100 bX6_town rfl
theorem dX6_town_38 : decode cX6_town 38 = .ok (.ireturn, 1) := g_172 bX6_town rfl
theorem dX6_town_39 : decode cX6_town 39 = .ok (.aload_n 0, 1) := g_42 bX6_town rfl
theorem dX6_town_40 : decode cX6_town 40 = .ok (.getfield 216, 3) := g_180 bX6_town rfl
theorem dX6_town_43 : decode cX6_town 43 = .ok (.ireturn, 1) := g_172 bX6_town rfl
theorem dX6_two_0 : decode cX6_two 0 = .ok (.aload_n 0, 1) := g_42 bX6_two rfl
theorem dX6_two_1 : decode cX6_two 1 = .ok (.iload_n 1, 1) := g_27 bX6_two rfl
theorem dX6_two_2 : decode cX6_two 2 = .ok (.i2l, 1) := g_133 bX6_two rfl
theorem dX6_two_3 : decode cX6_two 3 = .ok (.invokevirtual 236, 3) := g_182 bX6_two rfl
theorem dX6_two_6 : decode cX6_two 6 = .ok (.ifCond .eq 26, 3) := g_153 26 bX6_two rfl rfl
theorem dX6_two_9 : decode cX6_two 9 = .ok (.aload_n 0, 1) := g_42 bX6_two rfl
theorem dX6_two_10 : decode cX6_two 10 = .ok (.iload_n 2, 1) := g_28 bX6_two rfl
theorem dX6_two_11 : decode cX6_two 11 = .ok (.i2l, 1) := g_133 bX6_two rfl
theorem dX6_two_12 : decode cX6_two 12 = .ok (.invokevirtual 236, 3) := g_182 bX6_two rfl
theorem dX6_two_15 : decode cX6_two 15 = .ok (.ifCond .eq 17, 3) := g_153 17 bX6_two rfl rfl
theorem dX6_two_18 : decode cX6_two 18 = .ok (.aload_n 0, 1) := g_42 bX6_two rfl
theorem dX6_two_19 : decode cX6_two 19 = .ok (.iconst 1, 1) := g_4 bX6_two rfl
theorem dX6_two_20 : decode cX6_two 20 = .ok (.iload_n 1, 1) := g_27 bX6_two rfl
theorem dX6_two_21 : decode cX6_two 21 = .ok (.ishl, 1) := g_120 bX6_two rfl
theorem dX6_two_22 : decode cX6_two 22 = .ok (.iconst 1, 1) := g_4 bX6_two rfl
theorem dX6_two_23 : decode cX6_two 23 = .ok (.iload_n 2, 1) := g_28 bX6_two rfl
theorem dX6_two_24 : decode cX6_two 24 = .ok (.ishl, 1) := g_120 bX6_two rfl
theorem dX6_two_25 : decode cX6_two 25 = .ok (.ior, 1) := g_128 bX6_two rfl
theorem dX6_two_26 : decode cX6_two 26 = .ok (.invokevirtual 266, 3) := g_182 bX6_two rfl
theorem dX6_two_29 : decode cX6_two 29 = .ok (.goto 9, 3) := g_167 9 bX6_two rfl rfl
theorem dX6_two_32 : decode cX6_two 32 = .ok (.aload_n 0, 1) := g_42 bX6_two rfl
theorem dX6_two_33 : decode cX6_two 33 = .ok (.bipush (-2), 2) := g_16 254 bX6_two rfl rfl
theorem dX6_two_35 : decode cX6_two 35 = .ok (.invokevirtual 91, 3) := g_182 bX6_two rfl
theorem dX6_two_38 : decode cX6_two 38 = .ok (.ireturn, 1) := g_172 bX6_two rfl
theorem dX6_value_0 : decode cX6_value 0 = .ok (.aload_n 0, 1) := g_42 bX6_value rfl
theorem dX6_value_1 : decode cX6_value 1 = .ok (.invokevirtual 122, 3) := g_182 bX6_value rfl
theorem dX6_value_4 : decode cX6_value 4 = .ok (.ireturn, 1) := g_172 bX6_value rfl
theorem dX6_wipe_0 : decode cX6_wipe 0 = .ok (.aload_n 0, 1) := g_42 bX6_wipe rfl
theorem dX6_wipe_1 : decode cX6_wipe 1 = .ok (.getfield 141, 3) := g_180 bX6_wipe rfl
theorem dX6_wipe_4 : decode cX6_wipe 4 = .ok (.istore_n 1, 1) := g_60 bX6_wipe rfl
theorem dX6_wipe_5 : decode cX6_wipe 5 = .ok (.aload_n 0, 1) := g_42 bX6_wipe rfl
theorem dX6_wipe_6 : decode cX6_wipe 6 = .ok (.iconst 0, 1) := g_3 bX6_wipe rfl
theorem dX6_wipe_7 : decode cX6_wipe 7 = .ok (.putfield 141, 3) := g_181 bX6_wipe rfl
theorem dX6_wipe_10 : decode cX6_wipe 10 = .ok (.iload_n 1, 1) := g_27 bX6_wipe rfl
theorem dX6_wipe_11 : decode cX6_wipe 11 = .ok (.ireturn, 1) := g_172 bX6_wipe rfl
theorem dX6_would_0 : decode cX6_would 0 = .ok (.aload_n 0, 1) := g_42 bX6_would rfl
theorem dX6_would_1 : decode cX6_would 1 = .ok (.iload_n 1, 1) := g_27 bX6_would rfl
theorem dX6_would_2 : decode cX6_would 2 = .ok (.iload_n 2, 1) := g_28 bX6_would rfl
theorem dX6_would_3 : decode cX6_would 3 = .ok (.invokevirtual 251, 3) := g_182 bX6_would rfl
theorem dX6_would_6 : decode cX6_would 6 = .ok (.istore_n 3, 1) := g_62 bX6_would rfl
theorem dX6_would_7 : decode cX6_would 7 = .ok (.iload_n 3, 1) := g_29 bX6_would rfl
theorem dX6_would_8 : decode cX6_would 8 = .ok (.ifCond .eq 7, 3) := g_153 7 bX6_would rfl rfl
theorem dX6_would_11 : decode cX6_would 11 = .ok (.iload_n 3, 1) := g_29 bX6_would rfl
theorem dX6_would_12 : decode cX6_would 12 = .ok (.goto 9, 3) := g_167 9 bX6_would rfl rfl
theorem dX6_would_15 : decode cX6_would 15 = .ok (.aload_n 0, 1) := g_42 bX6_would rfl
theorem dX6_would_16 : decode cX6_would 16 = .ok (.iload_n 1, 1) := g_27 bX6_would rfl
theorem dX6_would_17 : decode cX6_would 17 = .ok (.iload_n 2, 1) := g_28 bX6_would rfl
theorem dX6_would_18 : decode cX6_would 18 = .ok (.invokevirtual 254, 3) := g_182 bX6_would rfl
theorem dX6_would_21 : decode cX6_would 21 = .ok (.ireturn, 1) := g_172 bX6_would rfl
theorem dX6_write_0 : decode cX6_write 0 = .ok (.aload_n 0, 1) := g_42 bX6_write rfl
theorem dX6_write_1 : decode cX6_write 1 = .ok (.iload_n 1, 1) := g_27 bX6_write rfl
theorem dX6_write_2 : decode cX6_write 2 = .ok (.i2l, 1) := g_133 bX6_write rfl
theorem dX6_write_3 : decode cX6_write 3 = .ok (.invokevirtual 236, 3) := g_182 bX6_write rfl
theorem dX6_write_6 : decode cX6_write 6 = .ok (.ifCond .eq 12, 3) := g_153 12 bX6_write rfl rfl
theorem dX6_write_9 : decode cX6_write 9 = .ok (.aload_n 0, 1) := g_42 bX6_write rfl
theorem dX6_write_10 : decode cX6_write 10 = .ok (.iload_n 2, 1) := g_28 bX6_write rfl
theorem dX6_write_11 : decode cX6_write 11 = .ok (.i2l, 1) := g_133 bX6_write rfl
theorem dX6_write_12 : decode cX6_write 12 = .ok (.invokevirtual 229, 3) := g_182 bX6_write rfl
theorem dX6_write_15 : decode cX6_write 15 = .ok (.ifCond .ne 10, 3) := g_154 10 bX6_write rfl rfl
theorem dX6_write_18 : decode cX6_write 18 = .ok (.aload_n 0, 1) := g_42 bX6_write rfl
theorem dX6_write_19 : decode cX6_write 19 = .ok (.bipush (-2), 2) := g_16 254 bX6_write rfl rfl
theorem dX6_write_21 : decode cX6_write 21 = .ok (.invokevirtual 91, 3) := g_182 bX6_write rfl
theorem dX6_write_24 : decode cX6_write 24 = .ok (.ireturn, 1) := g_172 bX6_write rfl
theorem dX6_write_25 : decode cX6_write 25 = .ok (.aload_n 0, 1) := g_42 bX6_write rfl
theorem dX6_write_26 : decode cX6_write 26 = .ok (.iload_n 2, 1) := g_28 bX6_write rfl
theorem dX6_write_27 : decode cX6_write 27 = .ok (.invokevirtual 248, 3) := g_182 bX6_write rfl
theorem dX6_write_30 : decode cX6_write 30 = .ok (.ifCond .eq 22, 3) := g_153 22 bX6_write rfl rfl
theorem dX6_write_33 : decode cX6_write 33 = .ok (.aload_n 0, 1) := g_42 bX6_write rfl
theorem dX6_write_34 : decode cX6_write 34 = .ok (.iload_n 1, 1) := g_27 bX6_write rfl
theorem dX6_write_35 : decode cX6_write 35 = .ok (.invokevirtual 81, 3) := g_182 bX6_write rfl
theorem dX6_write_38 : decode cX6_write 38 = .ok (.ifCond .eq 14, 3) := g_153 14 bX6_write rfl rfl
theorem dX6_write_41 : decode cX6_write 41 = .ok (.aload_n 0, 1) := g_42 bX6_write rfl
theorem dX6_write_42 : decode cX6_write 42 = .ok (.getfield 48, 3) := g_180 bX6_write rfl
theorem dX6_write_45 : decode cX6_write 45 = .ok (.iload_n 1, 1) := g_27 bX6_write rfl
theorem dX6_write_46 : decode cX6_write 46 = .ok (.aaload, 1) := g_50 bX6_write rfl
theorem dX6_write_47 : decode cX6_write 47 = .ok (.iload_n 2, 1) := g_28 bX6_write rfl
theorem dX6_write_48 : decode cX6_write 48 = .ok (.iaload, 1) := g_46 bX6_write rfl
theorem dX6_write_49 : decode cX6_write 49 = .ok (.ifCond .ne 10, 3) := g_154 10 bX6_write rfl rfl
theorem dX6_write_52 : decode cX6_write 52 = .ok (.aload_n 0, 1) := g_42 bX6_write rfl
theorem dX6_write_53 : decode cX6_write 53 = .ok (.bipush (-5), 2) := g_16 251 bX6_write rfl rfl
theorem dX6_write_55 : decode cX6_write 55 = .ok (.invokevirtual 91, 3) := g_182 bX6_write rfl
theorem dX6_write_58 : decode cX6_write 58 = .ok (.ireturn, 1) := g_172 bX6_write rfl
theorem dX6_write_59 : decode cX6_write 59 = .ok (.aload_n 0, 1) := g_42 bX6_write rfl
theorem dX6_write_60 : decode cX6_write 60 = .ok (.getfield 42, 3) := g_180 bX6_write rfl
theorem dX6_write_63 : decode cX6_write 63 = .ok (.iload_n 2, 1) := g_28 bX6_write rfl
theorem dX6_write_64 : decode cX6_write 64 = .ok (.aaload, 1) := g_50 bX6_write rfl
theorem dX6_write_65 : decode cX6_write 65 = .ok (.iconst 2, 1) := g_5 bX6_write rfl
theorem dX6_write_66 : decode cX6_write 66 = .ok (.aload_n 0, 1) := g_42 bX6_write rfl
theorem dX6_write_67 : decode cX6_write 67 = .ok (.getfield 48, 3) := g_180 bX6_write rfl
theorem dX6_write_70 : decode cX6_write 70 = .ok (.iload_n 1, 1) := g_27 bX6_write rfl
theorem dX6_write_71 : decode cX6_write 71 = .ok (.aaload, 1) := g_50 bX6_write rfl
theorem dX6_write_72 : decode cX6_write 72 = .ok (.iload_n 2, 1) := g_28 bX6_write rfl
theorem dX6_write_73 : decode cX6_write 73 = .ok (.iaload, 1) := g_46 bX6_write rfl
theorem dX6_write_74 : decode cX6_write 74 = .ok (.iastore, 1) := g_79 bX6_write rfl
theorem dX6_write_75 : decode cX6_write 75 = .ok (.aload_n 0, 1) := g_42 bX6_write rfl
theorem dX6_write_76 : decode cX6_write 76 = .ok (.getfield 42, 3) := g_180 bX6_write rfl
theorem dX6_write_79 : decode cX6_write 79 = .ok (.iload_n 2, 1) := g_28 bX6_write rfl
theorem dX6_write_80 : decode cX6_write 80 = .ok (.aaload, 1) := g_50 bX6_write rfl
theorem dX6_write_81 : decode cX6_write 81 = .ok (.iconst 3, 1) := g_6 bX6_write rfl
theorem dX6_write_82 : decode cX6_write 82 = .ok (.iconst 0, 1) := g_3 bX6_write rfl
theorem dX6_write_83 : decode cX6_write 83 = .ok (.iastore, 1) := g_79 bX6_write rfl
theorem dX6_write_84 : decode cX6_write 84 = .ok (.aload_n 0, 1) := g_42 bX6_write rfl
theorem dX6_write_85 : decode cX6_write 85 = .ok (.getfield 42, 3) := g_180 bX6_write rfl
theorem dX6_write_88 : decode cX6_write 88 = .ok (.iload_n 2, 1) := g_28 bX6_write rfl
theorem dX6_write_89 : decode cX6_write 89 = .ok (.aaload, 1) := g_50 bX6_write rfl
theorem dX6_write_90 : decode cX6_write 90 = .ok (.iconst 2, 1) := g_5 bX6_write rfl
theorem dX6_write_91 : decode cX6_write 91 = .ok (.iaload, 1) := g_46 bX6_write rfl
theorem dX6_write_92 : decode cX6_write 92 = .ok (.ireturn, 1) := g_172 bX6_write rfl
theorem dX6_youngest_0 : decode cX6_youngest 0 = .ok (.aload_n 0, 1) := g_42 bX6_youngest rfl
theorem dX6_youngest_1 : decode cX6_youngest 1 = .ok (.iload_n 1, 1) := g_27 bX6_youngest rfl
theorem dX6_youngest_2 : decode cX6_youngest 2 = .ok (.i2l, 1) := g_133 bX6_youngest rfl
theorem dX6_youngest_3 : decode cX6_youngest 3 = .ok (.invokevirtual 236, 3) := g_182 bX6_youngest rfl
theorem dX6_youngest_6 : decode cX6_youngest 6 = .ok (.ifCond .eq 11, 3) := g_153 11 bX6_youngest rfl rfl
theorem dX6_youngest_9 : decode cX6_youngest 9 = .ok (.aload_n 0, 1) := g_42 bX6_youngest rfl
theorem dX6_youngest_10 : decode cX6_youngest 10 = .ok (.iload_n 1, 1) := g_27 bX6_youngest rfl
theorem dX6_youngest_11 : decode cX6_youngest 11 = .ok (.invokevirtual 269, 3) := g_182 bX6_youngest rfl
theorem dX6_youngest_14 : decode cX6_youngest 14 = .ok (.goto 9, 3) := g_167 9 bX6_youngest rfl rfl
theorem dX6_youngest_17 : decode cX6_youngest 17 = .ok (.aload_n 0, 1) := g_42 bX6_youngest rfl
theorem dX6_youngest_18 : decode cX6_youngest 18 = .ok (.bipush (-2), 2) := g_16 254 bX6_youngest rfl rfl
theorem dX6_youngest_20 : decode cX6_youngest 20 = .ok (.invokevirtual 91, 3) := g_182 bX6_youngest rfl
theorem dX6_youngest_23 : decode cX6_youngest 23 = .ok (.ireturn, 1) := g_172 bX6_youngest rfl
theorem dX6_draw_0 : decode cX6_draw 0 = .ok (.aload_n 0, 1) := g_42 bX6_draw rfl
theorem dX6_draw_1 : decode cX6_draw 1 = .ok (.aload_n 0, 1) := g_42 bX6_draw rfl
theorem dX6_draw_2 : decode cX6_draw 2 = .ok (.getfield 51, 3) := g_180 bX6_draw rfl
theorem dX6_draw_5 : decode cX6_draw 5 = .ok (.ldc_w 351, 3) := g_19 bX6_draw rfl
theorem dX6_draw_8 : decode cX6_draw 8 = .ok (.imul, 1) := g_104 bX6_draw rfl
theorem dX6_draw_9 : decode cX6_draw 9 = .ok (.sipush 12345, 3) := g_17 12345 bX6_draw rfl rfl
theorem dX6_draw_12 : decode cX6_draw 12 = .ok (.iadd, 1) := g_96 bX6_draw rfl
theorem dX6_draw_13 : decode cX6_draw 13 = .ok (.putfield 51, 3) := g_181 bX6_draw rfl
theorem dX6_draw_16 : decode cX6_draw 16 = .ok (.aload_n 0, 1) := g_42 bX6_draw rfl
theorem dX6_draw_17 : decode cX6_draw 17 = .ok (.getfield 51, 3) := g_180 bX6_draw rfl
theorem dX6_draw_20 : decode cX6_draw 20 = .ok (.bipush 16, 2) := g_16 16 bX6_draw rfl rfl
theorem dX6_draw_22 : decode cX6_draw 22 = .ok (.iushr, 1) := g_124 bX6_draw rfl
theorem dX6_draw_23 : decode cX6_draw 23 = .ok (.iload_n 1, 1) := g_27 bX6_draw rfl
theorem dX6_draw_24 : decode cX6_draw 24 = .ok (.irem, 1) := g_112 bX6_draw rfl
theorem dX6_draw_25 : decode cX6_draw 25 = .ok (.ireturn, 1) := g_172 bX6_draw rfl
theorem dX6_findWho_0 : decode cX6_findWho 0 = .ok (.iconst (-1), 1) := g_2 bX6_findWho rfl
theorem dX6_findWho_1 : decode cX6_findWho 1 = .ok (.istore_n 3, 1) := g_62 bX6_findWho rfl
theorem dX6_findWho_2 : decode cX6_findWho 2 = .ok (.aload_n 0, 1) := g_42 bX6_findWho rfl
theorem dX6_findWho_3 : decode cX6_findWho 3 = .ok (.iconst 0, 1) := g_3 bX6_findWho rfl
theorem dX6_findWho_4 : decode cX6_findWho 4 = .ok (.putfield 312, 3) := g_181 bX6_findWho rfl
theorem dX6_findWho_7 : decode cX6_findWho 7 = .ok (.iconst 0, 1) := g_3 bX6_findWho rfl
theorem dX6_findWho_8 : decode cX6_findWho 8 = .ok (.istore 4, 2) := g_54 bX6_findWho rfl
theorem dX6_findWho_10 : decode cX6_findWho 10 = .ok (.iload 4, 2) := g_21 bX6_findWho rfl
theorem dX6_findWho_12 : decode cX6_findWho 12 = .ok (.aload_n 0, 1) := g_42 bX6_findWho rfl
theorem dX6_findWho_13 : decode cX6_findWho 13 = .ok (.getfield 78, 3) := g_180 bX6_findWho rfl
theorem dX6_findWho_16 : decode cX6_findWho 16 = .ok (.if_icmp .ge 63, 3) := g_162 63 bX6_findWho rfl rfl
theorem dX6_findWho_19 : decode cX6_findWho 19 = .ok (.aload_n 0, 1) := g_42 bX6_findWho rfl
theorem dX6_findWho_20 : decode cX6_findWho 20 = .ok (.iload 4, 2) := g_21 bX6_findWho rfl
theorem dX6_findWho_22 : decode cX6_findWho 22 = .ok (.invokevirtual 81, 3) := g_182 bX6_findWho rfl
theorem dX6_findWho_25 : decode cX6_findWho 25 = .ok (.ifCond .eq 48, 3) := g_153 48 bX6_findWho rfl rfl
theorem dX6_findWho_28 : decode cX6_findWho 28 = .ok (.aload_n 0, 1) := g_42 bX6_findWho rfl
theorem dX6_findWho_29 : decode cX6_findWho 29 = .ok (.invokevirtual 110, 3) := g_182 bX6_findWho rfl
theorem dX6_findWho_32 : decode cX6_findWho 32 = .ok (.iload 4, 2) := g_21 bX6_findWho rfl
theorem dX6_findWho_34 : decode cX6_findWho 34 = .ok (.iload_n 1, 1) := g_27 bX6_findWho rfl
theorem dX6_findWho_35 : decode cX6_findWho 35 = .ok (.invokevirtual 257, 3) := g_182 bX6_findWho rfl
theorem dX6_findWho_38 : decode cX6_findWho 38 = .ok (.aload_n 0, 1) := g_42 bX6_findWho rfl
theorem dX6_findWho_39 : decode cX6_findWho 39 = .ok (.getfield 118, 3) := g_180 bX6_findWho rfl
theorem dX6_findWho_42 : decode cX6_findWho 42 = .ok (.iconst (-1), 1) := g_2 bX6_findWho rfl
theorem dX6_findWho_43 : decode cX6_findWho 43 = .ok (.iconst 0, 1) := g_3 bX6_findWho rfl
theorem dX6_findWho_44 : decode cX6_findWho 44 = .ok (.iload_n 2, 1) := g_28 bX6_findWho rfl
theorem dX6_findWho_45 : decode cX6_findWho 45 = .ok (.invokevirtual 295, 3) := g_182 bX6_findWho rfl
theorem dX6_findWho_48 : decode cX6_findWho 48 = .ok (.istore 5, 2) := g_54 bX6_findWho rfl
theorem dX6_findWho_50 : decode cX6_findWho 50 = .ok (.iload_n 3, 1) := g_29 bX6_findWho rfl
theorem dX6_findWho_51 : decode cX6_findWho 51 = .ok (.iconst (-1), 1) := g_2 bX6_findWho rfl
theorem dX6_findWho_52 : decode cX6_findWho 52 = .ok (.if_icmp .eq 12, 3) := g_159 12 bX6_findWho rfl rfl
theorem dX6_findWho_55 : decode cX6_findWho 55 = .ok (.iload 5, 2) := g_21 bX6_findWho rfl
theorem dX6_findWho_57 : decode cX6_findWho 57 = .ok (.aload_n 0, 1) := g_42 bX6_findWho rfl
theorem dX6_findWho_58 : decode cX6_findWho 58 = .ok (.getfield 312, 3) := g_180 bX6_findWho rfl
theorem dX6_findWho_61 : decode cX6_findWho 61 = .ok (.if_icmp .le 12, 3) := g_164 12 bX6_findWho rfl rfl
theorem dX6_findWho_64 : decode cX6_findWho 64 = .ok (.iload 4, 2) := g_21 bX6_findWho rfl
theorem dX6_findWho_66 : decode cX6_findWho 66 = .ok (.istore_n 3, 1) := g_62 bX6_findWho rfl
theorem dX6_findWho_67 : decode cX6_findWho 67 = .ok (.aload_n 0, 1) := g_42 bX6_findWho rfl
theorem dX6_findWho_68 : decode cX6_findWho 68 = .ok (.iload 5, 2) := g_21 bX6_findWho rfl
theorem dX6_findWho_70 : decode cX6_findWho 70 = .ok (.putfield 312, 3) := g_181 bX6_findWho rfl
theorem dX6_findWho_73 : decode cX6_findWho 73 = .ok (.iinc 4 1, 3) := g_132 1 bX6_findWho rfl rfl
theorem dX6_findWho_76 : decode cX6_findWho 76 = .ok (.goto (-66), 3) := g_167 65470 bX6_findWho rfl rfl
theorem dX6_findWho_79 : decode cX6_findWho 79 = .ok (.iload_n 3, 1) := g_29 bX6_findWho rfl
theorem dX6_findWho_80 : decode cX6_findWho 80 = .ok (.ireturn, 1) := g_172 bX6_findWho rfl
theorem dX6_leftOf_0 : decode cX6_leftOf 0 = .ok (.iload_n 0, 1) := g_26 bX6_leftOf rfl
theorem dX6_leftOf_1 : decode cX6_leftOf 1 = .ok (.istore_n 3, 1) := g_62 bX6_leftOf rfl
theorem dX6_leftOf_2 : decode cX6_leftOf 2 = .ok (.iconst 0, 1) := g_3 bX6_leftOf rfl
theorem dX6_leftOf_3 : decode cX6_leftOf 3 = .ok (.istore 4, 2) := g_54 bX6_leftOf rfl
theorem dX6_leftOf_5 : decode cX6_leftOf 5 = .ok (.iload 4, 2) := g_21 bX6_leftOf rfl
theorem dX6_leftOf_7 : decode cX6_leftOf 7 = .ok (.iload_n 2, 1) := g_28 bX6_leftOf rfl
theorem dX6_leftOf_8 : decode cX6_leftOf 8 = .ok (.if_icmp .ge 16, 3) := g_162 16 bX6_leftOf rfl rfl
theorem dX6_leftOf_11 : decode cX6_leftOf 11 = .ok (.iload_n 3, 1) := g_29 bX6_leftOf rfl
theorem dX6_leftOf_12 : decode cX6_leftOf 12 = .ok (.iload_n 1, 1) := g_27 bX6_leftOf rfl
theorem dX6_leftOf_13 : decode cX6_leftOf 13 = .ok (.imul, 1) := g_104 bX6_leftOf rfl
theorem dX6_leftOf_14 : decode cX6_leftOf 14 = .ok (.bipush 10, 2) := g_16 10 bX6_leftOf rfl rfl
theorem dX6_leftOf_16 : decode cX6_leftOf 16 = .ok (.idiv, 1) := g_108 bX6_leftOf rfl
theorem dX6_leftOf_17 : decode cX6_leftOf 17 = .ok (.istore_n 3, 1) := g_62 bX6_leftOf rfl
theorem dX6_leftOf_18 : decode cX6_leftOf 18 = .ok (.iinc 4 1, 3) := g_132 1 bX6_leftOf rfl rfl
theorem dX6_leftOf_21 : decode cX6_leftOf 21 = .ok (.goto (-16), 3) := g_167 65520 bX6_leftOf rfl rfl
theorem dX6_leftOf_24 : decode cX6_leftOf 24 = .ok (.iload_n 3, 1) := g_29 bX6_leftOf rfl
theorem dX6_leftOf_25 : decode cX6_leftOf 25 = .ok (.ireturn, 1) := g_172 bX6_leftOf rfl
theorem dX6_lostBy_0 : decode cX6_lostBy 0 = .ok (.iconst 0, 1) := g_3 bX6_lostBy rfl
theorem dX6_lostBy_1 : decode cX6_lostBy 1 = .ok (.istore_n 3, 1) := g_62 bX6_lostBy rfl
theorem dX6_lostBy_2 : decode cX6_lostBy 2 = .ok (.iconst 0, 1) := g_3 bX6_lostBy rfl
theorem dX6_lostBy_3 : decode cX6_lostBy 3 = .ok (.istore 4, 2) := g_54 bX6_lostBy rfl
theorem dX6_lostBy_5 : decode cX6_lostBy 5 = .ok (.iload 4, 2) := g_21 bX6_lostBy rfl
theorem dX6_lostBy_7 : decode cX6_lostBy 7 = .ok (.aload_n 0, 1) := g_42 bX6_lostBy rfl
theorem dX6_lostBy_8 : decode cX6_lostBy 8 = .ok (.getfield 71, 3) := g_180 bX6_lostBy rfl
theorem dX6_lostBy_11 : decode cX6_lostBy 11 = .ok (.if_icmp .ge 31, 3) := g_162 31 bX6_lostBy rfl rfl
theorem dX6_lostBy_14 : decode cX6_lostBy 14 = .ok (.iload_n 3, 1) := g_29 bX6_lostBy rfl
theorem dX6_lostBy_15 : decode cX6_lostBy 15 = .ok (.aload_n 0, 1) := g_42 bX6_lostBy rfl
theorem dX6_lostBy_16 : decode cX6_lostBy 16 = .ok (.iload 4, 2) := g_21 bX6_lostBy rfl
theorem dX6_lostBy_18 : decode cX6_lostBy 18 = .ok (.iload_n 2, 1) := g_28 bX6_lostBy rfl
theorem dX6_lostBy_19 : decode cX6_lostBy 19 = .ok (.invokevirtual 233, 3) := g_182 bX6_lostBy rfl
theorem dX6_lostBy_22 : decode cX6_lostBy 22 = .ok (.iload_n 1, 1) := g_27 bX6_lostBy rfl
theorem dX6_lostBy_23 : decode cX6_lostBy 23 = .ok (.if_icmp .ge 10, 3) := g_162 10 bX6_lostBy rfl rfl
theorem dX6_lostBy_26 : decode cX6_lostBy 26 = .ok (.iconst 1, 1) := g_4 bX6_lostBy rfl
theorem dX6_lostBy_27 : decode cX6_lostBy 27 = .ok (.iload 4, 2) := g_21 bX6_lostBy rfl
theorem dX6_lostBy_29 : decode cX6_lostBy 29 = .ok (.ishl, 1) := g_120 bX6_lostBy rfl
theorem dX6_lostBy_30 : decode cX6_lostBy 30 = .ok (.goto 4, 3) := g_167 4 bX6_lostBy rfl rfl
theorem dX6_lostBy_33 : decode cX6_lostBy 33 = .ok (.iconst 0, 1) := g_3 bX6_lostBy rfl
theorem dX6_lostBy_34 : decode cX6_lostBy 34 = .ok (.ior, 1) := g_128 bX6_lostBy rfl
theorem dX6_lostBy_35 : decode cX6_lostBy 35 = .ok (.istore_n 3, 1) := g_62 bX6_lostBy rfl
theorem dX6_lostBy_36 : decode cX6_lostBy 36 = .ok (.iinc 4 1, 3) := g_132 1 bX6_lostBy rfl rfl
theorem dX6_lostBy_39 : decode cX6_lostBy 39 = .ok (.goto (-34), 3) := g_167 65502 bX6_lostBy rfl rfl
theorem dX6_lostBy_42 : decode cX6_lostBy 42 = .ok (.iload_n 3, 1) := g_29 bX6_lostBy rfl
theorem dX6_lostBy_43 : decode cX6_lostBy 43 = .ok (.ireturn, 1) := g_172 bX6_lostBy rfl
theorem dX6_noTold_0 : decode cX6_noTold 0 = .ok (.iload_n 1, 1) := g_27 bX6_noTold rfl
theorem dX6_noTold_1 : decode cX6_noTold 1 = .ok (.i2l, 1) := g_133 bX6_noTold rfl
theorem dX6_noTold_2 : decode cX6_noTold 2 = .ok (.lconst 0, 1) := g_9 bX6_noTold rfl
theorem dX6_noTold_3 : decode cX6_noTold 3 = .ok (.ldc2_w 85, 3) := g_20 bX6_noTold rfl
theorem dX6_noTold_6 : decode cX6_noTold 6 = .ok (.invokestatic 74, 3) := g_184 bX6_noTold rfl
theorem dX6_noTold_9 : decode cX6_noTold 9 = .ok (.ifCond .eq 15, 3) := g_153 15 bX6_noTold rfl rfl
theorem dX6_noTold_12 : decode cX6_noTold 12 = .ok (.iload_n 2, 1) := g_28 bX6_noTold rfl
theorem dX6_noTold_13 : decode cX6_noTold 13 = .ok (.i2l, 1) := g_133 bX6_noTold rfl
theorem dX6_noTold_14 : decode cX6_noTold 14 = .ok (.lconst 0, 1) := g_9 bX6_noTold rfl
theorem dX6_noTold_15 : decode cX6_noTold 15 = .ok (.ldc2_w 341, 3) := g_20 bX6_noTold rfl
theorem dX6_noTold_18 : decode cX6_noTold 18 = .ok (.invokestatic 74, 3) := g_184 bX6_noTold rfl
theorem dX6_noTold_21 : decode cX6_noTold 21 = .ok (.ifCond .ne 10, 3) := g_154 10 bX6_noTold rfl rfl
theorem dX6_noTold_24 : decode cX6_noTold 24 = .ok (.aload_n 0, 1) := g_42 bX6_noTold rfl
theorem dX6_noTold_25 : decode cX6_noTold 25 = .ok (.bipush (-2), 2) := g_16 254 bX6_noTold rfl rfl
theorem dX6_noTold_27 : decode cX6_noTold 27 = .ok (.invokevirtual 91, 3) := g_182 bX6_noTold rfl
theorem dX6_noTold_30 : decode cX6_noTold 30 = .ok (.ireturn, 1) := g_172 bX6_noTold rfl
theorem dX6_noTold_31 : decode cX6_noTold 31 = .ok (.aload_n 0, 1) := g_42 bX6_noTold rfl
theorem dX6_noTold_32 : decode cX6_noTold 32 = .ok (.iload_n 1, 1) := g_27 bX6_noTold rfl
theorem dX6_noTold_33 : decode cX6_noTold 33 = .ok (.invokevirtual 95, 3) := g_182 bX6_noTold rfl
theorem dX6_noTold_36 : decode cX6_noTold 36 = .ok (.istore_n 3, 1) := g_62 bX6_noTold rfl
theorem dX6_noTold_37 : decode cX6_noTold 37 = .ok (.iload_n 3, 1) := g_29 bX6_noTold rfl
theorem dX6_noTold_38 : decode cX6_noTold 38 = .ok (.ifCond .eq 5, 3) := g_153 5 bX6_noTold rfl rfl
theorem dX6_noTold_41 : decode cX6_noTold 41 = .ok (.iload_n 3, 1) := g_29 bX6_noTold rfl
theorem dX6_noTold_42 : decode cX6_noTold 42 = .ok (.ireturn, 1) := g_172 bX6_noTold rfl
theorem dX6_noTold_43 : decode cX6_noTold 43 = .ok (.aload_n 0, 1) := g_42 bX6_noTold rfl
theorem dX6_noTold_44 : decode cX6_noTold 44 = .ok (.getfield 16, 3) := g_180 bX6_noTold rfl
theorem dX6_noTold_47 : decode cX6_noTold 47 = .ok (.iload_n 1, 1) := g_27 bX6_noTold rfl
theorem dX6_noTold_48 : decode cX6_noTold 48 = .ok (.iaload, 1) := g_46 bX6_noTold rfl
theorem dX6_noTold_49 : decode cX6_noTold 49 = .ok (.iload_n 2, 1) := g_28 bX6_noTold rfl
theorem dX6_noTold_50 : decode cX6_noTold 50 = .ok (.if_icmp .ge 12, 3) := g_162 12 bX6_noTold rfl rfl
theorem dX6_noTold_53 : decode cX6_noTold 53 = .ok (.aload_n 0, 1) := g_42 bX6_noTold rfl
theorem dX6_noTold_54 : decode cX6_noTold 54 = .ok (.bipush (-2), 2) := g_16 254 bX6_noTold rfl rfl
theorem dX6_noTold_56 : decode cX6_noTold 56 = .ok (.invokevirtual 91, 3) := g_182 bX6_noTold rfl
theorem dX6_noTold_59 : decode cX6_noTold 59 = .ok (.goto 4, 3) := g_167 4 bX6_noTold rfl rfl
theorem dX6_noTold_62 : decode cX6_noTold 62 = .ok (.iconst 0, 1) := g_3 bX6_noTold rfl
theorem dX6_noTold_63 : decode cX6_noTold 63 = .ok (.ireturn, 1) := g_172 bX6_noTold rfl
theorem dX6_sumOf_0 : decode cX6_sumOf 0 = .ok (.aload_n 0, 1) := g_42 bX6_sumOf rfl
theorem dX6_sumOf_1 : decode cX6_sumOf 1 = .ok (.invokevirtual 110, 3) := g_182 bX6_sumOf rfl
theorem dX6_sumOf_4 : decode cX6_sumOf 4 = .ok (.aload_n 0, 1) := g_42 bX6_sumOf rfl
theorem dX6_sumOf_5 : decode cX6_sumOf 5 = .ok (.getfield 28, 3) := g_180 bX6_sumOf rfl
theorem dX6_sumOf_8 : decode cX6_sumOf 8 = .ok (.iload_n 1, 1) := g_27 bX6_sumOf rfl
theorem dX6_sumOf_9 : decode cX6_sumOf 9 = .ok (.iaload, 1) := g_46 bX6_sumOf rfl
theorem dX6_sumOf_10 : decode cX6_sumOf 10 = .ok (.aload_n 0, 1) := g_42 bX6_sumOf rfl
theorem dX6_sumOf_11 : decode cX6_sumOf 11 = .ok (.getfield 31, 3) := g_180 bX6_sumOf rfl
theorem dX6_sumOf_14 : decode cX6_sumOf 14 = .ok (.iload_n 1, 1) := g_27 bX6_sumOf rfl
theorem dX6_sumOf_15 : decode cX6_sumOf 15 = .ok (.iaload, 1) := g_46 bX6_sumOf rfl
theorem dX6_sumOf_16 : decode cX6_sumOf 16 = .ok (.iload_n 2, 1) := g_28 bX6_sumOf rfl
theorem dX6_sumOf_17 : decode cX6_sumOf 17 = .ok (.invokevirtual 295, 3) := g_182 bX6_sumOf rfl
theorem dX6_sumOf_20 : decode cX6_sumOf 20 = .ok (.ireturn, 1) := g_172 bX6_sumOf rfl
theorem dX6_wrongAt_0 : decode cX6_wrongAt 0 = .ok (.aload_n 0, 1) := g_42 bX6_wrongAt rfl
theorem dX6_wrongAt_1 : decode cX6_wrongAt 1 = .ok (.invokevirtual 110, 3) := g_182 bX6_wrongAt rfl
theorem dX6_wrongAt_4 : decode cX6_wrongAt 4 = .ok (.astore_n 3, 1) := g_78 bX6_wrongAt rfl
theorem dX6_wrongAt_5 : decode cX6_wrongAt 5 = .ok (.iconst 0, 1) := g_3 bX6_wrongAt rfl
theorem dX6_wrongAt_6 : decode cX6_wrongAt 6 = .ok (.istore 4, 2) := g_54 bX6_wrongAt rfl
theorem dX6_wrongAt_8 : decode cX6_wrongAt 8 = .ok (.iload 4, 2) := g_21 bX6_wrongAt rfl
theorem dX6_wrongAt_10 : decode cX6_wrongAt 10 = .ok (.iload_n 2, 1) := g_28 bX6_wrongAt rfl
theorem dX6_wrongAt_11 : decode cX6_wrongAt 11 = .ok (.if_icmp .ge 103, 3) := g_162 103 bX6_wrongAt rfl rfl
theorem dX6_wrongAt_14 : decode cX6_wrongAt 14 = .ok (.aload_n 0, 1) := g_42 bX6_wrongAt rfl
theorem dX6_wrongAt_15 : decode cX6_wrongAt 15 = .ok (.getfield 21, 3) := g_180 bX6_wrongAt rfl
theorem dX6_wrongAt_18 : decode cX6_wrongAt 18 = .ok (.iload_n 1, 1) := g_27 bX6_wrongAt rfl
theorem dX6_wrongAt_19 : decode cX6_wrongAt 19 = .ok (.aaload, 1) := g_50 bX6_wrongAt rfl
theorem dX6_wrongAt_20 : decode cX6_wrongAt 20 = .ok (.iload 4, 2) := g_21 bX6_wrongAt rfl
theorem dX6_wrongAt_22 : decode cX6_wrongAt 22 = .ok (.laload, 1) := g_47 bX6_wrongAt rfl
theorem dX6_wrongAt_23 : decode cX6_wrongAt 23 = .ok (.lstore 5, 2) := g_55 bX6_wrongAt rfl
theorem dX6_wrongAt_25 : decode cX6_wrongAt 25 = .ok (.lload 5, 2) := g_22 bX6_wrongAt rfl
theorem dX6_wrongAt_27 : decode cX6_wrongAt 27 = .ok (.lconst 0, 1) := g_9 bX6_wrongAt rfl
theorem dX6_wrongAt_28 : decode cX6_wrongAt 28 = .ok (.lcmp, 1) := g_148 bX6_wrongAt rfl
theorem dX6_wrongAt_29 : decode cX6_wrongAt 29 = .ok (.ifCond .lt 29, 3) := g_155 29 bX6_wrongAt rfl rfl
theorem dX6_wrongAt_32 : decode cX6_wrongAt 32 = .ok (.aload_n 0, 1) := g_42 bX6_wrongAt rfl
theorem dX6_wrongAt_33 : decode cX6_wrongAt 33 = .ok (.lload 5, 2) := g_22 bX6_wrongAt rfl
theorem dX6_wrongAt_35 : decode cX6_wrongAt 35 = .ok (.ldc2_w 343, 3) := g_20 bX6_wrongAt rfl
theorem dX6_wrongAt_38 : decode cX6_wrongAt 38 = .ok (.ldiv, 1) := g_109 bX6_wrongAt rfl
theorem dX6_wrongAt_39 : decode cX6_wrongAt 39 = .ok (.invokevirtual 236, 3) := g_182 bX6_wrongAt rfl
theorem dX6_wrongAt_42 : decode cX6_wrongAt 42 = .ok (.ifCond .eq 16, 3) := g_153 16 bX6_wrongAt rfl rfl
theorem dX6_wrongAt_45 : decode cX6_wrongAt 45 = .ok (.aload_n 0, 1) := g_42 bX6_wrongAt rfl
theorem dX6_wrongAt_46 : decode cX6_wrongAt 46 = .ok (.lload 5, 2) := g_22 bX6_wrongAt rfl
theorem dX6_wrongAt_48 : decode cX6_wrongAt 48 = .ok (.ldc2_w 343, 3) := g_20 bX6_wrongAt rfl
theorem dX6_wrongAt_51 : decode cX6_wrongAt 51 = .ok (.lrem, 1) := g_113 bX6_wrongAt rfl
theorem dX6_wrongAt_52 : decode cX6_wrongAt 52 = .ok (.invokevirtual 229, 3) := g_182 bX6_wrongAt rfl
theorem dX6_wrongAt_55 : decode cX6_wrongAt 55 = .ok (.ifCond .ne 6, 3) := g_154 6 bX6_wrongAt rfl rfl
theorem dX6_wrongAt_58 : decode cX6_wrongAt 58 = .ok (.iload 4, 2) := g_21 bX6_wrongAt rfl
theorem dX6_wrongAt_60 : decode cX6_wrongAt 60 = .ok (.ireturn, 1) := g_172 bX6_wrongAt rfl
theorem dX6_wrongAt_61 : decode cX6_wrongAt 61 = .ok (.lload 5, 2) := g_22 bX6_wrongAt rfl
theorem dX6_wrongAt_63 : decode cX6_wrongAt 63 = .ok (.ldc2_w 343, 3) := g_20 bX6_wrongAt rfl
theorem dX6_wrongAt_66 : decode cX6_wrongAt 66 = .ok (.ldiv, 1) := g_109 bX6_wrongAt rfl
theorem dX6_wrongAt_67 : decode cX6_wrongAt 67 = .ok (.l2i, 1) := g_136 bX6_wrongAt rfl
theorem dX6_wrongAt_68 : decode cX6_wrongAt 68 = .ok (.istore 7, 2) := g_54 bX6_wrongAt rfl
theorem dX6_wrongAt_70 : decode cX6_wrongAt 70 = .ok (.lload 5, 2) := g_22 bX6_wrongAt rfl
theorem dX6_wrongAt_72 : decode cX6_wrongAt 72 = .ok (.ldc2_w 343, 3) := g_20 bX6_wrongAt rfl
theorem dX6_wrongAt_75 : decode cX6_wrongAt 75 = .ok (.lrem, 1) := g_113 bX6_wrongAt rfl
theorem dX6_wrongAt_76 : decode cX6_wrongAt 76 = .ok (.l2i, 1) := g_136 bX6_wrongAt rfl
theorem dX6_wrongAt_77 : decode cX6_wrongAt 77 = .ok (.istore 8, 2) := g_54 bX6_wrongAt rfl
theorem dX6_wrongAt_79 : decode cX6_wrongAt 79 = .ok (.aload_n 0, 1) := g_42 bX6_wrongAt rfl
theorem dX6_wrongAt_80 : decode cX6_wrongAt 80 = .ok (.iload 7, 2) := g_21 bX6_wrongAt rfl
theorem dX6_wrongAt_82 : decode cX6_wrongAt 82 = .ok (.invokevirtual 81, 3) := g_182 bX6_wrongAt rfl
theorem dX6_wrongAt_85 : decode cX6_wrongAt 85 = .ok (.ifCond .eq 12, 3) := g_153 12 bX6_wrongAt rfl rfl
theorem dX6_wrongAt_88 : decode cX6_wrongAt 88 = .ok (.aload_n 3, 1) := g_45 bX6_wrongAt rfl
theorem dX6_wrongAt_89 : decode cX6_wrongAt 89 = .ok (.iload 8, 2) := g_21 bX6_wrongAt rfl
theorem dX6_wrongAt_91 : decode cX6_wrongAt 91 = .ok (.invokevirtual 248, 3) := g_182 bX6_wrongAt rfl
theorem dX6_wrongAt_94 : decode cX6_wrongAt 94 = .ok (.ifCond .eq 6, 3) := g_153 6 bX6_wrongAt rfl rfl
theorem dX6_wrongAt_97 : decode cX6_wrongAt 97 = .ok (.iload 4, 2) := g_21 bX6_wrongAt rfl
theorem dX6_wrongAt_99 : decode cX6_wrongAt 99 = .ok (.ireturn, 1) := g_172 bX6_wrongAt rfl
theorem dX6_wrongAt_100 : decode cX6_wrongAt 100 = .ok (.aload_n 3, 1) := g_45 bX6_wrongAt rfl
theorem dX6_wrongAt_101 : decode cX6_wrongAt 101 = .ok (.iload 7, 2) := g_21 bX6_wrongAt rfl
theorem dX6_wrongAt_103 : decode cX6_wrongAt 103 = .ok (.iload 8, 2) := g_21 bX6_wrongAt rfl
theorem dX6_wrongAt_105 : decode cX6_wrongAt 105 = .ok (.invokevirtual 257, 3) := g_182 bX6_wrongAt rfl
theorem dX6_wrongAt_108 : decode cX6_wrongAt 108 = .ok (.iinc 4 1, 3) := g_132 1 bX6_wrongAt rfl rfl
theorem dX6_wrongAt_111 : decode cX6_wrongAt 111 = .ok (.goto (-103), 3) := g_167 65433 bX6_wrongAt rfl rfl
theorem dX6_wrongAt_114 : decode cX6_wrongAt 114 = .ok (.iconst (-1), 1) := g_2 bX6_wrongAt rfl
theorem dX6_wrongAt_115 : decode cX6_wrongAt 115 = .ok (.ireturn, 1) := g_172 bX6_wrongAt rfl
theorem dX6_next_0 : decode cX6_next 0 = .ok (.iconst (-1), 1) := g_2 bX6_next rfl
theorem dX6_next_1 : decode cX6_next 1 = .ok (.istore_n 1, 1) := g_60 bX6_next rfl
theorem dX6_next_2 : decode cX6_next 2 = .ok (.aload_n 0, 1) := g_42 bX6_next rfl
theorem dX6_next_3 : decode cX6_next 3 = .ok (.invokevirtual 122, 3) := g_182 bX6_next rfl
theorem dX6_next_6 : decode cX6_next 6 = .ok (.istore_n 2, 1) := g_61 bX6_next rfl
theorem dX6_next_7 : decode cX6_next 7 = .ok (.iconst 0, 1) := g_3 bX6_next rfl
theorem dX6_next_8 : decode cX6_next 8 = .ok (.istore_n 3, 1) := g_62 bX6_next rfl
theorem dX6_next_9 : decode cX6_next 9 = .ok (.iload_n 3, 1) := g_29 bX6_next rfl
theorem dX6_next_10 : decode cX6_next 10 = .ok (.aload_n 0, 1) := g_42 bX6_next rfl
theorem dX6_next_11 : decode cX6_next 11 = .ok (.getfield 71, 3) := g_180 bX6_next rfl
theorem dX6_next_14 : decode cX6_next 14 = .ok (.if_icmp .ge 64, 3) := g_162 64 bX6_next rfl rfl
theorem dX6_next_17 : decode cX6_next 17 = .ok (.aload_n 0, 1) := g_42 bX6_next rfl
theorem dX6_next_18 : decode cX6_next 18 = .ok (.iload_n 3, 1) := g_29 bX6_next rfl
theorem dX6_next_19 : decode cX6_next 19 = .ok (.invokevirtual 248, 3) := g_182 bX6_next rfl
theorem dX6_next_22 : decode cX6_next 22 = .ok (.ifCond .eq 7, 3) := g_153 7 bX6_next rfl rfl
theorem dX6_next_25 : decode cX6_next 25 = .ok (.iconst (-1), 1) := g_2 bX6_next rfl
theorem dX6_next_26 : decode cX6_next 26 = .ok (.goto 8, 3) := g_167 8 bX6_next rfl rfl
theorem dX6_next_29 : decode cX6_next 29 = .ok (.aload_n 0, 1) := g_42 bX6_next rfl
theorem dX6_next_30 : decode cX6_next 30 = .ok (.iload_n 3, 1) := g_29 bX6_next rfl
theorem dX6_next_31 : decode cX6_next 31 = .ok (.invokevirtual 272, 3) := g_182 bX6_next rfl
theorem dX6_next_34 : decode cX6_next 34 = .ok (.istore 4, 2) := g_54 bX6_next rfl
theorem dX6_next_36 : decode cX6_next 36 = .ok (.iload 4, 2) := g_21 bX6_next rfl
theorem dX6_next_38 : decode cX6_next 38 = .ok (.iconst (-1), 1) := g_2 bX6_next rfl
theorem dX6_next_39 : decode cX6_next 39 = .ok (.if_icmp .eq 33, 3) := g_159 33 bX6_next rfl rfl
theorem dX6_next_42 : decode cX6_next 42 = .ok (.aload_n 0, 1) := g_42 bX6_next rfl
theorem dX6_next_43 : decode cX6_next 43 = .ok (.invokevirtual 110, 3) := g_182 bX6_next rfl
theorem dX6_next_46 : decode cX6_next 46 = .ok (.iload 4, 2) := g_21 bX6_next rfl
theorem dX6_next_48 : decode cX6_next 48 = .ok (.iload_n 3, 1) := g_29 bX6_next rfl
theorem dX6_next_49 : decode cX6_next 49 = .ok (.invokevirtual 257, 3) := g_182 bX6_next rfl
theorem dX6_next_52 : decode cX6_next 52 = .ok (.aload_n 0, 1) := g_42 bX6_next rfl
theorem dX6_next_53 : decode cX6_next 53 = .ok (.getfield 118, 3) := g_180 bX6_next rfl
theorem dX6_next_56 : decode cX6_next 56 = .ok (.invokevirtual 122, 3) := g_182 bX6_next rfl
theorem dX6_next_59 : decode cX6_next 59 = .ok (.istore 5, 2) := g_54 bX6_next rfl
theorem dX6_next_61 : decode cX6_next 61 = .ok (.iload 5, 2) := g_21 bX6_next rfl
theorem dX6_next_63 : decode cX6_next 63 = .ok (.iload_n 2, 1) := g_28 bX6_next rfl
theorem dX6_next_64 : decode cX6_next 64 = .ok (.if_icmp .le 8, 3) := g_164 8 bX6_next rfl rfl
theorem dX6_next_67 : decode cX6_next 67 = .ok (.iload_n 3, 1) := g_29 bX6_next rfl
theorem dX6_next_68 : decode cX6_next 68 = .ok (.istore_n 1, 1) := g_60 bX6_next rfl
theorem dX6_next_69 : decode cX6_next 69 = .ok (.iload 5, 2) := g_21 bX6_next rfl
theorem dX6_next_71 : decode cX6_next 71 = .ok (.istore_n 2, 1) := g_61 bX6_next rfl
theorem dX6_next_72 : decode cX6_next 72 = .ok (.iinc 3 1, 3) := g_132 1 bX6_next rfl rfl
theorem dX6_next_75 : decode cX6_next 75 = .ok (.goto (-66), 3) := g_167 65470 bX6_next rfl rfl
theorem dX6_next_78 : decode cX6_next 78 = .ok (.iload_n 1, 1) := g_27 bX6_next rfl
theorem dX6_next_79 : decode cX6_next 79 = .ok (.ireturn, 1) := g_172 bX6_next rfl
theorem dX6_says_0 : decode cX6_says 0 = .ok (.iload_n 1, 1) := g_27 bX6_says rfl
theorem dX6_says_1 : decode cX6_says 1 = .ok (.i2l, 1) := g_133 bX6_says rfl
theorem dX6_says_2 : decode cX6_says 2 = .ok (.lconst 0, 1) := g_9 bX6_says rfl
theorem dX6_says_3 : decode cX6_says 3 = .ok (.ldc2_w 85, 3) := g_20 bX6_says rfl
theorem dX6_says_6 : decode cX6_says 6 = .ok (.invokestatic 74, 3) := g_184 bX6_says rfl
theorem dX6_says_9 : decode cX6_says 9 = .ok (.ifCond .eq 15, 3) := g_153 15 bX6_says rfl rfl
theorem dX6_says_12 : decode cX6_says 12 = .ok (.iload_n 2, 1) := g_28 bX6_says rfl
theorem dX6_says_13 : decode cX6_says 13 = .ok (.i2l, 1) := g_133 bX6_says rfl
theorem dX6_says_14 : decode cX6_says 14 = .ok (.lconst 0, 1) := g_9 bX6_says rfl
theorem dX6_says_15 : decode cX6_says 15 = .ok (.ldc2_w 102, 3) := g_20 bX6_says rfl
theorem dX6_says_18 : decode cX6_says 18 = .ok (.invokestatic 74, 3) := g_184 bX6_says rfl
theorem dX6_says_21 : decode cX6_says 21 = .ok (.ifCond .ne 10, 3) := g_154 10 bX6_says rfl rfl
theorem dX6_says_24 : decode cX6_says 24 = .ok (.aload_n 0, 1) := g_42 bX6_says rfl
theorem dX6_says_25 : decode cX6_says 25 = .ok (.bipush (-2), 2) := g_16 254 bX6_says rfl rfl
theorem dX6_says_27 : decode cX6_says 27 = .ok (.invokevirtual 91, 3) := g_182 bX6_says rfl
theorem dX6_says_30 : decode cX6_says 30 = .ok (.ireturn, 1) := g_172 bX6_says rfl
theorem dX6_says_31 : decode cX6_says 31 = .ok (.aload_n 0, 1) := g_42 bX6_says rfl
theorem dX6_says_32 : decode cX6_says 32 = .ok (.getfield 7, 3) := g_180 bX6_says rfl
theorem dX6_says_35 : decode cX6_says 35 = .ok (.iload_n 1, 1) := g_27 bX6_says rfl
theorem dX6_says_36 : decode cX6_says 36 = .ok (.iaload, 1) := g_46 bX6_says rfl
theorem dX6_says_37 : decode cX6_says 37 = .ok (.iconst 1, 1) := g_4 bX6_says rfl
theorem dX6_says_38 : decode cX6_says 38 = .ok (.if_icmp .eq 26, 3) := g_159 26 bX6_says rfl rfl
theorem dX6_says_41 : decode cX6_says 41 = .ok (.aload_n 0, 1) := g_42 bX6_says rfl
theorem dX6_says_42 : decode cX6_says 42 = .ok (.getfield 7, 3) := g_180 bX6_says rfl
theorem dX6_says_45 : decode cX6_says 45 = .ok (.iload_n 1, 1) := g_27 bX6_says rfl
theorem dX6_says_46 : decode cX6_says 46 = .ok (.iaload, 1) := g_46 bX6_says rfl
theorem dX6_says_47 : decode cX6_says 47 = .ok (.iconst 2, 1) := g_5 bX6_says rfl
theorem dX6_says_48 : decode cX6_says 48 = .ok (.if_icmp .ne 23, 3) := g_160 23 bX6_says rfl rfl
theorem dX6_says_51 : decode cX6_says 51 = .ok (.aload_n 0, 1) := g_42 bX6_says rfl
theorem dX6_says_52 : decode cX6_says 52 = .ok (.getfield 28, 3) := g_180 bX6_says rfl
theorem dX6_says_55 : decode cX6_says 55 = .ok (.iload_n 1, 1) := g_27 bX6_says rfl
theorem dX6_says_56 : decode cX6_says 56 = .ok (.iaload, 1) := g_46 bX6_says rfl
theorem dX6_says_57 : decode cX6_says 57 = .ok (.iload_n 2, 1) := g_28 bX6_says rfl
theorem dX6_says_58 : decode cX6_says 58 = .ok (.invokestatic 106, 3) := g_184 bX6_says rfl
theorem dX6_says_61 : decode cX6_says 61 = .ok (.ifCond .ne 10, 3) := g_154 10 bX6_says rfl rfl
theorem dX6_says_64 : decode cX6_says 64 = .ok (.aload_n 0, 1) := g_42 bX6_says rfl
theorem dX6_says_65 : decode cX6_says 65 = .ok (.bipush (-3), 2) := g_16 253 bX6_says rfl rfl
theorem dX6_says_67 : decode cX6_says 67 = .ok (.invokevirtual 91, 3) := g_182 bX6_says rfl
theorem dX6_says_70 : decode cX6_says 70 = .ok (.ireturn, 1) := g_172 bX6_says rfl
theorem dX6_says_71 : decode cX6_says 71 = .ok (.aload_n 0, 1) := g_42 bX6_says rfl
theorem dX6_says_72 : decode cX6_says 72 = .ok (.getfield 7, 3) := g_180 bX6_says rfl
theorem dX6_says_75 : decode cX6_says 75 = .ok (.iload_n 1, 1) := g_27 bX6_says rfl
theorem dX6_says_76 : decode cX6_says 76 = .ok (.iaload, 1) := g_46 bX6_says rfl
theorem dX6_says_77 : decode cX6_says 77 = .ok (.ifCond .ne 10, 3) := g_154 10 bX6_says rfl rfl
theorem dX6_says_80 : decode cX6_says 80 = .ok (.aload_n 0, 1) := g_42 bX6_says rfl
theorem dX6_says_81 : decode cX6_says 81 = .ok (.bipush (-4), 2) := g_16 252 bX6_says rfl rfl
theorem dX6_says_83 : decode cX6_says 83 = .ok (.invokevirtual 91, 3) := g_182 bX6_says rfl
theorem dX6_says_86 : decode cX6_says 86 = .ok (.ireturn, 1) := g_172 bX6_says rfl
theorem dX6_says_87 : decode cX6_says 87 = .ok (.iload_n 2, 1) := g_28 bX6_says rfl
theorem dX6_says_88 : decode cX6_says 88 = .ok (.ifCond .ne 10, 3) := g_154 10 bX6_says rfl rfl
theorem dX6_says_91 : decode cX6_says 91 = .ok (.aload_n 0, 1) := g_42 bX6_says rfl
theorem dX6_says_92 : decode cX6_says 92 = .ok (.getfield 31, 3) := g_180 bX6_says rfl
theorem dX6_says_95 : decode cX6_says 95 = .ok (.iload_n 1, 1) := g_27 bX6_says rfl
theorem dX6_says_96 : decode cX6_says 96 = .ok (.iaload, 1) := g_46 bX6_says rfl
theorem dX6_says_97 : decode cX6_says 97 = .ok (.ireturn, 1) := g_172 bX6_says rfl
theorem dX6_says_98 : decode cX6_says 98 = .ok (.aload_n 0, 1) := g_42 bX6_says rfl
theorem dX6_says_99 : decode cX6_says 99 = .ok (.invokevirtual 110, 3) := g_182 bX6_says rfl
theorem dX6_says_102 : decode cX6_says 102 = .ok (.aload_n 0, 1) := g_42 bX6_says rfl
theorem dX6_says_103 : decode cX6_says 103 = .ok (.getfield 28, 3) := g_180 bX6_says rfl
theorem dX6_says_106 : decode cX6_says 106 = .ok (.iload_n 1, 1) := g_27 bX6_says rfl
theorem dX6_says_107 : decode cX6_says 107 = .ok (.iaload, 1) := g_46 bX6_says rfl
theorem dX6_says_108 : decode cX6_says 108 = .ok (.aload_n 0, 1) := g_42 bX6_says rfl
theorem dX6_says_109 : decode cX6_says 109 = .ok (.getfield 31, 3) := g_180 bX6_says rfl
theorem dX6_says_112 : decode cX6_says 112 = .ok (.iload_n 1, 1) := g_27 bX6_says rfl
theorem dX6_says_113 : decode cX6_says 113 = .ok (.iaload, 1) := g_46 bX6_says rfl
theorem dX6_says_114 : decode cX6_says 114 = .ok (.invokevirtual 114, 3) := g_182 bX6_says rfl
theorem dX6_says_117 : decode cX6_says 117 = .ok (.istore_n 3, 1) := g_62 bX6_says rfl
theorem dX6_says_118 : decode cX6_says 118 = .ok (.iload_n 2, 1) := g_28 bX6_says rfl
theorem dX6_says_119 : decode cX6_says 119 = .ok (.iconst 3, 1) := g_6 bX6_says rfl
theorem dX6_says_120 : decode cX6_says 120 = .ok (.if_icmp .gt 7, 3) := g_163 7 bX6_says rfl rfl
theorem dX6_says_123 : decode cX6_says 123 = .ok (.iload_n 3, 1) := g_29 bX6_says rfl
theorem dX6_says_124 : decode cX6_says 124 = .ok (.goto 10, 3) := g_167 10 bX6_says rfl rfl
theorem dX6_says_127 : decode cX6_says 127 = .ok (.aload_n 0, 1) := g_42 bX6_says rfl
theorem dX6_says_128 : decode cX6_says 128 = .ok (.getfield 118, 3) := g_180 bX6_says rfl
theorem dX6_says_131 : decode cX6_says 131 = .ok (.invokevirtual 122, 3) := g_182 bX6_says rfl
theorem dX6_says_134 : decode cX6_says 134 = .ok (.ireturn, 1) := g_172 bX6_says rfl
theorem dX6_gains_0 : decode cX6_gains 0 = .ok (.iload_n 1, 1) := g_27 bX6_gains rfl
theorem dX6_gains_1 : decode cX6_gains 1 = .ok (.i2l, 1) := g_133 bX6_gains rfl
theorem dX6_gains_2 : decode cX6_gains 2 = .ok (.lconst 0, 1) := g_9 bX6_gains rfl
theorem dX6_gains_3 : decode cX6_gains 3 = .ok (.ldc2_w 85, 3) := g_20 bX6_gains rfl
theorem dX6_gains_6 : decode cX6_gains 6 = .ok (.invokestatic 74, 3) := g_184 bX6_gains rfl
theorem dX6_gains_9 : decode cX6_gains 9 = .ok (.ifCond .eq 15, 3) := g_153 15 bX6_gains rfl rfl
theorem dX6_gains_12 : decode cX6_gains 12 = .ok (.iload_n 2, 1) := g_28 bX6_gains rfl
theorem dX6_gains_13 : decode cX6_gains 13 = .ok (.i2l, 1) := g_133 bX6_gains rfl
theorem dX6_gains_14 : decode cX6_gains 14 = .ok (.lconst 1, 1) := g_10 bX6_gains rfl
theorem dX6_gains_15 : decode cX6_gains 15 = .ok (.ldc2_w 298, 3) := g_20 bX6_gains rfl
theorem dX6_gains_18 : decode cX6_gains 18 = .ok (.invokestatic 74, 3) := g_184 bX6_gains rfl
theorem dX6_gains_21 : decode cX6_gains 21 = .ok (.ifCond .ne 14, 3) := g_154 14 bX6_gains rfl rfl
theorem dX6_gains_24 : decode cX6_gains 24 = .ok (.aload_n 0, 1) := g_42 bX6_gains rfl
theorem dX6_gains_25 : decode cX6_gains 25 = .ok (.bipush (-2), 2) := g_16 254 bX6_gains rfl rfl
theorem dX6_gains_27 : decode cX6_gains 27 = .ok (.invokevirtual 91, 3) := g_182 bX6_gains rfl
theorem dX6_gains_30 : decode cX6_gains 30 = .ok (.ldc_w 311, 3) := g_19 bX6_gains rfl
theorem dX6_gains_33 : decode cX6_gains 33 = .ok (.isub, 1) := g_100 bX6_gains rfl
theorem dX6_gains_34 : decode cX6_gains 34 = .ok (.ireturn, 1) := g_172 bX6_gains rfl
theorem dX6_gains_35 : decode cX6_gains 35 = .ok (.aload_n 0, 1) := g_42 bX6_gains rfl
theorem dX6_gains_36 : decode cX6_gains 36 = .ok (.iload_n 1, 1) := g_27 bX6_gains rfl
theorem dX6_gains_37 : decode cX6_gains 37 = .ok (.invokevirtual 302, 3) := g_182 bX6_gains rfl
theorem dX6_gains_40 : decode cX6_gains 40 = .ok (.istore_n 3, 1) := g_62 bX6_gains rfl
theorem dX6_gains_41 : decode cX6_gains 41 = .ok (.iload_n 3, 1) := g_29 bX6_gains rfl
theorem dX6_gains_42 : decode cX6_gains 42 = .ok (.ifCond .eq 9, 3) := g_153 9 bX6_gains rfl rfl
theorem dX6_gains_45 : decode cX6_gains 45 = .ok (.iload_n 3, 1) := g_29 bX6_gains rfl
theorem dX6_gains_46 : decode cX6_gains 46 = .ok (.ldc_w 311, 3) := g_19 bX6_gains rfl
theorem dX6_gains_49 : decode cX6_gains 49 = .ok (.isub, 1) := g_100 bX6_gains rfl
theorem dX6_gains_50 : decode cX6_gains 50 = .ok (.ireturn, 1) := g_172 bX6_gains rfl
theorem dX6_gains_51 : decode cX6_gains 51 = .ok (.aload_n 0, 1) := g_42 bX6_gains rfl
theorem dX6_gains_52 : decode cX6_gains 52 = .ok (.iload_n 1, 1) := g_27 bX6_gains rfl
theorem dX6_gains_53 : decode cX6_gains 53 = .ok (.iload_n 2, 1) := g_28 bX6_gains rfl
theorem dX6_gains_54 : decode cX6_gains 54 = .ok (.invokevirtual 305, 3) := g_182 bX6_gains rfl
theorem dX6_gains_57 : decode cX6_gains 57 = .ok (.aload_n 0, 1) := g_42 bX6_gains rfl
theorem dX6_gains_58 : decode cX6_gains 58 = .ok (.invokevirtual 110, 3) := g_182 bX6_gains rfl
theorem dX6_gains_61 : decode cX6_gains 61 = .ok (.iconst (-1), 1) := g_2 bX6_gains rfl
theorem dX6_gains_62 : decode cX6_gains 62 = .ok (.iconst 0, 1) := g_3 bX6_gains rfl
theorem dX6_gains_63 : decode cX6_gains 63 = .ok (.iload_n 2, 1) := g_28 bX6_gains rfl
theorem dX6_gains_64 : decode cX6_gains 64 = .ok (.invokevirtual 295, 3) := g_182 bX6_gains rfl
theorem dX6_gains_67 : decode cX6_gains 67 = .ok (.isub, 1) := g_100 bX6_gains rfl
theorem dX6_gains_68 : decode cX6_gains 68 = .ok (.ireturn, 1) := g_172 bX6_gains rfl
theorem dX6_run_0 : decode cX6_run 0 = .ok (.iload_n 1, 1) := g_27 bX6_run rfl
theorem dX6_run_1 : decode cX6_run 1 = .ok (.i2l, 1) := g_133 bX6_run rfl
theorem dX6_run_2 : decode cX6_run 2 = .ok (.lconst 0, 1) := g_9 bX6_run rfl
theorem dX6_run_3 : decode cX6_run 3 = .ok (.ldc2_w 85, 3) := g_20 bX6_run rfl
theorem dX6_run_6 : decode cX6_run 6 = .ok (.invokestatic 74, 3) := g_184 bX6_run rfl
theorem dX6_run_9 : decode cX6_run 9 = .ok (.ifCond .eq 27, 3) := g_153 27 bX6_run rfl rfl
theorem dX6_run_12 : decode cX6_run 12 = .ok (.iload_n 2, 1) := g_28 bX6_run rfl
theorem dX6_run_13 : decode cX6_run 13 = .ok (.i2l, 1) := g_133 bX6_run rfl
theorem dX6_run_14 : decode cX6_run 14 = .ok (.lconst 1, 1) := g_10 bX6_run rfl
theorem dX6_run_15 : decode cX6_run 15 = .ok (.ldc2_w 298, 3) := g_20 bX6_run rfl
theorem dX6_run_18 : decode cX6_run 18 = .ok (.invokestatic 74, 3) := g_184 bX6_run rfl
theorem dX6_run_21 : decode cX6_run 21 = .ok (.ifCond .eq 15, 3) := g_153 15 bX6_run rfl rfl
theorem dX6_run_24 : decode cX6_run 24 = .ok (.iload_n 3, 1) := g_29 bX6_run rfl
theorem dX6_run_25 : decode cX6_run 25 = .ok (.i2l, 1) := g_133 bX6_run rfl
theorem dX6_run_26 : decode cX6_run 26 = .ok (.lconst 0, 1) := g_9 bX6_run rfl
theorem dX6_run_27 : decode cX6_run 27 = .ok (.ldc2_w 300, 3) := g_20 bX6_run rfl
theorem dX6_run_30 : decode cX6_run 30 = .ok (.invokestatic 74, 3) := g_184 bX6_run rfl
theorem dX6_run_33 : decode cX6_run 33 = .ok (.ifCond .ne 10, 3) := g_154 10 bX6_run rfl rfl
theorem dX6_run_36 : decode cX6_run 36 = .ok (.aload_n 0, 1) := g_42 bX6_run rfl
theorem dX6_run_37 : decode cX6_run 37 = .ok (.bipush (-2), 2) := g_16 254 bX6_run rfl rfl
theorem dX6_run_39 : decode cX6_run 39 = .ok (.invokevirtual 91, 3) := g_182 bX6_run rfl
theorem dX6_run_42 : decode cX6_run 42 = .ok (.ireturn, 1) := g_172 bX6_run rfl
theorem dX6_run_43 : decode cX6_run 43 = .ok (.aload_n 0, 1) := g_42 bX6_run rfl
theorem dX6_run_44 : decode cX6_run 44 = .ok (.iload_n 1, 1) := g_27 bX6_run rfl
theorem dX6_run_45 : decode cX6_run 45 = .ok (.invokevirtual 302, 3) := g_182 bX6_run rfl
theorem dX6_run_48 : decode cX6_run 48 = .ok (.istore 4, 2) := g_54 bX6_run rfl
theorem dX6_run_50 : decode cX6_run 50 = .ok (.iload 4, 2) := g_21 bX6_run rfl
theorem dX6_run_52 : decode cX6_run 52 = .ok (.ifCond .eq 6, 3) := g_153 6 bX6_run rfl rfl
theorem dX6_run_55 : decode cX6_run 55 = .ok (.iload 4, 2) := g_21 bX6_run rfl
theorem dX6_run_57 : decode cX6_run 57 = .ok (.ireturn, 1) := g_172 bX6_run rfl
theorem dX6_run_58 : decode cX6_run 58 = .ok (.aload_n 0, 1) := g_42 bX6_run rfl
theorem dX6_run_59 : decode cX6_run 59 = .ok (.iload_n 1, 1) := g_27 bX6_run rfl
theorem dX6_run_60 : decode cX6_run 60 = .ok (.iload_n 2, 1) := g_28 bX6_run rfl
theorem dX6_run_61 : decode cX6_run 61 = .ok (.invokevirtual 305, 3) := g_182 bX6_run rfl
theorem dX6_run_64 : decode cX6_run 64 = .ok (.istore 5, 2) := g_54 bX6_run rfl
theorem dX6_run_66 : decode cX6_run 66 = .ok (.iload_n 3, 1) := g_29 bX6_run rfl
theorem dX6_run_67 : decode cX6_run 67 = .ok (.tableswitch 44 0 2 #[25, 28, 36], 25) := by decide +kernel
theorem dX6_run_92 : decode cX6_run 92 = .ok (.iload 5, 2) := g_21 bX6_run rfl
theorem dX6_run_94 : decode cX6_run 94 = .ok (.ireturn, 1) := g_172 bX6_run rfl
theorem dX6_run_95 : decode cX6_run 95 = .ok (.aload_n 0, 1) := g_42 bX6_run rfl
theorem dX6_run_96 : decode cX6_run 96 = .ok (.getfield 118, 3) := g_180 bX6_run rfl
theorem dX6_run_99 : decode cX6_run 99 = .ok (.getfield 292, 3) := g_180 bX6_run rfl
theorem dX6_run_102 : decode cX6_run 102 = .ok (.ireturn, 1) := g_172 bX6_run rfl
theorem dX6_run_103 : decode cX6_run 103 = .ok (.aload_n 0, 1) := g_42 bX6_run rfl
theorem dX6_run_104 : decode cX6_run 104 = .ok (.getfield 118, 3) := g_180 bX6_run rfl
theorem dX6_run_107 : decode cX6_run 107 = .ok (.invokevirtual 308, 3) := g_182 bX6_run rfl
theorem dX6_run_110 : decode cX6_run 110 = .ok (.ireturn, 1) := g_172 bX6_run rfl
theorem dX6_run_111 : decode cX6_run 111 = .ok (.aload_n 0, 1) := g_42 bX6_run rfl
theorem dX6_run_112 : decode cX6_run 112 = .ok (.getfield 118, 3) := g_180 bX6_run rfl
theorem dX6_run_115 : decode cX6_run 115 = .ok (.invokevirtual 275, 3) := g_182 bX6_run rfl
theorem dX6_run_118 : decode cX6_run 118 = .ok (.ireturn, 1) := g_172 bX6_run rfl
theorem dX6_head_0 : decode cX6_head 0 = .ok (.iload_n 1, 1) := g_27 bX6_head rfl
theorem dX6_head_1 : decode cX6_head 1 = .ok (.i2l, 1) := g_133 bX6_head rfl
theorem dX6_head_2 : decode cX6_head 2 = .ok (.lconst 1, 1) := g_10 bX6_head rfl
theorem dX6_head_3 : decode cX6_head 3 = .ok (.ldc2_w 298, 3) := g_20 bX6_head rfl
theorem dX6_head_6 : decode cX6_head 6 = .ok (.invokestatic 74, 3) := g_184 bX6_head rfl
theorem dX6_head_9 : decode cX6_head 9 = .ok (.ifCond .ne 10, 3) := g_154 10 bX6_head rfl rfl
theorem dX6_head_12 : decode cX6_head 12 = .ok (.aload_n 0, 1) := g_42 bX6_head rfl
theorem dX6_head_13 : decode cX6_head 13 = .ok (.bipush (-2), 2) := g_16 254 bX6_head rfl rfl
theorem dX6_head_15 : decode cX6_head 15 = .ok (.invokevirtual 91, 3) := g_182 bX6_head rfl
theorem dX6_head_18 : decode cX6_head 18 = .ok (.ireturn, 1) := g_172 bX6_head rfl
theorem dX6_head_19 : decode cX6_head 19 = .ok (.iconst (-1), 1) := g_2 bX6_head rfl
theorem dX6_head_20 : decode cX6_head 20 = .ok (.istore_n 2, 1) := g_61 bX6_head rfl
theorem dX6_head_21 : decode cX6_head 21 = .ok (.iconst 0, 1) := g_3 bX6_head rfl
theorem dX6_head_22 : decode cX6_head 22 = .ok (.istore_n 3, 1) := g_62 bX6_head rfl
theorem dX6_head_23 : decode cX6_head 23 = .ok (.iconst 0, 1) := g_3 bX6_head rfl
theorem dX6_head_24 : decode cX6_head 24 = .ok (.istore 4, 2) := g_54 bX6_head rfl
theorem dX6_head_26 : decode cX6_head 26 = .ok (.iload 4, 2) := g_21 bX6_head rfl
theorem dX6_head_28 : decode cX6_head 28 = .ok (.bipush 8, 2) := g_16 8 bX6_head rfl rfl
theorem dX6_head_30 : decode cX6_head 30 = .ok (.if_icmp .ge 46, 3) := g_162 46 bX6_head rfl rfl
theorem dX6_head_33 : decode cX6_head 33 = .ok (.aload_n 0, 1) := g_42 bX6_head rfl
theorem dX6_head_34 : decode cX6_head 34 = .ok (.getfield 7, 3) := g_180 bX6_head rfl
theorem dX6_head_37 : decode cX6_head 37 = .ok (.iload 4, 2) := g_21 bX6_head rfl
theorem dX6_head_39 : decode cX6_head 39 = .ok (.iaload, 1) := g_46 bX6_head rfl
theorem dX6_head_40 : decode cX6_head 40 = .ok (.iconst 2, 1) := g_5 bX6_head rfl
theorem dX6_head_41 : decode cX6_head 41 = .ok (.if_icmp .ne 29, 3) := g_160 29 bX6_head rfl rfl
theorem dX6_head_44 : decode cX6_head 44 = .ok (.aload_n 0, 1) := g_42 bX6_head rfl
theorem dX6_head_45 : decode cX6_head 45 = .ok (.iload 4, 2) := g_21 bX6_head rfl
theorem dX6_head_47 : decode cX6_head 47 = .ok (.iload_n 1, 1) := g_27 bX6_head rfl
theorem dX6_head_48 : decode cX6_head 48 = .ok (.invokevirtual 305, 3) := g_182 bX6_head rfl
theorem dX6_head_51 : decode cX6_head 51 = .ok (.istore 5, 2) := g_54 bX6_head rfl
theorem dX6_head_53 : decode cX6_head 53 = .ok (.iload_n 2, 1) := g_28 bX6_head rfl
theorem dX6_head_54 : decode cX6_head 54 = .ok (.iconst (-1), 1) := g_2 bX6_head rfl
theorem dX6_head_55 : decode cX6_head 55 = .ok (.if_icmp .eq 9, 3) := g_159 9 bX6_head rfl rfl
theorem dX6_head_58 : decode cX6_head 58 = .ok (.iload 5, 2) := g_21 bX6_head rfl
theorem dX6_head_60 : decode cX6_head 60 = .ok (.iload_n 3, 1) := g_29 bX6_head rfl
theorem dX6_head_61 : decode cX6_head 61 = .ok (.if_icmp .le 9, 3) := g_164 9 bX6_head rfl rfl
theorem dX6_head_64 : decode cX6_head 64 = .ok (.iload 4, 2) := g_21 bX6_head rfl
theorem dX6_head_66 : decode cX6_head 66 = .ok (.istore_n 2, 1) := g_61 bX6_head rfl
theorem dX6_head_67 : decode cX6_head 67 = .ok (.iload 5, 2) := g_21 bX6_head rfl
theorem dX6_head_69 : decode cX6_head 69 = .ok (.istore_n 3, 1) := g_62 bX6_head rfl
theorem dX6_head_70 : decode cX6_head 70 = .ok (.iinc 4 1, 3) := g_132 1 bX6_head rfl rfl
theorem dX6_head_73 : decode cX6_head 73 = .ok (.goto (-47), 3) := g_167 65489 bX6_head rfl rfl
theorem dX6_head_76 : decode cX6_head 76 = .ok (.iload_n 2, 1) := g_28 bX6_head rfl
theorem dX6_head_77 : decode cX6_head 77 = .ok (.iconst (-1), 1) := g_2 bX6_head rfl
theorem dX6_head_78 : decode cX6_head 78 = .ok (.if_icmp .ne 12, 3) := g_160 12 bX6_head rfl rfl
theorem dX6_head_81 : decode cX6_head 81 = .ok (.aload_n 0, 1) := g_42 bX6_head rfl
theorem dX6_head_82 : decode cX6_head 82 = .ok (.bipush (-5), 2) := g_16 251 bX6_head rfl rfl
theorem dX6_head_84 : decode cX6_head 84 = .ok (.invokevirtual 91, 3) := g_182 bX6_head rfl
theorem dX6_head_87 : decode cX6_head 87 = .ok (.goto 4, 3) := g_167 4 bX6_head rfl rfl
theorem dX6_head_90 : decode cX6_head 90 = .ok (.iload_n 2, 1) := g_28 bX6_head rfl
theorem dX6_head_91 : decode cX6_head 91 = .ok (.ireturn, 1) := g_172 bX6_head rfl
theorem dX6_who_0 : decode cX6_who 0 = .ok (.aload_n 0, 1) := g_42 bX6_who rfl
theorem dX6_who_1 : decode cX6_who 1 = .ok (.iload_n 1, 1) := g_27 bX6_who rfl
theorem dX6_who_2 : decode cX6_who 2 = .ok (.i2l, 1) := g_133 bX6_who rfl
theorem dX6_who_3 : decode cX6_who 3 = .ok (.invokevirtual 229, 3) := g_182 bX6_who rfl
theorem dX6_who_6 : decode cX6_who 6 = .ok (.ifCond .eq 15, 3) := g_153 15 bX6_who rfl rfl
theorem dX6_who_9 : decode cX6_who 9 = .ok (.iload_n 2, 1) := g_28 bX6_who rfl
theorem dX6_who_10 : decode cX6_who 10 = .ok (.i2l, 1) := g_133 bX6_who rfl
theorem dX6_who_11 : decode cX6_who 11 = .ok (.lconst 1, 1) := g_10 bX6_who rfl
theorem dX6_who_12 : decode cX6_who 12 = .ok (.ldc2_w 298, 3) := g_20 bX6_who rfl
theorem dX6_who_15 : decode cX6_who 15 = .ok (.invokestatic 74, 3) := g_184 bX6_who rfl
theorem dX6_who_18 : decode cX6_who 18 = .ok (.ifCond .ne 10, 3) := g_154 10 bX6_who rfl rfl
theorem dX6_who_21 : decode cX6_who 21 = .ok (.aload_n 0, 1) := g_42 bX6_who rfl
theorem dX6_who_22 : decode cX6_who 22 = .ok (.bipush (-2), 2) := g_16 254 bX6_who rfl rfl
theorem dX6_who_24 : decode cX6_who 24 = .ok (.invokevirtual 91, 3) := g_182 bX6_who rfl
theorem dX6_who_27 : decode cX6_who 27 = .ok (.ireturn, 1) := g_172 bX6_who rfl
theorem dX6_who_28 : decode cX6_who 28 = .ok (.aload_n 0, 1) := g_42 bX6_who rfl
theorem dX6_who_29 : decode cX6_who 29 = .ok (.iload_n 1, 1) := g_27 bX6_who rfl
theorem dX6_who_30 : decode cX6_who 30 = .ok (.invokevirtual 248, 3) := g_182 bX6_who rfl
theorem dX6_who_33 : decode cX6_who 33 = .ok (.ifCond .eq 7, 3) := g_153 7 bX6_who rfl rfl
theorem dX6_who_36 : decode cX6_who 36 = .ok (.iconst (-1), 1) := g_2 bX6_who rfl
theorem dX6_who_37 : decode cX6_who 37 = .ok (.goto 9, 3) := g_167 9 bX6_who rfl rfl
theorem dX6_who_40 : decode cX6_who 40 = .ok (.aload_n 0, 1) := g_42 bX6_who rfl
theorem dX6_who_41 : decode cX6_who 41 = .ok (.iload_n 1, 1) := g_27 bX6_who rfl
theorem dX6_who_42 : decode cX6_who 42 = .ok (.iload_n 2, 1) := g_28 bX6_who rfl
theorem dX6_who_43 : decode cX6_who 43 = .ok (.invokevirtual 315, 3) := g_182 bX6_who rfl
theorem dX6_who_46 : decode cX6_who 46 = .ok (.istore_n 3, 1) := g_62 bX6_who rfl
theorem dX6_who_47 : decode cX6_who 47 = .ok (.iload_n 3, 1) := g_29 bX6_who rfl
theorem dX6_who_48 : decode cX6_who 48 = .ok (.iconst (-1), 1) := g_2 bX6_who rfl
theorem dX6_who_49 : decode cX6_who 49 = .ok (.if_icmp .ne 12, 3) := g_160 12 bX6_who rfl rfl
theorem dX6_who_52 : decode cX6_who 52 = .ok (.aload_n 0, 1) := g_42 bX6_who rfl
theorem dX6_who_53 : decode cX6_who 53 = .ok (.bipush (-5), 2) := g_16 251 bX6_who rfl rfl
theorem dX6_who_55 : decode cX6_who 55 = .ok (.invokevirtual 91, 3) := g_182 bX6_who rfl
theorem dX6_who_58 : decode cX6_who 58 = .ok (.goto 4, 3) := g_167 4 bX6_who rfl rfl
theorem dX6_who_61 : decode cX6_who 61 = .ok (.iload_n 3, 1) := g_29 bX6_who rfl
theorem dX6_who_62 : decode cX6_who 62 = .ok (.ireturn, 1) := g_172 bX6_who rfl
theorem dX6_bear_0 : decode cX6_bear 0 = .ok (.iload_n 1, 1) := g_27 bX6_bear rfl
theorem dX6_bear_1 : decode cX6_bear 1 = .ok (.i2l, 1) := g_133 bX6_bear rfl
theorem dX6_bear_2 : decode cX6_bear 2 = .ok (.lconst 1, 1) := g_10 bX6_bear rfl
theorem dX6_bear_3 : decode cX6_bear 3 = .ok (.ldc2_w 239, 3) := g_20 bX6_bear rfl
theorem dX6_bear_6 : decode cX6_bear 6 = .ok (.invokestatic 74, 3) := g_184 bX6_bear rfl
theorem dX6_bear_9 : decode cX6_bear 9 = .ok (.ifCond .ne 10, 3) := g_154 10 bX6_bear rfl rfl
theorem dX6_bear_12 : decode cX6_bear 12 = .ok (.aload_n 0, 1) := g_42 bX6_bear rfl
theorem dX6_bear_13 : decode cX6_bear 13 = .ok (.bipush (-2), 2) := g_16 254 bX6_bear rfl rfl
theorem dX6_bear_15 : decode cX6_bear 15 = .ok (.invokevirtual 91, 3) := g_182 bX6_bear rfl
theorem dX6_bear_18 : decode cX6_bear 18 = .ok (.ireturn, 1) := g_172 bX6_bear rfl
theorem dX6_bear_19 : decode cX6_bear 19 = .ok (.iconst 1, 1) := g_4 bX6_bear rfl
theorem dX6_bear_20 : decode cX6_bear 20 = .ok (.aload_n 0, 1) := g_42 bX6_bear rfl
theorem dX6_bear_21 : decode cX6_bear 21 = .ok (.getfield 78, 3) := g_180 bX6_bear rfl
theorem dX6_bear_24 : decode cX6_bear 24 = .ok (.ishl, 1) := g_120 bX6_bear rfl
theorem dX6_bear_25 : decode cX6_bear 25 = .ok (.iconst 1, 1) := g_4 bX6_bear rfl
theorem dX6_bear_26 : decode cX6_bear 26 = .ok (.isub, 1) := g_100 bX6_bear rfl
theorem dX6_bear_27 : decode cX6_bear 27 = .ok (.istore_n 2, 1) := g_61 bX6_bear rfl
theorem dX6_bear_28 : decode cX6_bear 28 = .ok (.iload_n 2, 1) := g_28 bX6_bear rfl
theorem dX6_bear_29 : decode cX6_bear 29 = .ok (.istore_n 3, 1) := g_62 bX6_bear rfl
theorem dX6_bear_30 : decode cX6_bear 30 = .ok (.iload_n 2, 1) := g_28 bX6_bear rfl
theorem dX6_bear_31 : decode cX6_bear 31 = .ok (.istore 4, 2) := g_54 bX6_bear rfl
theorem dX6_bear_33 : decode cX6_bear 33 = .ok (.iload 4, 2) := g_21 bX6_bear rfl
theorem dX6_bear_35 : decode cX6_bear 35 = .ok (.ifCond .lt 44, 3) := g_155 44 bX6_bear rfl rfl
theorem dX6_bear_38 : decode cX6_bear 38 = .ok (.aload_n 0, 1) := g_42 bX6_bear rfl
theorem dX6_bear_39 : decode cX6_bear 39 = .ok (.iload_n 1, 1) := g_27 bX6_bear rfl
theorem dX6_bear_40 : decode cX6_bear 40 = .ok (.iload 4, 2) := g_21 bX6_bear rfl
theorem dX6_bear_42 : decode cX6_bear 42 = .ok (.invokevirtual 335, 3) := g_182 bX6_bear rfl
theorem dX6_bear_45 : decode cX6_bear 45 = .ok (.aload_n 0, 1) := g_42 bX6_bear rfl
theorem dX6_bear_46 : decode cX6_bear 46 = .ok (.iload_n 1, 1) := g_27 bX6_bear rfl
theorem dX6_bear_47 : decode cX6_bear 47 = .ok (.iload_n 2, 1) := g_28 bX6_bear rfl
theorem dX6_bear_48 : decode cX6_bear 48 = .ok (.invokevirtual 335, 3) := g_182 bX6_bear rfl
theorem dX6_bear_51 : decode cX6_bear 51 = .ok (.if_icmp .ne 20, 3) := g_160 20 bX6_bear rfl rfl
theorem dX6_bear_54 : decode cX6_bear 54 = .ok (.iload 4, 2) := g_21 bX6_bear rfl
theorem dX6_bear_56 : decode cX6_bear 56 = .ok (.invokestatic 338, 3) := g_184 bX6_bear rfl
theorem dX6_bear_59 : decode cX6_bear 59 = .ok (.iload_n 3, 1) := g_29 bX6_bear rfl
theorem dX6_bear_60 : decode cX6_bear 60 = .ok (.invokestatic 338, 3) := g_184 bX6_bear rfl
theorem dX6_bear_63 : decode cX6_bear 63 = .ok (.if_icmp .gt 8, 3) := g_163 8 bX6_bear rfl rfl
theorem dX6_bear_66 : decode cX6_bear 66 = .ok (.iload 4, 2) := g_21 bX6_bear rfl
theorem dX6_bear_68 : decode cX6_bear 68 = .ok (.goto 4, 3) := g_167 4 bX6_bear rfl rfl
theorem dX6_bear_71 : decode cX6_bear 71 = .ok (.iload_n 3, 1) := g_29 bX6_bear rfl
theorem dX6_bear_72 : decode cX6_bear 72 = .ok (.istore_n 3, 1) := g_62 bX6_bear rfl
theorem dX6_bear_73 : decode cX6_bear 73 = .ok (.iinc 4 (-1), 3) := g_132 255 bX6_bear rfl rfl
theorem dX6_bear_76 : decode cX6_bear 76 = .ok (.goto (-43), 3) := g_167 65493 bX6_bear rfl rfl
theorem dX6_bear_79 : decode cX6_bear 79 = .ok (.iload_n 3, 1) := g_29 bX6_bear rfl
theorem dX6_bear_80 : decode cX6_bear 80 = .ok (.ireturn, 1) := g_172 bX6_bear rfl
theorem dX6_hangs_0 : decode cX6_hangs 0 = .ok (.iconst (-1), 1) := g_2 bX6_hangs rfl
theorem dX6_hangs_1 : decode cX6_hangs 1 = .ok (.istore_n 1, 1) := g_60 bX6_hangs rfl
theorem dX6_hangs_2 : decode cX6_hangs 2 = .ok (.iconst 0, 1) := g_3 bX6_hangs rfl
theorem dX6_hangs_3 : decode cX6_hangs 3 = .ok (.istore_n 2, 1) := g_61 bX6_hangs rfl
theorem dX6_hangs_4 : decode cX6_hangs 4 = .ok (.iconst 1, 1) := g_4 bX6_hangs rfl
theorem dX6_hangs_5 : decode cX6_hangs 5 = .ok (.aload_n 0, 1) := g_42 bX6_hangs rfl
theorem dX6_hangs_6 : decode cX6_hangs 6 = .ok (.getfield 78, 3) := g_180 bX6_hangs rfl
theorem dX6_hangs_9 : decode cX6_hangs 9 = .ok (.ishl, 1) := g_120 bX6_hangs rfl
theorem dX6_hangs_10 : decode cX6_hangs 10 = .ok (.iconst 1, 1) := g_4 bX6_hangs rfl
theorem dX6_hangs_11 : decode cX6_hangs 11 = .ok (.isub, 1) := g_100 bX6_hangs rfl
theorem dX6_hangs_12 : decode cX6_hangs 12 = .ok (.istore_n 3, 1) := g_62 bX6_hangs rfl
theorem dX6_hangs_13 : decode cX6_hangs 13 = .ok (.iconst 0, 1) := g_3 bX6_hangs rfl
theorem dX6_hangs_14 : decode cX6_hangs 14 = .ok (.istore 4, 2) := g_54 bX6_hangs rfl
theorem dX6_hangs_16 : decode cX6_hangs 16 = .ok (.iload 4, 2) := g_21 bX6_hangs rfl
theorem dX6_hangs_18 : decode cX6_hangs 18 = .ok (.aload_n 0, 1) := g_42 bX6_hangs rfl
theorem dX6_hangs_19 : decode cX6_hangs 19 = .ok (.getfield 78, 3) := g_180 bX6_hangs rfl
theorem dX6_hangs_22 : decode cX6_hangs 22 = .ok (.if_icmp .ge 49, 3) := g_162 49 bX6_hangs rfl rfl
theorem dX6_hangs_25 : decode cX6_hangs 25 = .ok (.aload_n 0, 1) := g_42 bX6_hangs rfl
theorem dX6_hangs_26 : decode cX6_hangs 26 = .ok (.iload 4, 2) := g_21 bX6_hangs rfl
theorem dX6_hangs_28 : decode cX6_hangs 28 = .ok (.invokevirtual 81, 3) := g_182 bX6_hangs rfl
theorem dX6_hangs_31 : decode cX6_hangs 31 = .ok (.ifCond .eq 34, 3) := g_153 34 bX6_hangs rfl rfl
theorem dX6_hangs_34 : decode cX6_hangs 34 = .ok (.aload_n 0, 1) := g_42 bX6_hangs rfl
theorem dX6_hangs_35 : decode cX6_hangs 35 = .ok (.iload_n 3, 1) := g_29 bX6_hangs rfl
theorem dX6_hangs_36 : decode cX6_hangs 36 = .ok (.iconst 1, 1) := g_4 bX6_hangs rfl
theorem dX6_hangs_37 : decode cX6_hangs 37 = .ok (.iload 4, 2) := g_21 bX6_hangs rfl
theorem dX6_hangs_39 : decode cX6_hangs 39 = .ok (.ishl, 1) := g_120 bX6_hangs rfl
theorem dX6_hangs_40 : decode cX6_hangs 40 = .ok (.iconst (-1), 1) := g_2 bX6_hangs rfl
theorem dX6_hangs_41 : decode cX6_hangs 41 = .ok (.ixor, 1) := g_130 bX6_hangs rfl
theorem dX6_hangs_42 : decode cX6_hangs 42 = .ok (.iand, 1) := g_126 bX6_hangs rfl
theorem dX6_hangs_43 : decode cX6_hangs 43 = .ok (.invokevirtual 266, 3) := g_182 bX6_hangs rfl
theorem dX6_hangs_46 : decode cX6_hangs 46 = .ok (.istore 5, 2) := g_54 bX6_hangs rfl
theorem dX6_hangs_48 : decode cX6_hangs 48 = .ok (.iload_n 1, 1) := g_27 bX6_hangs rfl
theorem dX6_hangs_49 : decode cX6_hangs 49 = .ok (.iconst (-1), 1) := g_2 bX6_hangs rfl
theorem dX6_hangs_50 : decode cX6_hangs 50 = .ok (.if_icmp .eq 9, 3) := g_159 9 bX6_hangs rfl rfl
theorem dX6_hangs_53 : decode cX6_hangs 53 = .ok (.iload 5, 2) := g_21 bX6_hangs rfl
theorem dX6_hangs_55 : decode cX6_hangs 55 = .ok (.iload_n 2, 1) := g_28 bX6_hangs rfl
theorem dX6_hangs_56 : decode cX6_hangs 56 = .ok (.if_icmp .ge 9, 3) := g_162 9 bX6_hangs rfl rfl
theorem dX6_hangs_59 : decode cX6_hangs 59 = .ok (.iload 4, 2) := g_21 bX6_hangs rfl
theorem dX6_hangs_61 : decode cX6_hangs 61 = .ok (.istore_n 1, 1) := g_60 bX6_hangs rfl
theorem dX6_hangs_62 : decode cX6_hangs 62 = .ok (.iload 5, 2) := g_21 bX6_hangs rfl
theorem dX6_hangs_64 : decode cX6_hangs 64 = .ok (.istore_n 2, 1) := g_61 bX6_hangs rfl
theorem dX6_hangs_65 : decode cX6_hangs 65 = .ok (.iinc 4 1, 3) := g_132 1 bX6_hangs rfl rfl
theorem dX6_hangs_68 : decode cX6_hangs 68 = .ok (.goto (-52), 3) := g_167 65484 bX6_hangs rfl rfl
theorem dX6_hangs_71 : decode cX6_hangs 71 = .ok (.iload_n 1, 1) := g_27 bX6_hangs rfl
theorem dX6_hangs_72 : decode cX6_hangs 72 = .ok (.iconst (-1), 1) := g_2 bX6_hangs rfl
theorem dX6_hangs_73 : decode cX6_hangs 73 = .ok (.if_icmp .ne 12, 3) := g_160 12 bX6_hangs rfl rfl
theorem dX6_hangs_76 : decode cX6_hangs 76 = .ok (.aload_n 0, 1) := g_42 bX6_hangs rfl
theorem dX6_hangs_77 : decode cX6_hangs 77 = .ok (.bipush (-5), 2) := g_16 251 bX6_hangs rfl rfl
theorem dX6_hangs_79 : decode cX6_hangs 79 = .ok (.invokevirtual 91, 3) := g_182 bX6_hangs rfl
theorem dX6_hangs_82 : decode cX6_hangs 82 = .ok (.goto 4, 3) := g_167 4 bX6_hangs rfl rfl
theorem dX6_hangs_85 : decode cX6_hangs 85 = .ok (.iload_n 1, 1) := g_27 bX6_hangs rfl
theorem dX6_hangs_86 : decode cX6_hangs 86 = .ok (.ireturn, 1) := g_172 bX6_hangs rfl
theorem dX6_left_0 : decode cX6_left 0 = .ok (.iload_n 1, 1) := g_27 bX6_left rfl
theorem dX6_left_1 : decode cX6_left 1 = .ok (.i2l, 1) := g_133 bX6_left rfl
theorem dX6_left_2 : decode cX6_left 2 = .ok (.lconst 0, 1) := g_9 bX6_left rfl
theorem dX6_left_3 : decode cX6_left 3 = .ok (.ldc2_w 239, 3) := g_20 bX6_left rfl
theorem dX6_left_6 : decode cX6_left 6 = .ok (.invokestatic 74, 3) := g_184 bX6_left rfl
theorem dX6_left_9 : decode cX6_left 9 = .ok (.ifCond .eq 36, 3) := g_153 36 bX6_left rfl rfl
theorem dX6_left_12 : decode cX6_left 12 = .ok (.iload_n 2, 1) := g_28 bX6_left rfl
theorem dX6_left_13 : decode cX6_left 13 = .ok (.i2l, 1) := g_133 bX6_left rfl
theorem dX6_left_14 : decode cX6_left 14 = .ok (.lconst 0, 1) := g_9 bX6_left rfl
theorem dX6_left_15 : decode cX6_left 15 = .ok (.ldc2_w 132, 3) := g_20 bX6_left rfl
theorem dX6_left_18 : decode cX6_left 18 = .ok (.invokestatic 74, 3) := g_184 bX6_left rfl
theorem dX6_left_21 : decode cX6_left 21 = .ok (.ifCond .eq 24, 3) := g_153 24 bX6_left rfl rfl
theorem dX6_left_24 : decode cX6_left 24 = .ok (.iload_n 3, 1) := g_29 bX6_left rfl
theorem dX6_left_25 : decode cX6_left 25 = .ok (.i2l, 1) := g_133 bX6_left rfl
theorem dX6_left_26 : decode cX6_left 26 = .ok (.lconst 0, 1) := g_9 bX6_left rfl
theorem dX6_left_27 : decode cX6_left 27 = .ok (.ldc2_w 104, 3) := g_20 bX6_left rfl
theorem dX6_left_30 : decode cX6_left 30 = .ok (.invokestatic 74, 3) := g_184 bX6_left rfl
theorem dX6_left_33 : decode cX6_left 33 = .ok (.ifCond .eq 12, 3) := g_153 12 bX6_left rfl rfl
theorem dX6_left_36 : decode cX6_left 36 = .ok (.iload_n 1, 1) := g_27 bX6_left rfl
theorem dX6_left_37 : decode cX6_left 37 = .ok (.iload_n 2, 1) := g_28 bX6_left rfl
theorem dX6_left_38 : decode cX6_left 38 = .ok (.iload_n 3, 1) := g_29 bX6_left rfl
theorem dX6_left_39 : decode cX6_left 39 = .ok (.invokestatic 332, 3) := g_184 bX6_left rfl
theorem dX6_left_42 : decode cX6_left 42 = .ok (.goto 9, 3) := g_167 9 bX6_left rfl rfl
theorem dX6_left_45 : decode cX6_left 45 = .ok (.aload_n 0, 1) := g_42 bX6_left rfl
theorem dX6_left_46 : decode cX6_left 46 = .ok (.bipush (-2), 2) := g_16 254 bX6_left rfl rfl
theorem dX6_left_48 : decode cX6_left 48 = .ok (.invokevirtual 91, 3) := g_182 bX6_left rfl
theorem dX6_left_51 : decode cX6_left 51 = .ok (.ireturn, 1) := g_172 bX6_left rfl
theorem dX6_longest_0 : decode cX6_longest 0 = .ok (.iload_n 1, 1) := g_27 bX6_longest rfl
theorem dX6_longest_1 : decode cX6_longest 1 = .ok (.i2l, 1) := g_133 bX6_longest rfl
theorem dX6_longest_2 : decode cX6_longest 2 = .ok (.lconst 0, 1) := g_9 bX6_longest rfl
theorem dX6_longest_3 : decode cX6_longest 3 = .ok (.ldc2_w 239, 3) := g_20 bX6_longest rfl
theorem dX6_longest_6 : decode cX6_longest 6 = .ok (.invokestatic 74, 3) := g_184 bX6_longest rfl
theorem dX6_longest_9 : decode cX6_longest 9 = .ok (.ifCond .eq 27, 3) := g_153 27 bX6_longest rfl rfl
theorem dX6_longest_12 : decode cX6_longest 12 = .ok (.iload_n 2, 1) := g_28 bX6_longest rfl
theorem dX6_longest_13 : decode cX6_longest 13 = .ok (.i2l, 1) := g_133 bX6_longest rfl
theorem dX6_longest_14 : decode cX6_longest 14 = .ok (.lconst 0, 1) := g_9 bX6_longest rfl
theorem dX6_longest_15 : decode cX6_longest 15 = .ok (.ldc2_w 132, 3) := g_20 bX6_longest rfl
theorem dX6_longest_18 : decode cX6_longest 18 = .ok (.invokestatic 74, 3) := g_184 bX6_longest rfl
theorem dX6_longest_21 : decode cX6_longest 21 = .ok (.ifCond .eq 15, 3) := g_153 15 bX6_longest rfl rfl
theorem dX6_longest_24 : decode cX6_longest 24 = .ok (.iload_n 3, 1) := g_29 bX6_longest rfl
theorem dX6_longest_25 : decode cX6_longest 25 = .ok (.i2l, 1) := g_133 bX6_longest rfl
theorem dX6_longest_26 : decode cX6_longest 26 = .ok (.lconst 1, 1) := g_10 bX6_longest rfl
theorem dX6_longest_27 : decode cX6_longest 27 = .ok (.ldc2_w 239, 3) := g_20 bX6_longest rfl
theorem dX6_longest_30 : decode cX6_longest 30 = .ok (.invokestatic 74, 3) := g_184 bX6_longest rfl
theorem dX6_longest_33 : decode cX6_longest 33 = .ok (.ifCond .ne 10, 3) := g_154 10 bX6_longest rfl rfl
theorem dX6_longest_36 : decode cX6_longest 36 = .ok (.aload_n 0, 1) := g_42 bX6_longest rfl
theorem dX6_longest_37 : decode cX6_longest 37 = .ok (.bipush (-2), 2) := g_16 254 bX6_longest rfl rfl
theorem dX6_longest_39 : decode cX6_longest 39 = .ok (.invokevirtual 91, 3) := g_182 bX6_longest rfl
theorem dX6_longest_42 : decode cX6_longest 42 = .ok (.ireturn, 1) := g_172 bX6_longest rfl
theorem dX6_longest_43 : decode cX6_longest 43 = .ok (.iconst (-1), 1) := g_2 bX6_longest rfl
theorem dX6_longest_44 : decode cX6_longest 44 = .ok (.istore 4, 2) := g_54 bX6_longest rfl
theorem dX6_longest_46 : decode cX6_longest 46 = .ok (.iload 4, 2) := g_21 bX6_longest rfl
theorem dX6_longest_48 : decode cX6_longest 48 = .ok (.bipush 99, 2) := g_16 99 bX6_longest rfl rfl
theorem dX6_longest_50 : decode cX6_longest 50 = .ok (.if_icmp .ge 22, 3) := g_162 22 bX6_longest rfl rfl
theorem dX6_longest_53 : decode cX6_longest 53 = .ok (.iload_n 1, 1) := g_27 bX6_longest rfl
theorem dX6_longest_54 : decode cX6_longest 54 = .ok (.iload_n 2, 1) := g_28 bX6_longest rfl
theorem dX6_longest_55 : decode cX6_longest 55 = .ok (.iload 4, 2) := g_21 bX6_longest rfl
theorem dX6_longest_57 : decode cX6_longest 57 = .ok (.iconst 1, 1) := g_4 bX6_longest rfl
theorem dX6_longest_58 : decode cX6_longest 58 = .ok (.iadd, 1) := g_96 bX6_longest rfl
theorem dX6_longest_59 : decode cX6_longest 59 = .ok (.invokestatic 332, 3) := g_184 bX6_longest rfl
theorem dX6_longest_62 : decode cX6_longest 62 = .ok (.iload_n 3, 1) := g_29 bX6_longest rfl
theorem dX6_longest_63 : decode cX6_longest 63 = .ok (.if_icmp .lt 9, 3) := g_161 9 bX6_longest rfl rfl
theorem dX6_longest_66 : decode cX6_longest 66 = .ok (.iinc 4 1, 3) := g_132 1 bX6_longest rfl rfl
theorem dX6_longest_69 : decode cX6_longest 69 = .ok (.goto (-23), 3) := g_167 65513 bX6_longest rfl rfl
theorem dX6_longest_72 : decode cX6_longest 72 = .ok (.iload 4, 2) := g_21 bX6_longest rfl
theorem dX6_longest_74 : decode cX6_longest 74 = .ok (.ireturn, 1) := g_172 bX6_longest rfl
theorem dX6_lost_0 : decode cX6_lost 0 = .ok (.iload_n 1, 1) := g_27 bX6_lost rfl
theorem dX6_lost_1 : decode cX6_lost 1 = .ok (.i2l, 1) := g_133 bX6_lost rfl
theorem dX6_lost_2 : decode cX6_lost 2 = .ok (.lconst 1, 1) := g_10 bX6_lost rfl
theorem dX6_lost_3 : decode cX6_lost 3 = .ok (.ldc2_w 239, 3) := g_20 bX6_lost rfl
theorem dX6_lost_6 : decode cX6_lost 6 = .ok (.invokestatic 74, 3) := g_184 bX6_lost rfl
theorem dX6_lost_9 : decode cX6_lost 9 = .ok (.ifCond .eq 19, 3) := g_153 19 bX6_lost rfl rfl
theorem dX6_lost_12 : decode cX6_lost 12 = .ok (.aload_n 0, 1) := g_42 bX6_lost rfl
theorem dX6_lost_13 : decode cX6_lost 13 = .ok (.iload_n 1, 1) := g_27 bX6_lost rfl
theorem dX6_lost_14 : decode cX6_lost 14 = .ok (.iconst 1, 1) := g_4 bX6_lost rfl
theorem dX6_lost_15 : decode cX6_lost 15 = .ok (.aload_n 0, 1) := g_42 bX6_lost rfl
theorem dX6_lost_16 : decode cX6_lost 16 = .ok (.getfield 78, 3) := g_180 bX6_lost rfl
theorem dX6_lost_19 : decode cX6_lost 19 = .ok (.ishl, 1) := g_120 bX6_lost rfl
theorem dX6_lost_20 : decode cX6_lost 20 = .ok (.iconst 1, 1) := g_4 bX6_lost rfl
theorem dX6_lost_21 : decode cX6_lost 21 = .ok (.isub, 1) := g_100 bX6_lost rfl
theorem dX6_lost_22 : decode cX6_lost 22 = .ok (.invokevirtual 335, 3) := g_182 bX6_lost rfl
theorem dX6_lost_25 : decode cX6_lost 25 = .ok (.goto 9, 3) := g_167 9 bX6_lost rfl rfl
theorem dX6_lost_28 : decode cX6_lost 28 = .ok (.aload_n 0, 1) := g_42 bX6_lost rfl
theorem dX6_lost_29 : decode cX6_lost 29 = .ok (.bipush (-2), 2) := g_16 254 bX6_lost rfl rfl
theorem dX6_lost_31 : decode cX6_lost 31 = .ok (.invokevirtual 91, 3) := g_182 bX6_lost rfl
theorem dX6_lost_34 : decode cX6_lost 34 = .ok (.ireturn, 1) := g_172 bX6_lost rfl
theorem dX6_judge_0 : decode cX6_judge 0 = .ok (.aload_n 0, 1) := g_42 bX6_judge rfl
theorem dX6_judge_1 : decode cX6_judge 1 = .ok (.iload_n 1, 1) := g_27 bX6_judge rfl
theorem dX6_judge_2 : decode cX6_judge 2 = .ok (.iload_n 2, 1) := g_28 bX6_judge rfl
theorem dX6_judge_3 : decode cX6_judge 3 = .ok (.invokevirtual 345, 3) := g_182 bX6_judge rfl
theorem dX6_judge_6 : decode cX6_judge 6 = .ok (.istore_n 3, 1) := g_62 bX6_judge rfl
theorem dX6_judge_7 : decode cX6_judge 7 = .ok (.iload_n 3, 1) := g_29 bX6_judge rfl
theorem dX6_judge_8 : decode cX6_judge 8 = .ok (.ifCond .eq 7, 3) := g_153 7 bX6_judge rfl rfl
theorem dX6_judge_11 : decode cX6_judge 11 = .ok (.iload_n 3, 1) := g_29 bX6_judge rfl
theorem dX6_judge_12 : decode cX6_judge 12 = .ok (.goto 9, 3) := g_167 9 bX6_judge rfl rfl
theorem dX6_judge_15 : decode cX6_judge 15 = .ok (.aload_n 0, 1) := g_42 bX6_judge rfl
theorem dX6_judge_16 : decode cX6_judge 16 = .ok (.iload_n 1, 1) := g_27 bX6_judge rfl
theorem dX6_judge_17 : decode cX6_judge 17 = .ok (.iload_n 2, 1) := g_28 bX6_judge rfl
theorem dX6_judge_18 : decode cX6_judge 18 = .ok (.invokevirtual 348, 3) := g_182 bX6_judge rfl
theorem dX6_judge_21 : decode cX6_judge 21 = .ok (.ireturn, 1) := g_172 bX6_judge rfl
theorem dX6_told_0 : decode cX6_told 0 = .ok (.aload_n 0, 1) := g_42 bX6_told rfl
theorem dX6_told_1 : decode cX6_told 1 = .ok (.iload_n 1, 1) := g_27 bX6_told rfl
theorem dX6_told_2 : decode cX6_told 2 = .ok (.iload_n 2, 1) := g_28 bX6_told rfl
theorem dX6_told_3 : decode cX6_told 3 = .ok (.invokevirtual 345, 3) := g_182 bX6_told rfl
theorem dX6_told_6 : decode cX6_told 6 = .ok (.istore_n 3, 1) := g_62 bX6_told rfl
theorem dX6_told_7 : decode cX6_told 7 = .ok (.iload_n 3, 1) := g_29 bX6_told rfl
theorem dX6_told_8 : decode cX6_told 8 = .ok (.ifCond .eq 5, 3) := g_153 5 bX6_told rfl rfl
theorem dX6_told_11 : decode cX6_told 11 = .ok (.iload_n 3, 1) := g_29 bX6_told rfl
theorem dX6_told_12 : decode cX6_told 12 = .ok (.ireturn, 1) := g_172 bX6_told rfl
theorem dX6_told_13 : decode cX6_told 13 = .ok (.aload_n 0, 1) := g_42 bX6_told rfl
theorem dX6_told_14 : decode cX6_told 14 = .ok (.iload_n 1, 1) := g_27 bX6_told rfl
theorem dX6_told_15 : decode cX6_told 15 = .ok (.iload_n 2, 1) := g_28 bX6_told rfl
theorem dX6_told_16 : decode cX6_told 16 = .ok (.invokevirtual 348, 3) := g_182 bX6_told rfl
theorem dX6_told_19 : decode cX6_told 19 = .ok (.iconst (-1), 1) := g_2 bX6_told rfl
theorem dX6_told_20 : decode cX6_told 20 = .ok (.if_icmp .ne 13, 3) := g_160 13 bX6_told rfl rfl
theorem dX6_told_23 : decode cX6_told 23 = .ok (.aload_n 0, 1) := g_42 bX6_told rfl
theorem dX6_told_24 : decode cX6_told 24 = .ok (.getfield 118, 3) := g_180 bX6_told rfl
theorem dX6_told_27 : decode cX6_told 27 = .ok (.invokevirtual 122, 3) := g_182 bX6_told rfl
theorem dX6_told_30 : decode cX6_told 30 = .ok (.goto 9, 3) := g_167 9 bX6_told rfl rfl
theorem dX6_told_33 : decode cX6_told 33 = .ok (.aload_n 0, 1) := g_42 bX6_told rfl
theorem dX6_told_34 : decode cX6_told 34 = .ok (.bipush (-5), 2) := g_16 251 bX6_told rfl rfl
theorem dX6_told_36 : decode cX6_told 36 = .ok (.invokevirtual 91, 3) := g_182 bX6_told rfl
theorem dX6_told_39 : decode cX6_told 39 = .ok (.ireturn, 1) := g_172 bX6_told rfl
theorem dX6_years_0 : decode cX6_years 0 = .ok (.iload_n 1, 1) := g_27 bX6_years rfl
theorem dX6_years_1 : decode cX6_years 1 = .ok (.i2l, 1) := g_133 bX6_years rfl
theorem dX6_years_2 : decode cX6_years 2 = .ok (.lconst 0, 1) := g_9 bX6_years rfl
theorem dX6_years_3 : decode cX6_years 3 = .ok (.ldc2_w 85, 3) := g_20 bX6_years rfl
theorem dX6_years_6 : decode cX6_years 6 = .ok (.invokestatic 74, 3) := g_184 bX6_years rfl
theorem dX6_years_9 : decode cX6_years 9 = .ok (.ifCond .eq 15, 3) := g_153 15 bX6_years rfl rfl
theorem dX6_years_12 : decode cX6_years 12 = .ok (.iload_n 2, 1) := g_28 bX6_years rfl
theorem dX6_years_13 : decode cX6_years 13 = .ok (.i2l, 1) := g_133 bX6_years rfl
theorem dX6_years_14 : decode cX6_years 14 = .ok (.lconst 1, 1) := g_10 bX6_years rfl
theorem dX6_years_15 : decode cX6_years 15 = .ok (.ldc2_w 341, 3) := g_20 bX6_years rfl
theorem dX6_years_18 : decode cX6_years 18 = .ok (.invokestatic 74, 3) := g_184 bX6_years rfl
theorem dX6_years_21 : decode cX6_years 21 = .ok (.ifCond .ne 10, 3) := g_154 10 bX6_years rfl rfl
theorem dX6_years_24 : decode cX6_years 24 = .ok (.aload_n 0, 1) := g_42 bX6_years rfl
theorem dX6_years_25 : decode cX6_years 25 = .ok (.bipush (-2), 2) := g_16 254 bX6_years rfl rfl
theorem dX6_years_27 : decode cX6_years 27 = .ok (.invokevirtual 91, 3) := g_182 bX6_years rfl
theorem dX6_years_30 : decode cX6_years 30 = .ok (.ireturn, 1) := g_172 bX6_years rfl
theorem dX6_years_31 : decode cX6_years 31 = .ok (.aload_n 0, 1) := g_42 bX6_years rfl
theorem dX6_years_32 : decode cX6_years 32 = .ok (.iload_n 1, 1) := g_27 bX6_years rfl
theorem dX6_years_33 : decode cX6_years 33 = .ok (.invokevirtual 302, 3) := g_182 bX6_years rfl
theorem dX6_years_36 : decode cX6_years 36 = .ok (.istore_n 3, 1) := g_62 bX6_years rfl
theorem dX6_years_37 : decode cX6_years 37 = .ok (.iload_n 3, 1) := g_29 bX6_years rfl
theorem dX6_years_38 : decode cX6_years 38 = .ok (.ifCond .eq 5, 3) := g_153 5 bX6_years rfl rfl
theorem dX6_years_41 : decode cX6_years 41 = .ok (.iload_n 3, 1) := g_29 bX6_years rfl
theorem dX6_years_42 : decode cX6_years 42 = .ok (.ireturn, 1) := g_172 bX6_years rfl
theorem dX6_years_43 : decode cX6_years 43 = .ok (.iconst 0, 1) := g_3 bX6_years rfl
theorem dX6_years_44 : decode cX6_years 44 = .ok (.istore 4, 2) := g_54 bX6_years rfl
theorem dX6_years_46 : decode cX6_years 46 = .ok (.iconst 0, 1) := g_3 bX6_years rfl
theorem dX6_years_47 : decode cX6_years 47 = .ok (.istore 5, 2) := g_54 bX6_years rfl
theorem dX6_years_49 : decode cX6_years 49 = .ok (.iload 5, 2) := g_21 bX6_years rfl
theorem dX6_years_51 : decode cX6_years 51 = .ok (.iload_n 2, 1) := g_28 bX6_years rfl
theorem dX6_years_52 : decode cX6_years 52 = .ok (.if_icmp .ge 95, 3) := g_162 95 bX6_years rfl rfl
theorem dX6_years_55 : decode cX6_years 55 = .ok (.aload_n 0, 1) := g_42 bX6_years rfl
theorem dX6_years_56 : decode cX6_years 56 = .ok (.aload_n 0, 1) := g_42 bX6_years rfl
theorem dX6_years_57 : decode cX6_years 57 = .ok (.getfield 28, 3) := g_180 bX6_years rfl
theorem dX6_years_60 : decode cX6_years 60 = .ok (.iload_n 1, 1) := g_27 bX6_years rfl
theorem dX6_years_61 : decode cX6_years 61 = .ok (.iaload, 1) := g_46 bX6_years rfl
theorem dX6_years_62 : decode cX6_years 62 = .ok (.aload_n 0, 1) := g_42 bX6_years rfl
theorem dX6_years_63 : decode cX6_years 63 = .ok (.getfield 31, 3) := g_180 bX6_years rfl
theorem dX6_years_66 : decode cX6_years 66 = .ok (.iload_n 1, 1) := g_27 bX6_years rfl
theorem dX6_years_67 : decode cX6_years 67 = .ok (.iaload, 1) := g_46 bX6_years rfl
theorem dX6_years_68 : decode cX6_years 68 = .ok (.invokevirtual 114, 3) := g_182 bX6_years rfl
theorem dX6_years_71 : decode cX6_years 71 = .ok (.pop, 1) := g_87 bX6_years rfl
theorem dX6_years_72 : decode cX6_years 72 = .ok (.iload 4, 2) := g_21 bX6_years rfl
theorem dX6_years_74 : decode cX6_years 74 = .ok (.aload_n 0, 1) := g_42 bX6_years rfl
theorem dX6_years_75 : decode cX6_years 75 = .ok (.invokevirtual 122, 3) := g_182 bX6_years rfl
theorem dX6_years_78 : decode cX6_years 78 = .ok (.iadd, 1) := g_96 bX6_years rfl
theorem dX6_years_79 : decode cX6_years 79 = .ok (.istore 4, 2) := g_54 bX6_years rfl
theorem dX6_years_81 : decode cX6_years 81 = .ok (.iconst 0, 1) := g_3 bX6_years rfl
theorem dX6_years_82 : decode cX6_years 82 = .ok (.istore 6, 2) := g_54 bX6_years rfl
theorem dX6_years_84 : decode cX6_years 84 = .ok (.iload 6, 2) := g_21 bX6_years rfl
theorem dX6_years_86 : decode cX6_years 86 = .ok (.aload_n 0, 1) := g_42 bX6_years rfl
theorem dX6_years_87 : decode cX6_years 87 = .ok (.getfield 78, 3) := g_180 bX6_years rfl
theorem dX6_years_90 : decode cX6_years 90 = .ok (.if_icmp .ge 46, 3) := g_162 46 bX6_years rfl rfl
theorem dX6_years_93 : decode cX6_years 93 = .ok (.aload_n 0, 1) := g_42 bX6_years rfl
theorem dX6_years_94 : decode cX6_years 94 = .ok (.iload 6, 2) := g_21 bX6_years rfl
theorem dX6_years_96 : decode cX6_years 96 = .ok (.invokevirtual 81, 3) := g_182 bX6_years rfl
theorem dX6_years_99 : decode cX6_years 99 = .ok (.ifCond .eq 31, 3) := g_153 31 bX6_years rfl rfl
theorem dX6_years_102 : decode cX6_years 102 = .ok (.aload_n 0, 1) := g_42 bX6_years rfl
theorem dX6_years_103 : decode cX6_years 103 = .ok (.bipush 20, 2) := g_16 20 bX6_years rfl rfl
theorem dX6_years_105 : decode cX6_years 105 = .ok (.invokevirtual 352, 3) := g_182 bX6_years rfl
theorem dX6_years_108 : decode cX6_years 108 = .ok (.aload_n 0, 1) := g_42 bX6_years rfl
theorem dX6_years_109 : decode cX6_years 109 = .ok (.getfield 45, 3) := g_180 bX6_years rfl
theorem dX6_years_112 : decode cX6_years 112 = .ok (.iload 6, 2) := g_21 bX6_years rfl
theorem dX6_years_114 : decode cX6_years 114 = .ok (.aaload, 1) := g_50 bX6_years rfl
theorem dX6_years_115 : decode cX6_years 115 = .ok (.iconst 0, 1) := g_3 bX6_years rfl
theorem dX6_years_116 : decode cX6_years 116 = .ok (.iaload, 1) := g_46 bX6_years rfl
theorem dX6_years_117 : decode cX6_years 117 = .ok (.if_icmp .ge 13, 3) := g_162 13 bX6_years rfl rfl
theorem dX6_years_120 : decode cX6_years 120 = .ok (.aload_n 0, 1) := g_42 bX6_years rfl
theorem dX6_years_121 : decode cX6_years 121 = .ok (.getfield 45, 3) := g_180 bX6_years rfl
theorem dX6_years_124 : decode cX6_years 124 = .ok (.iload 6, 2) := g_21 bX6_years rfl
theorem dX6_years_126 : decode cX6_years 126 = .ok (.aaload, 1) := g_50 bX6_years rfl
theorem dX6_years_127 : decode cX6_years 127 = .ok (.iconst 4, 1) := g_7 bX6_years rfl
theorem dX6_years_128 : decode cX6_years 128 = .ok (.iconst 1, 1) := g_4 bX6_years rfl
theorem dX6_years_129 : decode cX6_years 129 = .ok (.iastore, 1) := g_79 bX6_years rfl
theorem dX6_years_130 : decode cX6_years 130 = .ok (.iinc 6 1, 3) := g_132 1 bX6_years rfl rfl
theorem dX6_years_133 : decode cX6_years 133 = .ok (.goto (-49), 3) := g_167 65487 bX6_years rfl rfl
theorem dX6_years_136 : decode cX6_years 136 = .ok (.aload_n 0, 1) := g_42 bX6_years rfl
theorem dX6_years_137 : decode cX6_years 137 = .ok (.invokevirtual 288, 3) := g_182 bX6_years rfl
theorem dX6_years_140 : decode cX6_years 140 = .ok (.pop, 1) := g_87 bX6_years rfl
theorem dX6_years_141 : decode cX6_years 141 = .ok (.iinc 5 1, 3) := g_132 1 bX6_years rfl rfl
theorem dX6_years_144 : decode cX6_years 144 = .ok (.goto (-95), 3) := g_167 65441 bX6_years rfl rfl
theorem dX6_years_147 : decode cX6_years 147 = .ok (.aload_n 0, 1) := g_42 bX6_years rfl
theorem dX6_years_148 : decode cX6_years 148 = .ok (.dup, 1) := g_89 bX6_years rfl
theorem dX6_years_149 : decode cX6_years 149 = .ok (.getfield 355, 3) := g_180 bX6_years rfl
theorem dX6_years_152 : decode cX6_years 152 = .ok (.iload 4, 2) := g_21 bX6_years rfl
theorem dX6_years_154 : decode cX6_years 154 = .ok (.iadd, 1) := g_96 bX6_years rfl
theorem dX6_years_155 : decode cX6_years 155 = .ok (.putfield 355, 3) := g_181 bX6_years rfl
theorem dX6_years_158 : decode cX6_years 158 = .ok (.iload 4, 2) := g_21 bX6_years rfl
theorem dX6_years_160 : decode cX6_years 160 = .ok (.ireturn, 1) := g_172 bX6_years rfl
theorem dX6_back_0 : decode cX6_back 0 = .ok (.aload_n 0, 1) := g_42 bX6_back rfl
theorem dX6_back_1 : decode cX6_back 1 = .ok (.getfield 362, 3) := g_180 bX6_back rfl
theorem dX6_back_4 : decode cX6_back 4 = .ok (.ifnonnull 10, 3) := g_199 10 bX6_back rfl rfl
theorem dX6_back_7 : decode cX6_back 7 = .ok (.aload_n 0, 1) := g_42 bX6_back rfl
theorem dX6_back_8 : decode cX6_back 8 = .ok (.bipush (-5), 2) := g_16 251 bX6_back rfl rfl
theorem dX6_back_10 : decode cX6_back 10 = .ok (.invokevirtual 91, 3) := g_182 bX6_back rfl
theorem dX6_back_13 : decode cX6_back 13 = .ok (.ireturn, 1) := g_172 bX6_back rfl
theorem dX6_back_14 : decode cX6_back 14 = .ok (.aload_n 0, 1) := g_42 bX6_back rfl
theorem dX6_back_15 : decode cX6_back 15 = .ok (.aload_n 0, 1) := g_42 bX6_back rfl
theorem dX6_back_16 : decode cX6_back 16 = .ok (.getfield 362, 3) := g_180 bX6_back rfl
theorem dX6_back_19 : decode cX6_back 19 = .ok (.invokevirtual 225, 3) := g_182 bX6_back rfl
theorem dX6_back_22 : decode cX6_back 22 = .ok (.iconst 1, 1) := g_4 bX6_back rfl
theorem dX6_back_23 : decode cX6_back 23 = .ok (.ireturn, 1) := g_172 bX6_back rfl
theorem dX6_ends_0 : decode cX6_ends 0 = .ok (.aload_n 0, 1) := g_42 bX6_ends rfl
theorem dX6_ends_1 : decode cX6_ends 1 = .ok (.invokevirtual 288, 3) := g_182 bX6_ends rfl
theorem dX6_ends_4 : decode cX6_ends 4 = .ok (.ireturn, 1) := g_172 bX6_ends rfl
theorem dX6_image_0 : decode cX6_image 0 = .ok (.aload_n 0, 1) := g_42 bX6_image rfl
theorem dX6_image_1 : decode cX6_image 1 = .ok (.getfield 362, 3) := g_180 bX6_image rfl
theorem dX6_image_4 : decode cX6_image 4 = .ok (.ifnonnull 14, 3) := g_199 14 bX6_image rfl rfl
theorem dX6_image_7 : decode cX6_image 7 = .ok (.aload_n 0, 1) := g_42 bX6_image rfl
theorem dX6_image_8 : decode cX6_image 8 = .ok (.new 8, 3) := g_187 bX6_image rfl
theorem dX6_image_11 : decode cX6_image 11 = .ok (.dup, 1) := g_89 bX6_image rfl
theorem dX6_image_12 : decode cX6_image 12 = .ok (.invokespecial 291, 3) := g_183 bX6_image rfl
theorem dX6_image_15 : decode cX6_image 15 = .ok (.putfield 362, 3) := g_181 bX6_image rfl
theorem dX6_image_18 : decode cX6_image 18 = .ok (.aload_n 0, 1) := g_42 bX6_image rfl
theorem dX6_image_19 : decode cX6_image 19 = .ok (.getfield 362, 3) := g_180 bX6_image rfl
theorem dX6_image_22 : decode cX6_image 22 = .ok (.aload_n 0, 1) := g_42 bX6_image rfl
theorem dX6_image_23 : decode cX6_image 23 = .ok (.invokevirtual 225, 3) := g_182 bX6_image rfl
theorem dX6_image_26 : decode cX6_image 26 = .ok (.iconst 1, 1) := g_4 bX6_image rfl
theorem dX6_image_27 : decode cX6_image 27 = .ok (.ireturn, 1) := g_172 bX6_image rfl
theorem dX6_seed_0 : decode cX6_seed 0 = .ok (.aload_n 0, 1) := g_42 bX6_seed rfl
theorem dX6_seed_1 : decode cX6_seed 1 = .ok (.getfield 51, 3) := g_180 bX6_seed rfl
theorem dX6_seed_4 : decode cX6_seed 4 = .ok (.istore_n 2, 1) := g_61 bX6_seed rfl
theorem dX6_seed_5 : decode cX6_seed 5 = .ok (.aload_n 0, 1) := g_42 bX6_seed rfl
theorem dX6_seed_6 : decode cX6_seed 6 = .ok (.iload_n 1, 1) := g_27 bX6_seed rfl
theorem dX6_seed_7 : decode cX6_seed 7 = .ok (.putfield 51, 3) := g_181 bX6_seed rfl
theorem dX6_seed_10 : decode cX6_seed 10 = .ok (.iload_n 2, 1) := g_28 bX6_seed rfl
theorem dX6_seed_11 : decode cX6_seed 11 = .ok (.ireturn, 1) := g_172 bX6_seed rfl
theorem dX6_status_0 : decode cX6_status 0 = .ok (.iload_n 1, 1) := g_27 bX6_status rfl
theorem dX6_status_1 : decode cX6_status 1 = .ok (.tableswitch 131 0 8 #[51, 56, 61, 66, 76, 81, 86, 91, 96], 51) := by decide +kernel
theorem dX6_status_52 : decode cX6_status 52 = .ok (.aload_n 0, 1) := g_42 bX6_status rfl
theorem dX6_status_53 : decode cX6_status 53 = .ok (.getfield 71, 3) := g_180 bX6_status rfl
theorem dX6_status_56 : decode cX6_status 56 = .ok (.ireturn, 1) := g_172 bX6_status rfl
theorem dX6_status_57 : decode cX6_status 57 = .ok (.aload_n 0, 1) := g_42 bX6_status rfl
theorem dX6_status_58 : decode cX6_status 58 = .ok (.invokevirtual 308, 3) := g_182 bX6_status rfl
theorem dX6_status_61 : decode cX6_status 61 = .ok (.ireturn, 1) := g_172 bX6_status rfl
theorem dX6_status_62 : decode cX6_status 62 = .ok (.aload_n 0, 1) := g_42 bX6_status rfl
theorem dX6_status_63 : decode cX6_status 63 = .ok (.getfield 78, 3) := g_180 bX6_status rfl
theorem dX6_status_66 : decode cX6_status 66 = .ok (.ireturn, 1) := g_172 bX6_status rfl
theorem dX6_status_67 : decode cX6_status 67 = .ok (.aload_n 0, 1) := g_42 bX6_status rfl
theorem dX6_status_68 : decode cX6_status 68 = .ok (.getfield 78, 3) := g_180 bX6_status rfl
theorem dX6_status_71 : decode cX6_status 71 = .ok (.aload_n 0, 1) := g_42 bX6_status rfl
theorem dX6_status_72 : decode cX6_status 72 = .ok (.invokevirtual 275, 3) := g_182 bX6_status rfl
theorem dX6_status_75 : decode cX6_status 75 = .ok (.isub, 1) := g_100 bX6_status rfl
theorem dX6_status_76 : decode cX6_status 76 = .ok (.ireturn, 1) := g_172 bX6_status rfl
theorem dX6_status_77 : decode cX6_status 77 = .ok (.aload_n 0, 1) := g_42 bX6_status rfl
theorem dX6_status_78 : decode cX6_status 78 = .ok (.getfield 285, 3) := g_180 bX6_status rfl
theorem dX6_status_81 : decode cX6_status 81 = .ok (.ireturn, 1) := g_172 bX6_status rfl
theorem dX6_status_82 : decode cX6_status 82 = .ok (.aload_n 0, 1) := g_42 bX6_status rfl
theorem dX6_status_83 : decode cX6_status 83 = .ok (.getfield 355, 3) := g_180 bX6_status rfl
theorem dX6_status_86 : decode cX6_status 86 = .ok (.ireturn, 1) := g_172 bX6_status rfl
theorem dX6_status_87 : decode cX6_status 87 = .ok (.aload_n 0, 1) := g_42 bX6_status rfl
theorem dX6_status_88 : decode cX6_status 88 = .ok (.getfield 141, 3) := g_180 bX6_status rfl
theorem dX6_status_91 : decode cX6_status 91 = .ok (.ireturn, 1) := g_172 bX6_status rfl
theorem dX6_status_92 : decode cX6_status 92 = .ok (.aload_n 0, 1) := g_42 bX6_status rfl
theorem dX6_status_93 : decode cX6_status 93 = .ok (.getfield 51, 3) := g_180 bX6_status rfl
theorem dX6_status_96 : decode cX6_status 96 = .ok (.ireturn, 1) := g_172 bX6_status rfl
theorem dX6_status_97 : decode cX6_status 97 = .ok (.iconst 0, 1) := g_3 bX6_status rfl
theorem dX6_status_98 : decode cX6_status 98 = .ok (.istore_n 2, 1) := g_61 bX6_status rfl
theorem dX6_status_99 : decode cX6_status 99 = .ok (.iconst 0, 1) := g_3 bX6_status rfl
theorem dX6_status_100 : decode cX6_status 100 = .ok (.istore_n 3, 1) := g_62 bX6_status rfl
theorem dX6_status_101 : decode cX6_status 101 = .ok (.iload_n 3, 1) := g_29 bX6_status rfl
theorem dX6_status_102 : decode cX6_status 102 = .ok (.bipush 8, 2) := g_16 8 bX6_status rfl rfl
theorem dX6_status_104 : decode cX6_status 104 = .ok (.if_icmp .ge 26, 3) := g_162 26 bX6_status rfl rfl
theorem dX6_status_107 : decode cX6_status 107 = .ok (.iload_n 2, 1) := g_28 bX6_status rfl
theorem dX6_status_108 : decode cX6_status 108 = .ok (.aload_n 0, 1) := g_42 bX6_status rfl
theorem dX6_status_109 : decode cX6_status 109 = .ok (.getfield 7, 3) := g_180 bX6_status rfl
theorem dX6_status_112 : decode cX6_status 112 = .ok (.iload_n 3, 1) := g_29 bX6_status rfl
theorem dX6_status_113 : decode cX6_status 113 = .ok (.iaload, 1) := g_46 bX6_status rfl
theorem dX6_status_114 : decode cX6_status 114 = .ok (.ifCond .eq 7, 3) := g_153 7 bX6_status rfl rfl
theorem dX6_status_117 : decode cX6_status 117 = .ok (.iconst 1, 1) := g_4 bX6_status rfl
theorem dX6_status_118 : decode cX6_status 118 = .ok (.goto 4, 3) := g_167 4 bX6_status rfl rfl
theorem dX6_status_121 : decode cX6_status 121 = .ok (.iconst 0, 1) := g_3 bX6_status rfl
theorem dX6_status_122 : decode cX6_status 122 = .ok (.iadd, 1) := g_96 bX6_status rfl
theorem dX6_status_123 : decode cX6_status 123 = .ok (.istore_n 2, 1) := g_61 bX6_status rfl
theorem dX6_status_124 : decode cX6_status 124 = .ok (.iinc 3 1, 3) := g_132 1 bX6_status rfl rfl
theorem dX6_status_127 : decode cX6_status 127 = .ok (.goto (-26), 3) := g_167 65510 bX6_status rfl rfl
theorem dX6_status_130 : decode cX6_status 130 = .ok (.iload_n 2, 1) := g_28 bX6_status rfl
theorem dX6_status_131 : decode cX6_status 131 = .ok (.ireturn, 1) := g_172 bX6_status rfl
theorem dX6_status_132 : decode cX6_status 132 = .ok (.iload_n 1, 1) := g_27 bX6_status rfl
theorem dX6_status_133 : decode cX6_status 133 = .ok (.i2l, 1) := g_133 bX6_status rfl
theorem dX6_status_134 : decode cX6_status 134 = .ok (.ldc2_w 365, 3) := g_20 bX6_status rfl
theorem dX6_status_137 : decode cX6_status 137 = .ok (.ldc2_w 367, 3) := g_20 bX6_status rfl
theorem dX6_status_140 : decode cX6_status 140 = .ok (.invokestatic 74, 3) := g_184 bX6_status rfl
theorem dX6_status_143 : decode cX6_status 143 = .ok (.ifCond .eq 15, 3) := g_153 15 bX6_status rfl rfl
theorem dX6_status_146 : decode cX6_status 146 = .ok (.aload_n 0, 1) := g_42 bX6_status rfl
theorem dX6_status_147 : decode cX6_status 147 = .ok (.getfield 37, 3) := g_180 bX6_status rfl
theorem dX6_status_150 : decode cX6_status 150 = .ok (.iload_n 1, 1) := g_27 bX6_status rfl
theorem dX6_status_151 : decode cX6_status 151 = .ok (.bipush 10, 2) := g_16 10 bX6_status rfl rfl
theorem dX6_status_153 : decode cX6_status 153 = .ok (.isub, 1) := g_100 bX6_status rfl
theorem dX6_status_154 : decode cX6_status 154 = .ok (.iaload, 1) := g_46 bX6_status rfl
theorem dX6_status_155 : decode cX6_status 155 = .ok (.goto 4, 3) := g_167 4 bX6_status rfl rfl
theorem dX6_status_158 : decode cX6_status 158 = .ok (.iconst (-1), 1) := g_2 bX6_status rfl
theorem dX6_status_159 : decode cX6_status 159 = .ok (.ireturn, 1) := g_172 bX6_status rfl
theorem dX6_keeping_0 : decode cX6_keeping 0 = .ok (.aload_n 0, 1) := g_42 bX6_keeping rfl
theorem dX6_keeping_1 : decode cX6_keeping 1 = .ok (.iload_n 1, 1) := g_27 bX6_keeping rfl
theorem dX6_keeping_2 : decode cX6_keeping 2 = .ok (.i2l, 1) := g_133 bX6_keeping rfl
theorem dX6_keeping_3 : decode cX6_keeping 3 = .ok (.invokevirtual 229, 3) := g_182 bX6_keeping rfl
theorem dX6_keeping_6 : decode cX6_keeping 6 = .ok (.ifCond .eq 17, 3) := g_153 17 bX6_keeping rfl rfl
theorem dX6_keeping_9 : decode cX6_keeping 9 = .ok (.iload_n 2, 1) := g_28 bX6_keeping rfl
theorem dX6_keeping_10 : decode cX6_keeping 10 = .ok (.i2l, 1) := g_133 bX6_keeping rfl
theorem dX6_keeping_11 : decode cX6_keeping 11 = .ok (.ldc2_w 318, 3) := g_20 bX6_keeping rfl
theorem dX6_keeping_14 : decode cX6_keeping 14 = .ok (.ldc2_w 298, 3) := g_20 bX6_keeping rfl
theorem dX6_keeping_17 : decode cX6_keeping 17 = .ok (.invokestatic 74, 3) := g_184 bX6_keeping rfl
theorem dX6_keeping_20 : decode cX6_keeping 20 = .ok (.ifCond .ne 14, 3) := g_154 14 bX6_keeping rfl rfl
theorem dX6_keeping_23 : decode cX6_keeping 23 = .ok (.aload_n 0, 1) := g_42 bX6_keeping rfl
theorem dX6_keeping_24 : decode cX6_keeping 24 = .ok (.bipush (-2), 2) := g_16 254 bX6_keeping rfl rfl
theorem dX6_keeping_26 : decode cX6_keeping 26 = .ok (.invokevirtual 91, 3) := g_182 bX6_keeping rfl
theorem dX6_keeping_29 : decode cX6_keeping 29 = .ok (.ldc_w 311, 3) := g_19 bX6_keeping rfl
theorem dX6_keeping_32 : decode cX6_keeping 32 = .ok (.isub, 1) := g_100 bX6_keeping rfl
theorem dX6_keeping_33 : decode cX6_keeping 33 = .ok (.ireturn, 1) := g_172 bX6_keeping rfl
theorem dX6_keeping_34 : decode cX6_keeping 34 = .ok (.aload_n 0, 1) := g_42 bX6_keeping rfl
theorem dX6_keeping_35 : decode cX6_keeping 35 = .ok (.iload_n 1, 1) := g_27 bX6_keeping rfl
theorem dX6_keeping_36 : decode cX6_keeping 36 = .ok (.invokevirtual 248, 3) := g_182 bX6_keeping rfl
theorem dX6_keeping_39 : decode cX6_keeping 39 = .ok (.ifCond .ne 13, 3) := g_154 13 bX6_keeping rfl rfl
theorem dX6_keeping_42 : decode cX6_keeping 42 = .ok (.aload_n 0, 1) := g_42 bX6_keeping rfl
theorem dX6_keeping_43 : decode cX6_keeping 43 = .ok (.iload_n 1, 1) := g_27 bX6_keeping rfl
theorem dX6_keeping_44 : decode cX6_keeping 44 = .ok (.iload_n 2, 1) := g_28 bX6_keeping rfl
theorem dX6_keeping_45 : decode cX6_keeping 45 = .ok (.invokevirtual 315, 3) := g_182 bX6_keeping rfl
theorem dX6_keeping_48 : decode cX6_keeping 48 = .ok (.iconst (-1), 1) := g_2 bX6_keeping rfl
theorem dX6_keeping_49 : decode cX6_keeping 49 = .ok (.if_icmp .ne 14, 3) := g_160 14 bX6_keeping rfl rfl
theorem dX6_keeping_52 : decode cX6_keeping 52 = .ok (.aload_n 0, 1) := g_42 bX6_keeping rfl
theorem dX6_keeping_53 : decode cX6_keeping 53 = .ok (.bipush (-5), 2) := g_16 251 bX6_keeping rfl rfl
theorem dX6_keeping_55 : decode cX6_keeping 55 = .ok (.invokevirtual 91, 3) := g_182 bX6_keeping rfl
theorem dX6_keeping_58 : decode cX6_keeping 58 = .ok (.ldc_w 311, 3) := g_19 bX6_keeping rfl
theorem dX6_keeping_61 : decode cX6_keeping 61 = .ok (.isub, 1) := g_100 bX6_keeping rfl
theorem dX6_keeping_62 : decode cX6_keeping 62 = .ok (.ireturn, 1) := g_172 bX6_keeping rfl
theorem dX6_keeping_63 : decode cX6_keeping 63 = .ok (.aload_n 0, 1) := g_42 bX6_keeping rfl
theorem dX6_keeping_64 : decode cX6_keeping 64 = .ok (.getfield 320, 3) := g_180 bX6_keeping rfl
theorem dX6_keeping_67 : decode cX6_keeping 67 = .ok (.ifnonnull 14, 3) := g_199 14 bX6_keeping rfl rfl
theorem dX6_keeping_70 : decode cX6_keeping 70 = .ok (.aload_n 0, 1) := g_42 bX6_keeping rfl
theorem dX6_keeping_71 : decode cX6_keeping 71 = .ok (.new 8, 3) := g_187 bX6_keeping rfl
theorem dX6_keeping_74 : decode cX6_keeping 74 = .ok (.dup, 1) := g_89 bX6_keeping rfl
theorem dX6_keeping_75 : decode cX6_keeping 75 = .ok (.invokespecial 291, 3) := g_183 bX6_keeping rfl
theorem dX6_keeping_78 : decode cX6_keeping 78 = .ok (.putfield 320, 3) := g_181 bX6_keeping rfl
theorem dX6_keeping_81 : decode cX6_keeping 81 = .ok (.aload_n 0, 1) := g_42 bX6_keeping rfl
theorem dX6_keeping_82 : decode cX6_keeping 82 = .ok (.getfield 320, 3) := g_180 bX6_keeping rfl
theorem dX6_keeping_85 : decode cX6_keeping 85 = .ok (.aload_n 0, 1) := g_42 bX6_keeping rfl
theorem dX6_keeping_86 : decode cX6_keeping 86 = .ok (.invokevirtual 225, 3) := g_182 bX6_keeping rfl
theorem dX6_keeping_89 : decode cX6_keeping 89 = .ok (.aload_n 0, 1) := g_42 bX6_keeping rfl
theorem dX6_keeping_90 : decode cX6_keeping 90 = .ok (.getfield 320, 3) := g_180 bX6_keeping rfl
theorem dX6_keeping_93 : decode cX6_keeping 93 = .ok (.iconst (-1), 1) := g_2 bX6_keeping rfl
theorem dX6_keeping_94 : decode cX6_keeping 94 = .ok (.iconst 0, 1) := g_3 bX6_keeping rfl
theorem dX6_keeping_95 : decode cX6_keeping 95 = .ok (.iconst 1, 1) := g_4 bX6_keeping rfl
theorem dX6_keeping_96 : decode cX6_keeping 96 = .ok (.invokevirtual 295, 3) := g_182 bX6_keeping rfl
theorem dX6_keeping_99 : decode cX6_keeping 99 = .ok (.istore_n 3, 1) := g_62 bX6_keeping rfl
theorem dX6_keeping_100 : decode cX6_keeping 100 = .ok (.aload_n 0, 1) := g_42 bX6_keeping rfl
theorem dX6_keeping_101 : decode cX6_keeping 101 = .ok (.getfield 320, 3) := g_180 bX6_keeping rfl
theorem dX6_keeping_104 : decode cX6_keeping 104 = .ok (.iload_n 1, 1) := g_27 bX6_keeping rfl
theorem dX6_keeping_105 : decode cX6_keeping 105 = .ok (.iload_n 2, 1) := g_28 bX6_keeping rfl
theorem dX6_keeping_106 : decode cX6_keeping 106 = .ok (.iconst 1, 1) := g_4 bX6_keeping rfl
theorem dX6_keeping_107 : decode cX6_keeping 107 = .ok (.isub, 1) := g_100 bX6_keeping rfl
theorem dX6_keeping_108 : decode cX6_keeping 108 = .ok (.invokevirtual 315, 3) := g_182 bX6_keeping rfl
theorem dX6_keeping_111 : decode cX6_keeping 111 = .ok (.iconst (-1), 1) := g_2 bX6_keeping rfl
theorem dX6_keeping_112 : decode cX6_keeping 112 = .ok (.if_icmp .ne 14, 3) := g_160 14 bX6_keeping rfl rfl
theorem dX6_keeping_115 : decode cX6_keeping 115 = .ok (.aload_n 0, 1) := g_42 bX6_keeping rfl
theorem dX6_keeping_116 : decode cX6_keeping 116 = .ok (.bipush (-5), 2) := g_16 251 bX6_keeping rfl rfl
theorem dX6_keeping_118 : decode cX6_keeping 118 = .ok (.invokevirtual 91, 3) := g_182 bX6_keeping rfl
theorem dX6_keeping_121 : decode cX6_keeping 121 = .ok (.ldc_w 311, 3) := g_19 bX6_keeping rfl
theorem dX6_keeping_124 : decode cX6_keeping 124 = .ok (.isub, 1) := g_100 bX6_keeping rfl
theorem dX6_keeping_125 : decode cX6_keeping 125 = .ok (.ireturn, 1) := g_172 bX6_keeping rfl
theorem dX6_keeping_126 : decode cX6_keeping 126 = .ok (.iload_n 3, 1) := g_29 bX6_keeping rfl
theorem dX6_keeping_127 : decode cX6_keeping 127 = .ok (.aload_n 0, 1) := g_42 bX6_keeping rfl
theorem dX6_keeping_128 : decode cX6_keeping 128 = .ok (.getfield 320, 3) := g_180 bX6_keeping rfl
theorem dX6_keeping_131 : decode cX6_keeping 131 = .ok (.getfield 312, 3) := g_180 bX6_keeping rfl
theorem dX6_keeping_134 : decode cX6_keeping 134 = .ok (.iadd, 1) := g_96 bX6_keeping rfl
theorem dX6_keeping_135 : decode cX6_keeping 135 = .ok (.aload_n 0, 1) := g_42 bX6_keeping rfl
theorem dX6_keeping_136 : decode cX6_keeping 136 = .ok (.getfield 312, 3) := g_180 bX6_keeping rfl
theorem dX6_keeping_139 : decode cX6_keeping 139 = .ok (.isub, 1) := g_100 bX6_keeping rfl
theorem dX6_keeping_140 : decode cX6_keeping 140 = .ok (.ireturn, 1) := g_172 bX6_keeping rfl
theorem dX6_rowsFrom_0 : decode cX6_rowsFrom 0 = .ok (.iload_n 3, 1) := g_29 bX6_rowsFrom rfl
theorem dX6_rowsFrom_1 : decode cX6_rowsFrom 1 = .ok (.iload 4, 2) := g_21 bX6_rowsFrom rfl
theorem dX6_rowsFrom_3 : decode cX6_rowsFrom 3 = .ok (.if_icmp .ne 94, 3) := g_160 94 bX6_rowsFrom rfl rfl
theorem dX6_rowsFrom_6 : decode cX6_rowsFrom 6 = .ok (.iconst 0, 1) := g_3 bX6_rowsFrom rfl
theorem dX6_rowsFrom_7 : decode cX6_rowsFrom 7 = .ok (.istore 6, 2) := g_54 bX6_rowsFrom rfl
theorem dX6_rowsFrom_9 : decode cX6_rowsFrom 9 = .ok (.iconst 0, 1) := g_3 bX6_rowsFrom rfl
theorem dX6_rowsFrom_10 : decode cX6_rowsFrom 10 = .ok (.istore 7, 2) := g_54 bX6_rowsFrom rfl
theorem dX6_rowsFrom_12 : decode cX6_rowsFrom 12 = .ok (.iload 7, 2) := g_21 bX6_rowsFrom rfl
theorem dX6_rowsFrom_14 : decode cX6_rowsFrom 14 = .ok (.aload_n 0, 1) := g_42 bX6_rowsFrom rfl
theorem dX6_rowsFrom_15 : decode cX6_rowsFrom 15 = .ok (.getfield 71, 3) := g_180 bX6_rowsFrom rfl
theorem dX6_rowsFrom_18 : decode cX6_rowsFrom 18 = .ok (.if_icmp .ge 33, 3) := g_162 33 bX6_rowsFrom rfl rfl
theorem dX6_rowsFrom_21 : decode cX6_rowsFrom 21 = .ok (.iload 6, 2) := g_21 bX6_rowsFrom rfl
theorem dX6_rowsFrom_23 : decode cX6_rowsFrom 23 = .ok (.aload_n 0, 1) := g_42 bX6_rowsFrom rfl
theorem dX6_rowsFrom_24 : decode cX6_rowsFrom 24 = .ok (.getfield 42, 3) := g_180 bX6_rowsFrom rfl
theorem dX6_rowsFrom_27 : decode cX6_rowsFrom 27 = .ok (.iload 7, 2) := g_21 bX6_rowsFrom rfl
theorem dX6_rowsFrom_29 : decode cX6_rowsFrom 29 = .ok (.aaload, 1) := g_50 bX6_rowsFrom rfl
theorem dX6_rowsFrom_30 : decode cX6_rowsFrom 30 = .ok (.iconst 0, 1) := g_3 bX6_rowsFrom rfl
theorem dX6_rowsFrom_31 : decode cX6_rowsFrom 31 = .ok (.iaload, 1) := g_46 bX6_rowsFrom rfl
theorem dX6_rowsFrom_32 : decode cX6_rowsFrom 32 = .ok (.aload_n 1, 1) := g_43 bX6_rowsFrom rfl
theorem dX6_rowsFrom_33 : decode cX6_rowsFrom 33 = .ok (.getfield 48, 3) := g_180 bX6_rowsFrom rfl
theorem dX6_rowsFrom_36 : decode cX6_rowsFrom 36 = .ok (.iload_n 2, 1) := g_28 bX6_rowsFrom rfl
theorem dX6_rowsFrom_37 : decode cX6_rowsFrom 37 = .ok (.aaload, 1) := g_50 bX6_rowsFrom rfl
theorem dX6_rowsFrom_38 : decode cX6_rowsFrom 38 = .ok (.iload 7, 2) := g_21 bX6_rowsFrom rfl
theorem dX6_rowsFrom_40 : decode cX6_rowsFrom 40 = .ok (.iaload, 1) := g_46 bX6_rowsFrom rfl
theorem dX6_rowsFrom_41 : decode cX6_rowsFrom 41 = .ok (.imul, 1) := g_104 bX6_rowsFrom rfl
theorem dX6_rowsFrom_42 : decode cX6_rowsFrom 42 = .ok (.iadd, 1) := g_96 bX6_rowsFrom rfl
theorem dX6_rowsFrom_43 : decode cX6_rowsFrom 43 = .ok (.istore 6, 2) := g_54 bX6_rowsFrom rfl
theorem dX6_rowsFrom_45 : decode cX6_rowsFrom 45 = .ok (.iinc 7 1, 3) := g_132 1 bX6_rowsFrom rfl rfl
theorem dX6_rowsFrom_48 : decode cX6_rowsFrom 48 = .ok (.goto (-36), 3) := g_167 65500 bX6_rowsFrom rfl rfl
theorem dX6_rowsFrom_51 : decode cX6_rowsFrom 51 = .ok (.iload 6, 2) := g_21 bX6_rowsFrom rfl
theorem dX6_rowsFrom_53 : decode cX6_rowsFrom 53 = .ok (.aload_n 0, 1) := g_42 bX6_rowsFrom rfl
theorem dX6_rowsFrom_54 : decode cX6_rowsFrom 54 = .ok (.getfield 323, 3) := g_180 bX6_rowsFrom rfl
theorem dX6_rowsFrom_57 : decode cX6_rowsFrom 57 = .ok (.if_icmp .le 39, 3) := g_164 39 bX6_rowsFrom rfl rfl
theorem dX6_rowsFrom_60 : decode cX6_rowsFrom 60 = .ok (.aload_n 0, 1) := g_42 bX6_rowsFrom rfl
theorem dX6_rowsFrom_61 : decode cX6_rowsFrom 61 = .ok (.iload 6, 2) := g_21 bX6_rowsFrom rfl
theorem dX6_rowsFrom_63 : decode cX6_rowsFrom 63 = .ok (.putfield 323, 3) := g_181 bX6_rowsFrom rfl
theorem dX6_rowsFrom_66 : decode cX6_rowsFrom 66 = .ok (.iconst 0, 1) := g_3 bX6_rowsFrom rfl
theorem dX6_rowsFrom_67 : decode cX6_rowsFrom 67 = .ok (.istore 7, 2) := g_54 bX6_rowsFrom rfl
theorem dX6_rowsFrom_69 : decode cX6_rowsFrom 69 = .ok (.iload 7, 2) := g_21 bX6_rowsFrom rfl
theorem dX6_rowsFrom_71 : decode cX6_rowsFrom 71 = .ok (.iload 4, 2) := g_21 bX6_rowsFrom rfl
theorem dX6_rowsFrom_73 : decode cX6_rowsFrom 73 = .ok (.if_icmp .ge 23, 3) := g_162 23 bX6_rowsFrom rfl rfl
theorem dX6_rowsFrom_76 : decode cX6_rowsFrom 76 = .ok (.aload_n 0, 1) := g_42 bX6_rowsFrom rfl
theorem dX6_rowsFrom_77 : decode cX6_rowsFrom 77 = .ok (.getfield 64, 3) := g_180 bX6_rowsFrom rfl
theorem dX6_rowsFrom_80 : decode cX6_rowsFrom 80 = .ok (.iload 7, 2) := g_21 bX6_rowsFrom rfl
theorem dX6_rowsFrom_82 : decode cX6_rowsFrom 82 = .ok (.aload_n 0, 1) := g_42 bX6_rowsFrom rfl
theorem dX6_rowsFrom_83 : decode cX6_rowsFrom 83 = .ok (.getfield 61, 3) := g_180 bX6_rowsFrom rfl
theorem dX6_rowsFrom_86 : decode cX6_rowsFrom 86 = .ok (.iload 7, 2) := g_21 bX6_rowsFrom rfl
theorem dX6_rowsFrom_88 : decode cX6_rowsFrom 88 = .ok (.iaload, 1) := g_46 bX6_rowsFrom rfl
theorem dX6_rowsFrom_89 : decode cX6_rowsFrom 89 = .ok (.iastore, 1) := g_79 bX6_rowsFrom rfl
theorem dX6_rowsFrom_90 : decode cX6_rowsFrom 90 = .ok (.iinc 7 1, 3) := g_132 1 bX6_rowsFrom rfl rfl
theorem dX6_rowsFrom_93 : decode cX6_rowsFrom 93 = .ok (.goto (-24), 3) := g_167 65512 bX6_rowsFrom rfl rfl
theorem dX6_rowsFrom_96 : decode cX6_rowsFrom 96 = .ok (.return_, 1) := g_177 bX6_rowsFrom rfl
theorem dX6_rowsFrom_97 : decode cX6_rowsFrom 97 = .ok (.aload_n 0, 1) := g_42 bX6_rowsFrom rfl
theorem dX6_rowsFrom_98 : decode cX6_rowsFrom 98 = .ok (.getfield 67, 3) := g_180 bX6_rowsFrom rfl
theorem dX6_rowsFrom_101 : decode cX6_rowsFrom 101 = .ok (.iload_n 3, 1) := g_29 bX6_rowsFrom rfl
theorem dX6_rowsFrom_102 : decode cX6_rowsFrom 102 = .ok (.aaload, 1) := g_50 bX6_rowsFrom rfl
theorem dX6_rowsFrom_103 : decode cX6_rowsFrom 103 = .ok (.ifnonnull 16, 3) := g_199 16 bX6_rowsFrom rfl rfl
theorem dX6_rowsFrom_106 : decode cX6_rowsFrom 106 = .ok (.aload_n 0, 1) := g_42 bX6_rowsFrom rfl
theorem dX6_rowsFrom_107 : decode cX6_rowsFrom 107 = .ok (.getfield 67, 3) := g_180 bX6_rowsFrom rfl
theorem dX6_rowsFrom_110 : decode cX6_rowsFrom 110 = .ok (.iload_n 3, 1) := g_29 bX6_rowsFrom rfl
theorem dX6_rowsFrom_111 : decode cX6_rowsFrom 111 = .ok (.new 8, 3) := g_187 bX6_rowsFrom rfl
theorem dX6_rowsFrom_114 : decode cX6_rowsFrom 114 = .ok (.dup, 1) := g_89 bX6_rowsFrom rfl
theorem dX6_rowsFrom_115 : decode cX6_rowsFrom 115 = .ok (.invokespecial 291, 3) := g_183 bX6_rowsFrom rfl
theorem dX6_rowsFrom_118 : decode cX6_rowsFrom 118 = .ok (.aastore, 1) := g_83 bX6_rowsFrom rfl
theorem dX6_rowsFrom_119 : decode cX6_rowsFrom 119 = .ok (.iconst 0, 1) := g_3 bX6_rowsFrom rfl
theorem dX6_rowsFrom_120 : decode cX6_rowsFrom 120 = .ok (.istore 6, 2) := g_54 bX6_rowsFrom rfl
theorem dX6_rowsFrom_122 : decode cX6_rowsFrom 122 = .ok (.iload 6, 2) := g_21 bX6_rowsFrom rfl
theorem dX6_rowsFrom_124 : decode cX6_rowsFrom 124 = .ok (.iload 4, 2) := g_21 bX6_rowsFrom rfl
theorem dX6_rowsFrom_126 : decode cX6_rowsFrom 126 = .ok (.if_icmp .ge 82, 3) := g_162 82 bX6_rowsFrom rfl rfl
theorem dX6_rowsFrom_129 : decode cX6_rowsFrom 129 = .ok (.iload 5, 2) := g_21 bX6_rowsFrom rfl
theorem dX6_rowsFrom_131 : decode cX6_rowsFrom 131 = .ok (.iload 6, 2) := g_21 bX6_rowsFrom rfl
theorem dX6_rowsFrom_133 : decode cX6_rowsFrom 133 = .ok (.ishr, 1) := g_122 bX6_rowsFrom rfl
theorem dX6_rowsFrom_134 : decode cX6_rowsFrom 134 = .ok (.iconst 1, 1) := g_4 bX6_rowsFrom rfl
theorem dX6_rowsFrom_135 : decode cX6_rowsFrom 135 = .ok (.iand, 1) := g_126 bX6_rowsFrom rfl
theorem dX6_rowsFrom_136 : decode cX6_rowsFrom 136 = .ok (.ifCond .ne 66, 3) := g_154 66 bX6_rowsFrom rfl rfl
theorem dX6_rowsFrom_139 : decode cX6_rowsFrom 139 = .ok (.aload_n 0, 1) := g_42 bX6_rowsFrom rfl
theorem dX6_rowsFrom_140 : decode cX6_rowsFrom 140 = .ok (.getfield 67, 3) := g_180 bX6_rowsFrom rfl
theorem dX6_rowsFrom_143 : decode cX6_rowsFrom 143 = .ok (.iload_n 3, 1) := g_29 bX6_rowsFrom rfl
theorem dX6_rowsFrom_144 : decode cX6_rowsFrom 144 = .ok (.aaload, 1) := g_50 bX6_rowsFrom rfl
theorem dX6_rowsFrom_145 : decode cX6_rowsFrom 145 = .ok (.aload_n 1, 1) := g_43 bX6_rowsFrom rfl
theorem dX6_rowsFrom_146 : decode cX6_rowsFrom 146 = .ok (.invokevirtual 225, 3) := g_182 bX6_rowsFrom rfl
theorem dX6_rowsFrom_149 : decode cX6_rowsFrom 149 = .ok (.aload_n 0, 1) := g_42 bX6_rowsFrom rfl
theorem dX6_rowsFrom_150 : decode cX6_rowsFrom 150 = .ok (.getfield 67, 3) := g_180 bX6_rowsFrom rfl
theorem dX6_rowsFrom_153 : decode cX6_rowsFrom 153 = .ok (.iload_n 3, 1) := g_29 bX6_rowsFrom rfl
theorem dX6_rowsFrom_154 : decode cX6_rowsFrom 154 = .ok (.aaload, 1) := g_50 bX6_rowsFrom rfl
theorem dX6_rowsFrom_155 : decode cX6_rowsFrom 155 = .ok (.iload_n 2, 1) := g_28 bX6_rowsFrom rfl
theorem dX6_rowsFrom_156 : decode cX6_rowsFrom 156 = .ok (.aload_n 0, 1) := g_42 bX6_rowsFrom rfl
theorem dX6_rowsFrom_157 : decode cX6_rowsFrom 157 = .ok (.getfield 58, 3) := g_180 bX6_rowsFrom rfl
theorem dX6_rowsFrom_160 : decode cX6_rowsFrom 160 = .ok (.iload 6, 2) := g_21 bX6_rowsFrom rfl
theorem dX6_rowsFrom_162 : decode cX6_rowsFrom 162 = .ok (.iaload, 1) := g_46 bX6_rowsFrom rfl
theorem dX6_rowsFrom_163 : decode cX6_rowsFrom 163 = .ok (.invokevirtual 257, 3) := g_182 bX6_rowsFrom rfl
theorem dX6_rowsFrom_166 : decode cX6_rowsFrom 166 = .ok (.aload_n 0, 1) := g_42 bX6_rowsFrom rfl
theorem dX6_rowsFrom_167 : decode cX6_rowsFrom 167 = .ok (.getfield 61, 3) := g_180 bX6_rowsFrom rfl
theorem dX6_rowsFrom_170 : decode cX6_rowsFrom 170 = .ok (.iload_n 3, 1) := g_29 bX6_rowsFrom rfl
theorem dX6_rowsFrom_171 : decode cX6_rowsFrom 171 = .ok (.aload_n 0, 1) := g_42 bX6_rowsFrom rfl
theorem dX6_rowsFrom_172 : decode cX6_rowsFrom 172 = .ok (.getfield 58, 3) := g_180 bX6_rowsFrom rfl
theorem dX6_rowsFrom_175 : decode cX6_rowsFrom 175 = .ok (.iload 6, 2) := g_21 bX6_rowsFrom rfl
theorem dX6_rowsFrom_177 : decode cX6_rowsFrom 177 = .ok (.iaload, 1) := g_46 bX6_rowsFrom rfl
theorem dX6_rowsFrom_178 : decode cX6_rowsFrom 178 = .ok (.iastore, 1) := g_79 bX6_rowsFrom rfl
theorem dX6_rowsFrom_179 : decode cX6_rowsFrom 179 = .ok (.aload_n 0, 1) := g_42 bX6_rowsFrom rfl
theorem dX6_rowsFrom_180 : decode cX6_rowsFrom 180 = .ok (.aload_n 0, 1) := g_42 bX6_rowsFrom rfl
theorem dX6_rowsFrom_181 : decode cX6_rowsFrom 181 = .ok (.getfield 67, 3) := g_180 bX6_rowsFrom rfl
theorem dX6_rowsFrom_184 : decode cX6_rowsFrom 184 = .ok (.iload_n 3, 1) := g_29 bX6_rowsFrom rfl
theorem dX6_rowsFrom_185 : decode cX6_rowsFrom 185 = .ok (.aaload, 1) := g_50 bX6_rowsFrom rfl
theorem dX6_rowsFrom_186 : decode cX6_rowsFrom 186 = .ok (.iload_n 2, 1) := g_28 bX6_rowsFrom rfl
theorem dX6_rowsFrom_187 : decode cX6_rowsFrom 187 = .ok (.iload_n 3, 1) := g_29 bX6_rowsFrom rfl
theorem dX6_rowsFrom_188 : decode cX6_rowsFrom 188 = .ok (.iconst 1, 1) := g_4 bX6_rowsFrom rfl
theorem dX6_rowsFrom_189 : decode cX6_rowsFrom 189 = .ok (.iadd, 1) := g_96 bX6_rowsFrom rfl
theorem dX6_rowsFrom_190 : decode cX6_rowsFrom 190 = .ok (.iload 4, 2) := g_21 bX6_rowsFrom rfl
theorem dX6_rowsFrom_192 : decode cX6_rowsFrom 192 = .ok (.iload 5, 2) := g_21 bX6_rowsFrom rfl
theorem dX6_rowsFrom_194 : decode cX6_rowsFrom 194 = .ok (.iconst 1, 1) := g_4 bX6_rowsFrom rfl
theorem dX6_rowsFrom_195 : decode cX6_rowsFrom 195 = .ok (.iload 6, 2) := g_21 bX6_rowsFrom rfl
theorem dX6_rowsFrom_197 : decode cX6_rowsFrom 197 = .ok (.ishl, 1) := g_120 bX6_rowsFrom rfl
theorem dX6_rowsFrom_198 : decode cX6_rowsFrom 198 = .ok (.ior, 1) := g_128 bX6_rowsFrom rfl
theorem dX6_rowsFrom_199 : decode cX6_rowsFrom 199 = .ok (.invokevirtual 326, 3) := g_182 bX6_rowsFrom rfl
theorem dX6_rowsFrom_202 : decode cX6_rowsFrom 202 = .ok (.iinc 6 1, 3) := g_132 1 bX6_rowsFrom rfl rfl
theorem dX6_rowsFrom_205 : decode cX6_rowsFrom 205 = .ok (.goto (-83), 3) := g_167 65453 bX6_rowsFrom rfl rfl
theorem dX6_rowsFrom_208 : decode cX6_rowsFrom 208 = .ok (.return_, 1) := g_177 bX6_rowsFrom rfl
theorem dX6_order_0 : decode cX6_order 0 = .ok (.iconst 0, 1) := g_3 bX6_order rfl
theorem dX6_order_1 : decode cX6_order 1 = .ok (.istore_n 3, 1) := g_62 bX6_order rfl
theorem dX6_order_2 : decode cX6_order 2 = .ok (.iconst 0, 1) := g_3 bX6_order rfl
theorem dX6_order_3 : decode cX6_order 3 = .ok (.istore 4, 2) := g_54 bX6_order rfl
theorem dX6_order_5 : decode cX6_order 5 = .ok (.iload 4, 2) := g_21 bX6_order rfl
theorem dX6_order_7 : decode cX6_order 7 = .ok (.aload_n 0, 1) := g_42 bX6_order rfl
theorem dX6_order_8 : decode cX6_order 8 = .ok (.getfield 71, 3) := g_180 bX6_order rfl
theorem dX6_order_11 : decode cX6_order 11 = .ok (.if_icmp .ge 29, 3) := g_162 29 bX6_order rfl rfl
theorem dX6_order_14 : decode cX6_order 14 = .ok (.aload_n 0, 1) := g_42 bX6_order rfl
theorem dX6_order_15 : decode cX6_order 15 = .ok (.iload 4, 2) := g_21 bX6_order rfl
theorem dX6_order_17 : decode cX6_order 17 = .ok (.invokevirtual 248, 3) := g_182 bX6_order rfl
theorem dX6_order_20 : decode cX6_order 20 = .ok (.ifCond .ne 14, 3) := g_154 14 bX6_order rfl rfl
theorem dX6_order_23 : decode cX6_order 23 = .ok (.aload_n 0, 1) := g_42 bX6_order rfl
theorem dX6_order_24 : decode cX6_order 24 = .ok (.getfield 58, 3) := g_180 bX6_order rfl
theorem dX6_order_27 : decode cX6_order 27 = .ok (.iload_n 3, 1) := g_29 bX6_order rfl
theorem dX6_order_28 : decode cX6_order 28 = .ok (.iinc 3 1, 3) := g_132 1 bX6_order rfl rfl
theorem dX6_order_31 : decode cX6_order 31 = .ok (.iload 4, 2) := g_21 bX6_order rfl
theorem dX6_order_33 : decode cX6_order 33 = .ok (.iastore, 1) := g_79 bX6_order rfl
theorem dX6_order_34 : decode cX6_order 34 = .ok (.iinc 4 1, 3) := g_132 1 bX6_order rfl rfl
theorem dX6_order_37 : decode cX6_order 37 = .ok (.goto (-32), 3) := g_167 65504 bX6_order rfl rfl
theorem dX6_order_40 : decode cX6_order 40 = .ok (.aload_n 0, 1) := g_42 bX6_order rfl
theorem dX6_order_41 : decode cX6_order 41 = .ok (.iload_n 1, 1) := g_27 bX6_order rfl
theorem dX6_order_42 : decode cX6_order 42 = .ok (.i2l, 1) := g_133 bX6_order rfl
theorem dX6_order_43 : decode cX6_order 43 = .ok (.invokevirtual 236, 3) := g_182 bX6_order rfl
theorem dX6_order_46 : decode cX6_order 46 = .ok (.ifCond .eq 18, 3) := g_153 18 bX6_order rfl rfl
theorem dX6_order_49 : decode cX6_order 49 = .ok (.iload_n 2, 1) := g_28 bX6_order rfl
theorem dX6_order_50 : decode cX6_order 50 = .ok (.i2l, 1) := g_133 bX6_order rfl
theorem dX6_order_51 : decode cX6_order 51 = .ok (.ldc2_w 330, 3) := g_20 bX6_order rfl
theorem dX6_order_54 : decode cX6_order 54 = .ok (.iload_n 3, 1) := g_29 bX6_order rfl
theorem dX6_order_55 : decode cX6_order 55 = .ok (.iconst 1, 1) := g_4 bX6_order rfl
theorem dX6_order_56 : decode cX6_order 56 = .ok (.isub, 1) := g_100 bX6_order rfl
theorem dX6_order_57 : decode cX6_order 57 = .ok (.i2l, 1) := g_133 bX6_order rfl
theorem dX6_order_58 : decode cX6_order 58 = .ok (.invokestatic 74, 3) := g_184 bX6_order rfl
theorem dX6_order_61 : decode cX6_order 61 = .ok (.ifCond .ne 10, 3) := g_154 10 bX6_order rfl rfl
theorem dX6_order_64 : decode cX6_order 64 = .ok (.aload_n 0, 1) := g_42 bX6_order rfl
theorem dX6_order_65 : decode cX6_order 65 = .ok (.bipush (-2), 2) := g_16 254 bX6_order rfl rfl
theorem dX6_order_67 : decode cX6_order 67 = .ok (.invokevirtual 91, 3) := g_182 bX6_order rfl
theorem dX6_order_70 : decode cX6_order 70 = .ok (.ireturn, 1) := g_172 bX6_order rfl
theorem dX6_order_71 : decode cX6_order 71 = .ok (.aload_n 0, 1) := g_42 bX6_order rfl
theorem dX6_order_72 : decode cX6_order 72 = .ok (.iload_n 1, 1) := g_27 bX6_order rfl
theorem dX6_order_73 : decode cX6_order 73 = .ok (.invokevirtual 81, 3) := g_182 bX6_order rfl
theorem dX6_order_76 : decode cX6_order 76 = .ok (.ifCond .eq 8, 3) := g_153 8 bX6_order rfl rfl
theorem dX6_order_79 : decode cX6_order 79 = .ok (.iload_n 3, 1) := g_29 bX6_order rfl
theorem dX6_order_80 : decode cX6_order 80 = .ok (.iconst 5, 1) := g_8 bX6_order rfl
theorem dX6_order_81 : decode cX6_order 81 = .ok (.if_icmp .le 10, 3) := g_164 10 bX6_order rfl rfl
theorem dX6_order_84 : decode cX6_order 84 = .ok (.aload_n 0, 1) := g_42 bX6_order rfl
theorem dX6_order_85 : decode cX6_order 85 = .ok (.bipush (-5), 2) := g_16 251 bX6_order rfl rfl
theorem dX6_order_87 : decode cX6_order 87 = .ok (.invokevirtual 91, 3) := g_182 bX6_order rfl
theorem dX6_order_90 : decode cX6_order 90 = .ok (.ireturn, 1) := g_172 bX6_order rfl
theorem dX6_order_91 : decode cX6_order 91 = .ok (.aload_n 0, 1) := g_42 bX6_order rfl
theorem dX6_order_92 : decode cX6_order 92 = .ok (.iconst (-1), 1) := g_2 bX6_order rfl
theorem dX6_order_93 : decode cX6_order 93 = .ok (.putfield 323, 3) := g_181 bX6_order rfl
theorem dX6_order_96 : decode cX6_order 96 = .ok (.aload_n 0, 1) := g_42 bX6_order rfl
theorem dX6_order_97 : decode cX6_order 97 = .ok (.aload_n 0, 1) := g_42 bX6_order rfl
theorem dX6_order_98 : decode cX6_order 98 = .ok (.iload_n 1, 1) := g_27 bX6_order rfl
theorem dX6_order_99 : decode cX6_order 99 = .ok (.iconst 0, 1) := g_3 bX6_order rfl
theorem dX6_order_100 : decode cX6_order 100 = .ok (.iload_n 3, 1) := g_29 bX6_order rfl
theorem dX6_order_101 : decode cX6_order 101 = .ok (.iconst 0, 1) := g_3 bX6_order rfl
theorem dX6_order_102 : decode cX6_order 102 = .ok (.invokevirtual 326, 3) := g_182 bX6_order rfl
theorem dX6_order_105 : decode cX6_order 105 = .ok (.iload_n 2, 1) := g_28 bX6_order rfl
theorem dX6_order_106 : decode cX6_order 106 = .ok (.iconst (-1), 1) := g_2 bX6_order rfl
theorem dX6_order_107 : decode cX6_order 107 = .ok (.if_icmp .ne 10, 3) := g_160 10 bX6_order rfl rfl
theorem dX6_order_110 : decode cX6_order 110 = .ok (.aload_n 0, 1) := g_42 bX6_order rfl
theorem dX6_order_111 : decode cX6_order 111 = .ok (.getfield 323, 3) := g_180 bX6_order rfl
theorem dX6_order_114 : decode cX6_order 114 = .ok (.goto 9, 3) := g_167 9 bX6_order rfl rfl
theorem dX6_order_117 : decode cX6_order 117 = .ok (.aload_n 0, 1) := g_42 bX6_order rfl
theorem dX6_order_118 : decode cX6_order 118 = .ok (.getfield 64, 3) := g_180 bX6_order rfl
theorem dX6_order_121 : decode cX6_order 121 = .ok (.iload_n 2, 1) := g_28 bX6_order rfl
theorem dX6_order_122 : decode cX6_order 122 = .ok (.iaload, 1) := g_46 bX6_order rfl
theorem dX6_order_123 : decode cX6_order 123 = .ok (.ireturn, 1) := g_172 bX6_order rfl
theorem dX0_init_0 : decode cX0_init 0 = .ok (.aload_n 0, 1) := g_42 bX0_init rfl
theorem dX0_init_1 : decode cX0_init 1 = .ok (.invokespecial 3, 3) := g_183 bX0_init rfl
theorem dX0_init_4 : decode cX0_init 4 = .ok (.aload_n 0, 1) := g_42 bX0_init rfl
theorem dX0_init_5 : decode cX0_init 5 = .ok (.new 9, 3) := g_187 bX0_init rfl
theorem dX0_init_8 : decode cX0_init 8 = .ok (.dup, 1) := g_89 bX0_init rfl
theorem dX0_init_9 : decode cX0_init 9 = .ok (.invokespecial 11, 3) := g_183 bX0_init rfl
theorem dX0_init_12 : decode cX0_init 12 = .ok (.putfield 12, 3) := g_181 bX0_init rfl
theorem dX0_init_15 : decode cX0_init 15 = .ok (.aload_n 0, 1) := g_42 bX0_init rfl
theorem dX0_init_16 : decode cX0_init 16 = .ok (.new 9, 3) := g_187 bX0_init rfl
theorem dX0_init_19 : decode cX0_init 19 = .ok (.dup, 1) := g_89 bX0_init rfl
theorem dX0_init_20 : decode cX0_init 20 = .ok (.invokespecial 11, 3) := g_183 bX0_init rfl
theorem dX0_init_23 : decode cX0_init 23 = .ok (.putfield 18, 3) := g_181 bX0_init rfl
theorem dX0_init_26 : decode cX0_init 26 = .ok (.return_, 1) := g_177 bX0_init rfl
theorem dX2_init_0 : decode cX2_init 0 = .ok (.aload_n 0, 1) := g_42 bX2_init rfl
theorem dX2_init_1 : decode cX2_init 1 = .ok (.invokespecial 3, 3) := g_183 bX2_init rfl
theorem dX2_init_4 : decode cX2_init 4 = .ok (.aload_n 0, 1) := g_42 bX2_init rfl
theorem dX2_init_5 : decode cX2_init 5 = .ok (.bipush 8, 2) := g_16 8 bX2_init rfl rfl
theorem dX2_init_7 : decode cX2_init 7 = .ok (.newarray .int, 2) := g_na10 bX2_init rfl
theorem dX2_init_9 : decode cX2_init 9 = .ok (.putfield 9, 3) := g_181 bX2_init rfl
theorem dX2_init_12 : decode cX2_init 12 = .ok (.aload_n 0, 1) := g_42 bX2_init rfl
theorem dX2_init_13 : decode cX2_init 13 = .ok (.bipush 8, 2) := g_16 8 bX2_init rfl rfl
theorem dX2_init_15 : decode cX2_init 15 = .ok (.newarray .int, 2) := g_na10 bX2_init rfl
theorem dX2_init_17 : decode cX2_init 17 = .ok (.putfield 15, 3) := g_181 bX2_init rfl
theorem dX2_init_20 : decode cX2_init 20 = .ok (.aload_n 0, 1) := g_42 bX2_init rfl
theorem dX2_init_21 : decode cX2_init 21 = .ok (.bipush 8, 2) := g_16 8 bX2_init rfl rfl
theorem dX2_init_23 : decode cX2_init 23 = .ok (.newarray .int, 2) := g_na10 bX2_init rfl
theorem dX2_init_25 : decode cX2_init 25 = .ok (.putfield 18, 3) := g_181 bX2_init rfl
theorem dX2_init_28 : decode cX2_init 28 = .ok (.aload_n 0, 1) := g_42 bX2_init rfl
theorem dX2_init_29 : decode cX2_init 29 = .ok (.sipush 320, 3) := g_17 320 bX2_init rfl rfl
theorem dX2_init_32 : decode cX2_init 32 = .ok (.newarray .long, 2) := g_na11 bX2_init rfl
theorem dX2_init_34 : decode cX2_init 34 = .ok (.putfield 21, 3) := g_181 bX2_init rfl
theorem dX2_init_37 : decode cX2_init 37 = .ok (.iconst 0, 1) := g_3 bX2_init rfl
theorem dX2_init_38 : decode cX2_init 38 = .ok (.istore_n 1, 1) := g_60 bX2_init rfl
theorem dX2_init_39 : decode cX2_init 39 = .ok (.iload_n 1, 1) := g_27 bX2_init rfl
theorem dX2_init_40 : decode cX2_init 40 = .ok (.bipush 8, 2) := g_16 8 bX2_init rfl rfl
theorem dX2_init_42 : decode cX2_init 42 = .ok (.if_icmp .ge 16, 3) := g_162 16 bX2_init rfl rfl
theorem dX2_init_45 : decode cX2_init 45 = .ok (.aload_n 0, 1) := g_42 bX2_init rfl
theorem dX2_init_46 : decode cX2_init 46 = .ok (.getfield 9, 3) := g_180 bX2_init rfl
theorem dX2_init_49 : decode cX2_init 49 = .ok (.iload_n 1, 1) := g_27 bX2_init rfl
theorem dX2_init_50 : decode cX2_init 50 = .ok (.iconst (-1), 1) := g_2 bX2_init rfl
theorem dX2_init_51 : decode cX2_init 51 = .ok (.iastore, 1) := g_79 bX2_init rfl
theorem dX2_init_52 : decode cX2_init 52 = .ok (.iinc 1 1, 3) := g_132 1 bX2_init rfl rfl
theorem dX2_init_55 : decode cX2_init 55 = .ok (.goto (-16), 3) := g_167 65520 bX2_init rfl rfl
theorem dX2_init_58 : decode cX2_init 58 = .ok (.return_, 1) := g_177 bX2_init rfl
theorem dX3_init_0 : decode cX3_init 0 = .ok (.aload_n 0, 1) := g_42 bX3_init rfl
theorem dX3_init_1 : decode cX3_init 1 = .ok (.invokespecial 3, 3) := g_183 bX3_init rfl
theorem dX3_init_4 : decode cX3_init 4 = .ok (.aload_n 0, 1) := g_42 bX3_init rfl
theorem dX3_init_5 : decode cX3_init 5 = .ok (.sipush 250, 3) := g_17 250 bX3_init rfl rfl
theorem dX3_init_8 : decode cX3_init 8 = .ok (.newarray .byte, 2) := g_na8 bX3_init rfl
theorem dX3_init_10 : decode cX3_init 10 = .ok (.putfield 11, 3) := g_181 bX3_init rfl
theorem dX3_init_13 : decode cX3_init 13 = .ok (.aload_n 0, 1) := g_42 bX3_init rfl
theorem dX3_init_14 : decode cX3_init 14 = .ok (.new 15, 3) := g_187 bX3_init rfl
theorem dX3_init_17 : decode cX3_init 17 = .ok (.dup, 1) := g_89 bX3_init rfl
theorem dX3_init_18 : decode cX3_init 18 = .ok (.invokespecial 17, 3) := g_183 bX3_init rfl
theorem dX3_init_21 : decode cX3_init 21 = .ok (.putfield 18, 3) := g_181 bX3_init rfl
theorem dX3_init_24 : decode cX3_init 24 = .ok (.return_, 1) := g_177 bX3_init rfl
theorem dX4_init_0 : decode cX4_init 0 = .ok (.aload_n 0, 1) := g_42 bX4_init rfl
theorem dX4_init_1 : decode cX4_init 1 = .ok (.invokespecial 3, 3) := g_183 bX4_init rfl
theorem dX4_init_4 : decode cX4_init 4 = .ok (.aload_n 0, 1) := g_42 bX4_init rfl
theorem dX4_init_5 : decode cX4_init 5 = .ok (.iconst 1, 1) := g_4 bX4_init rfl
theorem dX4_init_6 : decode cX4_init 6 = .ok (.putfield 9, 3) := g_181 bX4_init rfl
theorem dX4_init_9 : decode cX4_init 9 = .ok (.aload_n 0, 1) := g_42 bX4_init rfl
theorem dX4_init_10 : decode cX4_init 10 = .ok (.bipush 8, 2) := g_16 8 bX4_init rfl rfl
theorem dX4_init_12 : decode cX4_init 12 = .ok (.newarray .int, 2) := g_na10 bX4_init rfl
theorem dX4_init_14 : decode cX4_init 14 = .ok (.putfield 15, 3) := g_181 bX4_init rfl
theorem dX4_init_17 : decode cX4_init 17 = .ok (.aload_n 0, 1) := g_42 bX4_init rfl
theorem dX4_init_18 : decode cX4_init 18 = .ok (.bipush 8, 2) := g_16 8 bX4_init rfl rfl
theorem dX4_init_20 : decode cX4_init 20 = .ok (.newarray .int, 2) := g_na10 bX4_init rfl
theorem dX4_init_22 : decode cX4_init 22 = .ok (.putfield 19, 3) := g_181 bX4_init rfl
theorem dX4_init_25 : decode cX4_init 25 = .ok (.aload_n 0, 1) := g_42 bX4_init rfl
theorem dX4_init_26 : decode cX4_init 26 = .ok (.bipush 8, 2) := g_16 8 bX4_init rfl rfl
theorem dX4_init_28 : decode cX4_init 28 = .ok (.newarray .int, 2) := g_na10 bX4_init rfl
theorem dX4_init_30 : decode cX4_init 30 = .ok (.putfield 22, 3) := g_181 bX4_init rfl
theorem dX4_init_33 : decode cX4_init 33 = .ok (.aload_n 0, 1) := g_42 bX4_init rfl
theorem dX4_init_34 : decode cX4_init 34 = .ok (.bipush 8, 2) := g_16 8 bX4_init rfl rfl
theorem dX4_init_36 : decode cX4_init 36 = .ok (.newarray .int, 2) := g_na10 bX4_init rfl
theorem dX4_init_38 : decode cX4_init 38 = .ok (.putfield 25, 3) := g_181 bX4_init rfl
theorem dX4_init_41 : decode cX4_init 41 = .ok (.aload_n 0, 1) := g_42 bX4_init rfl
theorem dX4_init_42 : decode cX4_init 42 = .ok (.bipush 8, 2) := g_16 8 bX4_init rfl rfl
theorem dX4_init_44 : decode cX4_init 44 = .ok (.newarray .int, 2) := g_na10 bX4_init rfl
theorem dX4_init_46 : decode cX4_init 46 = .ok (.putfield 28, 3) := g_181 bX4_init rfl
theorem dX4_init_49 : decode cX4_init 49 = .ok (.aload_n 0, 1) := g_42 bX4_init rfl
theorem dX4_init_50 : decode cX4_init 50 = .ok (.bipush 8, 2) := g_16 8 bX4_init rfl rfl
theorem dX4_init_52 : decode cX4_init 52 = .ok (.newarray .int, 2) := g_na10 bX4_init rfl
theorem dX4_init_54 : decode cX4_init 54 = .ok (.putfield 31, 3) := g_181 bX4_init rfl
theorem dX4_init_57 : decode cX4_init 57 = .ok (.aload_n 0, 1) := g_42 bX4_init rfl
theorem dX4_init_58 : decode cX4_init 58 = .ok (.bipush 8, 2) := g_16 8 bX4_init rfl rfl
theorem dX4_init_60 : decode cX4_init 60 = .ok (.newarray .int, 2) := g_na10 bX4_init rfl
theorem dX4_init_62 : decode cX4_init 62 = .ok (.putfield 34, 3) := g_181 bX4_init rfl
theorem dX4_init_65 : decode cX4_init 65 = .ok (.aload_n 0, 1) := g_42 bX4_init rfl
theorem dX4_init_66 : decode cX4_init 66 = .ok (.bipush 64, 2) := g_16 64 bX4_init rfl rfl
theorem dX4_init_68 : decode cX4_init 68 = .ok (.newarray .int, 2) := g_na10 bX4_init rfl
theorem dX4_init_70 : decode cX4_init 70 = .ok (.putfield 37, 3) := g_181 bX4_init rfl
theorem dX4_init_73 : decode cX4_init 73 = .ok (.return_, 1) := g_177 bX4_init rfl
theorem dX5_init_0 : decode cX5_init 0 = .ok (.aload_n 0, 1) := g_42 bX5_init rfl
theorem dX5_init_1 : decode cX5_init 1 = .ok (.invokespecial 1, 3) := g_183 bX5_init rfl
theorem dX5_init_4 : decode cX5_init 4 = .ok (.aload_n 0, 1) := g_42 bX5_init rfl
theorem dX5_init_5 : decode cX5_init 5 = .ok (.new 7, 3) := g_187 bX5_init rfl
theorem dX5_init_8 : decode cX5_init 8 = .ok (.dup, 1) := g_89 bX5_init rfl
theorem dX5_init_9 : decode cX5_init 9 = .ok (.invokespecial 9, 3) := g_183 bX5_init rfl
theorem dX5_init_12 : decode cX5_init 12 = .ok (.putfield 10, 3) := g_181 bX5_init rfl
theorem dX5_init_15 : decode cX5_init 15 = .ok (.aload_n 0, 1) := g_42 bX5_init rfl
theorem dX5_init_16 : decode cX5_init 16 = .ok (.new 7, 3) := g_187 bX5_init rfl
theorem dX5_init_19 : decode cX5_init 19 = .ok (.dup, 1) := g_89 bX5_init rfl
theorem dX5_init_20 : decode cX5_init 20 = .ok (.invokespecial 9, 3) := g_183 bX5_init rfl
theorem dX5_init_23 : decode cX5_init 23 = .ok (.putfield 16, 3) := g_181 bX5_init rfl
theorem dX5_init_26 : decode cX5_init 26 = .ok (.aload_n 0, 1) := g_42 bX5_init rfl
theorem dX5_init_27 : decode cX5_init 27 = .ok (.new 19, 3) := g_187 bX5_init rfl
theorem dX5_init_30 : decode cX5_init 30 = .ok (.dup, 1) := g_89 bX5_init rfl
theorem dX5_init_31 : decode cX5_init 31 = .ok (.invokespecial 21, 3) := g_183 bX5_init rfl
theorem dX5_init_34 : decode cX5_init 34 = .ok (.putfield 22, 3) := g_181 bX5_init rfl
theorem dX5_init_37 : decode cX5_init 37 = .ok (.aload_n 0, 1) := g_42 bX5_init rfl
theorem dX5_init_38 : decode cX5_init 38 = .ok (.new 26, 3) := g_187 bX5_init rfl
theorem dX5_init_41 : decode cX5_init 41 = .ok (.dup, 1) := g_89 bX5_init rfl
theorem dX5_init_42 : decode cX5_init 42 = .ok (.invokespecial 28, 3) := g_183 bX5_init rfl
theorem dX5_init_45 : decode cX5_init 45 = .ok (.putfield 29, 3) := g_181 bX5_init rfl
theorem dX5_init_48 : decode cX5_init 48 = .ok (.aload_n 0, 1) := g_42 bX5_init rfl
theorem dX5_init_49 : decode cX5_init 49 = .ok (.new 33, 3) := g_187 bX5_init rfl
theorem dX5_init_52 : decode cX5_init 52 = .ok (.dup, 1) := g_89 bX5_init rfl
theorem dX5_init_53 : decode cX5_init 53 = .ok (.invokespecial 35, 3) := g_183 bX5_init rfl
theorem dX5_init_56 : decode cX5_init 56 = .ok (.putfield 36, 3) := g_181 bX5_init rfl
theorem dX5_init_59 : decode cX5_init 59 = .ok (.aload_n 0, 1) := g_42 bX5_init rfl
theorem dX5_init_60 : decode cX5_init 60 = .ok (.iconst 5, 1) := g_8 bX5_init rfl
theorem dX5_init_61 : decode cX5_init 61 = .ok (.newarray .int, 2) := g_na10 bX5_init rfl
theorem dX5_init_63 : decode cX5_init 63 = .ok (.putfield 40, 3) := g_181 bX5_init rfl
theorem dX5_init_66 : decode cX5_init 66 = .ok (.return_, 1) := g_177 bX5_init rfl
theorem dL_law_244 : decode cL_law 244 = .ok (.aload_n 1, 1) := g_43 bL_law rfl
theorem dL_law_245 : decode cL_law 245 = .ok (.aload_n 0, 1) := g_42 bL_law rfl
theorem dL_law_246 : decode cL_law 246 = .ok (.iload_n 3, 1) := g_29 bL_law rfl
theorem dL_law_247 : decode cL_law 247 = .ok (.iconst 1, 1) := g_4 bL_law rfl
theorem dL_law_248 : decode cL_law 248 = .ok (.iadd, 1) := g_96 bL_law rfl
theorem dL_law_249 : decode cL_law 249 = .ok (.iaload, 1) := g_46 bL_law rfl
theorem dL_law_250 : decode cL_law 250 = .ok (.aload_n 0, 1) := g_42 bL_law rfl
theorem dL_law_251 : decode cL_law 251 = .ok (.iload_n 3, 1) := g_29 bL_law rfl
theorem dL_law_252 : decode cL_law 252 = .ok (.iconst 2, 1) := g_5 bL_law rfl
theorem dL_law_253 : decode cL_law 253 = .ok (.iadd, 1) := g_96 bL_law rfl
theorem dL_law_254 : decode cL_law 254 = .ok (.iaload, 1) := g_46 bL_law rfl
theorem dL_law_255 : decode cL_law 255 = .ok (.aload_n 0, 1) := g_42 bL_law rfl
theorem dL_law_256 : decode cL_law 256 = .ok (.iload_n 3, 1) := g_29 bL_law rfl
theorem dL_law_257 : decode cL_law 257 = .ok (.iconst 3, 1) := g_6 bL_law rfl
theorem dL_law_258 : decode cL_law 258 = .ok (.iadd, 1) := g_96 bL_law rfl
theorem dL_law_259 : decode cL_law 259 = .ok (.iaload, 1) := g_46 bL_law rfl
theorem dL_law_260 : decode cL_law 260 = .ok (.invokevirtual 13, 3) := g_182 bL_law rfl
theorem dL_law_263 : decode cL_law 263 = .ok (.pop, 1) := g_87 bL_law rfl
theorem dL_law_264 : decode cL_law 264 = .ok (.aload_n 2, 1) := g_44 bL_law rfl
theorem dL_law_265 : decode cL_law 265 = .ok (.aload_n 0, 1) := g_42 bL_law rfl
theorem dL_law_266 : decode cL_law 266 = .ok (.iload_n 3, 1) := g_29 bL_law rfl
theorem dL_law_267 : decode cL_law 267 = .ok (.iconst 1, 1) := g_4 bL_law rfl
theorem dL_law_268 : decode cL_law 268 = .ok (.iadd, 1) := g_96 bL_law rfl
theorem dL_law_269 : decode cL_law 269 = .ok (.iaload, 1) := g_46 bL_law rfl
theorem dL_law_270 : decode cL_law 270 = .ok (.aload_n 0, 1) := g_42 bL_law rfl
theorem dL_law_271 : decode cL_law 271 = .ok (.iload_n 3, 1) := g_29 bL_law rfl
theorem dL_law_272 : decode cL_law 272 = .ok (.iconst 2, 1) := g_5 bL_law rfl
theorem dL_law_273 : decode cL_law 273 = .ok (.iadd, 1) := g_96 bL_law rfl
theorem dL_law_274 : decode cL_law 274 = .ok (.iaload, 1) := g_46 bL_law rfl
theorem dL_law_275 : decode cL_law 275 = .ok (.aload_n 0, 1) := g_42 bL_law rfl
theorem dL_law_276 : decode cL_law 276 = .ok (.iload_n 3, 1) := g_29 bL_law rfl
theorem dL_law_277 : decode cL_law 277 = .ok (.iconst 3, 1) := g_6 bL_law rfl
theorem dL_law_278 : decode cL_law 278 = .ok (.iadd, 1) := g_96 bL_law rfl
theorem dL_law_279 : decode cL_law 279 = .ok (.iaload, 1) := g_46 bL_law rfl
theorem dL_law_280 : decode cL_law 280 = .ok (.invokevirtual 17, 3) := g_182 bL_law rfl
theorem dL_law_283 : decode cL_law 283 = .ok (.pop, 1) := g_87 bL_law rfl
theorem dL_law_284 : decode cL_law 284 = .ok (.goto 1523, 3) := g_167 1523 bL_law rfl rfl
theorem dL_law_287 : decode cL_law 287 = .ok (.aload_n 1, 1) := g_43 bL_law rfl
theorem dL_law_288 : decode cL_law 288 = .ok (.aload_n 0, 1) := g_42 bL_law rfl
theorem dL_law_289 : decode cL_law 289 = .ok (.iload_n 3, 1) := g_29 bL_law rfl
theorem dL_law_290 : decode cL_law 290 = .ok (.iconst 1, 1) := g_4 bL_law rfl
theorem dL_law_291 : decode cL_law 291 = .ok (.iadd, 1) := g_96 bL_law rfl
theorem dL_law_292 : decode cL_law 292 = .ok (.iaload, 1) := g_46 bL_law rfl
theorem dL_law_293 : decode cL_law 293 = .ok (.aload_n 0, 1) := g_42 bL_law rfl
theorem dL_law_294 : decode cL_law 294 = .ok (.iload_n 3, 1) := g_29 bL_law rfl
theorem dL_law_295 : decode cL_law 295 = .ok (.iconst 2, 1) := g_5 bL_law rfl
theorem dL_law_296 : decode cL_law 296 = .ok (.iadd, 1) := g_96 bL_law rfl
theorem dL_law_297 : decode cL_law 297 = .ok (.iaload, 1) := g_46 bL_law rfl
theorem dL_law_298 : decode cL_law 298 = .ok (.aload_n 0, 1) := g_42 bL_law rfl
theorem dL_law_299 : decode cL_law 299 = .ok (.iload_n 3, 1) := g_29 bL_law rfl
theorem dL_law_300 : decode cL_law 300 = .ok (.iconst 3, 1) := g_6 bL_law rfl
theorem dL_law_301 : decode cL_law 301 = .ok (.iadd, 1) := g_96 bL_law rfl
theorem dL_law_302 : decode cL_law 302 = .ok (.iaload, 1) := g_46 bL_law rfl
theorem dL_law_303 : decode cL_law 303 = .ok (.i2l, 1) := g_133 bL_law rfl
theorem dL_law_304 : decode cL_law 304 = .ok (.bipush 32, 2) := g_16 32 bL_law rfl rfl
theorem dL_law_306 : decode cL_law 306 = .ok (.lshl, 1) := g_121 bL_law rfl
theorem dL_law_307 : decode cL_law 307 = .ok (.aload_n 0, 1) := g_42 bL_law rfl
theorem dL_law_308 : decode cL_law 308 = .ok (.iload_n 3, 1) := g_29 bL_law rfl
theorem dL_law_309 : decode cL_law 309 = .ok (.iconst 4, 1) := g_7 bL_law rfl
theorem dL_law_310 : decode cL_law 310 = .ok (.iadd, 1) := g_96 bL_law rfl
theorem dL_law_311 : decode cL_law 311 = .ok (.iaload, 1) := g_46 bL_law rfl
theorem dL_law_312 : decode cL_law 312 = .ok (.i2l, 1) := g_133 bL_law rfl
theorem dL_law_313 : decode cL_law 313 = .ok (.ldc2_w 18, 3) := g_20 bL_law rfl
theorem dL_law_316 : decode cL_law 316 = .ok (.land, 1) := g_127 bL_law rfl
theorem dL_law_317 : decode cL_law 317 = .ok (.lor, 1) := g_129 bL_law rfl
theorem dL_law_318 : decode cL_law 318 = .ok (.invokevirtual 20, 3) := g_182 bL_law rfl
theorem dL_law_321 : decode cL_law 321 = .ok (.pop, 1) := g_87 bL_law rfl
theorem dL_law_322 : decode cL_law 322 = .ok (.aload_n 2, 1) := g_44 bL_law rfl
theorem dL_law_323 : decode cL_law 323 = .ok (.aload_n 0, 1) := g_42 bL_law rfl
theorem dL_law_324 : decode cL_law 324 = .ok (.iload_n 3, 1) := g_29 bL_law rfl
theorem dL_law_325 : decode cL_law 325 = .ok (.iconst 1, 1) := g_4 bL_law rfl
theorem dL_law_326 : decode cL_law 326 = .ok (.iadd, 1) := g_96 bL_law rfl
theorem dL_law_327 : decode cL_law 327 = .ok (.iaload, 1) := g_46 bL_law rfl
theorem dL_law_328 : decode cL_law 328 = .ok (.aload_n 0, 1) := g_42 bL_law rfl
theorem dL_law_329 : decode cL_law 329 = .ok (.iload_n 3, 1) := g_29 bL_law rfl
theorem dL_law_330 : decode cL_law 330 = .ok (.iconst 2, 1) := g_5 bL_law rfl
theorem dL_law_331 : decode cL_law 331 = .ok (.iadd, 1) := g_96 bL_law rfl
theorem dL_law_332 : decode cL_law 332 = .ok (.iaload, 1) := g_46 bL_law rfl
theorem dL_law_333 : decode cL_law 333 = .ok (.aload_n 0, 1) := g_42 bL_law rfl
theorem dL_law_334 : decode cL_law 334 = .ok (.iload_n 3, 1) := g_29 bL_law rfl
theorem dL_law_335 : decode cL_law 335 = .ok (.iconst 3, 1) := g_6 bL_law rfl
theorem dL_law_336 : decode cL_law 336 = .ok (.iadd, 1) := g_96 bL_law rfl
theorem dL_law_337 : decode cL_law 337 = .ok (.iaload, 1) := g_46 bL_law rfl
theorem dL_law_338 : decode cL_law 338 = .ok (.i2l, 1) := g_133 bL_law rfl
theorem dL_law_339 : decode cL_law 339 = .ok (.bipush 32, 2) := g_16 32 bL_law rfl rfl
theorem dL_law_341 : decode cL_law 341 = .ok (.lshl, 1) := g_121 bL_law rfl
theorem dL_law_342 : decode cL_law 342 = .ok (.aload_n 0, 1) := g_42 bL_law rfl
theorem dL_law_343 : decode cL_law 343 = .ok (.iload_n 3, 1) := g_29 bL_law rfl
theorem dL_law_344 : decode cL_law 344 = .ok (.iconst 4, 1) := g_7 bL_law rfl
theorem dL_law_345 : decode cL_law 345 = .ok (.iadd, 1) := g_96 bL_law rfl
theorem dL_law_346 : decode cL_law 346 = .ok (.iaload, 1) := g_46 bL_law rfl
theorem dL_law_347 : decode cL_law 347 = .ok (.i2l, 1) := g_133 bL_law rfl
theorem dL_law_348 : decode cL_law 348 = .ok (.ldc2_w 18, 3) := g_20 bL_law rfl
theorem dL_law_351 : decode cL_law 351 = .ok (.land, 1) := g_127 bL_law rfl
theorem dL_law_352 : decode cL_law 352 = .ok (.lor, 1) := g_129 bL_law rfl
theorem dL_law_353 : decode cL_law 353 = .ok (.invokevirtual 24, 3) := g_182 bL_law rfl
theorem dL_law_356 : decode cL_law 356 = .ok (.pop, 1) := g_87 bL_law rfl
theorem dL_law_357 : decode cL_law 357 = .ok (.goto 1450, 3) := g_167 1450 bL_law rfl rfl
theorem dL_law_360 : decode cL_law 360 = .ok (.aload_n 1, 1) := g_43 bL_law rfl
theorem dL_law_361 : decode cL_law 361 = .ok (.aload_n 0, 1) := g_42 bL_law rfl
theorem dL_law_362 : decode cL_law 362 = .ok (.iload_n 3, 1) := g_29 bL_law rfl
theorem dL_law_363 : decode cL_law 363 = .ok (.iconst 1, 1) := g_4 bL_law rfl
theorem dL_law_364 : decode cL_law 364 = .ok (.iadd, 1) := g_96 bL_law rfl
theorem dL_law_365 : decode cL_law 365 = .ok (.iaload, 1) := g_46 bL_law rfl
theorem dL_law_366 : decode cL_law 366 = .ok (.aload_n 0, 1) := g_42 bL_law rfl
theorem dL_law_367 : decode cL_law 367 = .ok (.iload_n 3, 1) := g_29 bL_law rfl
theorem dL_law_368 : decode cL_law 368 = .ok (.iconst 2, 1) := g_5 bL_law rfl
theorem dL_law_369 : decode cL_law 369 = .ok (.iadd, 1) := g_96 bL_law rfl
theorem dL_law_370 : decode cL_law 370 = .ok (.iaload, 1) := g_46 bL_law rfl
theorem dL_law_371 : decode cL_law 371 = .ok (.aload_n 0, 1) := g_42 bL_law rfl
theorem dL_law_372 : decode cL_law 372 = .ok (.iload_n 3, 1) := g_29 bL_law rfl
theorem dL_law_373 : decode cL_law 373 = .ok (.iconst 3, 1) := g_6 bL_law rfl
theorem dL_law_374 : decode cL_law 374 = .ok (.iadd, 1) := g_96 bL_law rfl
theorem dL_law_375 : decode cL_law 375 = .ok (.iaload, 1) := g_46 bL_law rfl
theorem dL_law_376 : decode cL_law 376 = .ok (.aload_n 0, 1) := g_42 bL_law rfl
theorem dL_law_377 : decode cL_law 377 = .ok (.iload_n 3, 1) := g_29 bL_law rfl
theorem dL_law_378 : decode cL_law 378 = .ok (.iconst 4, 1) := g_7 bL_law rfl
theorem dL_law_379 : decode cL_law 379 = .ok (.iadd, 1) := g_96 bL_law rfl
theorem dL_law_380 : decode cL_law 380 = .ok (.iaload, 1) := g_46 bL_law rfl
theorem dL_law_381 : decode cL_law 381 = .ok (.aload_n 0, 1) := g_42 bL_law rfl
theorem dL_law_382 : decode cL_law 382 = .ok (.iload_n 3, 1) := g_29 bL_law rfl
theorem dL_law_383 : decode cL_law 383 = .ok (.iconst 5, 1) := g_8 bL_law rfl
theorem dL_law_384 : decode cL_law 384 = .ok (.iadd, 1) := g_96 bL_law rfl
theorem dL_law_385 : decode cL_law 385 = .ok (.iaload, 1) := g_46 bL_law rfl
theorem dL_law_386 : decode cL_law 386 = .ok (.invokevirtual 25, 3) := g_182 bL_law rfl
theorem dL_law_389 : decode cL_law 389 = .ok (.pop, 1) := g_87 bL_law rfl
theorem dL_law_390 : decode cL_law 390 = .ok (.aload_n 2, 1) := g_44 bL_law rfl
theorem dL_law_391 : decode cL_law 391 = .ok (.aload_n 0, 1) := g_42 bL_law rfl
theorem dL_law_392 : decode cL_law 392 = .ok (.iload_n 3, 1) := g_29 bL_law rfl
theorem dL_law_393 : decode cL_law 393 = .ok (.iconst 1, 1) := g_4 bL_law rfl
theorem dL_law_394 : decode cL_law 394 = .ok (.iadd, 1) := g_96 bL_law rfl
theorem dL_law_395 : decode cL_law 395 = .ok (.iaload, 1) := g_46 bL_law rfl
theorem dL_law_396 : decode cL_law 396 = .ok (.aload_n 0, 1) := g_42 bL_law rfl
theorem dL_law_397 : decode cL_law 397 = .ok (.iload_n 3, 1) := g_29 bL_law rfl
theorem dL_law_398 : decode cL_law 398 = .ok (.iconst 2, 1) := g_5 bL_law rfl
theorem dL_law_399 : decode cL_law 399 = .ok (.iadd, 1) := g_96 bL_law rfl
theorem dL_law_400 : decode cL_law 400 = .ok (.iaload, 1) := g_46 bL_law rfl
theorem dL_law_401 : decode cL_law 401 = .ok (.aload_n 0, 1) := g_42 bL_law rfl
theorem dL_law_402 : decode cL_law 402 = .ok (.iload_n 3, 1) := g_29 bL_law rfl
theorem dL_law_403 : decode cL_law 403 = .ok (.iconst 3, 1) := g_6 bL_law rfl
theorem dL_law_404 : decode cL_law 404 = .ok (.iadd, 1) := g_96 bL_law rfl
theorem dL_law_405 : decode cL_law 405 = .ok (.iaload, 1) := g_46 bL_law rfl
theorem dL_law_406 : decode cL_law 406 = .ok (.aload_n 0, 1) := g_42 bL_law rfl
theorem dL_law_407 : decode cL_law 407 = .ok (.iload_n 3, 1) := g_29 bL_law rfl
theorem dL_law_408 : decode cL_law 408 = .ok (.iconst 4, 1) := g_7 bL_law rfl
theorem dL_law_409 : decode cL_law 409 = .ok (.iadd, 1) := g_96 bL_law rfl
theorem dL_law_410 : decode cL_law 410 = .ok (.iaload, 1) := g_46 bL_law rfl
theorem dL_law_411 : decode cL_law 411 = .ok (.aload_n 0, 1) := g_42 bL_law rfl
theorem dL_law_412 : decode cL_law 412 = .ok (.iload_n 3, 1) := g_29 bL_law rfl
theorem dL_law_413 : decode cL_law 413 = .ok (.iconst 5, 1) := g_8 bL_law rfl
theorem dL_law_414 : decode cL_law 414 = .ok (.iadd, 1) := g_96 bL_law rfl
theorem dL_law_415 : decode cL_law 415 = .ok (.iaload, 1) := g_46 bL_law rfl
theorem dL_law_416 : decode cL_law 416 = .ok (.invokevirtual 29, 3) := g_182 bL_law rfl
theorem dL_law_419 : decode cL_law 419 = .ok (.pop, 1) := g_87 bL_law rfl
theorem dL_law_420 : decode cL_law 420 = .ok (.goto 1387, 3) := g_167 1387 bL_law rfl rfl
theorem dL_law_423 : decode cL_law 423 = .ok (.aload_n 1, 1) := g_43 bL_law rfl
theorem dL_law_424 : decode cL_law 424 = .ok (.aload_n 0, 1) := g_42 bL_law rfl
theorem dL_law_425 : decode cL_law 425 = .ok (.iload_n 3, 1) := g_29 bL_law rfl
theorem dL_law_426 : decode cL_law 426 = .ok (.iconst 1, 1) := g_4 bL_law rfl
theorem dL_law_427 : decode cL_law 427 = .ok (.iadd, 1) := g_96 bL_law rfl
theorem dL_law_428 : decode cL_law 428 = .ok (.iaload, 1) := g_46 bL_law rfl
theorem dL_law_429 : decode cL_law 429 = .ok (.aload_n 0, 1) := g_42 bL_law rfl
theorem dL_law_430 : decode cL_law 430 = .ok (.iload_n 3, 1) := g_29 bL_law rfl
theorem dL_law_431 : decode cL_law 431 = .ok (.iconst 2, 1) := g_5 bL_law rfl
theorem dL_law_432 : decode cL_law 432 = .ok (.iadd, 1) := g_96 bL_law rfl
theorem dL_law_433 : decode cL_law 433 = .ok (.iaload, 1) := g_46 bL_law rfl
theorem dL_law_434 : decode cL_law 434 = .ok (.invokevirtual 30, 3) := g_182 bL_law rfl
theorem dL_law_437 : decode cL_law 437 = .ok (.pop2, 1) := g_88 bL_law rfl
theorem dL_law_438 : decode cL_law 438 = .ok (.aload_n 2, 1) := g_44 bL_law rfl
theorem dL_law_439 : decode cL_law 439 = .ok (.aload_n 0, 1) := g_42 bL_law rfl
theorem dL_law_440 : decode cL_law 440 = .ok (.iload_n 3, 1) := g_29 bL_law rfl
theorem dL_law_441 : decode cL_law 441 = .ok (.iconst 1, 1) := g_4 bL_law rfl
theorem dL_law_442 : decode cL_law 442 = .ok (.iadd, 1) := g_96 bL_law rfl
theorem dL_law_443 : decode cL_law 443 = .ok (.iaload, 1) := g_46 bL_law rfl
theorem dL_law_444 : decode cL_law 444 = .ok (.aload_n 0, 1) := g_42 bL_law rfl
theorem dL_law_445 : decode cL_law 445 = .ok (.iload_n 3, 1) := g_29 bL_law rfl
theorem dL_law_446 : decode cL_law 446 = .ok (.iconst 2, 1) := g_5 bL_law rfl
theorem dL_law_447 : decode cL_law 447 = .ok (.iadd, 1) := g_96 bL_law rfl
theorem dL_law_448 : decode cL_law 448 = .ok (.iaload, 1) := g_46 bL_law rfl
theorem dL_law_449 : decode cL_law 449 = .ok (.invokevirtual 34, 3) := g_182 bL_law rfl
theorem dL_law_452 : decode cL_law 452 = .ok (.pop2, 1) := g_88 bL_law rfl
theorem dL_law_453 : decode cL_law 453 = .ok (.goto 1354, 3) := g_167 1354 bL_law rfl rfl
theorem dL_law_456 : decode cL_law 456 = .ok (.aload_n 1, 1) := g_43 bL_law rfl
theorem dL_law_457 : decode cL_law 457 = .ok (.aload_n 0, 1) := g_42 bL_law rfl
theorem dL_law_458 : decode cL_law 458 = .ok (.iload_n 3, 1) := g_29 bL_law rfl
theorem dL_law_459 : decode cL_law 459 = .ok (.iconst 1, 1) := g_4 bL_law rfl
theorem dL_law_460 : decode cL_law 460 = .ok (.iadd, 1) := g_96 bL_law rfl
theorem dL_law_461 : decode cL_law 461 = .ok (.iaload, 1) := g_46 bL_law rfl
theorem dL_law_462 : decode cL_law 462 = .ok (.invokevirtual 35, 3) := g_182 bL_law rfl
theorem dL_law_465 : decode cL_law 465 = .ok (.pop, 1) := g_87 bL_law rfl
theorem dL_law_466 : decode cL_law 466 = .ok (.aload_n 2, 1) := g_44 bL_law rfl
theorem dL_law_467 : decode cL_law 467 = .ok (.aload_n 0, 1) := g_42 bL_law rfl
theorem dL_law_468 : decode cL_law 468 = .ok (.iload_n 3, 1) := g_29 bL_law rfl
theorem dL_law_469 : decode cL_law 469 = .ok (.iconst 1, 1) := g_4 bL_law rfl
theorem dL_law_470 : decode cL_law 470 = .ok (.iadd, 1) := g_96 bL_law rfl
theorem dL_law_471 : decode cL_law 471 = .ok (.iaload, 1) := g_46 bL_law rfl
theorem dL_law_472 : decode cL_law 472 = .ok (.invokevirtual 39, 3) := g_182 bL_law rfl
theorem dL_law_475 : decode cL_law 475 = .ok (.pop, 1) := g_87 bL_law rfl
theorem dL_law_476 : decode cL_law 476 = .ok (.goto 1331, 3) := g_167 1331 bL_law rfl rfl
theorem dL_law_479 : decode cL_law 479 = .ok (.aload_n 1, 1) := g_43 bL_law rfl
theorem dL_law_480 : decode cL_law 480 = .ok (.aload_n 0, 1) := g_42 bL_law rfl
theorem dL_law_481 : decode cL_law 481 = .ok (.iload_n 3, 1) := g_29 bL_law rfl
theorem dL_law_482 : decode cL_law 482 = .ok (.iconst 1, 1) := g_4 bL_law rfl
theorem dL_law_483 : decode cL_law 483 = .ok (.iadd, 1) := g_96 bL_law rfl
theorem dL_law_484 : decode cL_law 484 = .ok (.iaload, 1) := g_46 bL_law rfl
theorem dL_law_485 : decode cL_law 485 = .ok (.aload_n 0, 1) := g_42 bL_law rfl
theorem dL_law_486 : decode cL_law 486 = .ok (.iload_n 3, 1) := g_29 bL_law rfl
theorem dL_law_487 : decode cL_law 487 = .ok (.iconst 2, 1) := g_5 bL_law rfl
theorem dL_law_488 : decode cL_law 488 = .ok (.iadd, 1) := g_96 bL_law rfl
theorem dL_law_489 : decode cL_law 489 = .ok (.iaload, 1) := g_46 bL_law rfl
theorem dL_law_490 : decode cL_law 490 = .ok (.aload_n 0, 1) := g_42 bL_law rfl
theorem dL_law_491 : decode cL_law 491 = .ok (.iload_n 3, 1) := g_29 bL_law rfl
theorem dL_law_492 : decode cL_law 492 = .ok (.iconst 3, 1) := g_6 bL_law rfl
theorem dL_law_493 : decode cL_law 493 = .ok (.iadd, 1) := g_96 bL_law rfl
theorem dL_law_494 : decode cL_law 494 = .ok (.iaload, 1) := g_46 bL_law rfl
theorem dL_law_495 : decode cL_law 495 = .ok (.invokevirtual 40, 3) := g_182 bL_law rfl
theorem dL_law_498 : decode cL_law 498 = .ok (.pop, 1) := g_87 bL_law rfl
theorem dL_law_499 : decode cL_law 499 = .ok (.aload_n 2, 1) := g_44 bL_law rfl
theorem dL_law_500 : decode cL_law 500 = .ok (.aload_n 0, 1) := g_42 bL_law rfl
theorem dL_law_501 : decode cL_law 501 = .ok (.iload_n 3, 1) := g_29 bL_law rfl
theorem dL_law_502 : decode cL_law 502 = .ok (.iconst 1, 1) := g_4 bL_law rfl
theorem dL_law_503 : decode cL_law 503 = .ok (.iadd, 1) := g_96 bL_law rfl
theorem dL_law_504 : decode cL_law 504 = .ok (.iaload, 1) := g_46 bL_law rfl
theorem dL_law_505 : decode cL_law 505 = .ok (.aload_n 0, 1) := g_42 bL_law rfl
theorem dL_law_506 : decode cL_law 506 = .ok (.iload_n 3, 1) := g_29 bL_law rfl
theorem dL_law_507 : decode cL_law 507 = .ok (.iconst 2, 1) := g_5 bL_law rfl
theorem dL_law_508 : decode cL_law 508 = .ok (.iadd, 1) := g_96 bL_law rfl
theorem dL_law_509 : decode cL_law 509 = .ok (.iaload, 1) := g_46 bL_law rfl
theorem dL_law_510 : decode cL_law 510 = .ok (.aload_n 0, 1) := g_42 bL_law rfl
theorem dL_law_511 : decode cL_law 511 = .ok (.iload_n 3, 1) := g_29 bL_law rfl
theorem dL_law_512 : decode cL_law 512 = .ok (.iconst 3, 1) := g_6 bL_law rfl
theorem dL_law_513 : decode cL_law 513 = .ok (.iadd, 1) := g_96 bL_law rfl
theorem dL_law_514 : decode cL_law 514 = .ok (.iaload, 1) := g_46 bL_law rfl
theorem dL_law_515 : decode cL_law 515 = .ok (.invokevirtual 43, 3) := g_182 bL_law rfl
theorem dL_law_518 : decode cL_law 518 = .ok (.pop, 1) := g_87 bL_law rfl
theorem dL_law_519 : decode cL_law 519 = .ok (.goto 1288, 3) := g_167 1288 bL_law rfl rfl
theorem dL_law_522 : decode cL_law 522 = .ok (.aload_n 1, 1) := g_43 bL_law rfl
theorem dL_law_523 : decode cL_law 523 = .ok (.aload_n 0, 1) := g_42 bL_law rfl
theorem dL_law_524 : decode cL_law 524 = .ok (.iload_n 3, 1) := g_29 bL_law rfl
theorem dL_law_525 : decode cL_law 525 = .ok (.iconst 1, 1) := g_4 bL_law rfl
theorem dL_law_526 : decode cL_law 526 = .ok (.iadd, 1) := g_96 bL_law rfl
theorem dL_law_527 : decode cL_law 527 = .ok (.iaload, 1) := g_46 bL_law rfl
theorem dL_law_528 : decode cL_law 528 = .ok (.aload_n 0, 1) := g_42 bL_law rfl
theorem dL_law_529 : decode cL_law 529 = .ok (.iload_n 3, 1) := g_29 bL_law rfl
theorem dL_law_530 : decode cL_law 530 = .ok (.iconst 2, 1) := g_5 bL_law rfl
theorem dL_law_531 : decode cL_law 531 = .ok (.iadd, 1) := g_96 bL_law rfl
theorem dL_law_532 : decode cL_law 532 = .ok (.iaload, 1) := g_46 bL_law rfl
theorem dL_law_533 : decode cL_law 533 = .ok (.invokevirtual 44, 3) := g_182 bL_law rfl
theorem dL_law_536 : decode cL_law 536 = .ok (.pop, 1) := g_87 bL_law rfl
theorem dL_law_537 : decode cL_law 537 = .ok (.aload_n 2, 1) := g_44 bL_law rfl
theorem dL_law_538 : decode cL_law 538 = .ok (.aload_n 0, 1) := g_42 bL_law rfl
theorem dL_law_539 : decode cL_law 539 = .ok (.iload_n 3, 1) := g_29 bL_law rfl
theorem dL_law_540 : decode cL_law 540 = .ok (.iconst 1, 1) := g_4 bL_law rfl
theorem dL_law_541 : decode cL_law 541 = .ok (.iadd, 1) := g_96 bL_law rfl
theorem dL_law_542 : decode cL_law 542 = .ok (.iaload, 1) := g_46 bL_law rfl
theorem dL_law_543 : decode cL_law 543 = .ok (.aload_n 0, 1) := g_42 bL_law rfl
theorem dL_law_544 : decode cL_law 544 = .ok (.iload_n 3, 1) := g_29 bL_law rfl
theorem dL_law_545 : decode cL_law 545 = .ok (.iconst 2, 1) := g_5 bL_law rfl
theorem dL_law_546 : decode cL_law 546 = .ok (.iadd, 1) := g_96 bL_law rfl
theorem dL_law_547 : decode cL_law 547 = .ok (.iaload, 1) := g_46 bL_law rfl
theorem dL_law_548 : decode cL_law 548 = .ok (.invokevirtual 48, 3) := g_182 bL_law rfl
theorem dL_law_551 : decode cL_law 551 = .ok (.pop, 1) := g_87 bL_law rfl
theorem dL_law_552 : decode cL_law 552 = .ok (.goto 1255, 3) := g_167 1255 bL_law rfl rfl
theorem dL_law_555 : decode cL_law 555 = .ok (.aload_n 1, 1) := g_43 bL_law rfl
theorem dL_law_556 : decode cL_law 556 = .ok (.aload_n 0, 1) := g_42 bL_law rfl
theorem dL_law_557 : decode cL_law 557 = .ok (.iload_n 3, 1) := g_29 bL_law rfl
theorem dL_law_558 : decode cL_law 558 = .ok (.iconst 1, 1) := g_4 bL_law rfl
theorem dL_law_559 : decode cL_law 559 = .ok (.iadd, 1) := g_96 bL_law rfl
theorem dL_law_560 : decode cL_law 560 = .ok (.iaload, 1) := g_46 bL_law rfl
theorem dL_law_561 : decode cL_law 561 = .ok (.aload_n 0, 1) := g_42 bL_law rfl
theorem dL_law_562 : decode cL_law 562 = .ok (.iload_n 3, 1) := g_29 bL_law rfl
theorem dL_law_563 : decode cL_law 563 = .ok (.iconst 2, 1) := g_5 bL_law rfl
theorem dL_law_564 : decode cL_law 564 = .ok (.iadd, 1) := g_96 bL_law rfl
theorem dL_law_565 : decode cL_law 565 = .ok (.iaload, 1) := g_46 bL_law rfl
theorem dL_law_566 : decode cL_law 566 = .ok (.invokevirtual 49, 3) := g_182 bL_law rfl
theorem dL_law_569 : decode cL_law 569 = .ok (.pop, 1) := g_87 bL_law rfl
theorem dL_law_570 : decode cL_law 570 = .ok (.aload_n 2, 1) := g_44 bL_law rfl
theorem dL_law_571 : decode cL_law 571 = .ok (.aload_n 0, 1) := g_42 bL_law rfl
theorem dL_law_572 : decode cL_law 572 = .ok (.iload_n 3, 1) := g_29 bL_law rfl
theorem dL_law_573 : decode cL_law 573 = .ok (.iconst 1, 1) := g_4 bL_law rfl
theorem dL_law_574 : decode cL_law 574 = .ok (.iadd, 1) := g_96 bL_law rfl
theorem dL_law_575 : decode cL_law 575 = .ok (.iaload, 1) := g_46 bL_law rfl
theorem dL_law_576 : decode cL_law 576 = .ok (.aload_n 0, 1) := g_42 bL_law rfl
theorem dL_law_577 : decode cL_law 577 = .ok (.iload_n 3, 1) := g_29 bL_law rfl
theorem dL_law_578 : decode cL_law 578 = .ok (.iconst 2, 1) := g_5 bL_law rfl
theorem dL_law_579 : decode cL_law 579 = .ok (.iadd, 1) := g_96 bL_law rfl
theorem dL_law_580 : decode cL_law 580 = .ok (.iaload, 1) := g_46 bL_law rfl
theorem dL_law_581 : decode cL_law 581 = .ok (.invokevirtual 52, 3) := g_182 bL_law rfl
theorem dL_law_584 : decode cL_law 584 = .ok (.pop, 1) := g_87 bL_law rfl
theorem dL_law_585 : decode cL_law 585 = .ok (.goto 1222, 3) := g_167 1222 bL_law rfl rfl
theorem dL_law_588 : decode cL_law 588 = .ok (.aload_n 1, 1) := g_43 bL_law rfl
theorem dL_law_589 : decode cL_law 589 = .ok (.aload_n 0, 1) := g_42 bL_law rfl
theorem dL_law_590 : decode cL_law 590 = .ok (.iload_n 3, 1) := g_29 bL_law rfl
theorem dL_law_591 : decode cL_law 591 = .ok (.iconst 1, 1) := g_4 bL_law rfl
theorem dL_law_592 : decode cL_law 592 = .ok (.iadd, 1) := g_96 bL_law rfl
theorem dL_law_593 : decode cL_law 593 = .ok (.iaload, 1) := g_46 bL_law rfl
theorem dL_law_594 : decode cL_law 594 = .ok (.aload_n 0, 1) := g_42 bL_law rfl
theorem dL_law_595 : decode cL_law 595 = .ok (.iload_n 3, 1) := g_29 bL_law rfl
theorem dL_law_596 : decode cL_law 596 = .ok (.iconst 2, 1) := g_5 bL_law rfl
theorem dL_law_597 : decode cL_law 597 = .ok (.iadd, 1) := g_96 bL_law rfl
theorem dL_law_598 : decode cL_law 598 = .ok (.iaload, 1) := g_46 bL_law rfl
theorem dL_law_599 : decode cL_law 599 = .ok (.aload_n 0, 1) := g_42 bL_law rfl
theorem dL_law_600 : decode cL_law 600 = .ok (.iload_n 3, 1) := g_29 bL_law rfl
theorem dL_law_601 : decode cL_law 601 = .ok (.iconst 3, 1) := g_6 bL_law rfl
theorem dL_law_602 : decode cL_law 602 = .ok (.iadd, 1) := g_96 bL_law rfl
theorem dL_law_603 : decode cL_law 603 = .ok (.iaload, 1) := g_46 bL_law rfl
theorem dL_law_604 : decode cL_law 604 = .ok (.aload_n 0, 1) := g_42 bL_law rfl
theorem dL_law_605 : decode cL_law 605 = .ok (.iload_n 3, 1) := g_29 bL_law rfl
theorem dL_law_606 : decode cL_law 606 = .ok (.iconst 4, 1) := g_7 bL_law rfl
theorem dL_law_607 : decode cL_law 607 = .ok (.iadd, 1) := g_96 bL_law rfl
theorem dL_law_608 : decode cL_law 608 = .ok (.iaload, 1) := g_46 bL_law rfl
theorem dL_law_609 : decode cL_law 609 = .ok (.invokevirtual 53, 3) := g_182 bL_law rfl
theorem dL_law_612 : decode cL_law 612 = .ok (.pop, 1) := g_87 bL_law rfl
theorem dL_law_613 : decode cL_law 613 = .ok (.aload_n 2, 1) := g_44 bL_law rfl
theorem dL_law_614 : decode cL_law 614 = .ok (.aload_n 0, 1) := g_42 bL_law rfl
theorem dL_law_615 : decode cL_law 615 = .ok (.iload_n 3, 1) := g_29 bL_law rfl
theorem dL_law_616 : decode cL_law 616 = .ok (.iconst 1, 1) := g_4 bL_law rfl
theorem dL_law_617 : decode cL_law 617 = .ok (.iadd, 1) := g_96 bL_law rfl
theorem dL_law_618 : decode cL_law 618 = .ok (.iaload, 1) := g_46 bL_law rfl
theorem dL_law_619 : decode cL_law 619 = .ok (.aload_n 0, 1) := g_42 bL_law rfl
theorem dL_law_620 : decode cL_law 620 = .ok (.iload_n 3, 1) := g_29 bL_law rfl
theorem dL_law_621 : decode cL_law 621 = .ok (.iconst 2, 1) := g_5 bL_law rfl
theorem dL_law_622 : decode cL_law 622 = .ok (.iadd, 1) := g_96 bL_law rfl
theorem dL_law_623 : decode cL_law 623 = .ok (.iaload, 1) := g_46 bL_law rfl
theorem dL_law_624 : decode cL_law 624 = .ok (.aload_n 0, 1) := g_42 bL_law rfl
theorem dL_law_625 : decode cL_law 625 = .ok (.iload_n 3, 1) := g_29 bL_law rfl
theorem dL_law_626 : decode cL_law 626 = .ok (.iconst 3, 1) := g_6 bL_law rfl
theorem dL_law_627 : decode cL_law 627 = .ok (.iadd, 1) := g_96 bL_law rfl
theorem dL_law_628 : decode cL_law 628 = .ok (.iaload, 1) := g_46 bL_law rfl
theorem dL_law_629 : decode cL_law 629 = .ok (.aload_n 0, 1) := g_42 bL_law rfl
theorem dL_law_630 : decode cL_law 630 = .ok (.iload_n 3, 1) := g_29 bL_law rfl
theorem dL_law_631 : decode cL_law 631 = .ok (.iconst 4, 1) := g_7 bL_law rfl
theorem dL_law_632 : decode cL_law 632 = .ok (.iadd, 1) := g_96 bL_law rfl
theorem dL_law_633 : decode cL_law 633 = .ok (.iaload, 1) := g_46 bL_law rfl
theorem dL_law_634 : decode cL_law 634 = .ok (.invokevirtual 57, 3) := g_182 bL_law rfl
theorem dL_law_637 : decode cL_law 637 = .ok (.pop, 1) := g_87 bL_law rfl
theorem dL_law_638 : decode cL_law 638 = .ok (.goto 1169, 3) := g_167 1169 bL_law rfl rfl
theorem dL_law_641 : decode cL_law 641 = .ok (.aload_n 1, 1) := g_43 bL_law rfl
theorem dL_law_642 : decode cL_law 642 = .ok (.aload_n 0, 1) := g_42 bL_law rfl
theorem dL_law_643 : decode cL_law 643 = .ok (.iload_n 3, 1) := g_29 bL_law rfl
theorem dL_law_644 : decode cL_law 644 = .ok (.iconst 1, 1) := g_4 bL_law rfl
theorem dL_law_645 : decode cL_law 645 = .ok (.iadd, 1) := g_96 bL_law rfl
theorem dL_law_646 : decode cL_law 646 = .ok (.iaload, 1) := g_46 bL_law rfl
theorem dL_law_647 : decode cL_law 647 = .ok (.aload_n 0, 1) := g_42 bL_law rfl
theorem dL_law_648 : decode cL_law 648 = .ok (.iload_n 3, 1) := g_29 bL_law rfl
theorem dL_law_649 : decode cL_law 649 = .ok (.iconst 2, 1) := g_5 bL_law rfl
theorem dL_law_650 : decode cL_law 650 = .ok (.iadd, 1) := g_96 bL_law rfl
theorem dL_law_651 : decode cL_law 651 = .ok (.iaload, 1) := g_46 bL_law rfl
theorem dL_law_652 : decode cL_law 652 = .ok (.invokevirtual 58, 3) := g_182 bL_law rfl
theorem dL_law_655 : decode cL_law 655 = .ok (.pop, 1) := g_87 bL_law rfl
theorem dL_law_656 : decode cL_law 656 = .ok (.aload_n 2, 1) := g_44 bL_law rfl
theorem dL_law_657 : decode cL_law 657 = .ok (.aload_n 0, 1) := g_42 bL_law rfl
theorem dL_law_658 : decode cL_law 658 = .ok (.iload_n 3, 1) := g_29 bL_law rfl
theorem dL_law_659 : decode cL_law 659 = .ok (.iconst 1, 1) := g_4 bL_law rfl
theorem dL_law_660 : decode cL_law 660 = .ok (.iadd, 1) := g_96 bL_law rfl
theorem dL_law_661 : decode cL_law 661 = .ok (.iaload, 1) := g_46 bL_law rfl
theorem dL_law_662 : decode cL_law 662 = .ok (.aload_n 0, 1) := g_42 bL_law rfl
theorem dL_law_663 : decode cL_law 663 = .ok (.iload_n 3, 1) := g_29 bL_law rfl
theorem dL_law_664 : decode cL_law 664 = .ok (.iconst 2, 1) := g_5 bL_law rfl
theorem dL_law_665 : decode cL_law 665 = .ok (.iadd, 1) := g_96 bL_law rfl
theorem dL_law_666 : decode cL_law 666 = .ok (.iaload, 1) := g_46 bL_law rfl
theorem dL_law_667 : decode cL_law 667 = .ok (.invokevirtual 61, 3) := g_182 bL_law rfl
theorem dL_law_670 : decode cL_law 670 = .ok (.pop, 1) := g_87 bL_law rfl
theorem dL_law_671 : decode cL_law 671 = .ok (.goto 1136, 3) := g_167 1136 bL_law rfl rfl
theorem dL_law_1807 : decode cL_law 1807 = .ok (.iinc 3 6, 3) := g_132 6 bL_law rfl rfl
theorem dL_law_1813 : decode cL_law 1813 = .ok (.iconst 1, 1) := g_4 bL_law rfl
theorem dL_law_1814 : decode cL_law 1814 = .ok (.ireturn, 1) := g_172 bL_law rfl
theorem dL_law_674 : decode cL_law 674 = .ok (.aload_n 1, 1) := g_43 bL_law rfl
theorem dL_law_675 : decode cL_law 675 = .ok (.aload_n 0, 1) := g_42 bL_law rfl
theorem dL_law_676 : decode cL_law 676 = .ok (.iload_n 3, 1) := g_29 bL_law rfl
theorem dL_law_677 : decode cL_law 677 = .ok (.iconst 1, 1) := g_4 bL_law rfl
theorem dL_law_678 : decode cL_law 678 = .ok (.iadd, 1) := g_96 bL_law rfl
theorem dL_law_679 : decode cL_law 679 = .ok (.iaload, 1) := g_46 bL_law rfl
theorem dL_law_680 : decode cL_law 680 = .ok (.aload_n 0, 1) := g_42 bL_law rfl
theorem dL_law_681 : decode cL_law 681 = .ok (.iload_n 3, 1) := g_29 bL_law rfl
theorem dL_law_682 : decode cL_law 682 = .ok (.iconst 2, 1) := g_5 bL_law rfl
theorem dL_law_683 : decode cL_law 683 = .ok (.iadd, 1) := g_96 bL_law rfl
theorem dL_law_684 : decode cL_law 684 = .ok (.iaload, 1) := g_46 bL_law rfl
theorem dL_law_685 : decode cL_law 685 = .ok (.invokevirtual 62, 3) := g_182 bL_law rfl
theorem dL_law_688 : decode cL_law 688 = .ok (.pop, 1) := g_87 bL_law rfl
theorem dL_law_689 : decode cL_law 689 = .ok (.aload_n 2, 1) := g_44 bL_law rfl
theorem dL_law_690 : decode cL_law 690 = .ok (.aload_n 0, 1) := g_42 bL_law rfl
theorem dL_law_691 : decode cL_law 691 = .ok (.iload_n 3, 1) := g_29 bL_law rfl
theorem dL_law_692 : decode cL_law 692 = .ok (.iconst 1, 1) := g_4 bL_law rfl
theorem dL_law_693 : decode cL_law 693 = .ok (.iadd, 1) := g_96 bL_law rfl
theorem dL_law_694 : decode cL_law 694 = .ok (.iaload, 1) := g_46 bL_law rfl
theorem dL_law_695 : decode cL_law 695 = .ok (.aload_n 0, 1) := g_42 bL_law rfl
theorem dL_law_696 : decode cL_law 696 = .ok (.iload_n 3, 1) := g_29 bL_law rfl
theorem dL_law_697 : decode cL_law 697 = .ok (.iconst 2, 1) := g_5 bL_law rfl
theorem dL_law_698 : decode cL_law 698 = .ok (.iadd, 1) := g_96 bL_law rfl
theorem dL_law_699 : decode cL_law 699 = .ok (.iaload, 1) := g_46 bL_law rfl
theorem dL_law_700 : decode cL_law 700 = .ok (.invokevirtual 65, 3) := g_182 bL_law rfl
theorem dL_law_703 : decode cL_law 703 = .ok (.pop, 1) := g_87 bL_law rfl
theorem dL_law_704 : decode cL_law 704 = .ok (.goto 1103, 3) := g_167 1103 bL_law rfl rfl
theorem dL_law_707 : decode cL_law 707 = .ok (.aload_n 1, 1) := g_43 bL_law rfl
theorem dL_law_708 : decode cL_law 708 = .ok (.invokevirtual 66, 3) := g_182 bL_law rfl
theorem dL_law_711 : decode cL_law 711 = .ok (.pop, 1) := g_87 bL_law rfl
theorem dL_law_712 : decode cL_law 712 = .ok (.aload_n 2, 1) := g_44 bL_law rfl
theorem dL_law_713 : decode cL_law 713 = .ok (.invokevirtual 70, 3) := g_182 bL_law rfl
theorem dL_law_716 : decode cL_law 716 = .ok (.pop, 1) := g_87 bL_law rfl
theorem dL_law_717 : decode cL_law 717 = .ok (.goto 1090, 3) := g_167 1090 bL_law rfl rfl
theorem dL_law_720 : decode cL_law 720 = .ok (.aload_n 1, 1) := g_43 bL_law rfl
theorem dL_law_721 : decode cL_law 721 = .ok (.invokevirtual 71, 3) := g_182 bL_law rfl
theorem dL_law_724 : decode cL_law 724 = .ok (.pop, 1) := g_87 bL_law rfl
theorem dL_law_725 : decode cL_law 725 = .ok (.aload_n 2, 1) := g_44 bL_law rfl
theorem dL_law_726 : decode cL_law 726 = .ok (.invokevirtual 74, 3) := g_182 bL_law rfl
theorem dL_law_729 : decode cL_law 729 = .ok (.pop, 1) := g_87 bL_law rfl
theorem dL_law_730 : decode cL_law 730 = .ok (.goto 1077, 3) := g_167 1077 bL_law rfl rfl
theorem dL_law_733 : decode cL_law 733 = .ok (.aload_n 1, 1) := g_43 bL_law rfl
theorem dL_law_734 : decode cL_law 734 = .ok (.aload_n 0, 1) := g_42 bL_law rfl
theorem dL_law_735 : decode cL_law 735 = .ok (.iload_n 3, 1) := g_29 bL_law rfl
theorem dL_law_736 : decode cL_law 736 = .ok (.iconst 1, 1) := g_4 bL_law rfl
theorem dL_law_737 : decode cL_law 737 = .ok (.iadd, 1) := g_96 bL_law rfl
theorem dL_law_738 : decode cL_law 738 = .ok (.iaload, 1) := g_46 bL_law rfl
theorem dL_law_739 : decode cL_law 739 = .ok (.aload_n 0, 1) := g_42 bL_law rfl
theorem dL_law_740 : decode cL_law 740 = .ok (.iload_n 3, 1) := g_29 bL_law rfl
theorem dL_law_741 : decode cL_law 741 = .ok (.iconst 2, 1) := g_5 bL_law rfl
theorem dL_law_742 : decode cL_law 742 = .ok (.iadd, 1) := g_96 bL_law rfl
theorem dL_law_743 : decode cL_law 743 = .ok (.iaload, 1) := g_46 bL_law rfl
theorem dL_law_744 : decode cL_law 744 = .ok (.invokevirtual 75, 3) := g_182 bL_law rfl
theorem dL_law_747 : decode cL_law 747 = .ok (.pop, 1) := g_87 bL_law rfl
theorem dL_law_748 : decode cL_law 748 = .ok (.aload_n 2, 1) := g_44 bL_law rfl
theorem dL_law_749 : decode cL_law 749 = .ok (.aload_n 0, 1) := g_42 bL_law rfl
theorem dL_law_750 : decode cL_law 750 = .ok (.iload_n 3, 1) := g_29 bL_law rfl
theorem dL_law_751 : decode cL_law 751 = .ok (.iconst 1, 1) := g_4 bL_law rfl
theorem dL_law_752 : decode cL_law 752 = .ok (.iadd, 1) := g_96 bL_law rfl
theorem dL_law_753 : decode cL_law 753 = .ok (.iaload, 1) := g_46 bL_law rfl
theorem dL_law_754 : decode cL_law 754 = .ok (.aload_n 0, 1) := g_42 bL_law rfl
theorem dL_law_755 : decode cL_law 755 = .ok (.iload_n 3, 1) := g_29 bL_law rfl
theorem dL_law_756 : decode cL_law 756 = .ok (.iconst 2, 1) := g_5 bL_law rfl
theorem dL_law_757 : decode cL_law 757 = .ok (.iadd, 1) := g_96 bL_law rfl
theorem dL_law_758 : decode cL_law 758 = .ok (.iaload, 1) := g_46 bL_law rfl
theorem dL_law_759 : decode cL_law 759 = .ok (.invokevirtual 78, 3) := g_182 bL_law rfl
theorem dL_law_762 : decode cL_law 762 = .ok (.pop, 1) := g_87 bL_law rfl
theorem dL_law_763 : decode cL_law 763 = .ok (.goto 1044, 3) := g_167 1044 bL_law rfl rfl
theorem dL_law_766 : decode cL_law 766 = .ok (.aload_n 1, 1) := g_43 bL_law rfl
theorem dL_law_767 : decode cL_law 767 = .ok (.aload_n 0, 1) := g_42 bL_law rfl
theorem dL_law_768 : decode cL_law 768 = .ok (.iload_n 3, 1) := g_29 bL_law rfl
theorem dL_law_769 : decode cL_law 769 = .ok (.iconst 1, 1) := g_4 bL_law rfl
theorem dL_law_770 : decode cL_law 770 = .ok (.iadd, 1) := g_96 bL_law rfl
theorem dL_law_771 : decode cL_law 771 = .ok (.iaload, 1) := g_46 bL_law rfl
theorem dL_law_772 : decode cL_law 772 = .ok (.aload_n 0, 1) := g_42 bL_law rfl
theorem dL_law_773 : decode cL_law 773 = .ok (.iload_n 3, 1) := g_29 bL_law rfl
theorem dL_law_774 : decode cL_law 774 = .ok (.iconst 2, 1) := g_5 bL_law rfl
theorem dL_law_775 : decode cL_law 775 = .ok (.iadd, 1) := g_96 bL_law rfl
theorem dL_law_776 : decode cL_law 776 = .ok (.iaload, 1) := g_46 bL_law rfl
theorem dL_law_777 : decode cL_law 777 = .ok (.invokevirtual 79, 3) := g_182 bL_law rfl
theorem dL_law_780 : decode cL_law 780 = .ok (.pop, 1) := g_87 bL_law rfl
theorem dL_law_781 : decode cL_law 781 = .ok (.aload_n 2, 1) := g_44 bL_law rfl
theorem dL_law_782 : decode cL_law 782 = .ok (.aload_n 0, 1) := g_42 bL_law rfl
theorem dL_law_783 : decode cL_law 783 = .ok (.iload_n 3, 1) := g_29 bL_law rfl
theorem dL_law_784 : decode cL_law 784 = .ok (.iconst 1, 1) := g_4 bL_law rfl
theorem dL_law_785 : decode cL_law 785 = .ok (.iadd, 1) := g_96 bL_law rfl
theorem dL_law_786 : decode cL_law 786 = .ok (.iaload, 1) := g_46 bL_law rfl
theorem dL_law_787 : decode cL_law 787 = .ok (.aload_n 0, 1) := g_42 bL_law rfl
theorem dL_law_788 : decode cL_law 788 = .ok (.iload_n 3, 1) := g_29 bL_law rfl
theorem dL_law_789 : decode cL_law 789 = .ok (.iconst 2, 1) := g_5 bL_law rfl
theorem dL_law_790 : decode cL_law 790 = .ok (.iadd, 1) := g_96 bL_law rfl
theorem dL_law_791 : decode cL_law 791 = .ok (.iaload, 1) := g_46 bL_law rfl
theorem dL_law_792 : decode cL_law 792 = .ok (.invokevirtual 82, 3) := g_182 bL_law rfl
theorem dL_law_795 : decode cL_law 795 = .ok (.pop, 1) := g_87 bL_law rfl
theorem dL_law_796 : decode cL_law 796 = .ok (.goto 1011, 3) := g_167 1011 bL_law rfl rfl
theorem dL_law_799 : decode cL_law 799 = .ok (.aload_n 1, 1) := g_43 bL_law rfl
theorem dL_law_800 : decode cL_law 800 = .ok (.aload_n 0, 1) := g_42 bL_law rfl
theorem dL_law_801 : decode cL_law 801 = .ok (.iload_n 3, 1) := g_29 bL_law rfl
theorem dL_law_802 : decode cL_law 802 = .ok (.iconst 1, 1) := g_4 bL_law rfl
theorem dL_law_803 : decode cL_law 803 = .ok (.iadd, 1) := g_96 bL_law rfl
theorem dL_law_804 : decode cL_law 804 = .ok (.iaload, 1) := g_46 bL_law rfl
theorem dL_law_805 : decode cL_law 805 = .ok (.aload_n 0, 1) := g_42 bL_law rfl
theorem dL_law_806 : decode cL_law 806 = .ok (.iload_n 3, 1) := g_29 bL_law rfl
theorem dL_law_807 : decode cL_law 807 = .ok (.iconst 2, 1) := g_5 bL_law rfl
theorem dL_law_808 : decode cL_law 808 = .ok (.iadd, 1) := g_96 bL_law rfl
theorem dL_law_809 : decode cL_law 809 = .ok (.iaload, 1) := g_46 bL_law rfl
theorem dL_law_810 : decode cL_law 810 = .ok (.invokevirtual 83, 3) := g_182 bL_law rfl
theorem dL_law_813 : decode cL_law 813 = .ok (.pop, 1) := g_87 bL_law rfl
theorem dL_law_814 : decode cL_law 814 = .ok (.aload_n 2, 1) := g_44 bL_law rfl
theorem dL_law_815 : decode cL_law 815 = .ok (.aload_n 0, 1) := g_42 bL_law rfl
theorem dL_law_816 : decode cL_law 816 = .ok (.iload_n 3, 1) := g_29 bL_law rfl
theorem dL_law_817 : decode cL_law 817 = .ok (.iconst 1, 1) := g_4 bL_law rfl
theorem dL_law_818 : decode cL_law 818 = .ok (.iadd, 1) := g_96 bL_law rfl
theorem dL_law_819 : decode cL_law 819 = .ok (.iaload, 1) := g_46 bL_law rfl
theorem dL_law_820 : decode cL_law 820 = .ok (.aload_n 0, 1) := g_42 bL_law rfl
theorem dL_law_821 : decode cL_law 821 = .ok (.iload_n 3, 1) := g_29 bL_law rfl
theorem dL_law_822 : decode cL_law 822 = .ok (.iconst 2, 1) := g_5 bL_law rfl
theorem dL_law_823 : decode cL_law 823 = .ok (.iadd, 1) := g_96 bL_law rfl
theorem dL_law_824 : decode cL_law 824 = .ok (.iaload, 1) := g_46 bL_law rfl
theorem dL_law_825 : decode cL_law 825 = .ok (.invokevirtual 86, 3) := g_182 bL_law rfl
theorem dL_law_828 : decode cL_law 828 = .ok (.pop, 1) := g_87 bL_law rfl
theorem dL_law_829 : decode cL_law 829 = .ok (.goto 978, 3) := g_167 978 bL_law rfl rfl
theorem dL_law_832 : decode cL_law 832 = .ok (.aload_n 1, 1) := g_43 bL_law rfl
theorem dL_law_833 : decode cL_law 833 = .ok (.aload_n 0, 1) := g_42 bL_law rfl
theorem dL_law_834 : decode cL_law 834 = .ok (.iload_n 3, 1) := g_29 bL_law rfl
theorem dL_law_835 : decode cL_law 835 = .ok (.iconst 1, 1) := g_4 bL_law rfl
theorem dL_law_836 : decode cL_law 836 = .ok (.iadd, 1) := g_96 bL_law rfl
theorem dL_law_837 : decode cL_law 837 = .ok (.iaload, 1) := g_46 bL_law rfl
theorem dL_law_838 : decode cL_law 838 = .ok (.aload_n 0, 1) := g_42 bL_law rfl
theorem dL_law_839 : decode cL_law 839 = .ok (.iload_n 3, 1) := g_29 bL_law rfl
theorem dL_law_840 : decode cL_law 840 = .ok (.iconst 2, 1) := g_5 bL_law rfl
theorem dL_law_841 : decode cL_law 841 = .ok (.iadd, 1) := g_96 bL_law rfl
theorem dL_law_842 : decode cL_law 842 = .ok (.iaload, 1) := g_46 bL_law rfl
theorem dL_law_843 : decode cL_law 843 = .ok (.aload_n 0, 1) := g_42 bL_law rfl
theorem dL_law_844 : decode cL_law 844 = .ok (.iload_n 3, 1) := g_29 bL_law rfl
theorem dL_law_845 : decode cL_law 845 = .ok (.iconst 3, 1) := g_6 bL_law rfl
theorem dL_law_846 : decode cL_law 846 = .ok (.iadd, 1) := g_96 bL_law rfl
theorem dL_law_847 : decode cL_law 847 = .ok (.iaload, 1) := g_46 bL_law rfl
theorem dL_law_848 : decode cL_law 848 = .ok (.invokevirtual 87, 3) := g_182 bL_law rfl
theorem dL_law_851 : decode cL_law 851 = .ok (.pop, 1) := g_87 bL_law rfl
theorem dL_law_852 : decode cL_law 852 = .ok (.aload_n 2, 1) := g_44 bL_law rfl
theorem dL_law_853 : decode cL_law 853 = .ok (.aload_n 0, 1) := g_42 bL_law rfl
theorem dL_law_854 : decode cL_law 854 = .ok (.iload_n 3, 1) := g_29 bL_law rfl
theorem dL_law_855 : decode cL_law 855 = .ok (.iconst 1, 1) := g_4 bL_law rfl
theorem dL_law_856 : decode cL_law 856 = .ok (.iadd, 1) := g_96 bL_law rfl
theorem dL_law_857 : decode cL_law 857 = .ok (.iaload, 1) := g_46 bL_law rfl
theorem dL_law_858 : decode cL_law 858 = .ok (.aload_n 0, 1) := g_42 bL_law rfl
theorem dL_law_859 : decode cL_law 859 = .ok (.iload_n 3, 1) := g_29 bL_law rfl
theorem dL_law_860 : decode cL_law 860 = .ok (.iconst 2, 1) := g_5 bL_law rfl
theorem dL_law_861 : decode cL_law 861 = .ok (.iadd, 1) := g_96 bL_law rfl
theorem dL_law_862 : decode cL_law 862 = .ok (.iaload, 1) := g_46 bL_law rfl
theorem dL_law_863 : decode cL_law 863 = .ok (.aload_n 0, 1) := g_42 bL_law rfl
theorem dL_law_864 : decode cL_law 864 = .ok (.iload_n 3, 1) := g_29 bL_law rfl
theorem dL_law_865 : decode cL_law 865 = .ok (.iconst 3, 1) := g_6 bL_law rfl
theorem dL_law_866 : decode cL_law 866 = .ok (.iadd, 1) := g_96 bL_law rfl
theorem dL_law_867 : decode cL_law 867 = .ok (.iaload, 1) := g_46 bL_law rfl
theorem dL_law_868 : decode cL_law 868 = .ok (.invokevirtual 90, 3) := g_182 bL_law rfl
theorem dL_law_871 : decode cL_law 871 = .ok (.pop, 1) := g_87 bL_law rfl
theorem dL_law_872 : decode cL_law 872 = .ok (.goto 935, 3) := g_167 935 bL_law rfl rfl
theorem dL_law_875 : decode cL_law 875 = .ok (.aload_n 1, 1) := g_43 bL_law rfl
theorem dL_law_876 : decode cL_law 876 = .ok (.aload_n 0, 1) := g_42 bL_law rfl
theorem dL_law_877 : decode cL_law 877 = .ok (.iload_n 3, 1) := g_29 bL_law rfl
theorem dL_law_878 : decode cL_law 878 = .ok (.iconst 1, 1) := g_4 bL_law rfl
theorem dL_law_879 : decode cL_law 879 = .ok (.iadd, 1) := g_96 bL_law rfl
theorem dL_law_880 : decode cL_law 880 = .ok (.iaload, 1) := g_46 bL_law rfl
theorem dL_law_881 : decode cL_law 881 = .ok (.aload_n 0, 1) := g_42 bL_law rfl
theorem dL_law_882 : decode cL_law 882 = .ok (.iload_n 3, 1) := g_29 bL_law rfl
theorem dL_law_883 : decode cL_law 883 = .ok (.iconst 2, 1) := g_5 bL_law rfl
theorem dL_law_884 : decode cL_law 884 = .ok (.iadd, 1) := g_96 bL_law rfl
theorem dL_law_885 : decode cL_law 885 = .ok (.iaload, 1) := g_46 bL_law rfl
theorem dL_law_886 : decode cL_law 886 = .ok (.invokevirtual 91, 3) := g_182 bL_law rfl
theorem dL_law_889 : decode cL_law 889 = .ok (.pop, 1) := g_87 bL_law rfl
theorem dL_law_890 : decode cL_law 890 = .ok (.aload_n 2, 1) := g_44 bL_law rfl
theorem dL_law_891 : decode cL_law 891 = .ok (.aload_n 0, 1) := g_42 bL_law rfl
theorem dL_law_892 : decode cL_law 892 = .ok (.iload_n 3, 1) := g_29 bL_law rfl
theorem dL_law_893 : decode cL_law 893 = .ok (.iconst 1, 1) := g_4 bL_law rfl
theorem dL_law_894 : decode cL_law 894 = .ok (.iadd, 1) := g_96 bL_law rfl
theorem dL_law_895 : decode cL_law 895 = .ok (.iaload, 1) := g_46 bL_law rfl
theorem dL_law_896 : decode cL_law 896 = .ok (.aload_n 0, 1) := g_42 bL_law rfl
theorem dL_law_897 : decode cL_law 897 = .ok (.iload_n 3, 1) := g_29 bL_law rfl
theorem dL_law_898 : decode cL_law 898 = .ok (.iconst 2, 1) := g_5 bL_law rfl
theorem dL_law_899 : decode cL_law 899 = .ok (.iadd, 1) := g_96 bL_law rfl
theorem dL_law_900 : decode cL_law 900 = .ok (.iaload, 1) := g_46 bL_law rfl
theorem dL_law_901 : decode cL_law 901 = .ok (.invokevirtual 94, 3) := g_182 bL_law rfl
theorem dL_law_904 : decode cL_law 904 = .ok (.pop, 1) := g_87 bL_law rfl
theorem dL_law_905 : decode cL_law 905 = .ok (.goto 902, 3) := g_167 902 bL_law rfl rfl
theorem dL_law_908 : decode cL_law 908 = .ok (.aload_n 1, 1) := g_43 bL_law rfl
theorem dL_law_909 : decode cL_law 909 = .ok (.aload_n 0, 1) := g_42 bL_law rfl
theorem dL_law_910 : decode cL_law 910 = .ok (.iload_n 3, 1) := g_29 bL_law rfl
theorem dL_law_911 : decode cL_law 911 = .ok (.iconst 1, 1) := g_4 bL_law rfl
theorem dL_law_912 : decode cL_law 912 = .ok (.iadd, 1) := g_96 bL_law rfl
theorem dL_law_913 : decode cL_law 913 = .ok (.iaload, 1) := g_46 bL_law rfl
theorem dL_law_914 : decode cL_law 914 = .ok (.aload_n 0, 1) := g_42 bL_law rfl
theorem dL_law_915 : decode cL_law 915 = .ok (.iload_n 3, 1) := g_29 bL_law rfl
theorem dL_law_916 : decode cL_law 916 = .ok (.iconst 2, 1) := g_5 bL_law rfl
theorem dL_law_917 : decode cL_law 917 = .ok (.iadd, 1) := g_96 bL_law rfl
theorem dL_law_918 : decode cL_law 918 = .ok (.iaload, 1) := g_46 bL_law rfl
theorem dL_law_919 : decode cL_law 919 = .ok (.invokevirtual 95, 3) := g_182 bL_law rfl
theorem dL_law_922 : decode cL_law 922 = .ok (.pop, 1) := g_87 bL_law rfl
theorem dL_law_923 : decode cL_law 923 = .ok (.aload_n 2, 1) := g_44 bL_law rfl
theorem dL_law_924 : decode cL_law 924 = .ok (.aload_n 0, 1) := g_42 bL_law rfl
theorem dL_law_925 : decode cL_law 925 = .ok (.iload_n 3, 1) := g_29 bL_law rfl
theorem dL_law_926 : decode cL_law 926 = .ok (.iconst 1, 1) := g_4 bL_law rfl
theorem dL_law_927 : decode cL_law 927 = .ok (.iadd, 1) := g_96 bL_law rfl
theorem dL_law_928 : decode cL_law 928 = .ok (.iaload, 1) := g_46 bL_law rfl
theorem dL_law_929 : decode cL_law 929 = .ok (.aload_n 0, 1) := g_42 bL_law rfl
theorem dL_law_930 : decode cL_law 930 = .ok (.iload_n 3, 1) := g_29 bL_law rfl
theorem dL_law_931 : decode cL_law 931 = .ok (.iconst 2, 1) := g_5 bL_law rfl
theorem dL_law_932 : decode cL_law 932 = .ok (.iadd, 1) := g_96 bL_law rfl
theorem dL_law_933 : decode cL_law 933 = .ok (.iaload, 1) := g_46 bL_law rfl
theorem dL_law_934 : decode cL_law 934 = .ok (.invokevirtual 98, 3) := g_182 bL_law rfl
theorem dL_law_937 : decode cL_law 937 = .ok (.pop, 1) := g_87 bL_law rfl
theorem dL_law_938 : decode cL_law 938 = .ok (.goto 869, 3) := g_167 869 bL_law rfl rfl
theorem dL_law_941 : decode cL_law 941 = .ok (.aload_n 1, 1) := g_43 bL_law rfl
theorem dL_law_942 : decode cL_law 942 = .ok (.aload_n 0, 1) := g_42 bL_law rfl
theorem dL_law_943 : decode cL_law 943 = .ok (.iload_n 3, 1) := g_29 bL_law rfl
theorem dL_law_944 : decode cL_law 944 = .ok (.iconst 1, 1) := g_4 bL_law rfl
theorem dL_law_945 : decode cL_law 945 = .ok (.iadd, 1) := g_96 bL_law rfl
theorem dL_law_946 : decode cL_law 946 = .ok (.iaload, 1) := g_46 bL_law rfl
theorem dL_law_947 : decode cL_law 947 = .ok (.aload_n 0, 1) := g_42 bL_law rfl
theorem dL_law_948 : decode cL_law 948 = .ok (.iload_n 3, 1) := g_29 bL_law rfl
theorem dL_law_949 : decode cL_law 949 = .ok (.iconst 2, 1) := g_5 bL_law rfl
theorem dL_law_950 : decode cL_law 950 = .ok (.iadd, 1) := g_96 bL_law rfl
theorem dL_law_951 : decode cL_law 951 = .ok (.iaload, 1) := g_46 bL_law rfl
theorem dL_law_952 : decode cL_law 952 = .ok (.invokevirtual 99, 3) := g_182 bL_law rfl
theorem dL_law_955 : decode cL_law 955 = .ok (.pop, 1) := g_87 bL_law rfl
theorem dL_law_956 : decode cL_law 956 = .ok (.aload_n 2, 1) := g_44 bL_law rfl
theorem dL_law_957 : decode cL_law 957 = .ok (.aload_n 0, 1) := g_42 bL_law rfl
theorem dL_law_958 : decode cL_law 958 = .ok (.iload_n 3, 1) := g_29 bL_law rfl
theorem dL_law_959 : decode cL_law 959 = .ok (.iconst 1, 1) := g_4 bL_law rfl
theorem dL_law_960 : decode cL_law 960 = .ok (.iadd, 1) := g_96 bL_law rfl
theorem dL_law_961 : decode cL_law 961 = .ok (.iaload, 1) := g_46 bL_law rfl
theorem dL_law_962 : decode cL_law 962 = .ok (.aload_n 0, 1) := g_42 bL_law rfl
theorem dL_law_963 : decode cL_law 963 = .ok (.iload_n 3, 1) := g_29 bL_law rfl
theorem dL_law_964 : decode cL_law 964 = .ok (.iconst 2, 1) := g_5 bL_law rfl
theorem dL_law_965 : decode cL_law 965 = .ok (.iadd, 1) := g_96 bL_law rfl
theorem dL_law_966 : decode cL_law 966 = .ok (.iaload, 1) := g_46 bL_law rfl
theorem dL_law_967 : decode cL_law 967 = .ok (.invokevirtual 102, 3) := g_182 bL_law rfl
theorem dL_law_970 : decode cL_law 970 = .ok (.pop, 1) := g_87 bL_law rfl
theorem dL_law_971 : decode cL_law 971 = .ok (.goto 836, 3) := g_167 836 bL_law rfl rfl
theorem dL_law_974 : decode cL_law 974 = .ok (.aload_n 1, 1) := g_43 bL_law rfl
theorem dL_law_975 : decode cL_law 975 = .ok (.aload_n 0, 1) := g_42 bL_law rfl
theorem dL_law_976 : decode cL_law 976 = .ok (.iload_n 3, 1) := g_29 bL_law rfl
theorem dL_law_977 : decode cL_law 977 = .ok (.iconst 1, 1) := g_4 bL_law rfl
theorem dL_law_978 : decode cL_law 978 = .ok (.iadd, 1) := g_96 bL_law rfl
theorem dL_law_979 : decode cL_law 979 = .ok (.iaload, 1) := g_46 bL_law rfl
theorem dL_law_980 : decode cL_law 980 = .ok (.aload_n 0, 1) := g_42 bL_law rfl
theorem dL_law_981 : decode cL_law 981 = .ok (.iload_n 3, 1) := g_29 bL_law rfl
theorem dL_law_982 : decode cL_law 982 = .ok (.iconst 2, 1) := g_5 bL_law rfl
theorem dL_law_983 : decode cL_law 983 = .ok (.iadd, 1) := g_96 bL_law rfl
theorem dL_law_984 : decode cL_law 984 = .ok (.iaload, 1) := g_46 bL_law rfl
theorem dL_law_985 : decode cL_law 985 = .ok (.aload_n 0, 1) := g_42 bL_law rfl
theorem dL_law_986 : decode cL_law 986 = .ok (.iload_n 3, 1) := g_29 bL_law rfl
theorem dL_law_987 : decode cL_law 987 = .ok (.iconst 3, 1) := g_6 bL_law rfl
theorem dL_law_988 : decode cL_law 988 = .ok (.iadd, 1) := g_96 bL_law rfl
theorem dL_law_989 : decode cL_law 989 = .ok (.iaload, 1) := g_46 bL_law rfl
theorem dL_law_990 : decode cL_law 990 = .ok (.invokevirtual 103, 3) := g_182 bL_law rfl
theorem dL_law_993 : decode cL_law 993 = .ok (.pop, 1) := g_87 bL_law rfl
theorem dL_law_994 : decode cL_law 994 = .ok (.aload_n 2, 1) := g_44 bL_law rfl
theorem dL_law_995 : decode cL_law 995 = .ok (.aload_n 0, 1) := g_42 bL_law rfl
theorem dL_law_996 : decode cL_law 996 = .ok (.iload_n 3, 1) := g_29 bL_law rfl
theorem dL_law_997 : decode cL_law 997 = .ok (.iconst 1, 1) := g_4 bL_law rfl
theorem dL_law_998 : decode cL_law 998 = .ok (.iadd, 1) := g_96 bL_law rfl
theorem dL_law_999 : decode cL_law 999 = .ok (.iaload, 1) := g_46 bL_law rfl
theorem dL_law_1000 : decode cL_law 1000 = .ok (.aload_n 0, 1) := g_42 bL_law rfl
theorem dL_law_1001 : decode cL_law 1001 = .ok (.iload_n 3, 1) := g_29 bL_law rfl
theorem dL_law_1002 : decode cL_law 1002 = .ok (.iconst 2, 1) := g_5 bL_law rfl
theorem dL_law_1003 : decode cL_law 1003 = .ok (.iadd, 1) := g_96 bL_law rfl
theorem dL_law_1004 : decode cL_law 1004 = .ok (.iaload, 1) := g_46 bL_law rfl
theorem dL_law_1005 : decode cL_law 1005 = .ok (.aload_n 0, 1) := g_42 bL_law rfl
theorem dL_law_1006 : decode cL_law 1006 = .ok (.iload_n 3, 1) := g_29 bL_law rfl
theorem dL_law_1007 : decode cL_law 1007 = .ok (.iconst 3, 1) := g_6 bL_law rfl
theorem dL_law_1008 : decode cL_law 1008 = .ok (.iadd, 1) := g_96 bL_law rfl
theorem dL_law_1009 : decode cL_law 1009 = .ok (.iaload, 1) := g_46 bL_law rfl
theorem dL_law_1010 : decode cL_law 1010 = .ok (.invokevirtual 106, 3) := g_182 bL_law rfl
theorem dL_law_1013 : decode cL_law 1013 = .ok (.pop, 1) := g_87 bL_law rfl
theorem dL_law_1014 : decode cL_law 1014 = .ok (.goto 793, 3) := g_167 793 bL_law rfl rfl
theorem dL_law_1017 : decode cL_law 1017 = .ok (.aload_n 1, 1) := g_43 bL_law rfl
theorem dL_law_1018 : decode cL_law 1018 = .ok (.aload_n 0, 1) := g_42 bL_law rfl
theorem dL_law_1019 : decode cL_law 1019 = .ok (.iload_n 3, 1) := g_29 bL_law rfl
theorem dL_law_1020 : decode cL_law 1020 = .ok (.iconst 1, 1) := g_4 bL_law rfl
theorem dL_law_1021 : decode cL_law 1021 = .ok (.iadd, 1) := g_96 bL_law rfl
theorem dL_law_1022 : decode cL_law 1022 = .ok (.iaload, 1) := g_46 bL_law rfl
theorem dL_law_1023 : decode cL_law 1023 = .ok (.aload_n 0, 1) := g_42 bL_law rfl
theorem dL_law_1024 : decode cL_law 1024 = .ok (.iload_n 3, 1) := g_29 bL_law rfl
theorem dL_law_1025 : decode cL_law 1025 = .ok (.iconst 2, 1) := g_5 bL_law rfl
theorem dL_law_1026 : decode cL_law 1026 = .ok (.iadd, 1) := g_96 bL_law rfl
theorem dL_law_1027 : decode cL_law 1027 = .ok (.iaload, 1) := g_46 bL_law rfl
theorem dL_law_1028 : decode cL_law 1028 = .ok (.aload_n 0, 1) := g_42 bL_law rfl
theorem dL_law_1029 : decode cL_law 1029 = .ok (.iload_n 3, 1) := g_29 bL_law rfl
theorem dL_law_1030 : decode cL_law 1030 = .ok (.iconst 3, 1) := g_6 bL_law rfl
theorem dL_law_1031 : decode cL_law 1031 = .ok (.iadd, 1) := g_96 bL_law rfl
theorem dL_law_1032 : decode cL_law 1032 = .ok (.iaload, 1) := g_46 bL_law rfl
theorem dL_law_1033 : decode cL_law 1033 = .ok (.invokevirtual 107, 3) := g_182 bL_law rfl
theorem dL_law_1036 : decode cL_law 1036 = .ok (.pop, 1) := g_87 bL_law rfl
theorem dL_law_1037 : decode cL_law 1037 = .ok (.aload_n 2, 1) := g_44 bL_law rfl
theorem dL_law_1038 : decode cL_law 1038 = .ok (.aload_n 0, 1) := g_42 bL_law rfl
theorem dL_law_1039 : decode cL_law 1039 = .ok (.iload_n 3, 1) := g_29 bL_law rfl
theorem dL_law_1040 : decode cL_law 1040 = .ok (.iconst 1, 1) := g_4 bL_law rfl
theorem dL_law_1041 : decode cL_law 1041 = .ok (.iadd, 1) := g_96 bL_law rfl
theorem dL_law_1042 : decode cL_law 1042 = .ok (.iaload, 1) := g_46 bL_law rfl
theorem dL_law_1043 : decode cL_law 1043 = .ok (.aload_n 0, 1) := g_42 bL_law rfl
theorem dL_law_1044 : decode cL_law 1044 = .ok (.iload_n 3, 1) := g_29 bL_law rfl
theorem dL_law_1045 : decode cL_law 1045 = .ok (.iconst 2, 1) := g_5 bL_law rfl
theorem dL_law_1046 : decode cL_law 1046 = .ok (.iadd, 1) := g_96 bL_law rfl
theorem dL_law_1047 : decode cL_law 1047 = .ok (.iaload, 1) := g_46 bL_law rfl
theorem dL_law_1048 : decode cL_law 1048 = .ok (.aload_n 0, 1) := g_42 bL_law rfl
theorem dL_law_1049 : decode cL_law 1049 = .ok (.iload_n 3, 1) := g_29 bL_law rfl
theorem dL_law_1050 : decode cL_law 1050 = .ok (.iconst 3, 1) := g_6 bL_law rfl
theorem dL_law_1051 : decode cL_law 1051 = .ok (.iadd, 1) := g_96 bL_law rfl
theorem dL_law_1052 : decode cL_law 1052 = .ok (.iaload, 1) := g_46 bL_law rfl
theorem dL_law_1053 : decode cL_law 1053 = .ok (.invokevirtual 110, 3) := g_182 bL_law rfl
theorem dL_law_1056 : decode cL_law 1056 = .ok (.pop, 1) := g_87 bL_law rfl
theorem dL_law_1057 : decode cL_law 1057 = .ok (.goto 750, 3) := g_167 750 bL_law rfl rfl
theorem dL_law_1060 : decode cL_law 1060 = .ok (.aload_n 1, 1) := g_43 bL_law rfl
theorem dL_law_1061 : decode cL_law 1061 = .ok (.aload_n 0, 1) := g_42 bL_law rfl
theorem dL_law_1062 : decode cL_law 1062 = .ok (.iload_n 3, 1) := g_29 bL_law rfl
theorem dL_law_1063 : decode cL_law 1063 = .ok (.iconst 1, 1) := g_4 bL_law rfl
theorem dL_law_1064 : decode cL_law 1064 = .ok (.iadd, 1) := g_96 bL_law rfl
theorem dL_law_1065 : decode cL_law 1065 = .ok (.iaload, 1) := g_46 bL_law rfl
theorem dL_law_1066 : decode cL_law 1066 = .ok (.aload_n 0, 1) := g_42 bL_law rfl
theorem dL_law_1067 : decode cL_law 1067 = .ok (.iload_n 3, 1) := g_29 bL_law rfl
theorem dL_law_1068 : decode cL_law 1068 = .ok (.iconst 2, 1) := g_5 bL_law rfl
theorem dL_law_1069 : decode cL_law 1069 = .ok (.iadd, 1) := g_96 bL_law rfl
theorem dL_law_1070 : decode cL_law 1070 = .ok (.iaload, 1) := g_46 bL_law rfl
theorem dL_law_1071 : decode cL_law 1071 = .ok (.invokevirtual 111, 3) := g_182 bL_law rfl
theorem dL_law_1074 : decode cL_law 1074 = .ok (.pop, 1) := g_87 bL_law rfl
theorem dL_law_1075 : decode cL_law 1075 = .ok (.aload_n 2, 1) := g_44 bL_law rfl
theorem dL_law_1076 : decode cL_law 1076 = .ok (.aload_n 0, 1) := g_42 bL_law rfl
theorem dL_law_1077 : decode cL_law 1077 = .ok (.iload_n 3, 1) := g_29 bL_law rfl
theorem dL_law_1078 : decode cL_law 1078 = .ok (.iconst 1, 1) := g_4 bL_law rfl
theorem dL_law_1079 : decode cL_law 1079 = .ok (.iadd, 1) := g_96 bL_law rfl
theorem dL_law_1080 : decode cL_law 1080 = .ok (.iaload, 1) := g_46 bL_law rfl
theorem dL_law_1081 : decode cL_law 1081 = .ok (.aload_n 0, 1) := g_42 bL_law rfl
theorem dL_law_1082 : decode cL_law 1082 = .ok (.iload_n 3, 1) := g_29 bL_law rfl
theorem dL_law_1083 : decode cL_law 1083 = .ok (.iconst 2, 1) := g_5 bL_law rfl
theorem dL_law_1084 : decode cL_law 1084 = .ok (.iadd, 1) := g_96 bL_law rfl
theorem dL_law_1085 : decode cL_law 1085 = .ok (.iaload, 1) := g_46 bL_law rfl
theorem dL_law_1086 : decode cL_law 1086 = .ok (.invokevirtual 114, 3) := g_182 bL_law rfl
theorem dL_law_1089 : decode cL_law 1089 = .ok (.pop, 1) := g_87 bL_law rfl
theorem dL_law_1090 : decode cL_law 1090 = .ok (.goto 717, 3) := g_167 717 bL_law rfl rfl
theorem dL_law_1093 : decode cL_law 1093 = .ok (.aload_n 1, 1) := g_43 bL_law rfl
theorem dL_law_1094 : decode cL_law 1094 = .ok (.invokevirtual 115, 3) := g_182 bL_law rfl
theorem dL_law_1097 : decode cL_law 1097 = .ok (.pop, 1) := g_87 bL_law rfl
theorem dL_law_1098 : decode cL_law 1098 = .ok (.aload_n 2, 1) := g_44 bL_law rfl
theorem dL_law_1099 : decode cL_law 1099 = .ok (.invokevirtual 118, 3) := g_182 bL_law rfl
theorem dL_law_1102 : decode cL_law 1102 = .ok (.pop, 1) := g_87 bL_law rfl
theorem dL_law_1103 : decode cL_law 1103 = .ok (.goto 704, 3) := g_167 704 bL_law rfl rfl
theorem dL_law_1106 : decode cL_law 1106 = .ok (.aload_n 1, 1) := g_43 bL_law rfl
theorem dL_law_1107 : decode cL_law 1107 = .ok (.aload_n 0, 1) := g_42 bL_law rfl
theorem dL_law_1108 : decode cL_law 1108 = .ok (.iload_n 3, 1) := g_29 bL_law rfl
theorem dL_law_1109 : decode cL_law 1109 = .ok (.iconst 1, 1) := g_4 bL_law rfl
theorem dL_law_1110 : decode cL_law 1110 = .ok (.iadd, 1) := g_96 bL_law rfl
theorem dL_law_1111 : decode cL_law 1111 = .ok (.iaload, 1) := g_46 bL_law rfl
theorem dL_law_1112 : decode cL_law 1112 = .ok (.invokevirtual 119, 3) := g_182 bL_law rfl
theorem dL_law_1115 : decode cL_law 1115 = .ok (.pop, 1) := g_87 bL_law rfl
theorem dL_law_1116 : decode cL_law 1116 = .ok (.aload_n 2, 1) := g_44 bL_law rfl
theorem dL_law_1117 : decode cL_law 1117 = .ok (.aload_n 0, 1) := g_42 bL_law rfl
theorem dL_law_1118 : decode cL_law 1118 = .ok (.iload_n 3, 1) := g_29 bL_law rfl
theorem dL_law_1119 : decode cL_law 1119 = .ok (.iconst 1, 1) := g_4 bL_law rfl
theorem dL_law_1120 : decode cL_law 1120 = .ok (.iadd, 1) := g_96 bL_law rfl
theorem dL_law_1121 : decode cL_law 1121 = .ok (.iaload, 1) := g_46 bL_law rfl
theorem dL_law_1122 : decode cL_law 1122 = .ok (.invokevirtual 122, 3) := g_182 bL_law rfl
theorem dL_law_1125 : decode cL_law 1125 = .ok (.pop, 1) := g_87 bL_law rfl
theorem dL_law_1126 : decode cL_law 1126 = .ok (.goto 681, 3) := g_167 681 bL_law rfl rfl
theorem dL_law_1129 : decode cL_law 1129 = .ok (.aload_n 1, 1) := g_43 bL_law rfl
theorem dL_law_1130 : decode cL_law 1130 = .ok (.aload_n 0, 1) := g_42 bL_law rfl
theorem dL_law_1131 : decode cL_law 1131 = .ok (.iload_n 3, 1) := g_29 bL_law rfl
theorem dL_law_1132 : decode cL_law 1132 = .ok (.iconst 1, 1) := g_4 bL_law rfl
theorem dL_law_1133 : decode cL_law 1133 = .ok (.iadd, 1) := g_96 bL_law rfl
theorem dL_law_1134 : decode cL_law 1134 = .ok (.iaload, 1) := g_46 bL_law rfl
theorem dL_law_1135 : decode cL_law 1135 = .ok (.aload_n 0, 1) := g_42 bL_law rfl
theorem dL_law_1136 : decode cL_law 1136 = .ok (.iload_n 3, 1) := g_29 bL_law rfl
theorem dL_law_1137 : decode cL_law 1137 = .ok (.iconst 2, 1) := g_5 bL_law rfl
theorem dL_law_1138 : decode cL_law 1138 = .ok (.iadd, 1) := g_96 bL_law rfl
theorem dL_law_1139 : decode cL_law 1139 = .ok (.iaload, 1) := g_46 bL_law rfl
theorem dL_law_1140 : decode cL_law 1140 = .ok (.aload_n 0, 1) := g_42 bL_law rfl
theorem dL_law_1141 : decode cL_law 1141 = .ok (.iload_n 3, 1) := g_29 bL_law rfl
theorem dL_law_1142 : decode cL_law 1142 = .ok (.iconst 3, 1) := g_6 bL_law rfl
theorem dL_law_1143 : decode cL_law 1143 = .ok (.iadd, 1) := g_96 bL_law rfl
theorem dL_law_1144 : decode cL_law 1144 = .ok (.iaload, 1) := g_46 bL_law rfl
theorem dL_law_1145 : decode cL_law 1145 = .ok (.invokevirtual 123, 3) := g_182 bL_law rfl
theorem dL_law_1148 : decode cL_law 1148 = .ok (.pop, 1) := g_87 bL_law rfl
theorem dL_law_1149 : decode cL_law 1149 = .ok (.aload_n 2, 1) := g_44 bL_law rfl
theorem dL_law_1150 : decode cL_law 1150 = .ok (.aload_n 0, 1) := g_42 bL_law rfl
theorem dL_law_1151 : decode cL_law 1151 = .ok (.iload_n 3, 1) := g_29 bL_law rfl
theorem dL_law_1152 : decode cL_law 1152 = .ok (.iconst 1, 1) := g_4 bL_law rfl
theorem dL_law_1153 : decode cL_law 1153 = .ok (.iadd, 1) := g_96 bL_law rfl
theorem dL_law_1154 : decode cL_law 1154 = .ok (.iaload, 1) := g_46 bL_law rfl
theorem dL_law_1155 : decode cL_law 1155 = .ok (.aload_n 0, 1) := g_42 bL_law rfl
theorem dL_law_1156 : decode cL_law 1156 = .ok (.iload_n 3, 1) := g_29 bL_law rfl
theorem dL_law_1157 : decode cL_law 1157 = .ok (.iconst 2, 1) := g_5 bL_law rfl
theorem dL_law_1158 : decode cL_law 1158 = .ok (.iadd, 1) := g_96 bL_law rfl
theorem dL_law_1159 : decode cL_law 1159 = .ok (.iaload, 1) := g_46 bL_law rfl
theorem dL_law_1160 : decode cL_law 1160 = .ok (.aload_n 0, 1) := g_42 bL_law rfl
theorem dL_law_1161 : decode cL_law 1161 = .ok (.iload_n 3, 1) := g_29 bL_law rfl
theorem dL_law_1162 : decode cL_law 1162 = .ok (.iconst 3, 1) := g_6 bL_law rfl
theorem dL_law_1163 : decode cL_law 1163 = .ok (.iadd, 1) := g_96 bL_law rfl
theorem dL_law_1164 : decode cL_law 1164 = .ok (.iaload, 1) := g_46 bL_law rfl
theorem dL_law_1165 : decode cL_law 1165 = .ok (.invokevirtual 126, 3) := g_182 bL_law rfl
theorem dL_law_1168 : decode cL_law 1168 = .ok (.pop, 1) := g_87 bL_law rfl
theorem dL_law_1169 : decode cL_law 1169 = .ok (.goto 638, 3) := g_167 638 bL_law rfl rfl
theorem dL_law_1172 : decode cL_law 1172 = .ok (.aload_n 1, 1) := g_43 bL_law rfl
theorem dL_law_1173 : decode cL_law 1173 = .ok (.aload_n 0, 1) := g_42 bL_law rfl
theorem dL_law_1174 : decode cL_law 1174 = .ok (.iload_n 3, 1) := g_29 bL_law rfl
theorem dL_law_1175 : decode cL_law 1175 = .ok (.iconst 1, 1) := g_4 bL_law rfl
theorem dL_law_1176 : decode cL_law 1176 = .ok (.iadd, 1) := g_96 bL_law rfl
theorem dL_law_1177 : decode cL_law 1177 = .ok (.iaload, 1) := g_46 bL_law rfl
theorem dL_law_1178 : decode cL_law 1178 = .ok (.invokevirtual 127, 3) := g_182 bL_law rfl
theorem dL_law_1181 : decode cL_law 1181 = .ok (.pop, 1) := g_87 bL_law rfl
theorem dL_law_1182 : decode cL_law 1182 = .ok (.aload_n 2, 1) := g_44 bL_law rfl
theorem dL_law_1183 : decode cL_law 1183 = .ok (.aload_n 0, 1) := g_42 bL_law rfl
theorem dL_law_1184 : decode cL_law 1184 = .ok (.iload_n 3, 1) := g_29 bL_law rfl
theorem dL_law_1185 : decode cL_law 1185 = .ok (.iconst 1, 1) := g_4 bL_law rfl
theorem dL_law_1186 : decode cL_law 1186 = .ok (.iadd, 1) := g_96 bL_law rfl
theorem dL_law_1187 : decode cL_law 1187 = .ok (.iaload, 1) := g_46 bL_law rfl
theorem dL_law_1188 : decode cL_law 1188 = .ok (.invokevirtual 130, 3) := g_182 bL_law rfl
theorem dL_law_1191 : decode cL_law 1191 = .ok (.pop, 1) := g_87 bL_law rfl
theorem dL_law_1192 : decode cL_law 1192 = .ok (.goto 615, 3) := g_167 615 bL_law rfl rfl
theorem dL_law_1195 : decode cL_law 1195 = .ok (.aload_n 1, 1) := g_43 bL_law rfl
theorem dL_law_1196 : decode cL_law 1196 = .ok (.aload_n 0, 1) := g_42 bL_law rfl
theorem dL_law_1197 : decode cL_law 1197 = .ok (.iload_n 3, 1) := g_29 bL_law rfl
theorem dL_law_1198 : decode cL_law 1198 = .ok (.iconst 1, 1) := g_4 bL_law rfl
theorem dL_law_1199 : decode cL_law 1199 = .ok (.iadd, 1) := g_96 bL_law rfl
theorem dL_law_1200 : decode cL_law 1200 = .ok (.iaload, 1) := g_46 bL_law rfl
theorem dL_law_1201 : decode cL_law 1201 = .ok (.aload_n 0, 1) := g_42 bL_law rfl
theorem dL_law_1202 : decode cL_law 1202 = .ok (.iload_n 3, 1) := g_29 bL_law rfl
theorem dL_law_1203 : decode cL_law 1203 = .ok (.iconst 2, 1) := g_5 bL_law rfl
theorem dL_law_1204 : decode cL_law 1204 = .ok (.iadd, 1) := g_96 bL_law rfl
theorem dL_law_1205 : decode cL_law 1205 = .ok (.iaload, 1) := g_46 bL_law rfl
theorem dL_law_1206 : decode cL_law 1206 = .ok (.invokevirtual 131, 3) := g_182 bL_law rfl
theorem dL_law_1209 : decode cL_law 1209 = .ok (.pop, 1) := g_87 bL_law rfl
theorem dL_law_1210 : decode cL_law 1210 = .ok (.aload_n 2, 1) := g_44 bL_law rfl
theorem dL_law_1211 : decode cL_law 1211 = .ok (.aload_n 0, 1) := g_42 bL_law rfl
theorem dL_law_1212 : decode cL_law 1212 = .ok (.iload_n 3, 1) := g_29 bL_law rfl
theorem dL_law_1213 : decode cL_law 1213 = .ok (.iconst 1, 1) := g_4 bL_law rfl
theorem dL_law_1214 : decode cL_law 1214 = .ok (.iadd, 1) := g_96 bL_law rfl
theorem dL_law_1215 : decode cL_law 1215 = .ok (.iaload, 1) := g_46 bL_law rfl
theorem dL_law_1216 : decode cL_law 1216 = .ok (.aload_n 0, 1) := g_42 bL_law rfl
theorem dL_law_1217 : decode cL_law 1217 = .ok (.iload_n 3, 1) := g_29 bL_law rfl
theorem dL_law_1218 : decode cL_law 1218 = .ok (.iconst 2, 1) := g_5 bL_law rfl
theorem dL_law_1219 : decode cL_law 1219 = .ok (.iadd, 1) := g_96 bL_law rfl
theorem dL_law_1220 : decode cL_law 1220 = .ok (.iaload, 1) := g_46 bL_law rfl
theorem dL_law_1221 : decode cL_law 1221 = .ok (.invokevirtual 134, 3) := g_182 bL_law rfl
theorem dL_law_1224 : decode cL_law 1224 = .ok (.pop, 1) := g_87 bL_law rfl
theorem dL_law_1225 : decode cL_law 1225 = .ok (.goto 582, 3) := g_167 582 bL_law rfl rfl
theorem dL_law_1228 : decode cL_law 1228 = .ok (.aload_n 1, 1) := g_43 bL_law rfl
theorem dL_law_1229 : decode cL_law 1229 = .ok (.aload_n 0, 1) := g_42 bL_law rfl
theorem dL_law_1230 : decode cL_law 1230 = .ok (.iload_n 3, 1) := g_29 bL_law rfl
theorem dL_law_1231 : decode cL_law 1231 = .ok (.iconst 1, 1) := g_4 bL_law rfl
theorem dL_law_1232 : decode cL_law 1232 = .ok (.iadd, 1) := g_96 bL_law rfl
theorem dL_law_1233 : decode cL_law 1233 = .ok (.iaload, 1) := g_46 bL_law rfl
theorem dL_law_1234 : decode cL_law 1234 = .ok (.aload_n 0, 1) := g_42 bL_law rfl
theorem dL_law_1235 : decode cL_law 1235 = .ok (.iload_n 3, 1) := g_29 bL_law rfl
theorem dL_law_1236 : decode cL_law 1236 = .ok (.iconst 2, 1) := g_5 bL_law rfl
theorem dL_law_1237 : decode cL_law 1237 = .ok (.iadd, 1) := g_96 bL_law rfl
theorem dL_law_1238 : decode cL_law 1238 = .ok (.iaload, 1) := g_46 bL_law rfl
theorem dL_law_1239 : decode cL_law 1239 = .ok (.invokevirtual 135, 3) := g_182 bL_law rfl
theorem dL_law_1242 : decode cL_law 1242 = .ok (.pop, 1) := g_87 bL_law rfl
theorem dL_law_1243 : decode cL_law 1243 = .ok (.aload_n 2, 1) := g_44 bL_law rfl
theorem dL_law_1244 : decode cL_law 1244 = .ok (.aload_n 0, 1) := g_42 bL_law rfl
theorem dL_law_1245 : decode cL_law 1245 = .ok (.iload_n 3, 1) := g_29 bL_law rfl
theorem dL_law_1246 : decode cL_law 1246 = .ok (.iconst 1, 1) := g_4 bL_law rfl
theorem dL_law_1247 : decode cL_law 1247 = .ok (.iadd, 1) := g_96 bL_law rfl
theorem dL_law_1248 : decode cL_law 1248 = .ok (.iaload, 1) := g_46 bL_law rfl
theorem dL_law_1249 : decode cL_law 1249 = .ok (.aload_n 0, 1) := g_42 bL_law rfl
theorem dL_law_1250 : decode cL_law 1250 = .ok (.iload_n 3, 1) := g_29 bL_law rfl
theorem dL_law_1251 : decode cL_law 1251 = .ok (.iconst 2, 1) := g_5 bL_law rfl
theorem dL_law_1252 : decode cL_law 1252 = .ok (.iadd, 1) := g_96 bL_law rfl
theorem dL_law_1253 : decode cL_law 1253 = .ok (.iaload, 1) := g_46 bL_law rfl
theorem dL_law_1254 : decode cL_law 1254 = .ok (.invokevirtual 138, 3) := g_182 bL_law rfl
theorem dL_law_1257 : decode cL_law 1257 = .ok (.pop, 1) := g_87 bL_law rfl
theorem dL_law_1258 : decode cL_law 1258 = .ok (.goto 549, 3) := g_167 549 bL_law rfl rfl
theorem dL_law_1261 : decode cL_law 1261 = .ok (.aload_n 1, 1) := g_43 bL_law rfl
theorem dL_law_1262 : decode cL_law 1262 = .ok (.aload_n 0, 1) := g_42 bL_law rfl
theorem dL_law_1263 : decode cL_law 1263 = .ok (.iload_n 3, 1) := g_29 bL_law rfl
theorem dL_law_1264 : decode cL_law 1264 = .ok (.iconst 1, 1) := g_4 bL_law rfl
theorem dL_law_1265 : decode cL_law 1265 = .ok (.iadd, 1) := g_96 bL_law rfl
theorem dL_law_1266 : decode cL_law 1266 = .ok (.iaload, 1) := g_46 bL_law rfl
theorem dL_law_1267 : decode cL_law 1267 = .ok (.aload_n 0, 1) := g_42 bL_law rfl
theorem dL_law_1268 : decode cL_law 1268 = .ok (.iload_n 3, 1) := g_29 bL_law rfl
theorem dL_law_1269 : decode cL_law 1269 = .ok (.iconst 2, 1) := g_5 bL_law rfl
theorem dL_law_1270 : decode cL_law 1270 = .ok (.iadd, 1) := g_96 bL_law rfl
theorem dL_law_1271 : decode cL_law 1271 = .ok (.iaload, 1) := g_46 bL_law rfl
theorem dL_law_1272 : decode cL_law 1272 = .ok (.invokevirtual 139, 3) := g_182 bL_law rfl
theorem dL_law_1275 : decode cL_law 1275 = .ok (.aload_n 2, 1) := g_44 bL_law rfl
theorem dL_law_1276 : decode cL_law 1276 = .ok (.aload_n 0, 1) := g_42 bL_law rfl
theorem dL_law_1277 : decode cL_law 1277 = .ok (.iload_n 3, 1) := g_29 bL_law rfl
theorem dL_law_1278 : decode cL_law 1278 = .ok (.iconst 1, 1) := g_4 bL_law rfl
theorem dL_law_1279 : decode cL_law 1279 = .ok (.iadd, 1) := g_96 bL_law rfl
theorem dL_law_1280 : decode cL_law 1280 = .ok (.iaload, 1) := g_46 bL_law rfl
theorem dL_law_1281 : decode cL_law 1281 = .ok (.aload_n 0, 1) := g_42 bL_law rfl
theorem dL_law_1282 : decode cL_law 1282 = .ok (.iload_n 3, 1) := g_29 bL_law rfl
theorem dL_law_1283 : decode cL_law 1283 = .ok (.iconst 2, 1) := g_5 bL_law rfl
theorem dL_law_1284 : decode cL_law 1284 = .ok (.iadd, 1) := g_96 bL_law rfl
theorem dL_law_1285 : decode cL_law 1285 = .ok (.iaload, 1) := g_46 bL_law rfl
theorem dL_law_1286 : decode cL_law 1286 = .ok (.invokevirtual 142, 3) := g_182 bL_law rfl
theorem dL_law_1289 : decode cL_law 1289 = .ok (.if_icmp .eq 518, 3) := g_159 518 bL_law rfl rfl
theorem dL_law_1294 : decode cL_law 1294 = .ok (.aload_n 1, 1) := g_43 bL_law rfl
theorem dL_law_1295 : decode cL_law 1295 = .ok (.aload_n 0, 1) := g_42 bL_law rfl
theorem dL_law_1296 : decode cL_law 1296 = .ok (.iload_n 3, 1) := g_29 bL_law rfl
theorem dL_law_1297 : decode cL_law 1297 = .ok (.iconst 1, 1) := g_4 bL_law rfl
theorem dL_law_1298 : decode cL_law 1298 = .ok (.iadd, 1) := g_96 bL_law rfl
theorem dL_law_1299 : decode cL_law 1299 = .ok (.iaload, 1) := g_46 bL_law rfl
theorem dL_law_1300 : decode cL_law 1300 = .ok (.aload_n 0, 1) := g_42 bL_law rfl
theorem dL_law_1301 : decode cL_law 1301 = .ok (.iload_n 3, 1) := g_29 bL_law rfl
theorem dL_law_1302 : decode cL_law 1302 = .ok (.iconst 2, 1) := g_5 bL_law rfl
theorem dL_law_1303 : decode cL_law 1303 = .ok (.iadd, 1) := g_96 bL_law rfl
theorem dL_law_1304 : decode cL_law 1304 = .ok (.iaload, 1) := g_46 bL_law rfl
theorem dL_law_1305 : decode cL_law 1305 = .ok (.aload_n 0, 1) := g_42 bL_law rfl
theorem dL_law_1306 : decode cL_law 1306 = .ok (.iload_n 3, 1) := g_29 bL_law rfl
theorem dL_law_1307 : decode cL_law 1307 = .ok (.iconst 3, 1) := g_6 bL_law rfl
theorem dL_law_1308 : decode cL_law 1308 = .ok (.iadd, 1) := g_96 bL_law rfl
theorem dL_law_1309 : decode cL_law 1309 = .ok (.iaload, 1) := g_46 bL_law rfl
theorem dL_law_1310 : decode cL_law 1310 = .ok (.invokevirtual 143, 3) := g_182 bL_law rfl
theorem dL_law_1313 : decode cL_law 1313 = .ok (.pop, 1) := g_87 bL_law rfl
theorem dL_law_1314 : decode cL_law 1314 = .ok (.aload_n 2, 1) := g_44 bL_law rfl
theorem dL_law_1315 : decode cL_law 1315 = .ok (.aload_n 0, 1) := g_42 bL_law rfl
theorem dL_law_1316 : decode cL_law 1316 = .ok (.iload_n 3, 1) := g_29 bL_law rfl
theorem dL_law_1317 : decode cL_law 1317 = .ok (.iconst 1, 1) := g_4 bL_law rfl
theorem dL_law_1318 : decode cL_law 1318 = .ok (.iadd, 1) := g_96 bL_law rfl
theorem dL_law_1319 : decode cL_law 1319 = .ok (.iaload, 1) := g_46 bL_law rfl
theorem dL_law_1320 : decode cL_law 1320 = .ok (.aload_n 0, 1) := g_42 bL_law rfl
theorem dL_law_1321 : decode cL_law 1321 = .ok (.iload_n 3, 1) := g_29 bL_law rfl
theorem dL_law_1322 : decode cL_law 1322 = .ok (.iconst 2, 1) := g_5 bL_law rfl
theorem dL_law_1323 : decode cL_law 1323 = .ok (.iadd, 1) := g_96 bL_law rfl
theorem dL_law_1324 : decode cL_law 1324 = .ok (.iaload, 1) := g_46 bL_law rfl
theorem dL_law_1325 : decode cL_law 1325 = .ok (.aload_n 0, 1) := g_42 bL_law rfl
theorem dL_law_1326 : decode cL_law 1326 = .ok (.iload_n 3, 1) := g_29 bL_law rfl
theorem dL_law_1327 : decode cL_law 1327 = .ok (.iconst 3, 1) := g_6 bL_law rfl
theorem dL_law_1328 : decode cL_law 1328 = .ok (.iadd, 1) := g_96 bL_law rfl
theorem dL_law_1329 : decode cL_law 1329 = .ok (.iaload, 1) := g_46 bL_law rfl
theorem dL_law_1330 : decode cL_law 1330 = .ok (.invokevirtual 146, 3) := g_182 bL_law rfl
theorem dL_law_1333 : decode cL_law 1333 = .ok (.pop, 1) := g_87 bL_law rfl
theorem dL_law_1334 : decode cL_law 1334 = .ok (.goto 473, 3) := g_167 473 bL_law rfl rfl
theorem dL_law_1337 : decode cL_law 1337 = .ok (.aload_n 1, 1) := g_43 bL_law rfl
theorem dL_law_1338 : decode cL_law 1338 = .ok (.aload_n 0, 1) := g_42 bL_law rfl
theorem dL_law_1339 : decode cL_law 1339 = .ok (.iload_n 3, 1) := g_29 bL_law rfl
theorem dL_law_1340 : decode cL_law 1340 = .ok (.iconst 1, 1) := g_4 bL_law rfl
theorem dL_law_1341 : decode cL_law 1341 = .ok (.iadd, 1) := g_96 bL_law rfl
theorem dL_law_1342 : decode cL_law 1342 = .ok (.iaload, 1) := g_46 bL_law rfl
theorem dL_law_1343 : decode cL_law 1343 = .ok (.aload_n 0, 1) := g_42 bL_law rfl
theorem dL_law_1344 : decode cL_law 1344 = .ok (.iload_n 3, 1) := g_29 bL_law rfl
theorem dL_law_1345 : decode cL_law 1345 = .ok (.iconst 2, 1) := g_5 bL_law rfl
theorem dL_law_1346 : decode cL_law 1346 = .ok (.iadd, 1) := g_96 bL_law rfl
theorem dL_law_1347 : decode cL_law 1347 = .ok (.iaload, 1) := g_46 bL_law rfl
theorem dL_law_1348 : decode cL_law 1348 = .ok (.aload_n 0, 1) := g_42 bL_law rfl
theorem dL_law_1349 : decode cL_law 1349 = .ok (.iload_n 3, 1) := g_29 bL_law rfl
theorem dL_law_1350 : decode cL_law 1350 = .ok (.iconst 3, 1) := g_6 bL_law rfl
theorem dL_law_1351 : decode cL_law 1351 = .ok (.iadd, 1) := g_96 bL_law rfl
theorem dL_law_1352 : decode cL_law 1352 = .ok (.iaload, 1) := g_46 bL_law rfl
theorem dL_law_1353 : decode cL_law 1353 = .ok (.invokevirtual 147, 3) := g_182 bL_law rfl
theorem dL_law_1356 : decode cL_law 1356 = .ok (.pop, 1) := g_87 bL_law rfl
theorem dL_law_1357 : decode cL_law 1357 = .ok (.aload_n 2, 1) := g_44 bL_law rfl
theorem dL_law_1358 : decode cL_law 1358 = .ok (.aload_n 0, 1) := g_42 bL_law rfl
theorem dL_law_1359 : decode cL_law 1359 = .ok (.iload_n 3, 1) := g_29 bL_law rfl
theorem dL_law_1360 : decode cL_law 1360 = .ok (.iconst 1, 1) := g_4 bL_law rfl
theorem dL_law_1361 : decode cL_law 1361 = .ok (.iadd, 1) := g_96 bL_law rfl
theorem dL_law_1362 : decode cL_law 1362 = .ok (.iaload, 1) := g_46 bL_law rfl
theorem dL_law_1363 : decode cL_law 1363 = .ok (.aload_n 0, 1) := g_42 bL_law rfl
theorem dL_law_1364 : decode cL_law 1364 = .ok (.iload_n 3, 1) := g_29 bL_law rfl
theorem dL_law_1365 : decode cL_law 1365 = .ok (.iconst 2, 1) := g_5 bL_law rfl
theorem dL_law_1366 : decode cL_law 1366 = .ok (.iadd, 1) := g_96 bL_law rfl
theorem dL_law_1367 : decode cL_law 1367 = .ok (.iaload, 1) := g_46 bL_law rfl
theorem dL_law_1368 : decode cL_law 1368 = .ok (.aload_n 0, 1) := g_42 bL_law rfl
theorem dL_law_1369 : decode cL_law 1369 = .ok (.iload_n 3, 1) := g_29 bL_law rfl
theorem dL_law_1370 : decode cL_law 1370 = .ok (.iconst 3, 1) := g_6 bL_law rfl
theorem dL_law_1371 : decode cL_law 1371 = .ok (.iadd, 1) := g_96 bL_law rfl
theorem dL_law_1372 : decode cL_law 1372 = .ok (.iaload, 1) := g_46 bL_law rfl
theorem dL_law_1373 : decode cL_law 1373 = .ok (.invokevirtual 150, 3) := g_182 bL_law rfl
theorem dL_law_1376 : decode cL_law 1376 = .ok (.pop, 1) := g_87 bL_law rfl
theorem dL_law_1377 : decode cL_law 1377 = .ok (.goto 430, 3) := g_167 430 bL_law rfl rfl
theorem dL_law_1380 : decode cL_law 1380 = .ok (.aload_n 1, 1) := g_43 bL_law rfl
theorem dL_law_1381 : decode cL_law 1381 = .ok (.invokevirtual 151, 3) := g_182 bL_law rfl
theorem dL_law_1384 : decode cL_law 1384 = .ok (.pop, 1) := g_87 bL_law rfl
theorem dL_law_1385 : decode cL_law 1385 = .ok (.aload_n 2, 1) := g_44 bL_law rfl
theorem dL_law_1386 : decode cL_law 1386 = .ok (.invokevirtual 154, 3) := g_182 bL_law rfl
theorem dL_law_1389 : decode cL_law 1389 = .ok (.pop, 1) := g_87 bL_law rfl
theorem dL_law_1390 : decode cL_law 1390 = .ok (.goto 417, 3) := g_167 417 bL_law rfl rfl
theorem dL_law_1393 : decode cL_law 1393 = .ok (.aload_n 1, 1) := g_43 bL_law rfl
theorem dL_law_1394 : decode cL_law 1394 = .ok (.aload_n 0, 1) := g_42 bL_law rfl
theorem dL_law_1395 : decode cL_law 1395 = .ok (.iload_n 3, 1) := g_29 bL_law rfl
theorem dL_law_1396 : decode cL_law 1396 = .ok (.iconst 1, 1) := g_4 bL_law rfl
theorem dL_law_1397 : decode cL_law 1397 = .ok (.iadd, 1) := g_96 bL_law rfl
theorem dL_law_1398 : decode cL_law 1398 = .ok (.iaload, 1) := g_46 bL_law rfl
theorem dL_law_1399 : decode cL_law 1399 = .ok (.invokevirtual 155, 3) := g_182 bL_law rfl
theorem dL_law_1402 : decode cL_law 1402 = .ok (.pop, 1) := g_87 bL_law rfl
theorem dL_law_1403 : decode cL_law 1403 = .ok (.aload_n 2, 1) := g_44 bL_law rfl
theorem dL_law_1404 : decode cL_law 1404 = .ok (.aload_n 0, 1) := g_42 bL_law rfl
theorem dL_law_1405 : decode cL_law 1405 = .ok (.iload_n 3, 1) := g_29 bL_law rfl
theorem dL_law_1406 : decode cL_law 1406 = .ok (.iconst 1, 1) := g_4 bL_law rfl
theorem dL_law_1407 : decode cL_law 1407 = .ok (.iadd, 1) := g_96 bL_law rfl
theorem dL_law_1408 : decode cL_law 1408 = .ok (.iaload, 1) := g_46 bL_law rfl
theorem dL_law_1409 : decode cL_law 1409 = .ok (.invokevirtual 158, 3) := g_182 bL_law rfl
theorem dL_law_1412 : decode cL_law 1412 = .ok (.pop, 1) := g_87 bL_law rfl
theorem dL_law_1413 : decode cL_law 1413 = .ok (.goto 394, 3) := g_167 394 bL_law rfl rfl
theorem dL_law_1416 : decode cL_law 1416 = .ok (.aload_n 1, 1) := g_43 bL_law rfl
theorem dL_law_1417 : decode cL_law 1417 = .ok (.aload_n 0, 1) := g_42 bL_law rfl
theorem dL_law_1418 : decode cL_law 1418 = .ok (.iload_n 3, 1) := g_29 bL_law rfl
theorem dL_law_1419 : decode cL_law 1419 = .ok (.iconst 1, 1) := g_4 bL_law rfl
theorem dL_law_1420 : decode cL_law 1420 = .ok (.iadd, 1) := g_96 bL_law rfl
theorem dL_law_1421 : decode cL_law 1421 = .ok (.iaload, 1) := g_46 bL_law rfl
theorem dL_law_1422 : decode cL_law 1422 = .ok (.invokevirtual 159, 3) := g_182 bL_law rfl
theorem dL_law_1425 : decode cL_law 1425 = .ok (.pop, 1) := g_87 bL_law rfl
theorem dL_law_1426 : decode cL_law 1426 = .ok (.aload_n 2, 1) := g_44 bL_law rfl
theorem dL_law_1427 : decode cL_law 1427 = .ok (.aload_n 0, 1) := g_42 bL_law rfl
theorem dL_law_1428 : decode cL_law 1428 = .ok (.iload_n 3, 1) := g_29 bL_law rfl
theorem dL_law_1429 : decode cL_law 1429 = .ok (.iconst 1, 1) := g_4 bL_law rfl
theorem dL_law_1430 : decode cL_law 1430 = .ok (.iadd, 1) := g_96 bL_law rfl
theorem dL_law_1431 : decode cL_law 1431 = .ok (.iaload, 1) := g_46 bL_law rfl
theorem dL_law_1432 : decode cL_law 1432 = .ok (.invokevirtual 162, 3) := g_182 bL_law rfl
theorem dL_law_1435 : decode cL_law 1435 = .ok (.pop, 1) := g_87 bL_law rfl
theorem dL_law_1436 : decode cL_law 1436 = .ok (.goto 371, 3) := g_167 371 bL_law rfl rfl
theorem dL_law_1439 : decode cL_law 1439 = .ok (.aload_n 1, 1) := g_43 bL_law rfl
theorem dL_law_1440 : decode cL_law 1440 = .ok (.aload_n 0, 1) := g_42 bL_law rfl
theorem dL_law_1441 : decode cL_law 1441 = .ok (.iload_n 3, 1) := g_29 bL_law rfl
theorem dL_law_1442 : decode cL_law 1442 = .ok (.iconst 1, 1) := g_4 bL_law rfl
theorem dL_law_1443 : decode cL_law 1443 = .ok (.iadd, 1) := g_96 bL_law rfl
theorem dL_law_1444 : decode cL_law 1444 = .ok (.iaload, 1) := g_46 bL_law rfl
theorem dL_law_1445 : decode cL_law 1445 = .ok (.invokevirtual 163, 3) := g_182 bL_law rfl
theorem dL_law_1448 : decode cL_law 1448 = .ok (.pop, 1) := g_87 bL_law rfl
theorem dL_law_1449 : decode cL_law 1449 = .ok (.aload_n 2, 1) := g_44 bL_law rfl
theorem dL_law_1450 : decode cL_law 1450 = .ok (.aload_n 0, 1) := g_42 bL_law rfl
theorem dL_law_1451 : decode cL_law 1451 = .ok (.iload_n 3, 1) := g_29 bL_law rfl
theorem dL_law_1452 : decode cL_law 1452 = .ok (.iconst 1, 1) := g_4 bL_law rfl
theorem dL_law_1453 : decode cL_law 1453 = .ok (.iadd, 1) := g_96 bL_law rfl
theorem dL_law_1454 : decode cL_law 1454 = .ok (.iaload, 1) := g_46 bL_law rfl
theorem dL_law_1455 : decode cL_law 1455 = .ok (.invokevirtual 166, 3) := g_182 bL_law rfl
theorem dL_law_1458 : decode cL_law 1458 = .ok (.pop, 1) := g_87 bL_law rfl
theorem dL_law_1459 : decode cL_law 1459 = .ok (.goto 348, 3) := g_167 348 bL_law rfl rfl
theorem dL_law_1462 : decode cL_law 1462 = .ok (.aload_n 1, 1) := g_43 bL_law rfl
theorem dL_law_1463 : decode cL_law 1463 = .ok (.aload_n 0, 1) := g_42 bL_law rfl
theorem dL_law_1464 : decode cL_law 1464 = .ok (.iload_n 3, 1) := g_29 bL_law rfl
theorem dL_law_1465 : decode cL_law 1465 = .ok (.iconst 1, 1) := g_4 bL_law rfl
theorem dL_law_1466 : decode cL_law 1466 = .ok (.iadd, 1) := g_96 bL_law rfl
theorem dL_law_1467 : decode cL_law 1467 = .ok (.iaload, 1) := g_46 bL_law rfl
theorem dL_law_1468 : decode cL_law 1468 = .ok (.aload_n 0, 1) := g_42 bL_law rfl
theorem dL_law_1469 : decode cL_law 1469 = .ok (.iload_n 3, 1) := g_29 bL_law rfl
theorem dL_law_1470 : decode cL_law 1470 = .ok (.iconst 2, 1) := g_5 bL_law rfl
theorem dL_law_1471 : decode cL_law 1471 = .ok (.iadd, 1) := g_96 bL_law rfl
theorem dL_law_1472 : decode cL_law 1472 = .ok (.iaload, 1) := g_46 bL_law rfl
theorem dL_law_1473 : decode cL_law 1473 = .ok (.invokevirtual 167, 3) := g_182 bL_law rfl
theorem dL_law_1476 : decode cL_law 1476 = .ok (.pop, 1) := g_87 bL_law rfl
theorem dL_law_1477 : decode cL_law 1477 = .ok (.aload_n 2, 1) := g_44 bL_law rfl
theorem dL_law_1478 : decode cL_law 1478 = .ok (.aload_n 0, 1) := g_42 bL_law rfl
theorem dL_law_1479 : decode cL_law 1479 = .ok (.iload_n 3, 1) := g_29 bL_law rfl
theorem dL_law_1480 : decode cL_law 1480 = .ok (.iconst 1, 1) := g_4 bL_law rfl
theorem dL_law_1481 : decode cL_law 1481 = .ok (.iadd, 1) := g_96 bL_law rfl
theorem dL_law_1482 : decode cL_law 1482 = .ok (.iaload, 1) := g_46 bL_law rfl
theorem dL_law_1483 : decode cL_law 1483 = .ok (.aload_n 0, 1) := g_42 bL_law rfl
theorem dL_law_1484 : decode cL_law 1484 = .ok (.iload_n 3, 1) := g_29 bL_law rfl
theorem dL_law_1485 : decode cL_law 1485 = .ok (.iconst 2, 1) := g_5 bL_law rfl
theorem dL_law_1486 : decode cL_law 1486 = .ok (.iadd, 1) := g_96 bL_law rfl
theorem dL_law_1487 : decode cL_law 1487 = .ok (.iaload, 1) := g_46 bL_law rfl
theorem dL_law_1488 : decode cL_law 1488 = .ok (.invokevirtual 170, 3) := g_182 bL_law rfl
theorem dL_law_1491 : decode cL_law 1491 = .ok (.pop, 1) := g_87 bL_law rfl
theorem dL_law_1492 : decode cL_law 1492 = .ok (.goto 315, 3) := g_167 315 bL_law rfl rfl
theorem dL_law_1495 : decode cL_law 1495 = .ok (.aload_n 1, 1) := g_43 bL_law rfl
theorem dL_law_1496 : decode cL_law 1496 = .ok (.aload_n 0, 1) := g_42 bL_law rfl
theorem dL_law_1497 : decode cL_law 1497 = .ok (.iload_n 3, 1) := g_29 bL_law rfl
theorem dL_law_1498 : decode cL_law 1498 = .ok (.iconst 1, 1) := g_4 bL_law rfl
theorem dL_law_1499 : decode cL_law 1499 = .ok (.iadd, 1) := g_96 bL_law rfl
theorem dL_law_1500 : decode cL_law 1500 = .ok (.iaload, 1) := g_46 bL_law rfl
theorem dL_law_1501 : decode cL_law 1501 = .ok (.aload_n 0, 1) := g_42 bL_law rfl
theorem dL_law_1502 : decode cL_law 1502 = .ok (.iload_n 3, 1) := g_29 bL_law rfl
theorem dL_law_1503 : decode cL_law 1503 = .ok (.iconst 2, 1) := g_5 bL_law rfl
theorem dL_law_1504 : decode cL_law 1504 = .ok (.iadd, 1) := g_96 bL_law rfl
theorem dL_law_1505 : decode cL_law 1505 = .ok (.iaload, 1) := g_46 bL_law rfl
theorem dL_law_1506 : decode cL_law 1506 = .ok (.ifCond .eq 7, 3) := g_153 7 bL_law rfl rfl
theorem dL_law_1509 : decode cL_law 1509 = .ok (.iconst 1, 1) := g_4 bL_law rfl
theorem dL_law_1510 : decode cL_law 1510 = .ok (.goto 4, 3) := g_167 4 bL_law rfl rfl
theorem dL_law_1513 : decode cL_law 1513 = .ok (.iconst 0, 1) := g_3 bL_law rfl
theorem dL_law_1514 : decode cL_law 1514 = .ok (.invokevirtual 171, 3) := g_182 bL_law rfl
theorem dL_law_1517 : decode cL_law 1517 = .ok (.pop, 1) := g_87 bL_law rfl
theorem dL_law_1518 : decode cL_law 1518 = .ok (.aload_n 2, 1) := g_44 bL_law rfl
theorem dL_law_1519 : decode cL_law 1519 = .ok (.aload_n 0, 1) := g_42 bL_law rfl
theorem dL_law_1520 : decode cL_law 1520 = .ok (.iload_n 3, 1) := g_29 bL_law rfl
theorem dL_law_1521 : decode cL_law 1521 = .ok (.iconst 1, 1) := g_4 bL_law rfl
theorem dL_law_1522 : decode cL_law 1522 = .ok (.iadd, 1) := g_96 bL_law rfl
theorem dL_law_1523 : decode cL_law 1523 = .ok (.iaload, 1) := g_46 bL_law rfl
theorem dL_law_1524 : decode cL_law 1524 = .ok (.aload_n 0, 1) := g_42 bL_law rfl
theorem dL_law_1525 : decode cL_law 1525 = .ok (.iload_n 3, 1) := g_29 bL_law rfl
theorem dL_law_1526 : decode cL_law 1526 = .ok (.iconst 2, 1) := g_5 bL_law rfl
theorem dL_law_1527 : decode cL_law 1527 = .ok (.iadd, 1) := g_96 bL_law rfl
theorem dL_law_1528 : decode cL_law 1528 = .ok (.iaload, 1) := g_46 bL_law rfl
theorem dL_law_1529 : decode cL_law 1529 = .ok (.ifCond .eq 7, 3) := g_153 7 bL_law rfl rfl
theorem dL_law_1532 : decode cL_law 1532 = .ok (.iconst 1, 1) := g_4 bL_law rfl
theorem dL_law_1533 : decode cL_law 1533 = .ok (.goto 4, 3) := g_167 4 bL_law rfl rfl
theorem dL_law_1536 : decode cL_law 1536 = .ok (.iconst 0, 1) := g_3 bL_law rfl
theorem dL_law_1537 : decode cL_law 1537 = .ok (.invokevirtual 175, 3) := g_182 bL_law rfl
theorem dL_law_1540 : decode cL_law 1540 = .ok (.pop, 1) := g_87 bL_law rfl
theorem dL_law_1541 : decode cL_law 1541 = .ok (.goto 266, 3) := g_167 266 bL_law rfl rfl
theorem dL_law_1544 : decode cL_law 1544 = .ok (.aload_n 1, 1) := g_43 bL_law rfl
theorem dL_law_1545 : decode cL_law 1545 = .ok (.invokevirtual 176, 3) := g_182 bL_law rfl
theorem dL_law_1548 : decode cL_law 1548 = .ok (.pop, 1) := g_87 bL_law rfl
theorem dL_law_1549 : decode cL_law 1549 = .ok (.aload_n 2, 1) := g_44 bL_law rfl
theorem dL_law_1550 : decode cL_law 1550 = .ok (.invokevirtual 179, 3) := g_182 bL_law rfl
theorem dL_law_1553 : decode cL_law 1553 = .ok (.pop, 1) := g_87 bL_law rfl
theorem dL_law_1554 : decode cL_law 1554 = .ok (.goto 253, 3) := g_167 253 bL_law rfl rfl
theorem dL_law_1557 : decode cL_law 1557 = .ok (.aload_n 1, 1) := g_43 bL_law rfl
theorem dL_law_1558 : decode cL_law 1558 = .ok (.aload_n 0, 1) := g_42 bL_law rfl
theorem dL_law_1559 : decode cL_law 1559 = .ok (.iload_n 3, 1) := g_29 bL_law rfl
theorem dL_law_1560 : decode cL_law 1560 = .ok (.iconst 1, 1) := g_4 bL_law rfl
theorem dL_law_1561 : decode cL_law 1561 = .ok (.iadd, 1) := g_96 bL_law rfl
theorem dL_law_1562 : decode cL_law 1562 = .ok (.iaload, 1) := g_46 bL_law rfl
theorem dL_law_1563 : decode cL_law 1563 = .ok (.aload_n 0, 1) := g_42 bL_law rfl
theorem dL_law_1564 : decode cL_law 1564 = .ok (.iload_n 3, 1) := g_29 bL_law rfl
theorem dL_law_1565 : decode cL_law 1565 = .ok (.iconst 2, 1) := g_5 bL_law rfl
theorem dL_law_1566 : decode cL_law 1566 = .ok (.iadd, 1) := g_96 bL_law rfl
theorem dL_law_1567 : decode cL_law 1567 = .ok (.iaload, 1) := g_46 bL_law rfl
theorem dL_law_1568 : decode cL_law 1568 = .ok (.invokevirtual 180, 3) := g_182 bL_law rfl
theorem dL_law_1571 : decode cL_law 1571 = .ok (.pop, 1) := g_87 bL_law rfl
theorem dL_law_1572 : decode cL_law 1572 = .ok (.aload_n 2, 1) := g_44 bL_law rfl
theorem dL_law_1573 : decode cL_law 1573 = .ok (.aload_n 0, 1) := g_42 bL_law rfl
theorem dL_law_1574 : decode cL_law 1574 = .ok (.iload_n 3, 1) := g_29 bL_law rfl
theorem dL_law_1575 : decode cL_law 1575 = .ok (.iconst 1, 1) := g_4 bL_law rfl
theorem dL_law_1576 : decode cL_law 1576 = .ok (.iadd, 1) := g_96 bL_law rfl
theorem dL_law_1577 : decode cL_law 1577 = .ok (.iaload, 1) := g_46 bL_law rfl
theorem dL_law_1578 : decode cL_law 1578 = .ok (.aload_n 0, 1) := g_42 bL_law rfl
theorem dL_law_1579 : decode cL_law 1579 = .ok (.iload_n 3, 1) := g_29 bL_law rfl
theorem dL_law_1580 : decode cL_law 1580 = .ok (.iconst 2, 1) := g_5 bL_law rfl
theorem dL_law_1581 : decode cL_law 1581 = .ok (.iadd, 1) := g_96 bL_law rfl
theorem dL_law_1582 : decode cL_law 1582 = .ok (.iaload, 1) := g_46 bL_law rfl
theorem dL_law_1583 : decode cL_law 1583 = .ok (.invokevirtual 183, 3) := g_182 bL_law rfl
theorem dL_law_1586 : decode cL_law 1586 = .ok (.pop, 1) := g_87 bL_law rfl
theorem dL_law_1587 : decode cL_law 1587 = .ok (.goto 220, 3) := g_167 220 bL_law rfl rfl
theorem dL_law_1590 : decode cL_law 1590 = .ok (.aload_n 1, 1) := g_43 bL_law rfl
theorem dL_law_1591 : decode cL_law 1591 = .ok (.aload_n 0, 1) := g_42 bL_law rfl
theorem dL_law_1592 : decode cL_law 1592 = .ok (.iload_n 3, 1) := g_29 bL_law rfl
theorem dL_law_1593 : decode cL_law 1593 = .ok (.iconst 1, 1) := g_4 bL_law rfl
theorem dL_law_1594 : decode cL_law 1594 = .ok (.iadd, 1) := g_96 bL_law rfl
theorem dL_law_1595 : decode cL_law 1595 = .ok (.iaload, 1) := g_46 bL_law rfl
theorem dL_law_1596 : decode cL_law 1596 = .ok (.aload_n 0, 1) := g_42 bL_law rfl
theorem dL_law_1597 : decode cL_law 1597 = .ok (.iload_n 3, 1) := g_29 bL_law rfl
theorem dL_law_1598 : decode cL_law 1598 = .ok (.iconst 2, 1) := g_5 bL_law rfl
theorem dL_law_1599 : decode cL_law 1599 = .ok (.iadd, 1) := g_96 bL_law rfl
theorem dL_law_1600 : decode cL_law 1600 = .ok (.iaload, 1) := g_46 bL_law rfl
theorem dL_law_1601 : decode cL_law 1601 = .ok (.invokevirtual 184, 3) := g_182 bL_law rfl
theorem dL_law_1604 : decode cL_law 1604 = .ok (.pop, 1) := g_87 bL_law rfl
theorem dL_law_1605 : decode cL_law 1605 = .ok (.aload_n 2, 1) := g_44 bL_law rfl
theorem dL_law_1606 : decode cL_law 1606 = .ok (.aload_n 0, 1) := g_42 bL_law rfl
theorem dL_law_1607 : decode cL_law 1607 = .ok (.iload_n 3, 1) := g_29 bL_law rfl
theorem dL_law_1608 : decode cL_law 1608 = .ok (.iconst 1, 1) := g_4 bL_law rfl
theorem dL_law_1609 : decode cL_law 1609 = .ok (.iadd, 1) := g_96 bL_law rfl
theorem dL_law_1610 : decode cL_law 1610 = .ok (.iaload, 1) := g_46 bL_law rfl
theorem dL_law_1611 : decode cL_law 1611 = .ok (.aload_n 0, 1) := g_42 bL_law rfl
theorem dL_law_1612 : decode cL_law 1612 = .ok (.iload_n 3, 1) := g_29 bL_law rfl
theorem dL_law_1613 : decode cL_law 1613 = .ok (.iconst 2, 1) := g_5 bL_law rfl
theorem dL_law_1614 : decode cL_law 1614 = .ok (.iadd, 1) := g_96 bL_law rfl
theorem dL_law_1615 : decode cL_law 1615 = .ok (.iaload, 1) := g_46 bL_law rfl
theorem dL_law_1616 : decode cL_law 1616 = .ok (.invokevirtual 187, 3) := g_182 bL_law rfl
theorem dL_law_1619 : decode cL_law 1619 = .ok (.pop, 1) := g_87 bL_law rfl
theorem dL_law_1620 : decode cL_law 1620 = .ok (.goto 187, 3) := g_167 187 bL_law rfl rfl
theorem dL_law_1623 : decode cL_law 1623 = .ok (.aload_n 1, 1) := g_43 bL_law rfl
theorem dL_law_1624 : decode cL_law 1624 = .ok (.aload_n 0, 1) := g_42 bL_law rfl
theorem dL_law_1625 : decode cL_law 1625 = .ok (.iload_n 3, 1) := g_29 bL_law rfl
theorem dL_law_1626 : decode cL_law 1626 = .ok (.iconst 1, 1) := g_4 bL_law rfl
theorem dL_law_1627 : decode cL_law 1627 = .ok (.iadd, 1) := g_96 bL_law rfl
theorem dL_law_1628 : decode cL_law 1628 = .ok (.iaload, 1) := g_46 bL_law rfl
theorem dL_law_1629 : decode cL_law 1629 = .ok (.aload_n 0, 1) := g_42 bL_law rfl
theorem dL_law_1630 : decode cL_law 1630 = .ok (.iload_n 3, 1) := g_29 bL_law rfl
theorem dL_law_1631 : decode cL_law 1631 = .ok (.iconst 2, 1) := g_5 bL_law rfl
theorem dL_law_1632 : decode cL_law 1632 = .ok (.iadd, 1) := g_96 bL_law rfl
theorem dL_law_1633 : decode cL_law 1633 = .ok (.iaload, 1) := g_46 bL_law rfl
theorem dL_law_1634 : decode cL_law 1634 = .ok (.invokevirtual 188, 3) := g_182 bL_law rfl
theorem dL_law_1637 : decode cL_law 1637 = .ok (.pop, 1) := g_87 bL_law rfl
theorem dL_law_1638 : decode cL_law 1638 = .ok (.aload_n 2, 1) := g_44 bL_law rfl
theorem dL_law_1639 : decode cL_law 1639 = .ok (.aload_n 0, 1) := g_42 bL_law rfl
theorem dL_law_1640 : decode cL_law 1640 = .ok (.iload_n 3, 1) := g_29 bL_law rfl
theorem dL_law_1641 : decode cL_law 1641 = .ok (.iconst 1, 1) := g_4 bL_law rfl
theorem dL_law_1642 : decode cL_law 1642 = .ok (.iadd, 1) := g_96 bL_law rfl
theorem dL_law_1643 : decode cL_law 1643 = .ok (.iaload, 1) := g_46 bL_law rfl
theorem dL_law_1644 : decode cL_law 1644 = .ok (.aload_n 0, 1) := g_42 bL_law rfl
theorem dL_law_1645 : decode cL_law 1645 = .ok (.iload_n 3, 1) := g_29 bL_law rfl
theorem dL_law_1646 : decode cL_law 1646 = .ok (.iconst 2, 1) := g_5 bL_law rfl
theorem dL_law_1647 : decode cL_law 1647 = .ok (.iadd, 1) := g_96 bL_law rfl
theorem dL_law_1648 : decode cL_law 1648 = .ok (.iaload, 1) := g_46 bL_law rfl
theorem dL_law_1649 : decode cL_law 1649 = .ok (.invokevirtual 191, 3) := g_182 bL_law rfl
theorem dL_law_1652 : decode cL_law 1652 = .ok (.pop, 1) := g_87 bL_law rfl
theorem dL_law_1653 : decode cL_law 1653 = .ok (.goto 154, 3) := g_167 154 bL_law rfl rfl
theorem dL_law_1656 : decode cL_law 1656 = .ok (.aload_n 1, 1) := g_43 bL_law rfl
theorem dL_law_1657 : decode cL_law 1657 = .ok (.aload_n 0, 1) := g_42 bL_law rfl
theorem dL_law_1658 : decode cL_law 1658 = .ok (.iload_n 3, 1) := g_29 bL_law rfl
theorem dL_law_1659 : decode cL_law 1659 = .ok (.iconst 1, 1) := g_4 bL_law rfl
theorem dL_law_1660 : decode cL_law 1660 = .ok (.iadd, 1) := g_96 bL_law rfl
theorem dL_law_1661 : decode cL_law 1661 = .ok (.iaload, 1) := g_46 bL_law rfl
theorem dL_law_1662 : decode cL_law 1662 = .ok (.aload_n 0, 1) := g_42 bL_law rfl
theorem dL_law_1663 : decode cL_law 1663 = .ok (.iload_n 3, 1) := g_29 bL_law rfl
theorem dL_law_1664 : decode cL_law 1664 = .ok (.iconst 2, 1) := g_5 bL_law rfl
theorem dL_law_1665 : decode cL_law 1665 = .ok (.iadd, 1) := g_96 bL_law rfl
theorem dL_law_1666 : decode cL_law 1666 = .ok (.iaload, 1) := g_46 bL_law rfl
theorem dL_law_1667 : decode cL_law 1667 = .ok (.invokevirtual 192, 3) := g_182 bL_law rfl
theorem dL_law_1670 : decode cL_law 1670 = .ok (.pop, 1) := g_87 bL_law rfl
theorem dL_law_1671 : decode cL_law 1671 = .ok (.aload_n 2, 1) := g_44 bL_law rfl
theorem dL_law_1672 : decode cL_law 1672 = .ok (.aload_n 0, 1) := g_42 bL_law rfl
theorem dL_law_1673 : decode cL_law 1673 = .ok (.iload_n 3, 1) := g_29 bL_law rfl
theorem dL_law_1674 : decode cL_law 1674 = .ok (.iconst 1, 1) := g_4 bL_law rfl
theorem dL_law_1675 : decode cL_law 1675 = .ok (.iadd, 1) := g_96 bL_law rfl
theorem dL_law_1676 : decode cL_law 1676 = .ok (.iaload, 1) := g_46 bL_law rfl
theorem dL_law_1677 : decode cL_law 1677 = .ok (.aload_n 0, 1) := g_42 bL_law rfl
theorem dL_law_1678 : decode cL_law 1678 = .ok (.iload_n 3, 1) := g_29 bL_law rfl
theorem dL_law_1679 : decode cL_law 1679 = .ok (.iconst 2, 1) := g_5 bL_law rfl
theorem dL_law_1680 : decode cL_law 1680 = .ok (.iadd, 1) := g_96 bL_law rfl
theorem dL_law_1681 : decode cL_law 1681 = .ok (.iaload, 1) := g_46 bL_law rfl
theorem dL_law_1682 : decode cL_law 1682 = .ok (.invokevirtual 195, 3) := g_182 bL_law rfl
theorem dL_law_1685 : decode cL_law 1685 = .ok (.pop, 1) := g_87 bL_law rfl
theorem dL_law_1686 : decode cL_law 1686 = .ok (.goto 121, 3) := g_167 121 bL_law rfl rfl
theorem dL_law_1689 : decode cL_law 1689 = .ok (.aload_n 1, 1) := g_43 bL_law rfl
theorem dL_law_1690 : decode cL_law 1690 = .ok (.aload_n 0, 1) := g_42 bL_law rfl
theorem dL_law_1691 : decode cL_law 1691 = .ok (.iload_n 3, 1) := g_29 bL_law rfl
theorem dL_law_1692 : decode cL_law 1692 = .ok (.iconst 1, 1) := g_4 bL_law rfl
theorem dL_law_1693 : decode cL_law 1693 = .ok (.iadd, 1) := g_96 bL_law rfl
theorem dL_law_1694 : decode cL_law 1694 = .ok (.iaload, 1) := g_46 bL_law rfl
theorem dL_law_1695 : decode cL_law 1695 = .ok (.aload_n 0, 1) := g_42 bL_law rfl
theorem dL_law_1696 : decode cL_law 1696 = .ok (.iload_n 3, 1) := g_29 bL_law rfl
theorem dL_law_1697 : decode cL_law 1697 = .ok (.iconst 2, 1) := g_5 bL_law rfl
theorem dL_law_1698 : decode cL_law 1698 = .ok (.iadd, 1) := g_96 bL_law rfl
theorem dL_law_1699 : decode cL_law 1699 = .ok (.iaload, 1) := g_46 bL_law rfl
theorem dL_law_1700 : decode cL_law 1700 = .ok (.invokevirtual 196, 3) := g_182 bL_law rfl
theorem dL_law_1703 : decode cL_law 1703 = .ok (.pop, 1) := g_87 bL_law rfl
theorem dL_law_1704 : decode cL_law 1704 = .ok (.aload_n 2, 1) := g_44 bL_law rfl
theorem dL_law_1705 : decode cL_law 1705 = .ok (.aload_n 0, 1) := g_42 bL_law rfl
theorem dL_law_1706 : decode cL_law 1706 = .ok (.iload_n 3, 1) := g_29 bL_law rfl
theorem dL_law_1707 : decode cL_law 1707 = .ok (.iconst 1, 1) := g_4 bL_law rfl
theorem dL_law_1708 : decode cL_law 1708 = .ok (.iadd, 1) := g_96 bL_law rfl
theorem dL_law_1709 : decode cL_law 1709 = .ok (.iaload, 1) := g_46 bL_law rfl
theorem dL_law_1710 : decode cL_law 1710 = .ok (.aload_n 0, 1) := g_42 bL_law rfl
theorem dL_law_1711 : decode cL_law 1711 = .ok (.iload_n 3, 1) := g_29 bL_law rfl
theorem dL_law_1712 : decode cL_law 1712 = .ok (.iconst 2, 1) := g_5 bL_law rfl
theorem dL_law_1713 : decode cL_law 1713 = .ok (.iadd, 1) := g_96 bL_law rfl
theorem dL_law_1714 : decode cL_law 1714 = .ok (.iaload, 1) := g_46 bL_law rfl
theorem dL_law_1715 : decode cL_law 1715 = .ok (.invokevirtual 199, 3) := g_182 bL_law rfl
theorem dL_law_1718 : decode cL_law 1718 = .ok (.pop, 1) := g_87 bL_law rfl
theorem dL_law_1719 : decode cL_law 1719 = .ok (.goto 88, 3) := g_167 88 bL_law rfl rfl
theorem dL_law_1722 : decode cL_law 1722 = .ok (.aload_n 1, 1) := g_43 bL_law rfl
theorem dL_law_1723 : decode cL_law 1723 = .ok (.invokevirtual 200, 3) := g_182 bL_law rfl
theorem dL_law_1726 : decode cL_law 1726 = .ok (.pop, 1) := g_87 bL_law rfl
theorem dL_law_1727 : decode cL_law 1727 = .ok (.aload_n 2, 1) := g_44 bL_law rfl
theorem dL_law_1728 : decode cL_law 1728 = .ok (.invokevirtual 203, 3) := g_182 bL_law rfl
theorem dL_law_1731 : decode cL_law 1731 = .ok (.pop, 1) := g_87 bL_law rfl
theorem dL_law_1732 : decode cL_law 1732 = .ok (.goto 75, 3) := g_167 75 bL_law rfl rfl
theorem dL_law_1735 : decode cL_law 1735 = .ok (.aload_n 1, 1) := g_43 bL_law rfl
theorem dL_law_1736 : decode cL_law 1736 = .ok (.aload_n 0, 1) := g_42 bL_law rfl
theorem dL_law_1737 : decode cL_law 1737 = .ok (.iload_n 3, 1) := g_29 bL_law rfl
theorem dL_law_1738 : decode cL_law 1738 = .ok (.iconst 1, 1) := g_4 bL_law rfl
theorem dL_law_1739 : decode cL_law 1739 = .ok (.iadd, 1) := g_96 bL_law rfl
theorem dL_law_1740 : decode cL_law 1740 = .ok (.iaload, 1) := g_46 bL_law rfl
theorem dL_law_1741 : decode cL_law 1741 = .ok (.invokevirtual 204, 3) := g_182 bL_law rfl
theorem dL_law_1744 : decode cL_law 1744 = .ok (.pop, 1) := g_87 bL_law rfl
theorem dL_law_1745 : decode cL_law 1745 = .ok (.aload_n 2, 1) := g_44 bL_law rfl
theorem dL_law_1746 : decode cL_law 1746 = .ok (.aload_n 0, 1) := g_42 bL_law rfl
theorem dL_law_1747 : decode cL_law 1747 = .ok (.iload_n 3, 1) := g_29 bL_law rfl
theorem dL_law_1748 : decode cL_law 1748 = .ok (.iconst 1, 1) := g_4 bL_law rfl
theorem dL_law_1749 : decode cL_law 1749 = .ok (.iadd, 1) := g_96 bL_law rfl
theorem dL_law_1750 : decode cL_law 1750 = .ok (.iaload, 1) := g_46 bL_law rfl
theorem dL_law_1751 : decode cL_law 1751 = .ok (.invokevirtual 207, 3) := g_182 bL_law rfl
theorem dL_law_1754 : decode cL_law 1754 = .ok (.pop, 1) := g_87 bL_law rfl
theorem dL_law_1755 : decode cL_law 1755 = .ok (.goto 52, 3) := g_167 52 bL_law rfl rfl
theorem dL_law_1758 : decode cL_law 1758 = .ok (.aload_n 1, 1) := g_43 bL_law rfl
theorem dL_law_1759 : decode cL_law 1759 = .ok (.invokevirtual 208, 3) := g_182 bL_law rfl
theorem dL_law_1762 : decode cL_law 1762 = .ok (.pop, 1) := g_87 bL_law rfl
theorem dL_law_1763 : decode cL_law 1763 = .ok (.aload_n 2, 1) := g_44 bL_law rfl
theorem dL_law_1764 : decode cL_law 1764 = .ok (.invokevirtual 211, 3) := g_182 bL_law rfl
theorem dL_law_1767 : decode cL_law 1767 = .ok (.pop, 1) := g_87 bL_law rfl
theorem dL_law_1768 : decode cL_law 1768 = .ok (.goto 39, 3) := g_167 39 bL_law rfl rfl
theorem dL_law_1771 : decode cL_law 1771 = .ok (.aload_n 1, 1) := g_43 bL_law rfl
theorem dL_law_1772 : decode cL_law 1772 = .ok (.invokevirtual 212, 3) := g_182 bL_law rfl
theorem dL_law_1775 : decode cL_law 1775 = .ok (.pop, 1) := g_87 bL_law rfl
theorem dL_law_1776 : decode cL_law 1776 = .ok (.aload_n 2, 1) := g_44 bL_law rfl
theorem dL_law_1777 : decode cL_law 1777 = .ok (.invokevirtual 215, 3) := g_182 bL_law rfl
theorem dL_law_1780 : decode cL_law 1780 = .ok (.pop, 1) := g_87 bL_law rfl
theorem dL_law_1781 : decode cL_law 1781 = .ok (.goto 26, 3) := g_167 26 bL_law rfl rfl
theorem dL_law_1784 : decode cL_law 1784 = .ok (.aload_n 1, 1) := g_43 bL_law rfl
theorem dL_law_1785 : decode cL_law 1785 = .ok (.aload_n 0, 1) := g_42 bL_law rfl
theorem dL_law_1786 : decode cL_law 1786 = .ok (.iload_n 3, 1) := g_29 bL_law rfl
theorem dL_law_1787 : decode cL_law 1787 = .ok (.iconst 1, 1) := g_4 bL_law rfl
theorem dL_law_1788 : decode cL_law 1788 = .ok (.iadd, 1) := g_96 bL_law rfl
theorem dL_law_1789 : decode cL_law 1789 = .ok (.iaload, 1) := g_46 bL_law rfl
theorem dL_law_1790 : decode cL_law 1790 = .ok (.invokevirtual 216, 3) := g_182 bL_law rfl
theorem dL_law_1793 : decode cL_law 1793 = .ok (.pop, 1) := g_87 bL_law rfl
theorem dL_law_1794 : decode cL_law 1794 = .ok (.aload_n 2, 1) := g_44 bL_law rfl
theorem dL_law_1795 : decode cL_law 1795 = .ok (.aload_n 0, 1) := g_42 bL_law rfl
theorem dL_law_1796 : decode cL_law 1796 = .ok (.iload_n 3, 1) := g_29 bL_law rfl
theorem dL_law_1797 : decode cL_law 1797 = .ok (.iconst 1, 1) := g_4 bL_law rfl
theorem dL_law_1798 : decode cL_law 1798 = .ok (.iadd, 1) := g_96 bL_law rfl
theorem dL_law_1799 : decode cL_law 1799 = .ok (.iaload, 1) := g_46 bL_law rfl
theorem dL_law_1800 : decode cL_law 1800 = .ok (.invokevirtual 219, 3) := g_182 bL_law rfl
theorem dL_law_1803 : decode cL_law 1803 = .ok (.pop, 1) := g_87 bL_law rfl
theorem dL_law_1804 : decode cL_law 1804 = .ok (.goto 3, 3) := g_167 3 bL_law rfl rfl
theorem dL_law_0 : decode cL_law 0 = .ok (.new 7, 3) := g_187 bL_law rfl
theorem dL_law_3 : decode cL_law 3 = .ok (.dup, 1) := g_89 bL_law rfl
theorem dL_law_4 : decode cL_law 4 = .ok (.invokespecial 9, 3) := g_183 bL_law rfl
theorem dL_law_7 : decode cL_law 7 = .ok (.astore_n 1, 1) := g_76 bL_law rfl
theorem dL_law_8 : decode cL_law 8 = .ok (.new 10, 3) := g_187 bL_law rfl
theorem dL_law_11 : decode cL_law 11 = .ok (.dup, 1) := g_89 bL_law rfl
theorem dL_law_12 : decode cL_law 12 = .ok (.invokespecial 12, 3) := g_183 bL_law rfl
theorem dL_law_15 : decode cL_law 15 = .ok (.astore_n 2, 1) := g_77 bL_law rfl
theorem dL_law_16 : decode cL_law 16 = .ok (.iconst 0, 1) := g_3 bL_law rfl
theorem dL_law_17 : decode cL_law 17 = .ok (.istore_n 3, 1) := g_62 bL_law rfl
theorem dL_law_18 : decode cL_law 18 = .ok (.iload_n 3, 1) := g_29 bL_law rfl
theorem dL_law_19 : decode cL_law 19 = .ok (.aload_n 0, 1) := g_42 bL_law rfl
theorem dL_law_20 : decode cL_law 20 = .ok (.arraylength, 1) := g_190 bL_law rfl
theorem dL_law_21 : decode cL_law 21 = .ok (.bipush 6, 2) := g_16 6 bL_law rfl rfl
theorem dL_law_23 : decode cL_law 23 = .ok (.isub, 1) := g_100 bL_law rfl
theorem dL_law_24 : decode cL_law 24 = .ok (.if_icmp .gt 1789, 3) := g_163 1789 bL_law rfl rfl
theorem dL_law_27 : decode cL_law 27 = .ok (.aload_n 0, 1) := g_42 bL_law rfl
theorem dL_law_28 : decode cL_law 28 = .ok (.iload_n 3, 1) := g_29 bL_law rfl
theorem dL_law_29 : decode cL_law 29 = .ok (.iaload, 1) := g_46 bL_law rfl
theorem dL_law_30 : decode cL_law 30 = .ok (.bipush 63, 2) := g_16 63 bL_law rfl rfl
theorem dL_law_32 : decode cL_law 32 = .ok (.iand, 1) := g_126 bL_law rfl
theorem dL_law_33 : decode cL_law 33 = .ok (.tableswitch 1774 0 48 #[211, 254, 327, 390, 423, 446, 489, 522, 555, 608, 641, 674, 687, 700, 733, 766, 799, 842, 875, 908, 941, 984, 1027, 1060, 1073, 1096, 1139, 1162, 1195, 1228, 1261, 1304, 1347, 1360, 1383, 1406, 1429, 1462, 1511, 1524, 1557, 1590, 1623, 1656, 1689, 1702, 1725, 1738, 1751], 211) := by decide +kernel
theorem dL_law_1810 : decode cL_law 1810 = .ok (.goto (-1792), 3) := g_167 63744 bL_law rfl rfl
