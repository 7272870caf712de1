theorem dX5_back_0 : decode cX5_back 0 = .ok (.aload_n 0, 1) := g_42 bX5_back rfl
theorem dX5_back_1 : decode cX5_back 1 = .ok (.getfield 344, 3) := g_180 bX5_back rfl
theorem dX5_back_4 : decode cX5_back 4 = .ok (.ifCond .ne 10, 3) := g_154 10 bX5_back rfl rfl
theorem dX5_back_7 : decode cX5_back 7 = .ok (.aload_n 0, 1) := g_42 bX5_back rfl
theorem dX5_back_8 : decode cX5_back 8 = .ok (.bipush (-5), 2) := g_16 251 bX5_back rfl rfl
theorem dX5_back_10 : decode cX5_back 10 = .ok (.invokevirtual 56, 3) := g_182 bX5_back rfl
theorem dX5_back_13 : decode cX5_back 13 = .ok (.ireturn, 1) := g_172 bX5_back rfl
theorem dX5_back_14 : decode cX5_back 14 = .ok (.aload_n 0, 1) := g_42 bX5_back rfl
theorem dX5_back_15 : decode cX5_back 15 = .ok (.getfield 10, 3) := g_180 bX5_back rfl
theorem dX5_back_18 : decode cX5_back 18 = .ok (.aload_n 0, 1) := g_42 bX5_back rfl
theorem dX5_back_19 : decode cX5_back 19 = .ok (.getfield 16, 3) := g_180 bX5_back rfl
theorem dX5_back_22 : decode cX5_back 22 = .ok (.invokevirtual 164, 3) := g_182 bX5_back rfl
theorem dX5_back_25 : decode cX5_back 25 = .ok (.iconst 1, 1) := g_4 bX5_back rfl
theorem dX5_back_26 : decode cX5_back 26 = .ok (.ireturn, 1) := g_172 bX5_back rfl
theorem dX5_bear_0 : decode cX5_bear 0 = .ok (.iload_n 1, 1) := g_27 bX5_bear rfl
theorem dX5_bear_1 : decode cX5_bear 1 = .ok (.i2l, 1) := g_133 bX5_bear rfl
theorem dX5_bear_2 : decode cX5_bear 2 = .ok (.lconst 1, 1) := g_10 bX5_bear rfl
theorem dX5_bear_3 : decode cX5_bear 3 = .ok (.ldc2_w 216, 3) := g_20 bX5_bear rfl
theorem dX5_bear_6 : decode cX5_bear 6 = .ok (.invokestatic 50, 3) := g_184 bX5_bear rfl
theorem dX5_bear_9 : decode cX5_bear 9 = .ok (.ifCond .ne 10, 3) := g_154 10 bX5_bear rfl rfl
theorem dX5_bear_12 : decode cX5_bear 12 = .ok (.aload_n 0, 1) := g_42 bX5_bear rfl
theorem dX5_bear_13 : decode cX5_bear 13 = .ok (.bipush (-2), 2) := g_16 254 bX5_bear rfl rfl
theorem dX5_bear_15 : decode cX5_bear 15 = .ok (.invokevirtual 56, 3) := g_182 bX5_bear rfl
theorem dX5_bear_18 : decode cX5_bear 18 = .ok (.ireturn, 1) := g_172 bX5_bear rfl
theorem dX5_bear_19 : decode cX5_bear 19 = .ok (.aload_n 0, 1) := g_42 bX5_bear rfl
theorem dX5_bear_20 : decode cX5_bear 20 = .ok (.getfield 10, 3) := g_180 bX5_bear rfl
theorem dX5_bear_23 : decode cX5_bear 23 = .ok (.invokevirtual 269, 3) := g_182 bX5_bear rfl
theorem dX5_bear_26 : decode cX5_bear 26 = .ok (.istore_n 2, 1) := g_61 bX5_bear rfl
theorem dX5_bear_27 : decode cX5_bear 27 = .ok (.aload_n 0, 1) := g_42 bX5_bear rfl
theorem dX5_bear_28 : decode cX5_bear 28 = .ok (.getfield 10, 3) := g_180 bX5_bear rfl
theorem dX5_bear_31 : decode cX5_bear 31 = .ok (.iload_n 2, 1) := g_28 bX5_bear rfl
theorem dX5_bear_32 : decode cX5_bear 32 = .ok (.iload_n 1, 1) := g_27 bX5_bear rfl
theorem dX5_bear_33 : decode cX5_bear 33 = .ok (.invokevirtual 303, 3) := g_182 bX5_bear rfl
theorem dX5_bear_36 : decode cX5_bear 36 = .ok (.istore_n 3, 1) := g_62 bX5_bear rfl
theorem dX5_bear_37 : decode cX5_bear 37 = .ok (.iload_n 2, 1) := g_28 bX5_bear rfl
theorem dX5_bear_38 : decode cX5_bear 38 = .ok (.istore 4, 2) := g_54 bX5_bear rfl
theorem dX5_bear_40 : decode cX5_bear 40 = .ok (.iconst 0, 1) := g_3 bX5_bear rfl
theorem dX5_bear_41 : decode cX5_bear 41 = .ok (.istore 5, 2) := g_54 bX5_bear rfl
theorem dX5_bear_43 : decode cX5_bear 43 = .ok (.iload 5, 2) := g_21 bX5_bear rfl
theorem dX5_bear_45 : decode cX5_bear 45 = .ok (.iload_n 2, 1) := g_28 bX5_bear rfl
theorem dX5_bear_46 : decode cX5_bear 46 = .ok (.if_icmp .ge 61, 3) := g_162 61 bX5_bear rfl rfl
theorem dX5_bear_49 : decode cX5_bear 49 = .ok (.iload 5, 2) := g_21 bX5_bear rfl
theorem dX5_bear_51 : decode cX5_bear 51 = .ok (.invokestatic 264, 3) := g_184 bX5_bear rfl
theorem dX5_bear_54 : decode cX5_bear 54 = .ok (.iload 4, 2) := g_21 bX5_bear rfl
theorem dX5_bear_56 : decode cX5_bear 56 = .ok (.invokestatic 264, 3) := g_184 bX5_bear rfl
theorem dX5_bear_59 : decode cX5_bear 59 = .ok (.if_icmp .ge 7, 3) := g_162 7 bX5_bear rfl rfl
theorem dX5_bear_62 : decode cX5_bear 62 = .ok (.iconst 1, 1) := g_4 bX5_bear rfl
theorem dX5_bear_63 : decode cX5_bear 63 = .ok (.goto 4, 3) := g_167 4 bX5_bear rfl rfl
theorem dX5_bear_66 : decode cX5_bear 66 = .ok (.iconst 0, 1) := g_3 bX5_bear rfl
theorem dX5_bear_67 : decode cX5_bear 67 = .ok (.istore 6, 2) := g_54 bX5_bear rfl
theorem dX5_bear_69 : decode cX5_bear 69 = .ok (.iload 5, 2) := g_21 bX5_bear rfl
theorem dX5_bear_71 : decode cX5_bear 71 = .ok (.iload_n 2, 1) := g_28 bX5_bear rfl
theorem dX5_bear_72 : decode cX5_bear 72 = .ok (.iconst (-1), 1) := g_2 bX5_bear rfl
theorem dX5_bear_73 : decode cX5_bear 73 = .ok (.ixor, 1) := g_130 bX5_bear rfl
theorem dX5_bear_74 : decode cX5_bear 74 = .ok (.iand, 1) := g_126 bX5_bear rfl
theorem dX5_bear_75 : decode cX5_bear 75 = .ok (.ifCond .ne 26, 3) := g_154 26 bX5_bear rfl rfl
theorem dX5_bear_78 : decode cX5_bear 78 = .ok (.iload 6, 2) := g_21 bX5_bear rfl
theorem dX5_bear_80 : decode cX5_bear 80 = .ok (.ifCond .eq 21, 3) := g_153 21 bX5_bear rfl rfl
theorem dX5_bear_83 : decode cX5_bear 83 = .ok (.aload_n 0, 1) := g_42 bX5_bear rfl
theorem dX5_bear_84 : decode cX5_bear 84 = .ok (.getfield 10, 3) := g_180 bX5_bear rfl
theorem dX5_bear_87 : decode cX5_bear 87 = .ok (.iload 5, 2) := g_21 bX5_bear rfl
theorem dX5_bear_89 : decode cX5_bear 89 = .ok (.iload_n 1, 1) := g_27 bX5_bear rfl
theorem dX5_bear_90 : decode cX5_bear 90 = .ok (.invokevirtual 303, 3) := g_182 bX5_bear rfl
theorem dX5_bear_93 : decode cX5_bear 93 = .ok (.iload_n 3, 1) := g_29 bX5_bear rfl
theorem dX5_bear_94 : decode cX5_bear 94 = .ok (.if_icmp .ne 7, 3) := g_160 7 bX5_bear rfl rfl
theorem dX5_bear_97 : decode cX5_bear 97 = .ok (.iload 5, 2) := g_21 bX5_bear rfl
theorem dX5_bear_99 : decode cX5_bear 99 = .ok (.istore 4, 2) := g_54 bX5_bear rfl
theorem dX5_bear_101 : decode cX5_bear 101 = .ok (.iinc 5 1, 3) := g_132 1 bX5_bear rfl rfl
theorem dX5_bear_104 : decode cX5_bear 104 = .ok (.goto (-61), 3) := g_167 65475 bX5_bear rfl rfl
theorem dX5_bear_107 : decode cX5_bear 107 = .ok (.iload 4, 2) := g_21 bX5_bear rfl
theorem dX5_bear_109 : decode cX5_bear 109 = .ok (.ireturn, 1) := g_172 bX5_bear rfl
theorem dX5_ends_0 : decode cX5_ends 0 = .ok (.aload_n 0, 1) := g_42 bX5_ends rfl
theorem dX5_ends_1 : decode cX5_ends 1 = .ok (.dup, 1) := g_89 bX5_ends rfl
theorem dX5_ends_2 : decode cX5_ends 2 = .ok (.getfield 335, 3) := g_180 bX5_ends rfl
theorem dX5_ends_5 : decode cX5_ends 5 = .ok (.iconst 1, 1) := g_4 bX5_ends rfl
theorem dX5_ends_6 : decode cX5_ends 6 = .ok (.iadd, 1) := g_96 bX5_ends rfl
theorem dX5_ends_7 : decode cX5_ends 7 = .ok (.putfield 335, 3) := g_181 bX5_ends rfl
theorem dX5_ends_10 : decode cX5_ends 10 = .ok (.aload_n 0, 1) := g_42 bX5_ends rfl
theorem dX5_ends_11 : decode cX5_ends 11 = .ok (.getfield 10, 3) := g_180 bX5_ends rfl
theorem dX5_ends_14 : decode cX5_ends 14 = .ok (.invokevirtual 332, 3) := g_182 bX5_ends rfl
theorem dX5_ends_17 : decode cX5_ends 17 = .ok (.ireturn, 1) := g_172 bX5_ends rfl
theorem dX5_firstWrong_0 : decode cX5_firstWrong 0 = .ok (.aload_n 0, 1) := g_42 bX5_firstWrong rfl
theorem dX5_firstWrong_1 : decode cX5_firstWrong 1 = .ok (.getfield 22, 3) := g_180 bX5_firstWrong rfl
theorem dX5_firstWrong_4 : decode cX5_firstWrong 4 = .ok (.aload_n 0, 1) := g_42 bX5_firstWrong rfl
theorem dX5_firstWrong_5 : decode cX5_firstWrong 5 = .ok (.getfield 10, 3) := g_180 bX5_firstWrong rfl
theorem dX5_firstWrong_8 : decode cX5_firstWrong 8 = .ok (.invokevirtual 115, 3) := g_182 bX5_firstWrong rfl
theorem dX5_firstWrong_11 : decode cX5_firstWrong 11 = .ok (.astore_n 3, 1) := g_78 bX5_firstWrong rfl
theorem dX5_firstWrong_12 : decode cX5_firstWrong 12 = .ok (.iconst 0, 1) := g_3 bX5_firstWrong rfl
theorem dX5_firstWrong_13 : decode cX5_firstWrong 13 = .ok (.istore 4, 2) := g_54 bX5_firstWrong rfl
theorem dX5_firstWrong_15 : decode cX5_firstWrong 15 = .ok (.iload 4, 2) := g_21 bX5_firstWrong rfl
theorem dX5_firstWrong_17 : decode cX5_firstWrong 17 = .ok (.iload_n 2, 1) := g_28 bX5_firstWrong rfl
theorem dX5_firstWrong_18 : decode cX5_firstWrong 18 = .ok (.if_icmp .ge 96, 3) := g_162 96 bX5_firstWrong rfl rfl
theorem dX5_firstWrong_21 : decode cX5_firstWrong 21 = .ok (.aload_n 0, 1) := g_42 bX5_firstWrong rfl
theorem dX5_firstWrong_22 : decode cX5_firstWrong 22 = .ok (.getfield 29, 3) := g_180 bX5_firstWrong rfl
theorem dX5_firstWrong_25 : decode cX5_firstWrong 25 = .ok (.iload_n 1, 1) := g_27 bX5_firstWrong rfl
theorem dX5_firstWrong_26 : decode cX5_firstWrong 26 = .ok (.iload 4, 2) := g_21 bX5_firstWrong rfl
theorem dX5_firstWrong_28 : decode cX5_firstWrong 28 = .ok (.invokevirtual 86, 3) := g_182 bX5_firstWrong rfl
theorem dX5_firstWrong_31 : decode cX5_firstWrong 31 = .ok (.lstore 5, 2) := g_55 bX5_firstWrong rfl
theorem dX5_firstWrong_33 : decode cX5_firstWrong 33 = .ok (.lload 5, 2) := g_22 bX5_firstWrong rfl
theorem dX5_firstWrong_35 : decode cX5_firstWrong 35 = .ok (.lconst 0, 1) := g_9 bX5_firstWrong rfl
theorem dX5_firstWrong_36 : decode cX5_firstWrong 36 = .ok (.ldc2_w 367, 3) := g_20 bX5_firstWrong rfl
theorem dX5_firstWrong_39 : decode cX5_firstWrong 39 = .ok (.invokestatic 50, 3) := g_184 bX5_firstWrong rfl
theorem dX5_firstWrong_42 : decode cX5_firstWrong 42 = .ok (.ifCond .ne 6, 3) := g_154 6 bX5_firstWrong rfl rfl
theorem dX5_firstWrong_45 : decode cX5_firstWrong 45 = .ok (.iload 4, 2) := g_21 bX5_firstWrong rfl
theorem dX5_firstWrong_47 : decode cX5_firstWrong 47 = .ok (.ireturn, 1) := g_172 bX5_firstWrong rfl
theorem dX5_firstWrong_48 : decode cX5_firstWrong 48 = .ok (.lload 5, 2) := g_22 bX5_firstWrong rfl
theorem dX5_firstWrong_50 : decode cX5_firstWrong 50 = .ok (.l2i, 1) := g_136 bX5_firstWrong rfl
theorem dX5_firstWrong_51 : decode cX5_firstWrong 51 = .ok (.bipush 100, 2) := g_16 100 bX5_firstWrong rfl rfl
theorem dX5_firstWrong_53 : decode cX5_firstWrong 53 = .ok (.idiv, 1) := g_108 bX5_firstWrong rfl
theorem dX5_firstWrong_54 : decode cX5_firstWrong 54 = .ok (.istore 7, 2) := g_54 bX5_firstWrong rfl
theorem dX5_firstWrong_56 : decode cX5_firstWrong 56 = .ok (.lload 5, 2) := g_22 bX5_firstWrong rfl
theorem dX5_firstWrong_58 : decode cX5_firstWrong 58 = .ok (.l2i, 1) := g_136 bX5_firstWrong rfl
theorem dX5_firstWrong_59 : decode cX5_firstWrong 59 = .ok (.bipush 100, 2) := g_16 100 bX5_firstWrong rfl rfl
theorem dX5_firstWrong_61 : decode cX5_firstWrong 61 = .ok (.irem, 1) := g_112 bX5_firstWrong rfl
theorem dX5_firstWrong_62 : decode cX5_firstWrong 62 = .ok (.istore 8, 2) := g_54 bX5_firstWrong rfl
theorem dX5_firstWrong_64 : decode cX5_firstWrong 64 = .ok (.aload_n 3, 1) := g_45 bX5_firstWrong rfl
theorem dX5_firstWrong_65 : decode cX5_firstWrong 65 = .ok (.invokevirtual 269, 3) := g_182 bX5_firstWrong rfl
theorem dX5_firstWrong_68 : decode cX5_firstWrong 68 = .ok (.iload 7, 2) := g_21 bX5_firstWrong rfl
theorem dX5_firstWrong_70 : decode cX5_firstWrong 70 = .ok (.invokestatic 183, 3) := g_184 bX5_firstWrong rfl
theorem dX5_firstWrong_73 : decode cX5_firstWrong 73 = .ok (.ifCond .eq 24, 3) := g_153 24 bX5_firstWrong rfl rfl
theorem dX5_firstWrong_76 : decode cX5_firstWrong 76 = .ok (.aload_n 3, 1) := g_45 bX5_firstWrong rfl
theorem dX5_firstWrong_77 : decode cX5_firstWrong 77 = .ok (.iload 8, 2) := g_21 bX5_firstWrong rfl
theorem dX5_firstWrong_79 : decode cX5_firstWrong 79 = .ok (.invokevirtual 168, 3) := g_182 bX5_firstWrong rfl
theorem dX5_firstWrong_82 : decode cX5_firstWrong 82 = .ok (.ifCond .eq 15, 3) := g_153 15 bX5_firstWrong rfl rfl
theorem dX5_firstWrong_85 : decode cX5_firstWrong 85 = .ok (.aload_n 3, 1) := g_45 bX5_firstWrong rfl
theorem dX5_firstWrong_86 : decode cX5_firstWrong 86 = .ok (.getfield 180, 3) := g_180 bX5_firstWrong rfl
theorem dX5_firstWrong_89 : decode cX5_firstWrong 89 = .ok (.iload 8, 2) := g_21 bX5_firstWrong rfl
theorem dX5_firstWrong_91 : decode cX5_firstWrong 91 = .ok (.invokestatic 183, 3) := g_184 bX5_firstWrong rfl
theorem dX5_firstWrong_94 : decode cX5_firstWrong 94 = .ok (.ifCond .eq 6, 3) := g_153 6 bX5_firstWrong rfl rfl
theorem dX5_firstWrong_97 : decode cX5_firstWrong 97 = .ok (.iload 4, 2) := g_21 bX5_firstWrong rfl
theorem dX5_firstWrong_99 : decode cX5_firstWrong 99 = .ok (.ireturn, 1) := g_172 bX5_firstWrong rfl
theorem dX5_firstWrong_100 : decode cX5_firstWrong 100 = .ok (.aload_n 3, 1) := g_45 bX5_firstWrong rfl
theorem dX5_firstWrong_101 : decode cX5_firstWrong 101 = .ok (.iload 7, 2) := g_21 bX5_firstWrong rfl
theorem dX5_firstWrong_103 : decode cX5_firstWrong 103 = .ok (.iload 8, 2) := g_21 bX5_firstWrong rfl
theorem dX5_firstWrong_105 : decode cX5_firstWrong 105 = .ok (.invokevirtual 230, 3) := g_182 bX5_firstWrong rfl
theorem dX5_firstWrong_108 : decode cX5_firstWrong 108 = .ok (.iinc 4 1, 3) := g_132 1 bX5_firstWrong rfl rfl
theorem dX5_firstWrong_111 : decode cX5_firstWrong 111 = .ok (.goto (-96), 3) := g_167 65440 bX5_firstWrong rfl rfl
theorem dX5_firstWrong_114 : decode cX5_firstWrong 114 = .ok (.iconst (-1), 1) := g_2 bX5_firstWrong rfl
theorem dX5_firstWrong_115 : decode cX5_firstWrong 115 = .ok (.ireturn, 1) := g_172 bX5_firstWrong rfl
theorem dX5_gains_0 : decode cX5_gains 0 = .ok (.iload_n 2, 1) := g_28 bX5_gains rfl
theorem dX5_gains_1 : decode cX5_gains 1 = .ok (.i2l, 1) := g_133 bX5_gains rfl
theorem dX5_gains_2 : decode cX5_gains 2 = .ok (.lconst 1, 1) := g_10 bX5_gains rfl
theorem dX5_gains_3 : decode cX5_gains 3 = .ok (.ldc2_w 250, 3) := g_20 bX5_gains rfl
theorem dX5_gains_6 : decode cX5_gains 6 = .ok (.invokestatic 50, 3) := g_184 bX5_gains rfl
theorem dX5_gains_9 : decode cX5_gains 9 = .ok (.ifCond .eq 11, 3) := g_153 11 bX5_gains rfl rfl
theorem dX5_gains_12 : decode cX5_gains 12 = .ok (.aload_n 0, 1) := g_42 bX5_gains rfl
theorem dX5_gains_13 : decode cX5_gains 13 = .ok (.iload_n 1, 1) := g_27 bX5_gains rfl
theorem dX5_gains_14 : decode cX5_gains 14 = .ok (.invokevirtual 100, 3) := g_182 bX5_gains rfl
theorem dX5_gains_17 : decode cX5_gains 17 = .ok (.goto 5, 3) := g_167 5 bX5_gains rfl rfl
theorem dX5_gains_20 : decode cX5_gains 20 = .ok (.bipush (-2), 2) := g_16 254 bX5_gains rfl rfl
theorem dX5_gains_22 : decode cX5_gains 22 = .ok (.istore_n 3, 1) := g_62 bX5_gains rfl
theorem dX5_gains_23 : decode cX5_gains 23 = .ok (.iload_n 3, 1) := g_29 bX5_gains rfl
theorem dX5_gains_24 : decode cX5_gains 24 = .ok (.ifCond .eq 13, 3) := g_153 13 bX5_gains rfl rfl
theorem dX5_gains_27 : decode cX5_gains 27 = .ok (.aload_n 0, 1) := g_42 bX5_gains rfl
theorem dX5_gains_28 : decode cX5_gains 28 = .ok (.iload_n 3, 1) := g_29 bX5_gains rfl
theorem dX5_gains_29 : decode cX5_gains 29 = .ok (.invokevirtual 56, 3) := g_182 bX5_gains rfl
theorem dX5_gains_32 : decode cX5_gains 32 = .ok (.ldc_w 286, 3) := g_19 bX5_gains rfl
theorem dX5_gains_35 : decode cX5_gains 35 = .ok (.isub, 1) := g_100 bX5_gains rfl
theorem dX5_gains_36 : decode cX5_gains 36 = .ok (.ireturn, 1) := g_172 bX5_gains rfl
theorem dX5_gains_37 : decode cX5_gains 37 = .ok (.aload_n 0, 1) := g_42 bX5_gains rfl
theorem dX5_gains_38 : decode cX5_gains 38 = .ok (.getfield 22, 3) := g_180 bX5_gains rfl
theorem dX5_gains_41 : decode cX5_gains 41 = .ok (.aload_n 0, 1) := g_42 bX5_gains rfl
theorem dX5_gains_42 : decode cX5_gains 42 = .ok (.getfield 22, 3) := g_180 bX5_gains rfl
theorem dX5_gains_45 : decode cX5_gains 45 = .ok (.aload_n 0, 1) := g_42 bX5_gains rfl
theorem dX5_gains_46 : decode cX5_gains 46 = .ok (.getfield 10, 3) := g_180 bX5_gains rfl
theorem dX5_gains_49 : decode cX5_gains 49 = .ok (.invokevirtual 115, 3) := g_182 bX5_gains rfl
theorem dX5_gains_52 : decode cX5_gains 52 = .ok (.aload_n 0, 1) := g_42 bX5_gains rfl
theorem dX5_gains_53 : decode cX5_gains 53 = .ok (.getfield 29, 3) := g_180 bX5_gains rfl
theorem dX5_gains_56 : decode cX5_gains 56 = .ok (.iload_n 1, 1) := g_27 bX5_gains rfl
theorem dX5_gains_57 : decode cX5_gains 57 = .ok (.invokevirtual 103, 3) := g_182 bX5_gains rfl
theorem dX5_gains_60 : decode cX5_gains 60 = .ok (.aload_n 0, 1) := g_42 bX5_gains rfl
theorem dX5_gains_61 : decode cX5_gains 61 = .ok (.getfield 29, 3) := g_180 bX5_gains rfl
theorem dX5_gains_64 : decode cX5_gains 64 = .ok (.getfield 112, 3) := g_180 bX5_gains rfl
theorem dX5_gains_67 : decode cX5_gains 67 = .ok (.iload_n 1, 1) := g_27 bX5_gains rfl
theorem dX5_gains_68 : decode cX5_gains 68 = .ok (.iaload, 1) := g_46 bX5_gains rfl
theorem dX5_gains_69 : decode cX5_gains 69 = .ok (.iload_n 2, 1) := g_28 bX5_gains rfl
theorem dX5_gains_70 : decode cX5_gains 70 = .ok (.invokevirtual 254, 3) := g_182 bX5_gains rfl
theorem dX5_gains_73 : decode cX5_gains 73 = .ok (.istore 4, 2) := g_54 bX5_gains rfl
theorem dX5_gains_75 : decode cX5_gains 75 = .ok (.iload 4, 2) := g_21 bX5_gains rfl
theorem dX5_gains_77 : decode cX5_gains 77 = .ok (.aload_n 0, 1) := g_42 bX5_gains rfl
theorem dX5_gains_78 : decode cX5_gains 78 = .ok (.getfield 22, 3) := g_180 bX5_gains rfl
theorem dX5_gains_81 : decode cX5_gains 81 = .ok (.aload_n 0, 1) := g_42 bX5_gains rfl
theorem dX5_gains_82 : decode cX5_gains 82 = .ok (.getfield 10, 3) := g_180 bX5_gains rfl
theorem dX5_gains_85 : decode cX5_gains 85 = .ok (.invokevirtual 115, 3) := g_182 bX5_gains rfl
theorem dX5_gains_88 : decode cX5_gains 88 = .ok (.iload_n 2, 1) := g_28 bX5_gains rfl
theorem dX5_gains_89 : decode cX5_gains 89 = .ok (.invokestatic 318, 3) := g_184 bX5_gains rfl
theorem dX5_gains_92 : decode cX5_gains 92 = .ok (.isub, 1) := g_100 bX5_gains rfl
theorem dX5_gains_93 : decode cX5_gains 93 = .ok (.ireturn, 1) := g_172 bX5_gains rfl
theorem dX5_hangs_0 : decode cX5_hangs 0 = .ok (.aload_n 0, 1) := g_42 bX5_hangs rfl
theorem dX5_hangs_1 : decode cX5_hangs 1 = .ok (.getfield 10, 3) := g_180 bX5_hangs rfl
theorem dX5_hangs_4 : decode cX5_hangs 4 = .ok (.invokevirtual 269, 3) := g_182 bX5_hangs rfl
theorem dX5_hangs_7 : decode cX5_hangs 7 = .ok (.istore_n 1, 1) := g_60 bX5_hangs rfl
theorem dX5_hangs_8 : decode cX5_hangs 8 = .ok (.iconst (-1), 1) := g_2 bX5_hangs rfl
theorem dX5_hangs_9 : decode cX5_hangs 9 = .ok (.istore_n 2, 1) := g_61 bX5_hangs rfl
theorem dX5_hangs_10 : decode cX5_hangs 10 = .ok (.iconst 0, 1) := g_3 bX5_hangs rfl
theorem dX5_hangs_11 : decode cX5_hangs 11 = .ok (.istore_n 3, 1) := g_62 bX5_hangs rfl
theorem dX5_hangs_12 : decode cX5_hangs 12 = .ok (.iconst 0, 1) := g_3 bX5_hangs rfl
theorem dX5_hangs_13 : decode cX5_hangs 13 = .ok (.istore 4, 2) := g_54 bX5_hangs rfl
theorem dX5_hangs_15 : decode cX5_hangs 15 = .ok (.iload 4, 2) := g_21 bX5_hangs rfl
theorem dX5_hangs_17 : decode cX5_hangs 17 = .ok (.aload_n 0, 1) := g_42 bX5_hangs rfl
theorem dX5_hangs_18 : decode cX5_hangs 18 = .ok (.getfield 10, 3) := g_180 bX5_hangs rfl
theorem dX5_hangs_21 : decode cX5_hangs 21 = .ok (.getfield 141, 3) := g_180 bX5_hangs rfl
theorem dX5_hangs_24 : decode cX5_hangs 24 = .ok (.if_icmp .ge 52, 3) := g_162 52 bX5_hangs rfl rfl
theorem dX5_hangs_27 : decode cX5_hangs 27 = .ok (.iload_n 1, 1) := g_27 bX5_hangs rfl
theorem dX5_hangs_28 : decode cX5_hangs 28 = .ok (.iload 4, 2) := g_21 bX5_hangs rfl
theorem dX5_hangs_30 : decode cX5_hangs 30 = .ok (.invokestatic 183, 3) := g_184 bX5_hangs rfl
theorem dX5_hangs_33 : decode cX5_hangs 33 = .ok (.ifCond .eq 37, 3) := g_153 37 bX5_hangs rfl rfl
theorem dX5_hangs_36 : decode cX5_hangs 36 = .ok (.aload_n 0, 1) := g_42 bX5_hangs rfl
theorem dX5_hangs_37 : decode cX5_hangs 37 = .ok (.getfield 10, 3) := g_180 bX5_hangs rfl
theorem dX5_hangs_40 : decode cX5_hangs 40 = .ok (.iload_n 1, 1) := g_27 bX5_hangs rfl
theorem dX5_hangs_41 : decode cX5_hangs 41 = .ok (.iconst 1, 1) := g_4 bX5_hangs rfl
theorem dX5_hangs_42 : decode cX5_hangs 42 = .ok (.iload 4, 2) := g_21 bX5_hangs rfl
theorem dX5_hangs_44 : decode cX5_hangs 44 = .ok (.ishl, 1) := g_120 bX5_hangs rfl
theorem dX5_hangs_45 : decode cX5_hangs 45 = .ok (.iconst (-1), 1) := g_2 bX5_hangs rfl
theorem dX5_hangs_46 : decode cX5_hangs 46 = .ok (.ixor, 1) := g_130 bX5_hangs rfl
theorem dX5_hangs_47 : decode cX5_hangs 47 = .ok (.iand, 1) := g_126 bX5_hangs rfl
theorem dX5_hangs_48 : decode cX5_hangs 48 = .ok (.invokevirtual 300, 3) := g_182 bX5_hangs rfl
theorem dX5_hangs_51 : decode cX5_hangs 51 = .ok (.istore 5, 2) := g_54 bX5_hangs rfl
theorem dX5_hangs_53 : decode cX5_hangs 53 = .ok (.iload_n 2, 1) := g_28 bX5_hangs rfl
theorem dX5_hangs_54 : decode cX5_hangs 54 = .ok (.iconst (-1), 1) := g_2 bX5_hangs rfl
theorem dX5_hangs_55 : decode cX5_hangs 55 = .ok (.if_icmp .eq 9, 3) := g_159 9 bX5_hangs rfl rfl
theorem dX5_hangs_58 : decode cX5_hangs 58 = .ok (.iload 5, 2) := g_21 bX5_hangs rfl
theorem dX5_hangs_60 : decode cX5_hangs 60 = .ok (.iload_n 3, 1) := g_29 bX5_hangs rfl
theorem dX5_hangs_61 : decode cX5_hangs 61 = .ok (.if_icmp .ge 9, 3) := g_162 9 bX5_hangs rfl rfl
theorem dX5_hangs_64 : decode cX5_hangs 64 = .ok (.iload 4, 2) := g_21 bX5_hangs rfl
theorem dX5_hangs_66 : decode cX5_hangs 66 = .ok (.istore_n 2, 1) := g_61 bX5_hangs rfl
theorem dX5_hangs_67 : decode cX5_hangs 67 = .ok (.iload 5, 2) := g_21 bX5_hangs rfl
theorem dX5_hangs_69 : decode cX5_hangs 69 = .ok (.istore_n 3, 1) := g_62 bX5_hangs rfl
theorem dX5_hangs_70 : decode cX5_hangs 70 = .ok (.iinc 4 1, 3) := g_132 1 bX5_hangs rfl rfl
theorem dX5_hangs_73 : decode cX5_hangs 73 = .ok (.goto (-58), 3) := g_167 65478 bX5_hangs rfl rfl
theorem dX5_hangs_76 : decode cX5_hangs 76 = .ok (.iload_n 2, 1) := g_28 bX5_hangs rfl
theorem dX5_hangs_77 : decode cX5_hangs 77 = .ok (.iconst (-1), 1) := g_2 bX5_hangs rfl
theorem dX5_hangs_78 : decode cX5_hangs 78 = .ok (.if_icmp .ne 12, 3) := g_160 12 bX5_hangs rfl rfl
theorem dX5_hangs_81 : decode cX5_hangs 81 = .ok (.aload_n 0, 1) := g_42 bX5_hangs rfl
theorem dX5_hangs_82 : decode cX5_hangs 82 = .ok (.bipush (-5), 2) := g_16 251 bX5_hangs rfl rfl
theorem dX5_hangs_84 : decode cX5_hangs 84 = .ok (.invokevirtual 56, 3) := g_182 bX5_hangs rfl
theorem dX5_hangs_87 : decode cX5_hangs 87 = .ok (.goto 4, 3) := g_167 4 bX5_hangs rfl rfl
theorem dX5_hangs_90 : decode cX5_hangs 90 = .ok (.iload_n 2, 1) := g_28 bX5_hangs rfl
theorem dX5_hangs_91 : decode cX5_hangs 91 = .ok (.ireturn, 1) := g_172 bX5_hangs rfl
theorem dX5_head_0 : decode cX5_head 0 = .ok (.iload_n 1, 1) := g_27 bX5_head rfl
theorem dX5_head_1 : decode cX5_head 1 = .ok (.i2l, 1) := g_133 bX5_head rfl
theorem dX5_head_2 : decode cX5_head 2 = .ok (.lconst 1, 1) := g_10 bX5_head rfl
theorem dX5_head_3 : decode cX5_head 3 = .ok (.ldc2_w 250, 3) := g_20 bX5_head rfl
theorem dX5_head_6 : decode cX5_head 6 = .ok (.invokestatic 50, 3) := g_184 bX5_head rfl
theorem dX5_head_9 : decode cX5_head 9 = .ok (.ifCond .ne 10, 3) := g_154 10 bX5_head rfl rfl
theorem dX5_head_12 : decode cX5_head 12 = .ok (.aload_n 0, 1) := g_42 bX5_head rfl
theorem dX5_head_13 : decode cX5_head 13 = .ok (.bipush (-2), 2) := g_16 254 bX5_head rfl rfl
theorem dX5_head_15 : decode cX5_head 15 = .ok (.invokevirtual 56, 3) := g_182 bX5_head rfl
theorem dX5_head_18 : decode cX5_head 18 = .ok (.ireturn, 1) := g_172 bX5_head rfl
theorem dX5_head_19 : decode cX5_head 19 = .ok (.iconst (-1), 1) := g_2 bX5_head rfl
theorem dX5_head_20 : decode cX5_head 20 = .ok (.istore_n 2, 1) := g_61 bX5_head rfl
theorem dX5_head_21 : decode cX5_head 21 = .ok (.iconst 0, 1) := g_3 bX5_head rfl
theorem dX5_head_22 : decode cX5_head 22 = .ok (.istore_n 3, 1) := g_62 bX5_head rfl
theorem dX5_head_23 : decode cX5_head 23 = .ok (.iconst 0, 1) := g_3 bX5_head rfl
theorem dX5_head_24 : decode cX5_head 24 = .ok (.istore 4, 2) := g_54 bX5_head rfl
theorem dX5_head_26 : decode cX5_head 26 = .ok (.iload 4, 2) := g_21 bX5_head rfl
theorem dX5_head_28 : decode cX5_head 28 = .ok (.bipush 8, 2) := g_16 8 bX5_head rfl rfl
theorem dX5_head_30 : decode cX5_head 30 = .ok (.if_icmp .ge 75, 3) := g_162 75 bX5_head rfl rfl
theorem dX5_head_33 : decode cX5_head 33 = .ok (.aload_n 0, 1) := g_42 bX5_head rfl
theorem dX5_head_34 : decode cX5_head 34 = .ok (.iload 4, 2) := g_21 bX5_head rfl
theorem dX5_head_36 : decode cX5_head 36 = .ok (.invokevirtual 100, 3) := g_182 bX5_head rfl
theorem dX5_head_39 : decode cX5_head 39 = .ok (.ifCond .ne 60, 3) := g_154 60 bX5_head rfl rfl
theorem dX5_head_42 : decode cX5_head 42 = .ok (.aload_n 0, 1) := g_42 bX5_head rfl
theorem dX5_head_43 : decode cX5_head 43 = .ok (.getfield 22, 3) := g_180 bX5_head rfl
theorem dX5_head_46 : decode cX5_head 46 = .ok (.aload_n 0, 1) := g_42 bX5_head rfl
theorem dX5_head_47 : decode cX5_head 47 = .ok (.getfield 22, 3) := g_180 bX5_head rfl
theorem dX5_head_50 : decode cX5_head 50 = .ok (.aload_n 0, 1) := g_42 bX5_head rfl
theorem dX5_head_51 : decode cX5_head 51 = .ok (.getfield 10, 3) := g_180 bX5_head rfl
theorem dX5_head_54 : decode cX5_head 54 = .ok (.invokevirtual 115, 3) := g_182 bX5_head rfl
theorem dX5_head_57 : decode cX5_head 57 = .ok (.aload_n 0, 1) := g_42 bX5_head rfl
theorem dX5_head_58 : decode cX5_head 58 = .ok (.getfield 29, 3) := g_180 bX5_head rfl
theorem dX5_head_61 : decode cX5_head 61 = .ok (.iload 4, 2) := g_21 bX5_head rfl
theorem dX5_head_63 : decode cX5_head 63 = .ok (.invokevirtual 103, 3) := g_182 bX5_head rfl
theorem dX5_head_66 : decode cX5_head 66 = .ok (.aload_n 0, 1) := g_42 bX5_head rfl
theorem dX5_head_67 : decode cX5_head 67 = .ok (.getfield 29, 3) := g_180 bX5_head rfl
theorem dX5_head_70 : decode cX5_head 70 = .ok (.getfield 112, 3) := g_180 bX5_head rfl
theorem dX5_head_73 : decode cX5_head 73 = .ok (.iload 4, 2) := g_21 bX5_head rfl
theorem dX5_head_75 : decode cX5_head 75 = .ok (.iaload, 1) := g_46 bX5_head rfl
theorem dX5_head_76 : decode cX5_head 76 = .ok (.iload_n 1, 1) := g_27 bX5_head rfl
theorem dX5_head_77 : decode cX5_head 77 = .ok (.invokevirtual 254, 3) := g_182 bX5_head rfl
theorem dX5_head_80 : decode cX5_head 80 = .ok (.istore 5, 2) := g_54 bX5_head rfl
theorem dX5_head_82 : decode cX5_head 82 = .ok (.iload_n 2, 1) := g_28 bX5_head rfl
theorem dX5_head_83 : decode cX5_head 83 = .ok (.iconst (-1), 1) := g_2 bX5_head rfl
theorem dX5_head_84 : decode cX5_head 84 = .ok (.if_icmp .eq 9, 3) := g_159 9 bX5_head rfl rfl
theorem dX5_head_87 : decode cX5_head 87 = .ok (.iload 5, 2) := g_21 bX5_head rfl
theorem dX5_head_89 : decode cX5_head 89 = .ok (.iload_n 3, 1) := g_29 bX5_head rfl
theorem dX5_head_90 : decode cX5_head 90 = .ok (.if_icmp .le 9, 3) := g_164 9 bX5_head rfl rfl
theorem dX5_head_93 : decode cX5_head 93 = .ok (.iload 4, 2) := g_21 bX5_head rfl
theorem dX5_head_95 : decode cX5_head 95 = .ok (.istore_n 2, 1) := g_61 bX5_head rfl
theorem dX5_head_96 : decode cX5_head 96 = .ok (.iload 5, 2) := g_21 bX5_head rfl
theorem dX5_head_98 : decode cX5_head 98 = .ok (.istore_n 3, 1) := g_62 bX5_head rfl
theorem dX5_head_99 : decode cX5_head 99 = .ok (.iinc 4 1, 3) := g_132 1 bX5_head rfl rfl
theorem dX5_head_102 : decode cX5_head 102 = .ok (.goto (-76), 3) := g_167 65460 bX5_head rfl rfl
theorem dX5_head_105 : decode cX5_head 105 = .ok (.iload_n 2, 1) := g_28 bX5_head rfl
theorem dX5_head_106 : decode cX5_head 106 = .ok (.iconst (-1), 1) := g_2 bX5_head rfl
theorem dX5_head_107 : decode cX5_head 107 = .ok (.if_icmp .ne 12, 3) := g_160 12 bX5_head rfl rfl
theorem dX5_head_110 : decode cX5_head 110 = .ok (.aload_n 0, 1) := g_42 bX5_head rfl
theorem dX5_head_111 : decode cX5_head 111 = .ok (.bipush (-5), 2) := g_16 251 bX5_head rfl rfl
theorem dX5_head_113 : decode cX5_head 113 = .ok (.invokevirtual 56, 3) := g_182 bX5_head rfl
theorem dX5_head_116 : decode cX5_head 116 = .ok (.goto 4, 3) := g_167 4 bX5_head rfl rfl
theorem dX5_head_119 : decode cX5_head 119 = .ok (.iload_n 2, 1) := g_28 bX5_head rfl
theorem dX5_head_120 : decode cX5_head 120 = .ok (.ireturn, 1) := g_172 bX5_head rfl
theorem dX5_image_0 : decode cX5_image 0 = .ok (.aload_n 0, 1) := g_42 bX5_image rfl
theorem dX5_image_1 : decode cX5_image 1 = .ok (.getfield 16, 3) := g_180 bX5_image rfl
theorem dX5_image_4 : decode cX5_image 4 = .ok (.aload_n 0, 1) := g_42 bX5_image rfl
theorem dX5_image_5 : decode cX5_image 5 = .ok (.getfield 10, 3) := g_180 bX5_image rfl
theorem dX5_image_8 : decode cX5_image 8 = .ok (.invokevirtual 164, 3) := g_182 bX5_image rfl
theorem dX5_image_11 : decode cX5_image 11 = .ok (.aload_n 0, 1) := g_42 bX5_image rfl
theorem dX5_image_12 : decode cX5_image 12 = .ok (.iconst 1, 1) := g_4 bX5_image rfl
theorem dX5_image_13 : decode cX5_image 13 = .ok (.putfield 344, 3) := g_181 bX5_image rfl
theorem dX5_image_16 : decode cX5_image 16 = .ok (.iconst 1, 1) := g_4 bX5_image rfl
theorem dX5_image_17 : decode cX5_image 17 = .ok (.ireturn, 1) := g_172 bX5_image rfl
theorem dX5_judge_0 : decode cX5_judge 0 = .ok (.aload_n 0, 1) := g_42 bX5_judge rfl
theorem dX5_judge_1 : decode cX5_judge 1 = .ok (.iload_n 1, 1) := g_27 bX5_judge rfl
theorem dX5_judge_2 : decode cX5_judge 2 = .ok (.iload_n 2, 1) := g_28 bX5_judge rfl
theorem dX5_judge_3 : decode cX5_judge 3 = .ok (.invokevirtual 321, 3) := g_182 bX5_judge rfl
theorem dX5_judge_6 : decode cX5_judge 6 = .ok (.istore_n 3, 1) := g_62 bX5_judge rfl
theorem dX5_judge_7 : decode cX5_judge 7 = .ok (.iload_n 3, 1) := g_29 bX5_judge rfl
theorem dX5_judge_8 : decode cX5_judge 8 = .ok (.ifCond .ne 12, 3) := g_154 12 bX5_judge rfl rfl
theorem dX5_judge_11 : decode cX5_judge 11 = .ok (.aload_n 0, 1) := g_42 bX5_judge rfl
theorem dX5_judge_12 : decode cX5_judge 12 = .ok (.iload_n 1, 1) := g_27 bX5_judge rfl
theorem dX5_judge_13 : decode cX5_judge 13 = .ok (.iload_n 2, 1) := g_28 bX5_judge rfl
theorem dX5_judge_14 : decode cX5_judge 14 = .ok (.invokevirtual 324, 3) := g_182 bX5_judge rfl
theorem dX5_judge_17 : decode cX5_judge 17 = .ok (.goto 8, 3) := g_167 8 bX5_judge rfl rfl
theorem dX5_judge_20 : decode cX5_judge 20 = .ok (.aload_n 0, 1) := g_42 bX5_judge rfl
theorem dX5_judge_21 : decode cX5_judge 21 = .ok (.iload_n 3, 1) := g_29 bX5_judge rfl
theorem dX5_judge_22 : decode cX5_judge 22 = .ok (.invokevirtual 56, 3) := g_182 bX5_judge rfl
theorem dX5_judge_25 : decode cX5_judge 25 = .ok (.ireturn, 1) := g_172 bX5_judge rfl
theorem dX5_keeping_0 : decode cX5_keeping 0 = .ok (.aload_n 0, 1) := g_42 bX5_keeping rfl
theorem dX5_keeping_1 : decode cX5_keeping 1 = .ok (.getfield 10, 3) := g_180 bX5_keeping rfl
theorem dX5_keeping_4 : decode cX5_keeping 4 = .ok (.iload_n 1, 1) := g_27 bX5_keeping rfl
theorem dX5_keeping_5 : decode cX5_keeping 5 = .ok (.invokevirtual 168, 3) := g_182 bX5_keeping rfl
theorem dX5_keeping_8 : decode cX5_keeping 8 = .ok (.ifCond .eq 17, 3) := g_153 17 bX5_keeping rfl rfl
theorem dX5_keeping_11 : decode cX5_keeping 11 = .ok (.iload_n 2, 1) := g_28 bX5_keeping rfl
theorem dX5_keeping_12 : decode cX5_keeping 12 = .ok (.i2l, 1) := g_133 bX5_keeping rfl
theorem dX5_keeping_13 : decode cX5_keeping 13 = .ok (.ldc2_w 284, 3) := g_20 bX5_keeping rfl
theorem dX5_keeping_16 : decode cX5_keeping 16 = .ok (.ldc2_w 250, 3) := g_20 bX5_keeping rfl
theorem dX5_keeping_19 : decode cX5_keeping 19 = .ok (.invokestatic 50, 3) := g_184 bX5_keeping rfl
theorem dX5_keeping_22 : decode cX5_keeping 22 = .ok (.ifCond .ne 14, 3) := g_154 14 bX5_keeping rfl rfl
theorem dX5_keeping_25 : decode cX5_keeping 25 = .ok (.aload_n 0, 1) := g_42 bX5_keeping rfl
theorem dX5_keeping_26 : decode cX5_keeping 26 = .ok (.bipush (-2), 2) := g_16 254 bX5_keeping rfl rfl
theorem dX5_keeping_28 : decode cX5_keeping 28 = .ok (.invokevirtual 56, 3) := g_182 bX5_keeping rfl
theorem dX5_keeping_31 : decode cX5_keeping 31 = .ok (.ldc_w 286, 3) := g_19 bX5_keeping rfl
theorem dX5_keeping_34 : decode cX5_keeping 34 = .ok (.isub, 1) := g_100 bX5_keeping rfl
theorem dX5_keeping_35 : decode cX5_keeping 35 = .ok (.ireturn, 1) := g_172 bX5_keeping rfl
theorem dX5_keeping_36 : decode cX5_keeping 36 = .ok (.aload_n 0, 1) := g_42 bX5_keeping rfl
theorem dX5_keeping_37 : decode cX5_keeping 37 = .ok (.getfield 10, 3) := g_180 bX5_keeping rfl
theorem dX5_keeping_40 : decode cX5_keeping 40 = .ok (.getfield 180, 3) := g_180 bX5_keeping rfl
theorem dX5_keeping_43 : decode cX5_keeping 43 = .ok (.iload_n 1, 1) := g_27 bX5_keeping rfl
theorem dX5_keeping_44 : decode cX5_keeping 44 = .ok (.invokestatic 183, 3) := g_184 bX5_keeping rfl
theorem dX5_keeping_47 : decode cX5_keeping 47 = .ok (.ifCond .ne 23, 3) := g_154 23 bX5_keeping rfl rfl
theorem dX5_keeping_50 : decode cX5_keeping 50 = .ok (.aload_n 0, 1) := g_42 bX5_keeping rfl
theorem dX5_keeping_51 : decode cX5_keeping 51 = .ok (.getfield 22, 3) := g_180 bX5_keeping rfl
theorem dX5_keeping_54 : decode cX5_keeping 54 = .ok (.aload_n 0, 1) := g_42 bX5_keeping rfl
theorem dX5_keeping_55 : decode cX5_keeping 55 = .ok (.getfield 10, 3) := g_180 bX5_keeping rfl
theorem dX5_keeping_58 : decode cX5_keeping 58 = .ok (.iload_n 1, 1) := g_27 bX5_keeping rfl
theorem dX5_keeping_59 : decode cX5_keeping 59 = .ok (.iload_n 2, 1) := g_28 bX5_keeping rfl
theorem dX5_keeping_60 : decode cX5_keeping 60 = .ok (.invokevirtual 287, 3) := g_182 bX5_keeping rfl
theorem dX5_keeping_63 : decode cX5_keeping 63 = .ok (.ifCond .eq 7, 3) := g_153 7 bX5_keeping rfl rfl
theorem dX5_keeping_66 : decode cX5_keeping 66 = .ok (.iconst 1, 1) := g_4 bX5_keeping rfl
theorem dX5_keeping_67 : decode cX5_keeping 67 = .ok (.goto 4, 3) := g_167 4 bX5_keeping rfl rfl
theorem dX5_keeping_70 : decode cX5_keeping 70 = .ok (.iconst 0, 1) := g_3 bX5_keeping rfl
theorem dX5_keeping_71 : decode cX5_keeping 71 = .ok (.istore_n 3, 1) := g_62 bX5_keeping rfl
theorem dX5_keeping_72 : decode cX5_keeping 72 = .ok (.iload_n 3, 1) := g_29 bX5_keeping rfl
theorem dX5_keeping_73 : decode cX5_keeping 73 = .ok (.ifCond .eq 13, 3) := g_153 13 bX5_keeping rfl rfl
theorem dX5_keeping_76 : decode cX5_keeping 76 = .ok (.aload_n 0, 1) := g_42 bX5_keeping rfl
theorem dX5_keeping_77 : decode cX5_keeping 77 = .ok (.getfield 22, 3) := g_180 bX5_keeping rfl
theorem dX5_keeping_80 : decode cX5_keeping 80 = .ok (.getfield 291, 3) := g_180 bX5_keeping rfl
theorem dX5_keeping_83 : decode cX5_keeping 83 = .ok (.goto 13, 3) := g_167 13 bX5_keeping rfl rfl
theorem dX5_keeping_86 : decode cX5_keeping 86 = .ok (.aload_n 0, 1) := g_42 bX5_keeping rfl
theorem dX5_keeping_87 : decode cX5_keeping 87 = .ok (.bipush (-5), 2) := g_16 251 bX5_keeping rfl rfl
theorem dX5_keeping_89 : decode cX5_keeping 89 = .ok (.invokevirtual 56, 3) := g_182 bX5_keeping rfl
theorem dX5_keeping_92 : decode cX5_keeping 92 = .ok (.ldc_w 286, 3) := g_19 bX5_keeping rfl
theorem dX5_keeping_95 : decode cX5_keeping 95 = .ok (.isub, 1) := g_100 bX5_keeping rfl
theorem dX5_keeping_96 : decode cX5_keeping 96 = .ok (.ireturn, 1) := g_172 bX5_keeping rfl
theorem dX5_left_0 : decode cX5_left 0 = .ok (.iload_n 1, 1) := g_27 bX5_left rfl
theorem dX5_left_1 : decode cX5_left 1 = .ok (.iload_n 2, 1) := g_28 bX5_left rfl
theorem dX5_left_2 : decode cX5_left 2 = .ok (.invokestatic 294, 3) := g_184 bX5_left rfl
theorem dX5_left_5 : decode cX5_left 5 = .ok (.ifCond .eq 15, 3) := g_153 15 bX5_left rfl rfl
theorem dX5_left_8 : decode cX5_left 8 = .ok (.iload_n 3, 1) := g_29 bX5_left rfl
theorem dX5_left_9 : decode cX5_left 9 = .ok (.i2l, 1) := g_133 bX5_left rfl
theorem dX5_left_10 : decode cX5_left 10 = .ok (.lconst 0, 1) := g_9 bX5_left rfl
theorem dX5_left_11 : decode cX5_left 11 = .ok (.ldc2_w 95, 3) := g_20 bX5_left rfl
theorem dX5_left_14 : decode cX5_left 14 = .ok (.invokestatic 50, 3) := g_184 bX5_left rfl
theorem dX5_left_17 : decode cX5_left 17 = .ok (.ifCond .ne 10, 3) := g_154 10 bX5_left rfl rfl
theorem dX5_left_20 : decode cX5_left 20 = .ok (.aload_n 0, 1) := g_42 bX5_left rfl
theorem dX5_left_21 : decode cX5_left 21 = .ok (.bipush (-2), 2) := g_16 254 bX5_left rfl rfl
theorem dX5_left_23 : decode cX5_left 23 = .ok (.invokevirtual 56, 3) := g_182 bX5_left rfl
theorem dX5_left_26 : decode cX5_left 26 = .ok (.ireturn, 1) := g_172 bX5_left rfl
theorem dX5_left_27 : decode cX5_left 27 = .ok (.iload_n 1, 1) := g_27 bX5_left rfl
theorem dX5_left_28 : decode cX5_left 28 = .ok (.istore 4, 2) := g_54 bX5_left rfl
theorem dX5_left_30 : decode cX5_left 30 = .ok (.iconst 0, 1) := g_3 bX5_left rfl
theorem dX5_left_31 : decode cX5_left 31 = .ok (.istore 5, 2) := g_54 bX5_left rfl
theorem dX5_left_33 : decode cX5_left 33 = .ok (.iload 5, 2) := g_21 bX5_left rfl
theorem dX5_left_35 : decode cX5_left 35 = .ok (.iload_n 3, 1) := g_29 bX5_left rfl
theorem dX5_left_36 : decode cX5_left 36 = .ok (.if_icmp .ge 17, 3) := g_162 17 bX5_left rfl rfl
theorem dX5_left_39 : decode cX5_left 39 = .ok (.iload 4, 2) := g_21 bX5_left rfl
theorem dX5_left_41 : decode cX5_left 41 = .ok (.iload_n 2, 1) := g_28 bX5_left rfl
theorem dX5_left_42 : decode cX5_left 42 = .ok (.invokestatic 297, 3) := g_184 bX5_left rfl
theorem dX5_left_45 : decode cX5_left 45 = .ok (.istore 4, 2) := g_54 bX5_left rfl
theorem dX5_left_47 : decode cX5_left 47 = .ok (.iinc 5 1, 3) := g_132 1 bX5_left rfl rfl
theorem dX5_left_50 : decode cX5_left 50 = .ok (.goto (-17), 3) := g_167 65519 bX5_left rfl rfl
theorem dX5_left_53 : decode cX5_left 53 = .ok (.iload 4, 2) := g_21 bX5_left rfl
theorem dX5_left_55 : decode cX5_left 55 = .ok (.ireturn, 1) := g_172 bX5_left rfl
theorem dX5_longest_0 : decode cX5_longest 0 = .ok (.iload_n 1, 1) := g_27 bX5_longest rfl
theorem dX5_longest_1 : decode cX5_longest 1 = .ok (.iload_n 2, 1) := g_28 bX5_longest rfl
theorem dX5_longest_2 : decode cX5_longest 2 = .ok (.invokestatic 294, 3) := g_184 bX5_longest rfl
theorem dX5_longest_5 : decode cX5_longest 5 = .ok (.ifCond .eq 15, 3) := g_153 15 bX5_longest rfl rfl
theorem dX5_longest_8 : decode cX5_longest 8 = .ok (.iload_n 3, 1) := g_29 bX5_longest rfl
theorem dX5_longest_9 : decode cX5_longest 9 = .ok (.i2l, 1) := g_133 bX5_longest rfl
theorem dX5_longest_10 : decode cX5_longest 10 = .ok (.lconst 1, 1) := g_10 bX5_longest rfl
theorem dX5_longest_11 : decode cX5_longest 11 = .ok (.ldc2_w 216, 3) := g_20 bX5_longest rfl
theorem dX5_longest_14 : decode cX5_longest 14 = .ok (.invokestatic 50, 3) := g_184 bX5_longest rfl
theorem dX5_longest_17 : decode cX5_longest 17 = .ok (.ifCond .ne 10, 3) := g_154 10 bX5_longest rfl rfl
theorem dX5_longest_20 : decode cX5_longest 20 = .ok (.aload_n 0, 1) := g_42 bX5_longest rfl
theorem dX5_longest_21 : decode cX5_longest 21 = .ok (.bipush (-2), 2) := g_16 254 bX5_longest rfl rfl
theorem dX5_longest_23 : decode cX5_longest 23 = .ok (.invokevirtual 56, 3) := g_182 bX5_longest rfl
theorem dX5_longest_26 : decode cX5_longest 26 = .ok (.ireturn, 1) := g_172 bX5_longest rfl
theorem dX5_longest_27 : decode cX5_longest 27 = .ok (.iconst (-1), 1) := g_2 bX5_longest rfl
theorem dX5_longest_28 : decode cX5_longest 28 = .ok (.istore 4, 2) := g_54 bX5_longest rfl
theorem dX5_longest_30 : decode cX5_longest 30 = .ok (.iload_n 1, 1) := g_27 bX5_longest rfl
theorem dX5_longest_31 : decode cX5_longest 31 = .ok (.istore 5, 2) := g_54 bX5_longest rfl
theorem dX5_longest_33 : decode cX5_longest 33 = .ok (.iload 5, 2) := g_21 bX5_longest rfl
theorem dX5_longest_35 : decode cX5_longest 35 = .ok (.iload_n 3, 1) := g_29 bX5_longest rfl
theorem dX5_longest_36 : decode cX5_longest 36 = .ok (.if_icmp .lt 24, 3) := g_161 24 bX5_longest rfl rfl
theorem dX5_longest_39 : decode cX5_longest 39 = .ok (.iload 4, 2) := g_21 bX5_longest rfl
theorem dX5_longest_41 : decode cX5_longest 41 = .ok (.bipush 99, 2) := g_16 99 bX5_longest rfl rfl
theorem dX5_longest_43 : decode cX5_longest 43 = .ok (.if_icmp .ge 17, 3) := g_162 17 bX5_longest rfl rfl
theorem dX5_longest_46 : decode cX5_longest 46 = .ok (.iinc 4 1, 3) := g_132 1 bX5_longest rfl rfl
theorem dX5_longest_49 : decode cX5_longest 49 = .ok (.iload 5, 2) := g_21 bX5_longest rfl
theorem dX5_longest_51 : decode cX5_longest 51 = .ok (.iload_n 2, 1) := g_28 bX5_longest rfl
theorem dX5_longest_52 : decode cX5_longest 52 = .ok (.invokestatic 297, 3) := g_184 bX5_longest rfl
theorem dX5_longest_55 : decode cX5_longest 55 = .ok (.istore 5, 2) := g_54 bX5_longest rfl
theorem dX5_longest_57 : decode cX5_longest 57 = .ok (.goto (-24), 3) := g_167 65512 bX5_longest rfl rfl
theorem dX5_longest_60 : decode cX5_longest 60 = .ok (.iload 4, 2) := g_21 bX5_longest rfl
theorem dX5_longest_62 : decode cX5_longest 62 = .ok (.ireturn, 1) := g_172 bX5_longest rfl
theorem dX5_lost_0 : decode cX5_lost 0 = .ok (.iload_n 1, 1) := g_27 bX5_lost rfl
theorem dX5_lost_1 : decode cX5_lost 1 = .ok (.i2l, 1) := g_133 bX5_lost rfl
theorem dX5_lost_2 : decode cX5_lost 2 = .ok (.lconst 1, 1) := g_10 bX5_lost rfl
theorem dX5_lost_3 : decode cX5_lost 3 = .ok (.ldc2_w 216, 3) := g_20 bX5_lost rfl
theorem dX5_lost_6 : decode cX5_lost 6 = .ok (.invokestatic 50, 3) := g_184 bX5_lost rfl
theorem dX5_lost_9 : decode cX5_lost 9 = .ok (.ifCond .eq 34, 3) := g_153 34 bX5_lost rfl rfl
theorem dX5_lost_12 : decode cX5_lost 12 = .ok (.aload_n 0, 1) := g_42 bX5_lost rfl
theorem dX5_lost_13 : decode cX5_lost 13 = .ok (.getfield 10, 3) := g_180 bX5_lost rfl
theorem dX5_lost_16 : decode cX5_lost 16 = .ok (.getfield 127, 3) := g_180 bX5_lost rfl
theorem dX5_lost_19 : decode cX5_lost 19 = .ok (.invokestatic 186, 3) := g_184 bX5_lost rfl
theorem dX5_lost_22 : decode cX5_lost 22 = .ok (.aload_n 0, 1) := g_42 bX5_lost rfl
theorem dX5_lost_23 : decode cX5_lost 23 = .ok (.getfield 10, 3) := g_180 bX5_lost rfl
theorem dX5_lost_26 : decode cX5_lost 26 = .ok (.aload_n 0, 1) := g_42 bX5_lost rfl
theorem dX5_lost_27 : decode cX5_lost 27 = .ok (.getfield 10, 3) := g_180 bX5_lost rfl
theorem dX5_lost_30 : decode cX5_lost 30 = .ok (.invokevirtual 269, 3) := g_182 bX5_lost rfl
theorem dX5_lost_33 : decode cX5_lost 33 = .ok (.iload_n 1, 1) := g_27 bX5_lost rfl
theorem dX5_lost_34 : decode cX5_lost 34 = .ok (.invokevirtual 303, 3) := g_182 bX5_lost rfl
theorem dX5_lost_37 : decode cX5_lost 37 = .ok (.iconst (-1), 1) := g_2 bX5_lost rfl
theorem dX5_lost_38 : decode cX5_lost 38 = .ok (.ixor, 1) := g_130 bX5_lost rfl
theorem dX5_lost_39 : decode cX5_lost 39 = .ok (.iand, 1) := g_126 bX5_lost rfl
theorem dX5_lost_40 : decode cX5_lost 40 = .ok (.goto 9, 3) := g_167 9 bX5_lost rfl rfl
theorem dX5_lost_43 : decode cX5_lost 43 = .ok (.aload_n 0, 1) := g_42 bX5_lost rfl
theorem dX5_lost_44 : decode cX5_lost 44 = .ok (.bipush (-2), 2) := g_16 254 bX5_lost rfl rfl
theorem dX5_lost_46 : decode cX5_lost 46 = .ok (.invokevirtual 56, 3) := g_182 bX5_lost rfl
theorem dX5_lost_49 : decode cX5_lost 49 = .ok (.ireturn, 1) := g_172 bX5_lost rfl
theorem dX5_needs_0 : decode cX5_needs 0 = .ok (.aload_n 0, 1) := g_42 bX5_needs rfl
theorem dX5_needs_1 : decode cX5_needs 1 = .ok (.getfield 10, 3) := g_180 bX5_needs rfl
theorem dX5_needs_4 : decode cX5_needs 4 = .ok (.iload_n 1, 1) := g_27 bX5_needs rfl
theorem dX5_needs_5 : decode cX5_needs 5 = .ok (.invokevirtual 168, 3) := g_182 bX5_needs rfl
theorem dX5_needs_8 : decode cX5_needs 8 = .ok (.ifCond .ne 10, 3) := g_154 10 bX5_needs rfl rfl
theorem dX5_needs_11 : decode cX5_needs 11 = .ok (.aload_n 0, 1) := g_42 bX5_needs rfl
theorem dX5_needs_12 : decode cX5_needs 12 = .ok (.bipush (-2), 2) := g_16 254 bX5_needs rfl rfl
theorem dX5_needs_14 : decode cX5_needs 14 = .ok (.invokevirtual 56, 3) := g_182 bX5_needs rfl
theorem dX5_needs_17 : decode cX5_needs 17 = .ok (.ireturn, 1) := g_172 bX5_needs rfl
theorem dX5_needs_18 : decode cX5_needs 18 = .ok (.iload_n 2, 1) := g_28 bX5_needs rfl
theorem dX5_needs_19 : decode cX5_needs 19 = .ok (.ifCond .eq 14, 3) := g_153 14 bX5_needs rfl rfl
theorem dX5_needs_22 : decode cX5_needs 22 = .ok (.aload_n 0, 1) := g_42 bX5_needs rfl
theorem dX5_needs_23 : decode cX5_needs 23 = .ok (.getfield 10, 3) := g_180 bX5_needs rfl
theorem dX5_needs_26 : decode cX5_needs 26 = .ok (.iload_n 1, 1) := g_27 bX5_needs rfl
theorem dX5_needs_27 : decode cX5_needs 27 = .ok (.invokevirtual 309, 3) := g_182 bX5_needs rfl
theorem dX5_needs_30 : decode cX5_needs 30 = .ok (.goto 11, 3) := g_167 11 bX5_needs rfl rfl
theorem dX5_needs_33 : decode cX5_needs 33 = .ok (.aload_n 0, 1) := g_42 bX5_needs rfl
theorem dX5_needs_34 : decode cX5_needs 34 = .ok (.getfield 10, 3) := g_180 bX5_needs rfl
theorem dX5_needs_37 : decode cX5_needs 37 = .ok (.iload_n 1, 1) := g_27 bX5_needs rfl
theorem dX5_needs_38 : decode cX5_needs 38 = .ok (.invokevirtual 312, 3) := g_182 bX5_needs rfl
theorem dX5_needs_41 : decode cX5_needs 41 = .ok (.ireturn, 1) := g_172 bX5_needs rfl
theorem dX5_next_0 : decode cX5_next 0 = .ok (.iconst (-1), 1) := g_2 bX5_next rfl
theorem dX5_next_1 : decode cX5_next 1 = .ok (.istore_n 1, 1) := g_60 bX5_next rfl
theorem dX5_next_2 : decode cX5_next 2 = .ok (.iconst 0, 1) := g_3 bX5_next rfl
theorem dX5_next_3 : decode cX5_next 3 = .ok (.istore_n 2, 1) := g_61 bX5_next rfl
theorem dX5_next_4 : decode cX5_next 4 = .ok (.iconst 0, 1) := g_3 bX5_next rfl
theorem dX5_next_5 : decode cX5_next 5 = .ok (.istore_n 3, 1) := g_62 bX5_next rfl
theorem dX5_next_6 : decode cX5_next 6 = .ok (.iload_n 3, 1) := g_29 bX5_next rfl
theorem dX5_next_7 : decode cX5_next 7 = .ok (.aload_n 0, 1) := g_42 bX5_next rfl
theorem dX5_next_8 : decode cX5_next 8 = .ok (.getfield 10, 3) := g_180 bX5_next rfl
theorem dX5_next_11 : decode cX5_next 11 = .ok (.getfield 127, 3) := g_180 bX5_next rfl
theorem dX5_next_14 : decode cX5_next 14 = .ok (.if_icmp .ge 48, 3) := g_162 48 bX5_next rfl rfl
theorem dX5_next_17 : decode cX5_next 17 = .ok (.aload_n 0, 1) := g_42 bX5_next rfl
theorem dX5_next_18 : decode cX5_next 18 = .ok (.getfield 10, 3) := g_180 bX5_next rfl
theorem dX5_next_21 : decode cX5_next 21 = .ok (.getfield 180, 3) := g_180 bX5_next rfl
theorem dX5_next_24 : decode cX5_next 24 = .ok (.iload_n 3, 1) := g_29 bX5_next rfl
theorem dX5_next_25 : decode cX5_next 25 = .ok (.invokestatic 183, 3) := g_184 bX5_next rfl
theorem dX5_next_28 : decode cX5_next 28 = .ok (.ifCond .eq 7, 3) := g_153 7 bX5_next rfl rfl
theorem dX5_next_31 : decode cX5_next 31 = .ok (.iconst 0, 1) := g_3 bX5_next rfl
theorem dX5_next_32 : decode cX5_next 32 = .ok (.goto 11, 3) := g_167 11 bX5_next rfl rfl
theorem dX5_next_35 : decode cX5_next 35 = .ok (.aload_n 0, 1) := g_42 bX5_next rfl
theorem dX5_next_36 : decode cX5_next 36 = .ok (.getfield 10, 3) := g_180 bX5_next rfl
theorem dX5_next_39 : decode cX5_next 39 = .ok (.iload_n 3, 1) := g_29 bX5_next rfl
theorem dX5_next_40 : decode cX5_next 40 = .ok (.invokevirtual 315, 3) := g_182 bX5_next rfl
theorem dX5_next_43 : decode cX5_next 43 = .ok (.istore 4, 2) := g_54 bX5_next rfl
theorem dX5_next_45 : decode cX5_next 45 = .ok (.iload 4, 2) := g_21 bX5_next rfl
theorem dX5_next_47 : decode cX5_next 47 = .ok (.iload_n 2, 1) := g_28 bX5_next rfl
theorem dX5_next_48 : decode cX5_next 48 = .ok (.if_icmp .le 8, 3) := g_164 8 bX5_next rfl rfl
theorem dX5_next_51 : decode cX5_next 51 = .ok (.iload_n 3, 1) := g_29 bX5_next rfl
theorem dX5_next_52 : decode cX5_next 52 = .ok (.istore_n 1, 1) := g_60 bX5_next rfl
theorem dX5_next_53 : decode cX5_next 53 = .ok (.iload 4, 2) := g_21 bX5_next rfl
theorem dX5_next_55 : decode cX5_next 55 = .ok (.istore_n 2, 1) := g_61 bX5_next rfl
theorem dX5_next_56 : decode cX5_next 56 = .ok (.iinc 3 1, 3) := g_132 1 bX5_next rfl rfl
theorem dX5_next_59 : decode cX5_next 59 = .ok (.goto (-53), 3) := g_167 65483 bX5_next rfl rfl
theorem dX5_next_62 : decode cX5_next 62 = .ok (.iload_n 1, 1) := g_27 bX5_next rfl
theorem dX5_next_63 : decode cX5_next 63 = .ok (.ireturn, 1) := g_172 bX5_next rfl
theorem dX5_order_0 : decode cX5_order 0 = .ok (.aload_n 0, 1) := g_42 bX5_order rfl
theorem dX5_order_1 : decode cX5_order 1 = .ok (.getfield 10, 3) := g_180 bX5_order rfl
theorem dX5_order_4 : decode cX5_order 4 = .ok (.getfield 127, 3) := g_180 bX5_order rfl
theorem dX5_order_7 : decode cX5_order 7 = .ok (.aload_n 0, 1) := g_42 bX5_order rfl
theorem dX5_order_8 : decode cX5_order 8 = .ok (.getfield 10, 3) := g_180 bX5_order rfl
theorem dX5_order_11 : decode cX5_order 11 = .ok (.getfield 180, 3) := g_180 bX5_order rfl
theorem dX5_order_14 : decode cX5_order 14 = .ok (.invokestatic 264, 3) := g_184 bX5_order rfl
theorem dX5_order_17 : decode cX5_order 17 = .ok (.isub, 1) := g_100 bX5_order rfl
theorem dX5_order_18 : decode cX5_order 18 = .ok (.istore_n 3, 1) := g_62 bX5_order rfl
theorem dX5_order_19 : decode cX5_order 19 = .ok (.aload_n 0, 1) := g_42 bX5_order rfl
theorem dX5_order_20 : decode cX5_order 20 = .ok (.getfield 10, 3) := g_180 bX5_order rfl
theorem dX5_order_23 : decode cX5_order 23 = .ok (.iload_n 1, 1) := g_27 bX5_order rfl
theorem dX5_order_24 : decode cX5_order 24 = .ok (.invokevirtual 192, 3) := g_182 bX5_order rfl
theorem dX5_order_27 : decode cX5_order 27 = .ok (.ifCond .eq 18, 3) := g_153 18 bX5_order rfl rfl
theorem dX5_order_30 : decode cX5_order 30 = .ok (.iload_n 2, 1) := g_28 bX5_order rfl
theorem dX5_order_31 : decode cX5_order 31 = .ok (.i2l, 1) := g_133 bX5_order rfl
theorem dX5_order_32 : decode cX5_order 32 = .ok (.ldc2_w 275, 3) := g_20 bX5_order rfl
theorem dX5_order_35 : decode cX5_order 35 = .ok (.iload_n 3, 1) := g_29 bX5_order rfl
theorem dX5_order_36 : decode cX5_order 36 = .ok (.iconst 1, 1) := g_4 bX5_order rfl
theorem dX5_order_37 : decode cX5_order 37 = .ok (.isub, 1) := g_100 bX5_order rfl
theorem dX5_order_38 : decode cX5_order 38 = .ok (.i2l, 1) := g_133 bX5_order rfl
theorem dX5_order_39 : decode cX5_order 39 = .ok (.invokestatic 50, 3) := g_184 bX5_order rfl
theorem dX5_order_42 : decode cX5_order 42 = .ok (.ifCond .ne 10, 3) := g_154 10 bX5_order rfl rfl
theorem dX5_order_45 : decode cX5_order 45 = .ok (.aload_n 0, 1) := g_42 bX5_order rfl
theorem dX5_order_46 : decode cX5_order 46 = .ok (.bipush (-2), 2) := g_16 254 bX5_order rfl rfl
theorem dX5_order_48 : decode cX5_order 48 = .ok (.invokevirtual 56, 3) := g_182 bX5_order rfl
theorem dX5_order_51 : decode cX5_order 51 = .ok (.ireturn, 1) := g_172 bX5_order rfl
theorem dX5_order_52 : decode cX5_order 52 = .ok (.aload_n 0, 1) := g_42 bX5_order rfl
theorem dX5_order_53 : decode cX5_order 53 = .ok (.getfield 10, 3) := g_180 bX5_order rfl
theorem dX5_order_56 : decode cX5_order 56 = .ok (.getfield 207, 3) := g_180 bX5_order rfl
theorem dX5_order_59 : decode cX5_order 59 = .ok (.iload_n 1, 1) := g_27 bX5_order rfl
theorem dX5_order_60 : decode cX5_order 60 = .ok (.invokestatic 183, 3) := g_184 bX5_order rfl
theorem dX5_order_63 : decode cX5_order 63 = .ok (.ifCond .ne 8, 3) := g_154 8 bX5_order rfl rfl
theorem dX5_order_66 : decode cX5_order 66 = .ok (.iload_n 3, 1) := g_29 bX5_order rfl
theorem dX5_order_67 : decode cX5_order 67 = .ok (.iconst 5, 1) := g_8 bX5_order rfl
theorem dX5_order_68 : decode cX5_order 68 = .ok (.if_icmp .le 10, 3) := g_164 10 bX5_order rfl rfl
theorem dX5_order_71 : decode cX5_order 71 = .ok (.aload_n 0, 1) := g_42 bX5_order rfl
theorem dX5_order_72 : decode cX5_order 72 = .ok (.bipush (-5), 2) := g_16 251 bX5_order rfl rfl
theorem dX5_order_74 : decode cX5_order 74 = .ok (.invokevirtual 56, 3) := g_182 bX5_order rfl
theorem dX5_order_77 : decode cX5_order 77 = .ok (.ireturn, 1) := g_172 bX5_order rfl
theorem dX5_order_78 : decode cX5_order 78 = .ok (.iload_n 2, 1) := g_28 bX5_order rfl
theorem dX5_order_79 : decode cX5_order 79 = .ok (.iconst (-1), 1) := g_2 bX5_order rfl
theorem dX5_order_80 : decode cX5_order 80 = .ok (.if_icmp .ne 18, 3) := g_160 18 bX5_order rfl rfl
theorem dX5_order_83 : decode cX5_order 83 = .ok (.aload_n 0, 1) := g_42 bX5_order rfl
theorem dX5_order_84 : decode cX5_order 84 = .ok (.getfield 22, 3) := g_180 bX5_order rfl
theorem dX5_order_87 : decode cX5_order 87 = .ok (.aload_n 0, 1) := g_42 bX5_order rfl
theorem dX5_order_88 : decode cX5_order 88 = .ok (.getfield 10, 3) := g_180 bX5_order rfl
theorem dX5_order_91 : decode cX5_order 91 = .ok (.iload_n 1, 1) := g_27 bX5_order rfl
theorem dX5_order_92 : decode cX5_order 92 = .ok (.invokevirtual 277, 3) := g_182 bX5_order rfl
theorem dX5_order_95 : decode cX5_order 95 = .ok (.goto 11, 3) := g_167 11 bX5_order rfl rfl
theorem dX5_order_98 : decode cX5_order 98 = .ok (.aload_n 0, 1) := g_42 bX5_order rfl
theorem dX5_order_99 : decode cX5_order 99 = .ok (.getfield 10, 3) := g_180 bX5_order rfl
theorem dX5_order_102 : decode cX5_order 102 = .ok (.iload_n 2, 1) := g_28 bX5_order rfl
theorem dX5_order_103 : decode cX5_order 103 = .ok (.invokevirtual 281, 3) := g_182 bX5_order rfl
theorem dX5_order_106 : decode cX5_order 106 = .ok (.ireturn, 1) := g_172 bX5_order rfl
theorem dX5_run_0 : decode cX5_run 0 = .ok (.iload_n 2, 1) := g_28 bX5_run rfl
theorem dX5_run_1 : decode cX5_run 1 = .ok (.i2l, 1) := g_133 bX5_run rfl
theorem dX5_run_2 : decode cX5_run 2 = .ok (.lconst 1, 1) := g_10 bX5_run rfl
theorem dX5_run_3 : decode cX5_run 3 = .ok (.ldc2_w 250, 3) := g_20 bX5_run rfl
theorem dX5_run_6 : decode cX5_run 6 = .ok (.invokestatic 50, 3) := g_184 bX5_run rfl
theorem dX5_run_9 : decode cX5_run 9 = .ok (.ifCond .eq 23, 3) := g_153 23 bX5_run rfl rfl
theorem dX5_run_12 : decode cX5_run 12 = .ok (.iload_n 3, 1) := g_29 bX5_run rfl
theorem dX5_run_13 : decode cX5_run 13 = .ok (.i2l, 1) := g_133 bX5_run rfl
theorem dX5_run_14 : decode cX5_run 14 = .ok (.lconst 0, 1) := g_9 bX5_run rfl
theorem dX5_run_15 : decode cX5_run 15 = .ok (.ldc2_w 252, 3) := g_20 bX5_run rfl
theorem dX5_run_18 : decode cX5_run 18 = .ok (.invokestatic 50, 3) := g_184 bX5_run rfl
theorem dX5_run_21 : decode cX5_run 21 = .ok (.ifCond .eq 11, 3) := g_153 11 bX5_run rfl rfl
theorem dX5_run_24 : decode cX5_run 24 = .ok (.aload_n 0, 1) := g_42 bX5_run rfl
theorem dX5_run_25 : decode cX5_run 25 = .ok (.iload_n 1, 1) := g_27 bX5_run rfl
theorem dX5_run_26 : decode cX5_run 26 = .ok (.invokevirtual 100, 3) := g_182 bX5_run rfl
theorem dX5_run_29 : decode cX5_run 29 = .ok (.goto 5, 3) := g_167 5 bX5_run rfl rfl
theorem dX5_run_32 : decode cX5_run 32 = .ok (.bipush (-2), 2) := g_16 254 bX5_run rfl rfl
theorem dX5_run_34 : decode cX5_run 34 = .ok (.istore 4, 2) := g_54 bX5_run rfl
theorem dX5_run_36 : decode cX5_run 36 = .ok (.iload 4, 2) := g_21 bX5_run rfl
theorem dX5_run_38 : decode cX5_run 38 = .ok (.ifCond .eq 10, 3) := g_153 10 bX5_run rfl rfl
theorem dX5_run_41 : decode cX5_run 41 = .ok (.aload_n 0, 1) := g_42 bX5_run rfl
theorem dX5_run_42 : decode cX5_run 42 = .ok (.iload 4, 2) := g_21 bX5_run rfl
theorem dX5_run_44 : decode cX5_run 44 = .ok (.invokevirtual 56, 3) := g_182 bX5_run rfl
theorem dX5_run_47 : decode cX5_run 47 = .ok (.ireturn, 1) := g_172 bX5_run rfl
theorem dX5_run_48 : decode cX5_run 48 = .ok (.aload_n 0, 1) := g_42 bX5_run rfl
theorem dX5_run_49 : decode cX5_run 49 = .ok (.getfield 22, 3) := g_180 bX5_run rfl
theorem dX5_run_52 : decode cX5_run 52 = .ok (.aload_n 0, 1) := g_42 bX5_run rfl
theorem dX5_run_53 : decode cX5_run 53 = .ok (.getfield 22, 3) := g_180 bX5_run rfl
theorem dX5_run_56 : decode cX5_run 56 = .ok (.aload_n 0, 1) := g_42 bX5_run rfl
theorem dX5_run_57 : decode cX5_run 57 = .ok (.getfield 10, 3) := g_180 bX5_run rfl
theorem dX5_run_60 : decode cX5_run 60 = .ok (.invokevirtual 115, 3) := g_182 bX5_run rfl
theorem dX5_run_63 : decode cX5_run 63 = .ok (.aload_n 0, 1) := g_42 bX5_run rfl
theorem dX5_run_64 : decode cX5_run 64 = .ok (.getfield 29, 3) := g_180 bX5_run rfl
theorem dX5_run_67 : decode cX5_run 67 = .ok (.iload_n 1, 1) := g_27 bX5_run rfl
theorem dX5_run_68 : decode cX5_run 68 = .ok (.invokevirtual 103, 3) := g_182 bX5_run rfl
theorem dX5_run_71 : decode cX5_run 71 = .ok (.aload_n 0, 1) := g_42 bX5_run rfl
theorem dX5_run_72 : decode cX5_run 72 = .ok (.getfield 29, 3) := g_180 bX5_run rfl
theorem dX5_run_75 : decode cX5_run 75 = .ok (.getfield 112, 3) := g_180 bX5_run rfl
theorem dX5_run_78 : decode cX5_run 78 = .ok (.iload_n 1, 1) := g_27 bX5_run rfl
theorem dX5_run_79 : decode cX5_run 79 = .ok (.iaload, 1) := g_46 bX5_run rfl
theorem dX5_run_80 : decode cX5_run 80 = .ok (.iload_n 2, 1) := g_28 bX5_run rfl
theorem dX5_run_81 : decode cX5_run 81 = .ok (.invokevirtual 254, 3) := g_182 bX5_run rfl
theorem dX5_run_84 : decode cX5_run 84 = .ok (.istore 5, 2) := g_54 bX5_run rfl
theorem dX5_run_86 : decode cX5_run 86 = .ok (.iload_n 3, 1) := g_29 bX5_run rfl
theorem dX5_run_87 : decode cX5_run 87 = .ok (.tableswitch 50 0 2 #[25, 28, 36], 25) := by decide +kernel
theorem dX5_run_112 : decode cX5_run 112 = .ok (.iload 5, 2) := g_21 bX5_run rfl
theorem dX5_run_114 : decode cX5_run 114 = .ok (.ireturn, 1) := g_172 bX5_run rfl
theorem dX5_run_115 : decode cX5_run 115 = .ok (.aload_n 0, 1) := g_42 bX5_run rfl
theorem dX5_run_116 : decode cX5_run 116 = .ok (.getfield 22, 3) := g_180 bX5_run rfl
theorem dX5_run_119 : decode cX5_run 119 = .ok (.getfield 258, 3) := g_180 bX5_run rfl
theorem dX5_run_122 : decode cX5_run 122 = .ok (.ireturn, 1) := g_172 bX5_run rfl
theorem dX5_run_123 : decode cX5_run 123 = .ok (.aload_n 0, 1) := g_42 bX5_run rfl
theorem dX5_run_124 : decode cX5_run 124 = .ok (.getfield 22, 3) := g_180 bX5_run rfl
theorem dX5_run_127 : decode cX5_run 127 = .ok (.getfield 261, 3) := g_180 bX5_run rfl
theorem dX5_run_130 : decode cX5_run 130 = .ok (.getfield 180, 3) := g_180 bX5_run rfl
theorem dX5_run_133 : decode cX5_run 133 = .ok (.invokestatic 264, 3) := g_184 bX5_run rfl
theorem dX5_run_136 : decode cX5_run 136 = .ok (.ireturn, 1) := g_172 bX5_run rfl
theorem dX5_run_137 : decode cX5_run 137 = .ok (.aload_n 0, 1) := g_42 bX5_run rfl
theorem dX5_run_138 : decode cX5_run 138 = .ok (.getfield 22, 3) := g_180 bX5_run rfl
theorem dX5_run_141 : decode cX5_run 141 = .ok (.getfield 261, 3) := g_180 bX5_run rfl
theorem dX5_run_144 : decode cX5_run 144 = .ok (.invokevirtual 269, 3) := g_182 bX5_run rfl
theorem dX5_run_147 : decode cX5_run 147 = .ok (.invokestatic 264, 3) := g_184 bX5_run rfl
theorem dX5_run_150 : decode cX5_run 150 = .ok (.ireturn, 1) := g_172 bX5_run rfl
theorem dX5_seed_0 : decode cX5_seed 0 = .ok (.aload_n 0, 1) := g_42 bX5_seed rfl
theorem dX5_seed_1 : decode cX5_seed 1 = .ok (.getfield 10, 3) := g_180 bX5_seed rfl
theorem dX5_seed_4 : decode cX5_seed 4 = .ok (.getfield 341, 3) := g_180 bX5_seed rfl
theorem dX5_seed_7 : decode cX5_seed 7 = .ok (.istore_n 2, 1) := g_61 bX5_seed rfl
theorem dX5_seed_8 : decode cX5_seed 8 = .ok (.aload_n 0, 1) := g_42 bX5_seed rfl
theorem dX5_seed_9 : decode cX5_seed 9 = .ok (.getfield 10, 3) := g_180 bX5_seed rfl
theorem dX5_seed_12 : decode cX5_seed 12 = .ok (.iload_n 1, 1) := g_27 bX5_seed rfl
theorem dX5_seed_13 : decode cX5_seed 13 = .ok (.putfield 341, 3) := g_181 bX5_seed rfl
theorem dX5_seed_16 : decode cX5_seed 16 = .ok (.iload_n 2, 1) := g_28 bX5_seed rfl
theorem dX5_seed_17 : decode cX5_seed 17 = .ok (.ireturn, 1) := g_172 bX5_seed rfl
theorem dX5_status_0 : decode cX5_status 0 = .ok (.iload_n 1, 1) := g_27 bX5_status rfl
theorem dX5_status_1 : decode cX5_status 1 = .ok (.i2l, 1) := g_133 bX5_status rfl
theorem dX5_status_2 : decode cX5_status 2 = .ok (.ldc2_w 348, 3) := g_20 bX5_status rfl
theorem dX5_status_5 : decode cX5_status 5 = .ok (.ldc2_w 350, 3) := g_20 bX5_status rfl
theorem dX5_status_8 : decode cX5_status 8 = .ok (.invokestatic 50, 3) := g_184 bX5_status rfl
theorem dX5_status_11 : decode cX5_status 11 = .ok (.ifCond .eq 13, 3) := g_153 13 bX5_status rfl rfl
theorem dX5_status_14 : decode cX5_status 14 = .ok (.aload_n 0, 1) := g_42 bX5_status rfl
theorem dX5_status_15 : decode cX5_status 15 = .ok (.getfield 40, 3) := g_180 bX5_status rfl
theorem dX5_status_18 : decode cX5_status 18 = .ok (.iload_n 1, 1) := g_27 bX5_status rfl
theorem dX5_status_19 : decode cX5_status 19 = .ok (.bipush 12, 2) := g_16 12 bX5_status rfl rfl
theorem dX5_status_21 : decode cX5_status 21 = .ok (.isub, 1) := g_100 bX5_status rfl
theorem dX5_status_22 : decode cX5_status 22 = .ok (.iaload, 1) := g_46 bX5_status rfl
theorem dX5_status_23 : decode cX5_status 23 = .ok (.ireturn, 1) := g_172 bX5_status rfl
theorem dX5_status_24 : decode cX5_status 24 = .ok (.iload_n 1, 1) := g_27 bX5_status rfl
theorem dX5_status_25 : decode cX5_status 25 = .ok (.tableswitch 123 0 8 #[51, 59, 70, 78, 89, 94, 99, 107, 115], 51) := by decide +kernel
theorem dX5_status_76 : decode cX5_status 76 = .ok (.aload_n 0, 1) := g_42 bX5_status rfl
theorem dX5_status_77 : decode cX5_status 77 = .ok (.getfield 10, 3) := g_180 bX5_status rfl
theorem dX5_status_80 : decode cX5_status 80 = .ok (.getfield 127, 3) := g_180 bX5_status rfl
theorem dX5_status_83 : decode cX5_status 83 = .ok (.ireturn, 1) := g_172 bX5_status rfl
theorem dX5_status_84 : decode cX5_status 84 = .ok (.aload_n 0, 1) := g_42 bX5_status rfl
theorem dX5_status_85 : decode cX5_status 85 = .ok (.getfield 10, 3) := g_180 bX5_status rfl
theorem dX5_status_88 : decode cX5_status 88 = .ok (.getfield 180, 3) := g_180 bX5_status rfl
theorem dX5_status_91 : decode cX5_status 91 = .ok (.invokestatic 264, 3) := g_184 bX5_status rfl
theorem dX5_status_94 : decode cX5_status 94 = .ok (.ireturn, 1) := g_172 bX5_status rfl
theorem dX5_status_95 : decode cX5_status 95 = .ok (.aload_n 0, 1) := g_42 bX5_status rfl
theorem dX5_status_96 : decode cX5_status 96 = .ok (.getfield 10, 3) := g_180 bX5_status rfl
theorem dX5_status_99 : decode cX5_status 99 = .ok (.getfield 141, 3) := g_180 bX5_status rfl
theorem dX5_status_102 : decode cX5_status 102 = .ok (.ireturn, 1) := g_172 bX5_status rfl
theorem dX5_status_103 : decode cX5_status 103 = .ok (.aload_n 0, 1) := g_42 bX5_status rfl
theorem dX5_status_104 : decode cX5_status 104 = .ok (.getfield 10, 3) := g_180 bX5_status rfl
theorem dX5_status_107 : decode cX5_status 107 = .ok (.getfield 207, 3) := g_180 bX5_status rfl
theorem dX5_status_110 : decode cX5_status 110 = .ok (.invokestatic 264, 3) := g_184 bX5_status rfl
theorem dX5_status_113 : decode cX5_status 113 = .ok (.ireturn, 1) := g_172 bX5_status rfl
theorem dX5_status_114 : decode cX5_status 114 = .ok (.aload_n 0, 1) := g_42 bX5_status rfl
theorem dX5_status_115 : decode cX5_status 115 = .ok (.getfield 335, 3) := g_180 bX5_status rfl
theorem dX5_status_118 : decode cX5_status 118 = .ok (.ireturn, 1) := g_172 bX5_status rfl
theorem dX5_status_119 : decode cX5_status 119 = .ok (.aload_n 0, 1) := g_42 bX5_status rfl
theorem dX5_status_120 : decode cX5_status 120 = .ok (.getfield 338, 3) := g_180 bX5_status rfl
theorem dX5_status_123 : decode cX5_status 123 = .ok (.ireturn, 1) := g_172 bX5_status rfl
theorem dX5_status_124 : decode cX5_status 124 = .ok (.aload_n 0, 1) := g_42 bX5_status rfl
theorem dX5_status_125 : decode cX5_status 125 = .ok (.getfield 36, 3) := g_180 bX5_status rfl
theorem dX5_status_128 : decode cX5_status 128 = .ok (.getfield 148, 3) := g_180 bX5_status rfl
theorem dX5_status_131 : decode cX5_status 131 = .ok (.ireturn, 1) := g_172 bX5_status rfl
theorem dX5_status_132 : decode cX5_status 132 = .ok (.aload_n 0, 1) := g_42 bX5_status rfl
theorem dX5_status_133 : decode cX5_status 133 = .ok (.getfield 10, 3) := g_180 bX5_status rfl
theorem dX5_status_136 : decode cX5_status 136 = .ok (.getfield 341, 3) := g_180 bX5_status rfl
theorem dX5_status_139 : decode cX5_status 139 = .ok (.ireturn, 1) := g_172 bX5_status rfl
theorem dX5_status_140 : decode cX5_status 140 = .ok (.aload_n 0, 1) := g_42 bX5_status rfl
theorem dX5_status_141 : decode cX5_status 141 = .ok (.getfield 29, 3) := g_180 bX5_status rfl
theorem dX5_status_144 : decode cX5_status 144 = .ok (.invokevirtual 352, 3) := g_182 bX5_status rfl
theorem dX5_status_147 : decode cX5_status 147 = .ok (.ireturn, 1) := g_172 bX5_status rfl
theorem dX5_status_148 : decode cX5_status 148 = .ok (.iconst (-1), 1) := g_2 bX5_status rfl
theorem dX5_status_149 : decode cX5_status 149 = .ok (.ireturn, 1) := g_172 bX5_status rfl
theorem dX5_teach_0 : decode cX5_teach 0 = .ok (.aload_n 0, 1) := g_42 bX5_teach rfl
theorem dX5_teach_1 : decode cX5_teach 1 = .ok (.iload_n 1, 1) := g_27 bX5_teach rfl
theorem dX5_teach_2 : decode cX5_teach 2 = .ok (.iload_n 2, 1) := g_28 bX5_teach rfl
theorem dX5_teach_3 : decode cX5_teach 3 = .ok (.invokevirtual 210, 3) := g_182 bX5_teach rfl
theorem dX5_teach_6 : decode cX5_teach 6 = .ok (.ifCond .ne 10, 3) := g_154 10 bX5_teach rfl rfl
theorem dX5_teach_9 : decode cX5_teach 9 = .ok (.aload_n 0, 1) := g_42 bX5_teach rfl
theorem dX5_teach_10 : decode cX5_teach 10 = .ok (.bipush (-2), 2) := g_16 254 bX5_teach rfl rfl
theorem dX5_teach_12 : decode cX5_teach 12 = .ok (.invokevirtual 56, 3) := g_182 bX5_teach rfl
theorem dX5_teach_15 : decode cX5_teach 15 = .ok (.ireturn, 1) := g_172 bX5_teach rfl
theorem dX5_teach_16 : decode cX5_teach 16 = .ok (.aload_n 0, 1) := g_42 bX5_teach rfl
theorem dX5_teach_17 : decode cX5_teach 17 = .ok (.getfield 10, 3) := g_180 bX5_teach rfl
theorem dX5_teach_20 : decode cX5_teach 20 = .ok (.getfield 207, 3) := g_180 bX5_teach rfl
theorem dX5_teach_23 : decode cX5_teach 23 = .ok (.iload_n 1, 1) := g_27 bX5_teach rfl
theorem dX5_teach_24 : decode cX5_teach 24 = .ok (.invokestatic 183, 3) := g_184 bX5_teach rfl
theorem dX5_teach_27 : decode cX5_teach 27 = .ok (.ifCond .eq 10, 3) := g_153 10 bX5_teach rfl rfl
theorem dX5_teach_30 : decode cX5_teach 30 = .ok (.aload_n 0, 1) := g_42 bX5_teach rfl
theorem dX5_teach_31 : decode cX5_teach 31 = .ok (.bipush (-5), 2) := g_16 251 bX5_teach rfl rfl
theorem dX5_teach_33 : decode cX5_teach 33 = .ok (.invokevirtual 56, 3) := g_182 bX5_teach rfl
theorem dX5_teach_36 : decode cX5_teach 36 = .ok (.ireturn, 1) := g_172 bX5_teach rfl
theorem dX5_teach_37 : decode cX5_teach 37 = .ok (.iconst (-1), 1) := g_2 bX5_teach rfl
theorem dX5_teach_38 : decode cX5_teach 38 = .ok (.istore_n 3, 1) := g_62 bX5_teach rfl
theorem dX5_teach_39 : decode cX5_teach 39 = .ok (.iconst 0, 1) := g_3 bX5_teach rfl
theorem dX5_teach_40 : decode cX5_teach 40 = .ok (.istore 4, 2) := g_54 bX5_teach rfl
theorem dX5_teach_42 : decode cX5_teach 42 = .ok (.iconst 0, 1) := g_3 bX5_teach rfl
theorem dX5_teach_43 : decode cX5_teach 43 = .ok (.istore 5, 2) := g_54 bX5_teach rfl
theorem dX5_teach_45 : decode cX5_teach 45 = .ok (.iload 5, 2) := g_21 bX5_teach rfl
theorem dX5_teach_47 : decode cX5_teach 47 = .ok (.aload_n 0, 1) := g_42 bX5_teach rfl
theorem dX5_teach_48 : decode cX5_teach 48 = .ok (.getfield 10, 3) := g_180 bX5_teach rfl
theorem dX5_teach_51 : decode cX5_teach 51 = .ok (.getfield 141, 3) := g_180 bX5_teach rfl
theorem dX5_teach_54 : decode cX5_teach 54 = .ok (.if_icmp .ge 61, 3) := g_162 61 bX5_teach rfl rfl
theorem dX5_teach_57 : decode cX5_teach 57 = .ok (.iload 5, 2) := g_21 bX5_teach rfl
theorem dX5_teach_59 : decode cX5_teach 59 = .ok (.iload_n 1, 1) := g_27 bX5_teach rfl
theorem dX5_teach_60 : decode cX5_teach 60 = .ok (.if_icmp .eq 18, 3) := g_159 18 bX5_teach rfl rfl
theorem dX5_teach_63 : decode cX5_teach 63 = .ok (.aload_n 0, 1) := g_42 bX5_teach rfl
theorem dX5_teach_64 : decode cX5_teach 64 = .ok (.getfield 10, 3) := g_180 bX5_teach rfl
theorem dX5_teach_67 : decode cX5_teach 67 = .ok (.getfield 207, 3) := g_180 bX5_teach rfl
theorem dX5_teach_70 : decode cX5_teach 70 = .ok (.iload 5, 2) := g_21 bX5_teach rfl
theorem dX5_teach_72 : decode cX5_teach 72 = .ok (.invokestatic 183, 3) := g_184 bX5_teach rfl
theorem dX5_teach_75 : decode cX5_teach 75 = .ok (.ifCond .eq 7, 3) := g_153 7 bX5_teach rfl rfl
theorem dX5_teach_78 : decode cX5_teach 78 = .ok (.iconst 0, 1) := g_3 bX5_teach rfl
theorem dX5_teach_79 : decode cX5_teach 79 = .ok (.goto 14, 3) := g_167 14 bX5_teach rfl rfl
theorem dX5_teach_82 : decode cX5_teach 82 = .ok (.aload_n 0, 1) := g_42 bX5_teach rfl
theorem dX5_teach_83 : decode cX5_teach 83 = .ok (.getfield 10, 3) := g_180 bX5_teach rfl
theorem dX5_teach_86 : decode cX5_teach 86 = .ok (.iload_n 1, 1) := g_27 bX5_teach rfl
theorem dX5_teach_87 : decode cX5_teach 87 = .ok (.iload 5, 2) := g_21 bX5_teach rfl
theorem dX5_teach_89 : decode cX5_teach 89 = .ok (.iload_n 2, 1) := g_28 bX5_teach rfl
theorem dX5_teach_90 : decode cX5_teach 90 = .ok (.invokevirtual 238, 3) := g_182 bX5_teach rfl
theorem dX5_teach_93 : decode cX5_teach 93 = .ok (.istore 6, 2) := g_54 bX5_teach rfl
theorem dX5_teach_95 : decode cX5_teach 95 = .ok (.iload 6, 2) := g_21 bX5_teach rfl
theorem dX5_teach_97 : decode cX5_teach 97 = .ok (.iload 4, 2) := g_21 bX5_teach rfl
theorem dX5_teach_99 : decode cX5_teach 99 = .ok (.if_icmp .le 10, 3) := g_164 10 bX5_teach rfl rfl
theorem dX5_teach_102 : decode cX5_teach 102 = .ok (.iload 5, 2) := g_21 bX5_teach rfl
theorem dX5_teach_104 : decode cX5_teach 104 = .ok (.istore_n 3, 1) := g_62 bX5_teach rfl
theorem dX5_teach_105 : decode cX5_teach 105 = .ok (.iload 6, 2) := g_21 bX5_teach rfl
theorem dX5_teach_107 : decode cX5_teach 107 = .ok (.istore 4, 2) := g_54 bX5_teach rfl
theorem dX5_teach_109 : decode cX5_teach 109 = .ok (.iinc 5 1, 3) := g_132 1 bX5_teach rfl rfl
theorem dX5_teach_112 : decode cX5_teach 112 = .ok (.goto (-67), 3) := g_167 65469 bX5_teach rfl rfl
theorem dX5_teach_115 : decode cX5_teach 115 = .ok (.iload_n 3, 1) := g_29 bX5_teach rfl
theorem dX5_teach_116 : decode cX5_teach 116 = .ok (.ireturn, 1) := g_172 bX5_teach rfl
theorem dX5_told_0 : decode cX5_told 0 = .ok (.aload_n 0, 1) := g_42 bX5_told rfl
theorem dX5_told_1 : decode cX5_told 1 = .ok (.iload_n 1, 1) := g_27 bX5_told rfl
theorem dX5_told_2 : decode cX5_told 2 = .ok (.iload_n 2, 1) := g_28 bX5_told rfl
theorem dX5_told_3 : decode cX5_told 3 = .ok (.invokevirtual 321, 3) := g_182 bX5_told rfl
theorem dX5_told_6 : decode cX5_told 6 = .ok (.istore_n 3, 1) := g_62 bX5_told rfl
theorem dX5_told_7 : decode cX5_told 7 = .ok (.iload_n 3, 1) := g_29 bX5_told rfl
theorem dX5_told_8 : decode cX5_told 8 = .ok (.ifCond .ne 16, 3) := g_154 16 bX5_told rfl rfl
theorem dX5_told_11 : decode cX5_told 11 = .ok (.aload_n 0, 1) := g_42 bX5_told rfl
theorem dX5_told_12 : decode cX5_told 12 = .ok (.iload_n 1, 1) := g_27 bX5_told rfl
theorem dX5_told_13 : decode cX5_told 13 = .ok (.iload_n 2, 1) := g_28 bX5_told rfl
theorem dX5_told_14 : decode cX5_told 14 = .ok (.invokevirtual 324, 3) := g_182 bX5_told rfl
theorem dX5_told_17 : decode cX5_told 17 = .ok (.iconst (-1), 1) := g_2 bX5_told rfl
theorem dX5_told_18 : decode cX5_told 18 = .ok (.if_icmp .eq 6, 3) := g_159 6 bX5_told rfl rfl
theorem dX5_told_21 : decode cX5_told 21 = .ok (.bipush (-5), 2) := g_16 251 bX5_told rfl rfl
theorem dX5_told_23 : decode cX5_told 23 = .ok (.istore_n 3, 1) := g_62 bX5_told rfl
theorem dX5_told_24 : decode cX5_told 24 = .ok (.iload_n 3, 1) := g_29 bX5_told rfl
theorem dX5_told_25 : decode cX5_told 25 = .ok (.ifCond .ne 16, 3) := g_154 16 bX5_told rfl rfl
theorem dX5_told_28 : decode cX5_told 28 = .ok (.aload_n 0, 1) := g_42 bX5_told rfl
theorem dX5_told_29 : decode cX5_told 29 = .ok (.getfield 22, 3) := g_180 bX5_told rfl
theorem dX5_told_32 : decode cX5_told 32 = .ok (.getfield 261, 3) := g_180 bX5_told rfl
theorem dX5_told_35 : decode cX5_told 35 = .ok (.invokevirtual 123, 3) := g_182 bX5_told rfl
theorem dX5_told_38 : decode cX5_told 38 = .ok (.goto 8, 3) := g_167 8 bX5_told rfl rfl
theorem dX5_told_41 : decode cX5_told 41 = .ok (.aload_n 0, 1) := g_42 bX5_told rfl
theorem dX5_told_42 : decode cX5_told 42 = .ok (.iload_n 3, 1) := g_29 bX5_told rfl
theorem dX5_told_43 : decode cX5_told 43 = .ok (.invokevirtual 56, 3) := g_182 bX5_told rfl
theorem dX5_told_46 : decode cX5_told 46 = .ok (.ireturn, 1) := g_172 bX5_told rfl
theorem dX5_two_0 : decode cX5_two 0 = .ok (.aload_n 0, 1) := g_42 bX5_two rfl
theorem dX5_two_1 : decode cX5_two 1 = .ok (.getfield 10, 3) := g_180 bX5_two rfl
theorem dX5_two_4 : decode cX5_two 4 = .ok (.iload_n 1, 1) := g_27 bX5_two rfl
theorem dX5_two_5 : decode cX5_two 5 = .ok (.invokevirtual 192, 3) := g_182 bX5_two rfl
theorem dX5_two_8 : decode cX5_two 8 = .ok (.ifCond .eq 14, 3) := g_153 14 bX5_two rfl rfl
theorem dX5_two_11 : decode cX5_two 11 = .ok (.aload_n 0, 1) := g_42 bX5_two rfl
theorem dX5_two_12 : decode cX5_two 12 = .ok (.getfield 10, 3) := g_180 bX5_two rfl
theorem dX5_two_15 : decode cX5_two 15 = .ok (.iload_n 2, 1) := g_28 bX5_two rfl
theorem dX5_two_16 : decode cX5_two 16 = .ok (.invokevirtual 192, 3) := g_182 bX5_two rfl
theorem dX5_two_19 : decode cX5_two 19 = .ok (.ifCond .ne 10, 3) := g_154 10 bX5_two rfl rfl
theorem dX5_two_22 : decode cX5_two 22 = .ok (.aload_n 0, 1) := g_42 bX5_two rfl
theorem dX5_two_23 : decode cX5_two 23 = .ok (.bipush (-2), 2) := g_16 254 bX5_two rfl rfl
theorem dX5_two_25 : decode cX5_two 25 = .ok (.invokevirtual 56, 3) := g_182 bX5_two rfl
theorem dX5_two_28 : decode cX5_two 28 = .ok (.ireturn, 1) := g_172 bX5_two rfl
theorem dX5_two_29 : decode cX5_two 29 = .ok (.aload_n 0, 1) := g_42 bX5_two rfl
theorem dX5_two_30 : decode cX5_two 30 = .ok (.getfield 10, 3) := g_180 bX5_two rfl
theorem dX5_two_33 : decode cX5_two 33 = .ok (.aload_n 0, 1) := g_42 bX5_two rfl
theorem dX5_two_34 : decode cX5_two 34 = .ok (.getfield 10, 3) := g_180 bX5_two rfl
theorem dX5_two_37 : decode cX5_two 37 = .ok (.invokevirtual 269, 3) := g_182 bX5_two rfl
theorem dX5_two_40 : decode cX5_two 40 = .ok (.iconst 1, 1) := g_4 bX5_two rfl
theorem dX5_two_41 : decode cX5_two 41 = .ok (.iload_n 1, 1) := g_27 bX5_two rfl
theorem dX5_two_42 : decode cX5_two 42 = .ok (.ishl, 1) := g_120 bX5_two rfl
theorem dX5_two_43 : decode cX5_two 43 = .ok (.iconst 1, 1) := g_4 bX5_two rfl
theorem dX5_two_44 : decode cX5_two 44 = .ok (.iload_n 2, 1) := g_28 bX5_two rfl
theorem dX5_two_45 : decode cX5_two 45 = .ok (.ishl, 1) := g_120 bX5_two rfl
theorem dX5_two_46 : decode cX5_two 46 = .ok (.ior, 1) := g_128 bX5_two rfl
theorem dX5_two_47 : decode cX5_two 47 = .ok (.iand, 1) := g_126 bX5_two rfl
theorem dX5_two_48 : decode cX5_two 48 = .ok (.invokevirtual 300, 3) := g_182 bX5_two rfl
theorem dX5_two_51 : decode cX5_two 51 = .ok (.ireturn, 1) := g_172 bX5_two rfl
theorem dX5_who_0 : decode cX5_who 0 = .ok (.aload_n 0, 1) := g_42 bX5_who rfl
theorem dX5_who_1 : decode cX5_who 1 = .ok (.getfield 10, 3) := g_180 bX5_who rfl
theorem dX5_who_4 : decode cX5_who 4 = .ok (.iload_n 1, 1) := g_27 bX5_who rfl
theorem dX5_who_5 : decode cX5_who 5 = .ok (.invokevirtual 168, 3) := g_182 bX5_who rfl
theorem dX5_who_8 : decode cX5_who 8 = .ok (.ifCond .eq 15, 3) := g_153 15 bX5_who rfl rfl
theorem dX5_who_11 : decode cX5_who 11 = .ok (.iload_n 2, 1) := g_28 bX5_who rfl
theorem dX5_who_12 : decode cX5_who 12 = .ok (.i2l, 1) := g_133 bX5_who rfl
theorem dX5_who_13 : decode cX5_who 13 = .ok (.lconst 1, 1) := g_10 bX5_who rfl
theorem dX5_who_14 : decode cX5_who 14 = .ok (.ldc2_w 250, 3) := g_20 bX5_who rfl
theorem dX5_who_17 : decode cX5_who 17 = .ok (.invokestatic 50, 3) := g_184 bX5_who rfl
theorem dX5_who_20 : decode cX5_who 20 = .ok (.ifCond .ne 10, 3) := g_154 10 bX5_who rfl rfl
theorem dX5_who_23 : decode cX5_who 23 = .ok (.aload_n 0, 1) := g_42 bX5_who rfl
theorem dX5_who_24 : decode cX5_who 24 = .ok (.bipush (-2), 2) := g_16 254 bX5_who rfl rfl
theorem dX5_who_26 : decode cX5_who 26 = .ok (.invokevirtual 56, 3) := g_182 bX5_who rfl
theorem dX5_who_29 : decode cX5_who 29 = .ok (.ireturn, 1) := g_172 bX5_who rfl
theorem dX5_who_30 : decode cX5_who 30 = .ok (.aload_n 0, 1) := g_42 bX5_who rfl
theorem dX5_who_31 : decode cX5_who 31 = .ok (.getfield 10, 3) := g_180 bX5_who rfl
theorem dX5_who_34 : decode cX5_who 34 = .ok (.getfield 180, 3) := g_180 bX5_who rfl
theorem dX5_who_37 : decode cX5_who 37 = .ok (.iload_n 1, 1) := g_27 bX5_who rfl
theorem dX5_who_38 : decode cX5_who 38 = .ok (.invokestatic 183, 3) := g_184 bX5_who rfl
theorem dX5_who_41 : decode cX5_who 41 = .ok (.ifCond .ne 13, 3) := g_154 13 bX5_who rfl rfl
theorem dX5_who_44 : decode cX5_who 44 = .ok (.aload_n 0, 1) := g_42 bX5_who rfl
theorem dX5_who_45 : decode cX5_who 45 = .ok (.getfield 10, 3) := g_180 bX5_who rfl
theorem dX5_who_48 : decode cX5_who 48 = .ok (.invokevirtual 269, 3) := g_182 bX5_who rfl
theorem dX5_who_51 : decode cX5_who 51 = .ok (.ifCond .ne 10, 3) := g_154 10 bX5_who rfl rfl
theorem dX5_who_54 : decode cX5_who 54 = .ok (.aload_n 0, 1) := g_42 bX5_who rfl
theorem dX5_who_55 : decode cX5_who 55 = .ok (.bipush (-5), 2) := g_16 251 bX5_who rfl rfl
theorem dX5_who_57 : decode cX5_who 57 = .ok (.invokevirtual 56, 3) := g_182 bX5_who rfl
theorem dX5_who_60 : decode cX5_who 60 = .ok (.ireturn, 1) := g_172 bX5_who rfl
theorem dX5_who_61 : decode cX5_who 61 = .ok (.aload_n 0, 1) := g_42 bX5_who rfl
theorem dX5_who_62 : decode cX5_who 62 = .ok (.getfield 22, 3) := g_180 bX5_who rfl
theorem dX5_who_65 : decode cX5_who 65 = .ok (.aload_n 0, 1) := g_42 bX5_who rfl
theorem dX5_who_66 : decode cX5_who 66 = .ok (.getfield 10, 3) := g_180 bX5_who rfl
theorem dX5_who_69 : decode cX5_who 69 = .ok (.iload_n 1, 1) := g_27 bX5_who rfl
theorem dX5_who_70 : decode cX5_who 70 = .ok (.iload_n 2, 1) := g_28 bX5_who rfl
theorem dX5_who_71 : decode cX5_who 71 = .ok (.invokevirtual 272, 3) := g_182 bX5_who rfl
theorem dX5_who_74 : decode cX5_who 74 = .ok (.ireturn, 1) := g_172 bX5_who rfl
theorem dX5_years_0 : decode cX5_years 0 = .ok (.iload_n 2, 1) := g_28 bX5_years rfl
theorem dX5_years_1 : decode cX5_years 1 = .ok (.i2l, 1) := g_133 bX5_years rfl
theorem dX5_years_2 : decode cX5_years 2 = .ok (.lconst 1, 1) := g_10 bX5_years rfl
theorem dX5_years_3 : decode cX5_years 3 = .ok (.ldc2_w 327, 3) := g_20 bX5_years rfl
theorem dX5_years_6 : decode cX5_years 6 = .ok (.invokestatic 50, 3) := g_184 bX5_years rfl
theorem dX5_years_9 : decode cX5_years 9 = .ok (.ifCond .eq 11, 3) := g_153 11 bX5_years rfl rfl
theorem dX5_years_12 : decode cX5_years 12 = .ok (.aload_n 0, 1) := g_42 bX5_years rfl
theorem dX5_years_13 : decode cX5_years 13 = .ok (.iload_n 1, 1) := g_27 bX5_years rfl
theorem dX5_years_14 : decode cX5_years 14 = .ok (.invokevirtual 100, 3) := g_182 bX5_years rfl
theorem dX5_years_17 : decode cX5_years 17 = .ok (.goto 5, 3) := g_167 5 bX5_years rfl rfl
theorem dX5_years_20 : decode cX5_years 20 = .ok (.bipush (-2), 2) := g_16 254 bX5_years rfl rfl
theorem dX5_years_22 : decode cX5_years 22 = .ok (.istore_n 3, 1) := g_62 bX5_years rfl
theorem dX5_years_23 : decode cX5_years 23 = .ok (.iload_n 3, 1) := g_29 bX5_years rfl
theorem dX5_years_24 : decode cX5_years 24 = .ok (.ifCond .eq 9, 3) := g_153 9 bX5_years rfl rfl
theorem dX5_years_27 : decode cX5_years 27 = .ok (.aload_n 0, 1) := g_42 bX5_years rfl
theorem dX5_years_28 : decode cX5_years 28 = .ok (.iload_n 3, 1) := g_29 bX5_years rfl
theorem dX5_years_29 : decode cX5_years 29 = .ok (.invokevirtual 56, 3) := g_182 bX5_years rfl
theorem dX5_years_32 : decode cX5_years 32 = .ok (.ireturn, 1) := g_172 bX5_years rfl
theorem dX5_years_33 : decode cX5_years 33 = .ok (.iconst 0, 1) := g_3 bX5_years rfl
theorem dX5_years_34 : decode cX5_years 34 = .ok (.istore 4, 2) := g_54 bX5_years rfl
theorem dX5_years_36 : decode cX5_years 36 = .ok (.iconst 0, 1) := g_3 bX5_years rfl
theorem dX5_years_37 : decode cX5_years 37 = .ok (.istore 5, 2) := g_54 bX5_years rfl
theorem dX5_years_39 : decode cX5_years 39 = .ok (.iload 5, 2) := g_21 bX5_years rfl
theorem dX5_years_41 : decode cX5_years 41 = .ok (.iload_n 2, 1) := g_28 bX5_years rfl
theorem dX5_years_42 : decode cX5_years 42 = .ok (.if_icmp .ge 71, 3) := g_162 71 bX5_years rfl rfl
theorem dX5_years_45 : decode cX5_years 45 = .ok (.aload_n 0, 1) := g_42 bX5_years rfl
theorem dX5_years_46 : decode cX5_years 46 = .ok (.getfield 10, 3) := g_180 bX5_years rfl
theorem dX5_years_49 : decode cX5_years 49 = .ok (.aload_n 0, 1) := g_42 bX5_years rfl
theorem dX5_years_50 : decode cX5_years 50 = .ok (.getfield 29, 3) := g_180 bX5_years rfl
theorem dX5_years_53 : decode cX5_years 53 = .ok (.iload_n 1, 1) := g_27 bX5_years rfl
theorem dX5_years_54 : decode cX5_years 54 = .ok (.invokevirtual 103, 3) := g_182 bX5_years rfl
theorem dX5_years_57 : decode cX5_years 57 = .ok (.aload_n 0, 1) := g_42 bX5_years rfl
theorem dX5_years_58 : decode cX5_years 58 = .ok (.getfield 29, 3) := g_180 bX5_years rfl
theorem dX5_years_61 : decode cX5_years 61 = .ok (.getfield 112, 3) := g_180 bX5_years rfl
theorem dX5_years_64 : decode cX5_years 64 = .ok (.iload_n 1, 1) := g_27 bX5_years rfl
theorem dX5_years_65 : decode cX5_years 65 = .ok (.iaload, 1) := g_46 bX5_years rfl
theorem dX5_years_66 : decode cX5_years 66 = .ok (.invokestatic 119, 3) := g_184 bX5_years rfl
theorem dX5_years_69 : decode cX5_years 69 = .ok (.pop, 1) := g_87 bX5_years rfl
theorem dX5_years_70 : decode cX5_years 70 = .ok (.iload 4, 2) := g_21 bX5_years rfl
theorem dX5_years_72 : decode cX5_years 72 = .ok (.aload_n 0, 1) := g_42 bX5_years rfl
theorem dX5_years_73 : decode cX5_years 73 = .ok (.getfield 10, 3) := g_180 bX5_years rfl
theorem dX5_years_76 : decode cX5_years 76 = .ok (.invokevirtual 123, 3) := g_182 bX5_years rfl
theorem dX5_years_79 : decode cX5_years 79 = .ok (.iadd, 1) := g_96 bX5_years rfl
theorem dX5_years_80 : decode cX5_years 80 = .ok (.istore 4, 2) := g_54 bX5_years rfl
theorem dX5_years_82 : decode cX5_years 82 = .ok (.aload_n 0, 1) := g_42 bX5_years rfl
theorem dX5_years_83 : decode cX5_years 83 = .ok (.getfield 10, 3) := g_180 bX5_years rfl
theorem dX5_years_86 : decode cX5_years 86 = .ok (.invokevirtual 329, 3) := g_182 bX5_years rfl
theorem dX5_years_89 : decode cX5_years 89 = .ok (.aload_n 0, 1) := g_42 bX5_years rfl
theorem dX5_years_90 : decode cX5_years 90 = .ok (.getfield 10, 3) := g_180 bX5_years rfl
theorem dX5_years_93 : decode cX5_years 93 = .ok (.invokevirtual 332, 3) := g_182 bX5_years rfl
theorem dX5_years_96 : decode cX5_years 96 = .ok (.pop, 1) := g_87 bX5_years rfl
theorem dX5_years_97 : decode cX5_years 97 = .ok (.aload_n 0, 1) := g_42 bX5_years rfl
theorem dX5_years_98 : decode cX5_years 98 = .ok (.dup, 1) := g_89 bX5_years rfl
theorem dX5_years_99 : decode cX5_years 99 = .ok (.getfield 335, 3) := g_180 bX5_years rfl
theorem dX5_years_102 : decode cX5_years 102 = .ok (.iconst 1, 1) := g_4 bX5_years rfl
theorem dX5_years_103 : decode cX5_years 103 = .ok (.iadd, 1) := g_96 bX5_years rfl
theorem dX5_years_104 : decode cX5_years 104 = .ok (.putfield 335, 3) := g_181 bX5_years rfl
theorem dX5_years_107 : decode cX5_years 107 = .ok (.iinc 5 1, 3) := g_132 1 bX5_years rfl rfl
theorem dX5_years_110 : decode cX5_years 110 = .ok (.goto (-71), 3) := g_167 65465 bX5_years rfl rfl
theorem dX5_years_113 : decode cX5_years 113 = .ok (.aload_n 0, 1) := g_42 bX5_years rfl
theorem dX5_years_114 : decode cX5_years 114 = .ok (.dup, 1) := g_89 bX5_years rfl
theorem dX5_years_115 : decode cX5_years 115 = .ok (.getfield 338, 3) := g_180 bX5_years rfl
theorem dX5_years_118 : decode cX5_years 118 = .ok (.iload 4, 2) := g_21 bX5_years rfl
theorem dX5_years_120 : decode cX5_years 120 = .ok (.iadd, 1) := g_96 bX5_years rfl
theorem dX5_years_121 : decode cX5_years 121 = .ok (.putfield 338, 3) := g_181 bX5_years rfl
theorem dX5_years_124 : decode cX5_years 124 = .ok (.iload 4, 2) := g_21 bX5_years rfl
theorem dX5_years_126 : decode cX5_years 126 = .ok (.ireturn, 1) := g_172 bX5_years rfl
theorem dX5_youngest_0 : decode cX5_youngest 0 = .ok (.aload_n 0, 1) := g_42 bX5_youngest rfl
theorem dX5_youngest_1 : decode cX5_youngest 1 = .ok (.getfield 10, 3) := g_180 bX5_youngest rfl
theorem dX5_youngest_4 : decode cX5_youngest 4 = .ok (.iload_n 1, 1) := g_27 bX5_youngest rfl
theorem dX5_youngest_5 : decode cX5_youngest 5 = .ok (.invokevirtual 192, 3) := g_182 bX5_youngest rfl
theorem dX5_youngest_8 : decode cX5_youngest 8 = .ok (.ifCond .eq 14, 3) := g_153 14 bX5_youngest rfl rfl
theorem dX5_youngest_11 : decode cX5_youngest 11 = .ok (.aload_n 0, 1) := g_42 bX5_youngest rfl
theorem dX5_youngest_12 : decode cX5_youngest 12 = .ok (.getfield 10, 3) := g_180 bX5_youngest rfl
theorem dX5_youngest_15 : decode cX5_youngest 15 = .ok (.iload_n 1, 1) := g_27 bX5_youngest rfl
theorem dX5_youngest_16 : decode cX5_youngest 16 = .ok (.invokevirtual 306, 3) := g_182 bX5_youngest rfl
theorem dX5_youngest_19 : decode cX5_youngest 19 = .ok (.goto 9, 3) := g_167 9 bX5_youngest rfl rfl
theorem dX5_youngest_22 : decode cX5_youngest 22 = .ok (.aload_n 0, 1) := g_42 bX5_youngest rfl
theorem dX5_youngest_23 : decode cX5_youngest 23 = .ok (.bipush (-2), 2) := g_16 254 bX5_youngest rfl rfl
theorem dX5_youngest_25 : decode cX5_youngest 25 = .ok (.invokevirtual 56, 3) := g_182 bX5_youngest rfl
theorem dX5_youngest_28 : decode cX5_youngest 28 = .ok (.ireturn, 1) := g_172 bX5_youngest rfl
theorem wb_lt8 : ∀ b0 b1 b2 b3 b4 b5 b6 b7 : Bool, ∃ n : Nat, n < 256 ∧ wb8 b0 b1 b2 b3 b4 b5 b6 b7 = nI n := fun b0 b1 b2 b3 b4 b5 b6 b7 => ⟨_, by
  have h : ∀ (b : Bool) (k : Nat), (if b = true then k else 0) ≤ k := fun b k => by cases b <;> simp
  have h0 := h b0 1; have h1 := h b1 2; have h2 := h b2 4; have h3 := h b3 8; have h4 := h b4 16; have h5 := h b5 32; have h6 := h b6 64; have h7 := h b7 128
  omega, rfl⟩
theorem wb_lt (f : Nat → Bool) : ∃ n : Nat, n < 256 ∧ wb f = nI n := wb_lt8 _ _ _ _ _ _ _ _
set_option maxHeartbeats 4000000 in
set_option maxRecDepth 100000 in
theorem c_X5_firstWrong (l : Launch) (G : va_G) (cy : Nat → ClassId) (sz : Nat) (qx : Nat) (qt : Nat) (qk : Nat) (qp : Nat) (qs : Nat) (qa : Nat) (qr : Nat) (iKp : Int32) (iYe : Int32) (iTv : Int32) (qu : Nat) (qv : Nat) (iL : Int32) (iBs : Int32) (tU : TA) (quw : Nat) (qun : Nat) (qug : Nat) (qua : Nat) (qur : Nat) (qum : Nat) (qut : Nat) (qus : Nat) (tA : TA) (qtw : Nat) (qtn : Nat) (qtg : Nat) (qta : Nat) (qtr : Nat) (qtm : Nat) (qtt : Nat) (qts : Nat) (qsh : Nat) (qss : Nat) (qsa : Nat) (qse : Nat) (gE : Nat → Int64) (kS : Nat) (kN : Nat)  (hB : T_nb tA ≤ 8) (hPp : T_np tA ≤ 8) (hS8 : kS < 8) (hN40 : kN ≤ 40) : MW l yX5_firstWrong cX5_firstWrong 9 (some .int) 5 0 0 G cy [zzO qx 4 [.ref qt, .ref qk, .ref qp, .ref qs, .ref qa, .ref qr, .int iKp, .int iYe, .int iTv], zzO qp 0 [.ref qu, .ref qv, .int iL, .int iBs], zzO qu 3 [.int (nI (T_nb tU)), .int (nI (T_np tU)), .int (wb (T_wh tU)), .int (wb (T_gn tU)), .int (T_sd tU), .ref quw, .ref qun, .ref qug, .ref qua, .ref qur, .ref qum, .ref qut, .ref qus], zzI cy quw 8 (T_wo tU), zzI cy qun 8 (T_ne tU), zzI cy qug 8 (T_go tU), zzI cy qua 8 (T_ag tU), zzI cy qur 8 (T_re tU), zzI cy qum 8 (T_me tU), zzI cy qut 8 (T_te tU), zzI cy qus 64 (shF (T_kn tU)), zzO qt 3 [.int (nI (T_nb tA)), .int (nI (T_np tA)), .int (wb (T_wh tA)), .int (wb (T_gn tA)), .int (T_sd tA), .ref qtw, .ref qtn, .ref qtg, .ref qta, .ref qtr, .ref qtm, .ref qtt, .ref qts], zzI cy qtw 8 (T_wo tA), zzI cy qtn 8 (T_ne tA), zzI cy qtg 8 (T_go tA), zzI cy qta 8 (T_ag tA), zzI cy qtr 8 (T_re tA), zzI cy qtm 8 (T_me tA), zzI cy qtt 8 (T_te tA), zzI cy qts 64 (shF (T_kn tA)), zzO qs 1 [.ref qsh, .ref qss, .ref qsa, .ref qse], zzJ cy qse 320 gE] sz [.ref qx, .int (nI kS), .int (nI kN)] (Wi G (fun r u => ∃ (tX : TA), u = [zzO qx 4 [.ref qt, .ref qk, .ref qp, .ref qs, .ref qa, .ref qr, .int iKp, .int iYe, .int iTv], zzO qp 0 [.ref qu, .ref qv, .int iL, .int iBs], zzO qu 3 [.int (nI (T_nb tX)), .int (nI (T_np tX)), .int (wb (T_wh tX)), .int (wb (T_gn tX)), .int (T_sd tX), .ref quw, .ref qun, .ref qug, .ref qua, .ref qur, .ref qum, .ref qut, .ref qus], zzI cy quw 8 (T_wo tX), zzI cy qun 8 (T_ne tX), zzI cy qug 8 (T_go tX), zzI cy qua 8 (T_ag tX), zzI cy qur 8 (T_re tX), zzI cy qum 8 (T_me tX), zzI cy qut 8 (T_te tX), zzI cy qus 64 (shF (T_kn tX)), zzO qt 3 [.int (nI (T_nb tA)), .int (nI (T_np tA)), .int (wb (T_wh tA)), .int (wb (T_gn tA)), .int (T_sd tA), .ref qtw, .ref qtn, .ref qtg, .ref qta, .ref qtr, .ref qtm, .ref qtt, .ref qts], zzI cy qtw 8 (T_wo tA), zzI cy qtn 8 (T_ne tA), zzI cy qtg 8 (T_go tA), zzI cy qta 8 (T_ag tA), zzI cy qtr 8 (T_re tA), zzI cy qtm 8 (T_me tA), zzI cy qtt 8 (T_te tA), zzI cy qts 64 (shF (T_kn tA)), zzO qs 1 [.ref qsh, .ref qss, .ref qsa, .ref qse], zzJ cy qse 320 gE] ∧ (T_nb tX ≤ 8 ∧ T_np tX ≤ 8) ∧ (True))) := by
  refine enW RX5 (by decide) rfl (Nat.le_of_ble_eq_true rfl) (fun p e s m below meth c ls A hx hb hml hown hts hr hlocks hP hN hl hin hD hA hS => ?_)
  have hin : meth.name = _ := hin
  have hK := hN.1
  replace hl : lv_has ls 9 [(0, .ref qx), (1, .int (nI kS)), (2, .int (nI kN))] := hl
  refine lv_aload_n hx hb dX5_firstWrong_0 rfl (lv_at hl 0 rfl) ?_
  refine va_get (D := G) (ci := 4) (v := .ref qp) (C := RX5) (T := TX5) (N := 9) hx hb hts iX_X5 hown hK hP 0 rfl rfl 2 (by decide) (hts _ m_t176) (fun _ h9 => h9) rfl dX5_firstWrong_1 ?_
  refine lv_aload_n hx hb dX5_firstWrong_4 rfl (lv_at hl 0 rfl) ?_
  refine va_get (D := G) (ci := 4) (v := .ref qt) (C := RX5) (T := TX5) (N := 9) hx hb hts iX_X5 hown hK hP 0 rfl rfl 0 (by decide) (hts _ m_t174) (fun _ h9 => h9) rfl dX5_firstWrong_5 ?_
  refine cVq (As := [.ref qt]) (rest := []) (b := qp) (q := (RX0, TX0, 4)) ⟨hx, hb, hml, hown, hts⟩ (c_X0_trialOf l G cy (s.heap).size qp qu (.ref qv) (.int iL) (.int iBs) tU quw qun qug qua qur qum qut qus qt tA qtw qtn qtg qta qtr qtm qtt qts) L_X5_115 hN hP hD hS hA [1, 2, 3, 4, 5, 6, 7, 8, 9, 10, 11, 12, 13, 14, 15, 16, 17, 18, 19] [true, false, false, false, false, false, false, false, false, false, false, false, false, false, false, false, false, false, false, false, true, true] rfl (by decide +kernel) rfl 1 0 rfl rfl rfl ⟨Nat.le_of_ble_eq_true rfl, Nat.le_of_ble_eq_true rfl⟩ hl.1 (Nat.le_of_ble_eq_true rfl) dX5_firstWrong_8 ⟨Nat.le_of_ble_eq_true rfl, Nat.le_of_ble_eq_true rfl⟩ (fun r_1 u_3 H locs h_2 => ?_)
  clear hP hD hS
  intro hP hD hS
  obtain ⟨rfl, h_2⟩ := h_2
  have hPD := pd_as [zzO qx 4 [.ref qt, .ref qk, .ref qp, .ref qs, .ref qa, .ref qr, .int iKp, .int iYe, .int iTv], zzO qs 1 [.ref qsh, .ref qss, .ref qsa, .ref qse], zzJ cy qse 320 gE, zzO qp 0 [.ref qu, .ref qv, .int iL, .int iBs], zzO qu 3 [.int (nI (T_nb tA)), .int (nI (T_np tA)), .int (wb (T_wh tA)), .int (wb (T_gn tA)), .int (T_sd tA), .ref quw, .ref qun, .ref qug, .ref qua, .ref qur, .ref qum, .ref qut, .ref qus], zzI cy quw 8 (T_wo tA), zzI cy qun 8 (T_ne tA), zzI cy qug 8 (T_go tA), zzI cy qua 8 (T_ag tA), zzI cy qur 8 (T_re tA), zzI cy qum 8 (T_me tA), zzI cy qut 8 (T_te tA), zzI cy qus 64 (shF (T_kn tA)), zzO qt 3 [.int (nI (T_nb tA)), .int (nI (T_np tA)), .int (wb (T_wh tA)), .int (wb (T_gn tA)), .int (T_sd tA), .ref qtw, .ref qtn, .ref qtg, .ref qta, .ref qtr, .ref qtm, .ref qtt, .ref qts], zzI cy qtw 8 (T_wo tA), zzI cy qtn 8 (T_ne tA), zzI cy qtg 8 (T_go tA), zzI cy qta 8 (T_ag tA), zzI cy qtr 8 (T_re tA), zzI cy qtm 8 (T_me tA), zzI cy qtt 8 (T_te tA), zzI cy qts 64 (shF (T_kn tA))] hP hD rfl
  clear hP hD
  obtain ⟨hP, hD⟩ := hPD
  have h_2 := h_2.symm
  subst h_2
  refine lv_astore_n (lv' := [(3, .ref qu), (0, .ref qx), (1, .int (nI kS)), (2, .int (nI kN))]) hx hb dX5_firstWrong_11 rfl hl (by decide) rfl (fun ls => ?_)
  clear hl
  intro hl
  refine lv_iconst (v := 0) hx hb dX5_firstWrong_12 (by decide) ?_
  refine lv_istore (lv' := [(4, .int 0), (3, .ref qu), (0, .ref qx), (1, .int (nI kS)), (2, .int (nI kN))]) hx hb dX5_firstWrong_13 hl (by decide) rfl (fun ls => ?_)
  clear hl
  intro hl
  have lp_4 : ∀ (n_5 : Nat) (j_7 : Nat) (tJ_8 : TA), 40 - j_7 < n_5 → j_7 ≤ kN → T_nb tJ_8 = T_nb tA ∧ T_np tJ_8 = T_np tA → ∀ (H : Heap) (locs : List Loc) (ls : Array Slot), va_P G CL [zzO qx 4 [.ref qt, .ref qk, .ref qp, .ref qs, .ref qa, .ref qr, .int iKp, .int iYe, .int iTv], zzO qs 1 [.ref qsh, .ref qss, .ref qsa, .ref qse], zzJ cy qse 320 gE, zzO qp 0 [.ref qu, .ref qv, .int iL, .int iBs], zzO qu 3 [.int (nI (T_nb tJ_8)), .int (nI (T_np tJ_8)), .int (wb (T_wh tJ_8)), .int (wb (T_gn tJ_8)), .int (T_sd tJ_8), .ref quw, .ref qun, .ref qug, .ref qua, .ref qur, .ref qum, .ref qut, .ref qus], zzI cy quw 8 (T_wo tJ_8), zzI cy qun 8 (T_ne tJ_8), zzI cy qug 8 (T_go tJ_8), zzI cy qua 8 (T_ag tJ_8), zzI cy qur 8 (T_re tJ_8), zzI cy qum 8 (T_me tJ_8), zzI cy qut 8 (T_te tJ_8), zzI cy qus 64 (shF (T_kn tJ_8)), zzO qt 3 [.int (nI (T_nb tA)), .int (nI (T_np tA)), .int (wb (T_wh tA)), .int (wb (T_gn tA)), .int (T_sd tA), .ref qtw, .ref qtn, .ref qtg, .ref qta, .ref qtr, .ref qtm, .ref qtt, .ref qts], zzI cy qtw 8 (T_wo tA), zzI cy qtn 8 (T_ne tA), zzI cy qtg 8 (T_go tA), zzI cy qta 8 (T_ag tA), zzI cy qtr 8 (T_re tA), zzI cy qtm 8 (T_me tA), zzI cy qtt 8 (T_te tA), zzI cy qts 64 (shF (T_kn tA))] H → va_D A [zzO qx 4 [.ref qt, .ref qk, .ref qp, .ref qs, .ref qa, .ref qr, .int iKp, .int iYe, .int iTv], zzO qs 1 [.ref qsh, .ref qss, .ref qsa, .ref qse], zzJ cy qse 320 gE, zzO qp 0 [.ref qu, .ref qv, .int iL, .int iBs], zzO qu 3 [.int (nI (T_nb tJ_8)), .int (nI (T_np tJ_8)), .int (wb (T_wh tJ_8)), .int (wb (T_gn tJ_8)), .int (T_sd tJ_8), .ref quw, .ref qun, .ref qug, .ref qua, .ref qur, .ref qum, .ref qut, .ref qus], zzI cy quw 8 (T_wo tJ_8), zzI cy qun 8 (T_ne tJ_8), zzI cy qug 8 (T_go tJ_8), zzI cy qua 8 (T_ag tJ_8), zzI cy qur 8 (T_re tJ_8), zzI cy qum 8 (T_me tJ_8), zzI cy qut 8 (T_te tJ_8), zzI cy qus 64 (shF (T_kn tJ_8)), zzO qt 3 [.int (nI (T_nb tA)), .int (nI (T_np tA)), .int (wb (T_wh tA)), .int (wb (T_gn tA)), .int (T_sd tA), .ref qtw, .ref qtn, .ref qtg, .ref qta, .ref qtr, .ref qtm, .ref qtt, .ref qts], zzI cy qtw 8 (T_wo tA), zzI cy qtn 8 (T_ne tA), zzI cy qtg 8 (T_go tA), zzI cy qta 8 (T_ag tA), zzI cy qtr 8 (T_re tA), zzI cy qtm 8 (T_me tA), zzI cy qtt 8 (T_te tA), zzI cy qts 64 (shF (T_kn tA))] → va_S A s.heap H locs → lv_has ls 9 [(4, .int (nI j_7)), (3, .ref qu), (0, .ref qx), (1, .int (nI kS)), (2, .int (nI kN))] → W p l e (Rm 5 0 0) s m (List.toArray (α := Value) [.ref qx, .int (nI kS), .int (nI kN)]) below meth c H locs 0 0 (MQ below ((Wi G (fun r u => ∃ (tX : TA), u = [zzO qx 4 [.ref qt, .ref qk, .ref qp, .ref qs, .ref qa, .ref qr, .int iKp, .int iYe, .int iTv], zzO qp 0 [.ref qu, .ref qv, .int iL, .int iBs], zzO qu 3 [.int (nI (T_nb tX)), .int (nI (T_np tX)), .int (wb (T_wh tX)), .int (wb (T_gn tX)), .int (T_sd tX), .ref quw, .ref qun, .ref qug, .ref qua, .ref qur, .ref qum, .ref qut, .ref qus], zzI cy quw 8 (T_wo tX), zzI cy qun 8 (T_ne tX), zzI cy qug 8 (T_go tX), zzI cy qua 8 (T_ag tX), zzI cy qur 8 (T_re tX), zzI cy qum 8 (T_me tX), zzI cy qut 8 (T_te tX), zzI cy qus 64 (shF (T_kn tX)), zzO qt 3 [.int (nI (T_nb tA)), .int (nI (T_np tA)), .int (wb (T_wh tA)), .int (wb (T_gn tA)), .int (T_sd tA), .ref qtw, .ref qtn, .ref qtg, .ref qta, .ref qtr, .ref qtm, .ref qtt, .ref qts], zzI cy qtw 8 (T_wo tA), zzI cy qtn 8 (T_ne tA), zzI cy qtg 8 (T_go tA), zzI cy qta 8 (T_ag tA), zzI cy qtr 8 (T_re tA), zzI cy qtm 8 (T_me tA), zzI cy qtt 8 (T_te tA), zzI cy qts 64 (shF (T_kn tA)), zzO qs 1 [.ref qsh, .ref qss, .ref qsa, .ref qse], zzJ cy qse 320 gE] ∧ (T_nb tX ≤ 8 ∧ T_np tX ≤ 8) ∧ (True))) A) (List.toArray (α := Value) [.ref qx, .int (nI kS), .int (nI kN)]) s 0 0 A) (F0 m 15 ls []) := by
    intro n_5
    induction n_5 with
    | zero => intro j_7 tJ_8 hm9; exact absurd hm9 (Nat.not_lt_zero _)
    | succ n_5 ih_6 =>
      intro j_7 tJ_8 hm_11 hj_9 hn_10 H locs ls hP hD hS hl
      refine lv_iload hx hb dX5_firstWrong_15 (lv_at hl 0 rfl) ?_
      refine lv_iload_n hx hb dX5_firstWrong_17 rfl (lv_at hl 4 rfl) ?_
      refine lv_icmp_ge (tgt := 114) hx hb dX5_firstWrong_18 (by decide) (fun c_12 => ?_) (fun c_12 => ?_)
      · refine lv_iconst (v := (-1)) hx hb dX5_firstWrong_114 (by decide) ?_
        exact endW (u := [zzO qx 4 [.ref qt, .ref qk, .ref qp, .ref qs, .ref qa, .ref qr, .int iKp, .int iYe, .int iTv], zzO qp 0 [.ref qu, .ref qv, .int iL, .int iBs], zzO qu 3 [.int (nI (T_nb tJ_8)), .int (nI (T_np tJ_8)), .int (wb (T_wh tJ_8)), .int (wb (T_gn tJ_8)), .int (T_sd tJ_8), .ref quw, .ref qun, .ref qug, .ref qua, .ref qur, .ref qum, .ref qut, .ref qus], zzI cy quw 8 (T_wo tJ_8), zzI cy qun 8 (T_ne tJ_8), zzI cy qug 8 (T_go tJ_8), zzI cy qua 8 (T_ag tJ_8), zzI cy qur 8 (T_re tJ_8), zzI cy qum 8 (T_me tJ_8), zzI cy qut 8 (T_te tJ_8), zzI cy qus 64 (shF (T_kn tJ_8)), zzO qt 3 [.int (nI (T_nb tA)), .int (nI (T_np tA)), .int (wb (T_wh tA)), .int (wb (T_gn tA)), .int (T_sd tA), .ref qtw, .ref qtn, .ref qtg, .ref qta, .ref qtr, .ref qtm, .ref qtt, .ref qts], zzI cy qtw 8 (T_wo tA), zzI cy qtn 8 (T_ne tA), zzI cy qtg 8 (T_go tA), zzI cy qta 8 (T_ag tA), zzI cy qtr 8 (T_re tA), zzI cy qtm 8 (T_me tA), zzI cy qtt 8 (T_te tA), zzI cy qts 64 (shF (T_kn tA)), zzO qs 1 [.ref qsh, .ref qss, .ref qsa, .ref qse], zzJ cy qse 320 gE]) hx hb hr hlocks rfl (hP.sub [0, 3, 4, 5, 6, 7, 8, 9, 10, 11, 12, 13, 14, 15, 16, 17, 18, 19, 20, 21, 1, 2] rfl) (hD.sub [0, 3, 4, 5, 6, 7, 8, 9, 10, 11, 12, 13, 14, 15, 16, 17, 18, 19, 20, 21, 1, 2] (by decide +kernel) rfl) hS ⟨tJ_8, rfl, (by obtain ⟨q1, q2⟩ := id hn_10; exact ⟨by omega, by omega⟩), trivial⟩ dX5_firstWrong_115
      · have hlt_14 : j_7 < kN := lp_lt rfl rfl (by omega) (by omega) c_12
        obtain ⟨hlt_14b, hlt_14p⟩ := id hn_10
        refine lv_aload_n hx hb dX5_firstWrong_21 rfl (lv_at hl 2 rfl) ?_
        refine va_get (D := G) (ci := 4) (v := .ref qs) (C := RX5) (T := TX5) (N := 9) hx hb hts iX_X5 hown hK hP 0 rfl rfl 3 (by decide) (hts _ m_t177) (fun _ h9 => h9) rfl dX5_firstWrong_22 ?_
        refine lv_iload_n hx hb dX5_firstWrong_25 rfl (lv_at hl 3 rfl) ?_
        refine lv_iload hx hb dX5_firstWrong_26 (lv_at hl 0 rfl) ?_
        refine kRl (rV (As := [.int (nI kS), .int (nI j_7)]) (rest := []) (b := qs) ⟨hx, hb, hml, hown, hts⟩ (c_X2_at l G cy qs qsh qss qsa qse gE kS j_7 hS8 (by first | omega | (simp only [nb_sr, np_sr, nb_wr, np_wr, nb_rd, np_rd, nb_ch, np_ch, nb_zr, np_zr, nb_za, np_za, nb_ey, np_ey, nb_hf, np_hf, nb_dd, np_dd, nb_so, np_so, nb_skn, np_skn, nb_swh, np_swh, nb_sgn, np_sgn, nb_ssd, np_ssd, nb_sgo, np_sgo, nb_sag, np_sag]; omega))) L_X5_86 (preRV (q := (RX2, TX2, 4)) hN hP [1, 2] rfl 1 1 rfl rfl) rfl ⟨Nat.le_of_ble_eq_true rfl, Nat.le_of_ble_eq_true rfl⟩ hl.1 (Nat.le_of_ble_eq_true rfl) dX5_firstWrong_28 ⟨Nat.le_of_ble_eq_true rfl, Nat.le_of_ble_eq_true rfl⟩) (fun r_15 h_16 => ?_)
        subst h_16
        refine lv_lstore (lv' := [(5, .long (gE (kS * 40 + j_7))), (4, .int (nI j_7)), (3, .ref qu), (0, .ref qx), (1, .int (nI kS)), (2, .int (nI kN))]) hx hb dX5_firstWrong_31 hl (by decide) rfl (fun ls => ?_)
        clear hl
        intro hl
        refine lv_lload hx hb dX5_firstWrong_33 (lv_at hl 0 rfl) ?_
        refine lv_lconst (v := 0) hx hb dX5_firstWrong_35 (by decide) ?_
        refine lv_ldc2 hx hb hown (hts _ m_t793) dX5_firstWrong_36 ?_
        refine kRi (rS (As := [.long (gE (kS * 40 + j_7)), .long 0, .long 799]) (rest := []) ⟨hx, hb, hml, hown, hts⟩ (c_X5_within l G cy (gE (kS * 40 + j_7)) 0 799) L_X5_50 (preRS hN hP [] rfl) rfl ⟨Nat.le_of_ble_eq_true rfl, Nat.le_of_ble_eq_true rfl⟩ hl.1 (Nat.le_of_ble_eq_true rfl) dX5_firstWrong_39 ⟨Nat.le_of_ble_eq_true rfl, Nat.le_of_ble_eq_true rfl⟩) (fun r_17 h_18 => ?_)
        rcases h_18 with ⟨rfl, h_19⟩ | ⟨rfl, h_19⟩
        · refine lv_if_ne (tgt := 48) hx hb dX5_firstWrong_42 (by decide) (fun _ => ?_) (fun h9 => absurd h9 (by decide))
          refine lv_lload hx hb dX5_firstWrong_48 (lv_at hl 0 rfl) ?_
          refine lv_l2i (v := (gE (kS * 40 + j_7)).toInt32) hx hb dX5_firstWrong_50 rfl ?_
          refine lv_bipush (v := 100) hx hb dX5_firstWrong_51 (by decide) ?_
          refine lv_idiv hx hb dX5_firstWrong_53 (by decide) ?_
          refine lv_istore (lv' := [(7, .int (((gE (kS * 40 + j_7)).toInt32) / 100)), (5, .long (gE (kS * 40 + j_7))), (4, .int (nI j_7)), (3, .ref qu), (0, .ref qx), (1, .int (nI kS)), (2, .int (nI kN))]) hx hb dX5_firstWrong_54 hl (by decide) rfl (fun ls => ?_)
          clear hl
          intro hl
          refine lv_lload hx hb dX5_firstWrong_56 (lv_at hl 1 rfl) ?_
          refine lv_l2i (v := (gE (kS * 40 + j_7)).toInt32) hx hb dX5_firstWrong_58 rfl ?_
          refine lv_bipush (v := 100) hx hb dX5_firstWrong_59 (by decide) ?_
          refine lv_irem hx hb dX5_firstWrong_61 (by decide) ?_
          refine lv_istore (lv' := [(8, .int (((gE (kS * 40 + j_7)).toInt32) - ((gE (kS * 40 + j_7)).toInt32) / 100 * 100)), (7, .int (((gE (kS * 40 + j_7)).toInt32) / 100)), (5, .long (gE (kS * 40 + j_7))), (4, .int (nI j_7)), (3, .ref qu), (0, .ref qx), (1, .int (nI kS)), (2, .int (nI kN))]) hx hb dX5_firstWrong_62 hl (by decide) rfl (fun ls => ?_)
          clear hl
          intro hl
          obtain ⟨k_21, k_22, hk_23, hk_24, e_25, e_26, e_27⟩ := dv100 h_19
          rw [e_26, e_25] at hl
          refine lv_aload_n hx hb dX5_firstWrong_64 rfl (lv_at hl 4 rfl) ?_
          refine kRi (rV (As := []) (rest := []) (b := qu) ⟨hx, hb, hml, hown, hts⟩ (c_X4_setThere l G cy qu tJ_8 quw qun qug qua qur qum qut qus (by first | omega | (simp only [nb_sr, np_sr, nb_wr, np_wr, nb_rd, np_rd, nb_ch, np_ch, nb_zr, np_zr, nb_za, np_za, nb_ey, np_ey, nb_hf, np_hf, nb_dd, np_dd, nb_so, np_so, nb_skn, np_skn, nb_swh, np_swh, nb_sgn, np_sgn, nb_ssd, np_ssd, nb_sgo, np_sgo, nb_sag, np_sag]; omega))) L_X5_269 (preRV (q := (RX4, TX4, 13)) hN hP [4] rfl 4 3 rfl rfl) rfl ⟨Nat.le_of_ble_eq_true rfl, Nat.le_of_ble_eq_true rfl⟩ hl.1 (Nat.le_of_ble_eq_true rfl) dX5_firstWrong_65 ⟨Nat.le_of_ble_eq_true rfl, Nat.le_of_ble_eq_true rfl⟩) (fun r_28 h_29 => ?_)
          subst h_29
          refine lv_iload hx hb dX5_firstWrong_68 (lv_at hl 1 rfl) ?_
          refine kRi (rS (As := [.int (zthere tJ_8), .int (nI k_21)]) (rest := []) ⟨hx, hb, hml, hown, hts⟩ (c_X5_has l G cy (zthere tJ_8) k_21) L_X5_183 (preRS hN hP [] rfl) rfl ⟨Nat.le_of_ble_eq_true rfl, Nat.le_of_ble_eq_true rfl⟩ hl.1 (Nat.le_of_ble_eq_true rfl) dX5_firstWrong_70 ⟨Nat.le_of_ble_eq_true rfl, Nat.le_of_ble_eq_true rfl⟩) (fun r_30 h_31 => ?_)
          rcases h_31 with ⟨rfl, h_32⟩ | ⟨rfl, h_32⟩
          · refine lv_if_eq (tgt := 97) hx hb dX5_firstWrong_73 (by decide) (fun h9 => absurd h9 (by decide)) (fun _ => ?_)
            refine lv_aload_n hx hb dX5_firstWrong_76 rfl (lv_at hl 4 rfl) ?_
            refine lv_iload hx hb dX5_firstWrong_77 (lv_at hl 0 rfl) ?_
            refine kRi (rV (As := [.int (nI k_22)]) (rest := []) (b := qu) ⟨hx, hb, hml, hown, hts⟩ (c_X4_isBook l G cy qu tJ_8 quw qun qug qua qur qum qut qus (nI k_22) (by first | omega | (simp only [nb_sr, np_sr, nb_wr, np_wr, nb_rd, np_rd, nb_ch, np_ch, nb_zr, np_zr, nb_za, np_za, nb_ey, np_ey, nb_hf, np_hf, nb_dd, np_dd, nb_so, np_so, nb_skn, np_skn, nb_swh, np_swh, nb_sgn, np_sgn, nb_ssd, np_ssd, nb_sgo, np_sgo, nb_sag, np_sag]; omega))) L_X5_168 (preRV (q := (RX4, TX4, 13)) hN hP [4] rfl 4 3 rfl rfl) rfl ⟨Nat.le_of_ble_eq_true rfl, Nat.le_of_ble_eq_true rfl⟩ hl.1 (Nat.le_of_ble_eq_true rfl) dX5_firstWrong_79 ⟨Nat.le_of_ble_eq_true rfl, Nat.le_of_ble_eq_true rfl⟩) (fun r_34 h_35 => ?_)
            rcases h_35 with ⟨rfl, h_36⟩ | ⟨rfl, h_36⟩
            · refine lv_if_eq (tgt := 97) hx hb dX5_firstWrong_82 (by decide) (fun h9 => absurd h9 (by decide)) (fun _ => ?_)
              obtain ⟨k_38, hk_39, ek_40⟩ := h_36
              have hb_41 : k_22 < T_nb tJ_8 := by rw [nI_inj (by omega) (by omega) ek_40]; exact hk_39
              refine lv_aload_n hx hb dX5_firstWrong_85 rfl (lv_at hl 4 rfl) ?_
              refine va_getN (D := G) (ci := 3) (v := .int (wb (T_wh tJ_8))) (C := RX4) (T := TX4) (N := 13) hx hb hts iX_X4 hown hK hP 4 rfl rfl 2 (by decide) (va_Nw.use rfl (hN.2.1 (RX5, 180, "EachBookOnce$Town", "white", "I") (List.mem_of_getElem? (i := 10) rfl))) (fun _ h9 => h9) rfl dX5_firstWrong_86 ?_
              refine lv_iload hx hb dX5_firstWrong_89 (lv_at hl 0 rfl) ?_
              refine kRi (rS (As := [.int (wb (T_wh tJ_8)), .int (nI k_22)]) (rest := []) ⟨hx, hb, hml, hown, hts⟩ (c_X5_has l G cy (wb (T_wh tJ_8)) k_22) L_X5_183 (preRS hN hP [] rfl) rfl ⟨Nat.le_of_ble_eq_true rfl, Nat.le_of_ble_eq_true rfl⟩ hl.1 (Nat.le_of_ble_eq_true rfl) dX5_firstWrong_91 ⟨Nat.le_of_ble_eq_true rfl, Nat.le_of_ble_eq_true rfl⟩) (fun r_42 h_43 => ?_)
              rcases h_43 with ⟨rfl, h_44⟩ | ⟨rfl, h_44⟩
              · rw [bit_wb _ (by omega)] at h_44
                refine lv_if_eq (tgt := 100) hx hb dX5_firstWrong_94 (by decide) (fun h9 => absurd h9 (by decide)) (fun _ => ?_)
                refine lv_iload hx hb dX5_firstWrong_97 (lv_at hl 3 rfl) ?_
                exact endW (u := [zzO qx 4 [.ref qt, .ref qk, .ref qp, .ref qs, .ref qa, .ref qr, .int iKp, .int iYe, .int iTv], zzO qp 0 [.ref qu, .ref qv, .int iL, .int iBs], zzO qu 3 [.int (nI (T_nb tJ_8)), .int (nI (T_np tJ_8)), .int (wb (T_wh tJ_8)), .int (wb (T_gn tJ_8)), .int (T_sd tJ_8), .ref quw, .ref qun, .ref qug, .ref qua, .ref qur, .ref qum, .ref qut, .ref qus], zzI cy quw 8 (T_wo tJ_8), zzI cy qun 8 (T_ne tJ_8), zzI cy qug 8 (T_go tJ_8), zzI cy qua 8 (T_ag tJ_8), zzI cy qur 8 (T_re tJ_8), zzI cy qum 8 (T_me tJ_8), zzI cy qut 8 (T_te tJ_8), zzI cy qus 64 (shF (T_kn tJ_8)), zzO qt 3 [.int (nI (T_nb tA)), .int (nI (T_np tA)), .int (wb (T_wh tA)), .int (wb (T_gn tA)), .int (T_sd tA), .ref qtw, .ref qtn, .ref qtg, .ref qta, .ref qtr, .ref qtm, .ref qtt, .ref qts], zzI cy qtw 8 (T_wo tA), zzI cy qtn 8 (T_ne tA), zzI cy qtg 8 (T_go tA), zzI cy qta 8 (T_ag tA), zzI cy qtr 8 (T_re tA), zzI cy qtm 8 (T_me tA), zzI cy qtt 8 (T_te tA), zzI cy qts 64 (shF (T_kn tA)), zzO qs 1 [.ref qsh, .ref qss, .ref qsa, .ref qse], zzJ cy qse 320 gE]) hx hb hr hlocks rfl (hP.sub [0, 3, 4, 5, 6, 7, 8, 9, 10, 11, 12, 13, 14, 15, 16, 17, 18, 19, 20, 21, 1, 2] rfl) (hD.sub [0, 3, 4, 5, 6, 7, 8, 9, 10, 11, 12, 13, 14, 15, 16, 17, 18, 19, 20, 21, 1, 2] (by decide +kernel) rfl) hS ⟨tJ_8, rfl, (by obtain ⟨q1, q2⟩ := id hn_10; exact ⟨by omega, by omega⟩), trivial⟩ dX5_firstWrong_99
              · rw [bit_wb _ (by omega)] at h_44
                refine lv_if_eq (tgt := 100) hx hb dX5_firstWrong_94 (by decide) (fun _ => ?_) (fun h9 => absurd (by decide) h9)
                refine lv_aload_n hx hb dX5_firstWrong_100 rfl (lv_at hl 4 rfl) ?_
                refine lv_iload hx hb dX5_firstWrong_101 (lv_at hl 1 rfl) ?_
                refine lv_iload hx hb dX5_firstWrong_103 (lv_at hl 0 rfl) ?_
                refine cVv (As := [.int (nI k_21), .int (nI k_22)]) (rest := []) (b := qu) (q := (RX4, TX4, 13)) ⟨hx, hb, hml, hown, hts⟩ (c_X4_readBy l G cy (H).size qu tJ_8 quw qun qug qua qur qum qut qus k_21 k_22 (by first | omega | (simp only [nb_sr, np_sr, nb_wr, np_wr, nb_rd, np_rd, nb_ch, np_ch, nb_zr, np_zr, nb_za, np_za, nb_ey, np_ey, nb_hf, np_hf, nb_dd, np_dd, nb_so, np_so, nb_skn, np_skn, nb_swh, np_swh, nb_sgn, np_sgn, nb_ssd, np_ssd, nb_sgo, np_sgo, nb_sag, np_sag]; omega)) (by first | omega | (simp only [nb_sr, np_sr, nb_wr, np_wr, nb_rd, np_rd, nb_ch, np_ch, nb_zr, np_zr, nb_za, np_za, nb_ey, np_ey, nb_hf, np_hf, nb_dd, np_dd, nb_so, np_so, nb_skn, np_skn, nb_swh, np_swh, nb_sgn, np_sgn, nb_ssd, np_ssd, nb_sgo, np_sgo, nb_sag, np_sag]; omega))) L_X5_230 hN hP hD hS hA [4, 5, 6, 7, 8, 9, 10, 11, 12] [true, true, true, true, false, false, false, false, false, false, false, false, false, true, true, true, true, true, true, true, true, true] rfl (by decide +kernel) rfl 4 3 rfl rfl rfl ⟨Nat.le_of_ble_eq_true rfl, Nat.le_of_ble_eq_true rfl⟩ hl.1 (Nat.le_of_ble_eq_true rfl) dX5_firstWrong_105 ⟨Nat.le_of_ble_eq_true rfl, Nat.le_of_ble_eq_true rfl⟩ (fun u_49 H locs h_48 => ?_)
                clear hP hD hS
                intro hP hD hS
                subst h_48
                have hPD := pd_as [zzO qx 4 [.ref qt, .ref qk, .ref qp, .ref qs, .ref qa, .ref qr, .int iKp, .int iYe, .int iTv], zzO qs 1 [.ref qsh, .ref qss, .ref qsa, .ref qse], zzJ cy qse 320 gE, zzO qp 0 [.ref qu, .ref qv, .int iL, .int iBs], zzO qt 3 [.int (nI (T_nb tA)), .int (nI (T_np tA)), .int (wb (T_wh tA)), .int (wb (T_gn tA)), .int (T_sd tA), .ref qtw, .ref qtn, .ref qtg, .ref qta, .ref qtr, .ref qtm, .ref qtt, .ref qts], zzI cy qtw 8 (T_wo tA), zzI cy qtn 8 (T_ne tA), zzI cy qtg 8 (T_go tA), zzI cy qta 8 (T_ag tA), zzI cy qtr 8 (T_re tA), zzI cy qtm 8 (T_me tA), zzI cy qtt 8 (T_te tA), zzI cy qts 64 (shF (T_kn tA)), zzO qu 3 [.int (nI (T_nb (rdT tJ_8 k_21 k_22))), .int (nI (T_np (rdT tJ_8 k_21 k_22))), .int (wb (T_wh (rdT tJ_8 k_21 k_22))), .int (wb (T_gn (rdT tJ_8 k_21 k_22))), .int (T_sd (rdT tJ_8 k_21 k_22)), .ref quw, .ref qun, .ref qug, .ref qua, .ref qur, .ref qum, .ref qut, .ref qus], zzI cy quw 8 (T_wo (rdT tJ_8 k_21 k_22)), zzI cy qun 8 (T_ne (rdT tJ_8 k_21 k_22)), zzI cy qug 8 (T_go (rdT tJ_8 k_21 k_22)), zzI cy qua 8 (T_ag (rdT tJ_8 k_21 k_22)), zzI cy qur 8 (T_re (rdT tJ_8 k_21 k_22)), zzI cy qum 8 (T_me (rdT tJ_8 k_21 k_22)), zzI cy qut 8 (T_te (rdT tJ_8 k_21 k_22)), zzI cy qus 64 (shF (T_kn (rdT tJ_8 k_21 k_22)))] hP hD rfl
                clear hP hD
                obtain ⟨hP, hD⟩ := hPD
                refine lv_iinc (v := nI (j_7 + 1)) (lv' := [(4, .int (nI (j_7 + 1))), (8, .int (nI k_22)), (7, .int (nI k_21)), (5, .long (gE (kS * 40 + j_7))), (3, .ref qu), (0, .ref qx), (1, .int (nI kS)), (2, .int (nI kN))]) hx hb dX5_firstWrong_108 hl (k := 3) rfl (nI_1 _) (by decide) rfl (fun ls => ?_)
                clear hl
                intro hl
                refine lv_goto (tgt := 15) hx hb dX5_firstWrong_111 (by decide) ?_
                exact ih_6 (j_7 + 1) (rdT tJ_8 k_21 k_22) (by omega) (by omega) hn_10 _ _ _ (hP.sub [0, 1, 2, 3, 13, 14, 15, 16, 17, 18, 19, 20, 21, 4, 5, 6, 7, 8, 9, 10, 11, 12] rfl) (hD.sub [0, 1, 2, 3, 13, 14, 15, 16, 17, 18, 19, 20, 21, 4, 5, 6, 7, 8, 9, 10, 11, 12] (by decide +kernel) rfl) hS (lv_sub hl [0, 4, 5, 6, 7] rfl)
            · refine lv_if_eq (tgt := 97) hx hb dX5_firstWrong_82 (by decide) (fun _ => ?_) (fun h9 => absurd (by decide) h9)
              refine lv_iload hx hb dX5_firstWrong_97 (lv_at hl 3 rfl) ?_
              exact endW (u := [zzO qx 4 [.ref qt, .ref qk, .ref qp, .ref qs, .ref qa, .ref qr, .int iKp, .int iYe, .int iTv], zzO qp 0 [.ref qu, .ref qv, .int iL, .int iBs], zzO qu 3 [.int (nI (T_nb tJ_8)), .int (nI (T_np tJ_8)), .int (wb (T_wh tJ_8)), .int (wb (T_gn tJ_8)), .int (T_sd tJ_8), .ref quw, .ref qun, .ref qug, .ref qua, .ref qur, .ref qum, .ref qut, .ref qus], zzI cy quw 8 (T_wo tJ_8), zzI cy qun 8 (T_ne tJ_8), zzI cy qug 8 (T_go tJ_8), zzI cy qua 8 (T_ag tJ_8), zzI cy qur 8 (T_re tJ_8), zzI cy qum 8 (T_me tJ_8), zzI cy qut 8 (T_te tJ_8), zzI cy qus 64 (shF (T_kn tJ_8)), zzO qt 3 [.int (nI (T_nb tA)), .int (nI (T_np tA)), .int (wb (T_wh tA)), .int (wb (T_gn tA)), .int (T_sd tA), .ref qtw, .ref qtn, .ref qtg, .ref qta, .ref qtr, .ref qtm, .ref qtt, .ref qts], zzI cy qtw 8 (T_wo tA), zzI cy qtn 8 (T_ne tA), zzI cy qtg 8 (T_go tA), zzI cy qta 8 (T_ag tA), zzI cy qtr 8 (T_re tA), zzI cy qtm 8 (T_me tA), zzI cy qtt 8 (T_te tA), zzI cy qts 64 (shF (T_kn tA)), zzO qs 1 [.ref qsh, .ref qss, .ref qsa, .ref qse], zzJ cy qse 320 gE]) hx hb hr hlocks rfl (hP.sub [0, 3, 4, 5, 6, 7, 8, 9, 10, 11, 12, 13, 14, 15, 16, 17, 18, 19, 20, 21, 1, 2] rfl) (hD.sub [0, 3, 4, 5, 6, 7, 8, 9, 10, 11, 12, 13, 14, 15, 16, 17, 18, 19, 20, 21, 1, 2] (by decide +kernel) rfl) hS ⟨tJ_8, rfl, (by obtain ⟨q1, q2⟩ := id hn_10; exact ⟨by omega, by omega⟩), trivial⟩ dX5_firstWrong_99
          · refine lv_if_eq (tgt := 97) hx hb dX5_firstWrong_73 (by decide) (fun _ => ?_) (fun h9 => absurd (by decide) h9)
            refine lv_iload hx hb dX5_firstWrong_97 (lv_at hl 3 rfl) ?_
            exact endW (u := [zzO qx 4 [.ref qt, .ref qk, .ref qp, .ref qs, .ref qa, .ref qr, .int iKp, .int iYe, .int iTv], zzO qp 0 [.ref qu, .ref qv, .int iL, .int iBs], zzO qu 3 [.int (nI (T_nb tJ_8)), .int (nI (T_np tJ_8)), .int (wb (T_wh tJ_8)), .int (wb (T_gn tJ_8)), .int (T_sd tJ_8), .ref quw, .ref qun, .ref qug, .ref qua, .ref qur, .ref qum, .ref qut, .ref qus], zzI cy quw 8 (T_wo tJ_8), zzI cy qun 8 (T_ne tJ_8), zzI cy qug 8 (T_go tJ_8), zzI cy qua 8 (T_ag tJ_8), zzI cy qur 8 (T_re tJ_8), zzI cy qum 8 (T_me tJ_8), zzI cy qut 8 (T_te tJ_8), zzI cy qus 64 (shF (T_kn tJ_8)), zzO qt 3 [.int (nI (T_nb tA)), .int (nI (T_np tA)), .int (wb (T_wh tA)), .int (wb (T_gn tA)), .int (T_sd tA), .ref qtw, .ref qtn, .ref qtg, .ref qta, .ref qtr, .ref qtm, .ref qtt, .ref qts], zzI cy qtw 8 (T_wo tA), zzI cy qtn 8 (T_ne tA), zzI cy qtg 8 (T_go tA), zzI cy qta 8 (T_ag tA), zzI cy qtr 8 (T_re tA), zzI cy qtm 8 (T_me tA), zzI cy qtt 8 (T_te tA), zzI cy qts 64 (shF (T_kn tA)), zzO qs 1 [.ref qsh, .ref qss, .ref qsa, .ref qse], zzJ cy qse 320 gE]) hx hb hr hlocks rfl (hP.sub [0, 3, 4, 5, 6, 7, 8, 9, 10, 11, 12, 13, 14, 15, 16, 17, 18, 19, 20, 21, 1, 2] rfl) (hD.sub [0, 3, 4, 5, 6, 7, 8, 9, 10, 11, 12, 13, 14, 15, 16, 17, 18, 19, 20, 21, 1, 2] (by decide +kernel) rfl) hS ⟨tJ_8, rfl, (by obtain ⟨q1, q2⟩ := id hn_10; exact ⟨by omega, by omega⟩), trivial⟩ dX5_firstWrong_99
        · refine lv_if_ne (tgt := 48) hx hb dX5_firstWrong_42 (by decide) (fun h9 => absurd (by decide) h9) (fun _ => ?_)
          refine lv_iload hx hb dX5_firstWrong_45 (lv_at hl 1 rfl) ?_
          exact endW (u := [zzO qx 4 [.ref qt, .ref qk, .ref qp, .ref qs, .ref qa, .ref qr, .int iKp, .int iYe, .int iTv], zzO qp 0 [.ref qu, .ref qv, .int iL, .int iBs], zzO qu 3 [.int (nI (T_nb tJ_8)), .int (nI (T_np tJ_8)), .int (wb (T_wh tJ_8)), .int (wb (T_gn tJ_8)), .int (T_sd tJ_8), .ref quw, .ref qun, .ref qug, .ref qua, .ref qur, .ref qum, .ref qut, .ref qus], zzI cy quw 8 (T_wo tJ_8), zzI cy qun 8 (T_ne tJ_8), zzI cy qug 8 (T_go tJ_8), zzI cy qua 8 (T_ag tJ_8), zzI cy qur 8 (T_re tJ_8), zzI cy qum 8 (T_me tJ_8), zzI cy qut 8 (T_te tJ_8), zzI cy qus 64 (shF (T_kn tJ_8)), zzO qt 3 [.int (nI (T_nb tA)), .int (nI (T_np tA)), .int (wb (T_wh tA)), .int (wb (T_gn tA)), .int (T_sd tA), .ref qtw, .ref qtn, .ref qtg, .ref qta, .ref qtr, .ref qtm, .ref qtt, .ref qts], zzI cy qtw 8 (T_wo tA), zzI cy qtn 8 (T_ne tA), zzI cy qtg 8 (T_go tA), zzI cy qta 8 (T_ag tA), zzI cy qtr 8 (T_re tA), zzI cy qtm 8 (T_me tA), zzI cy qtt 8 (T_te tA), zzI cy qts 64 (shF (T_kn tA)), zzO qs 1 [.ref qsh, .ref qss, .ref qsa, .ref qse], zzJ cy qse 320 gE]) hx hb hr hlocks rfl (hP.sub [0, 3, 4, 5, 6, 7, 8, 9, 10, 11, 12, 13, 14, 15, 16, 17, 18, 19, 20, 21, 1, 2] rfl) (hD.sub [0, 3, 4, 5, 6, 7, 8, 9, 10, 11, 12, 13, 14, 15, 16, 17, 18, 19, 20, 21, 1, 2] (by decide +kernel) rfl) hS ⟨tJ_8, rfl, (by obtain ⟨q1, q2⟩ := id hn_10; exact ⟨by omega, by omega⟩), trivial⟩ dX5_firstWrong_47
  exact lp_4 ((40 - 0) + 1) 0 tA (Nat.lt_succ_self _) (Nat.zero_le _) (⟨rfl, rfl⟩) _ _ ls hP hD hS (lv_sub hl [0, 1, 2, 3, 4] rfl)
set_option maxHeartbeats 4000000 in
set_option maxRecDepth 100000 in
theorem p_X5_run (l : Launch) (G : va_G) (cy : Nat → ClassId) (sz : Nat) (qx : Nat) (qt : Nat) (qk : Nat) (qp : Nat) (qs : Nat) (qa : Nat) (qr : Nat) (iKp : Int32) (iYe : Int32) (iTv : Int32) (fR : Nat → Int32) (qsh : Nat) (qss : Nat) (qsa : Nat) (qse : Nat) (fH : Nat → Int32) (fA : Nat → Int32) (tA : TA) (qtw : Nat) (qtn : Nat) (qtg : Nat) (qta : Nat) (qtr : Nat) (qtm : Nat) (qtt : Nat) (qts : Nat) (qu : Nat) (qv : Nat) (iL : Int32) (iBs : Int32) (tU : TA) (quw : Nat) (qun : Nat) (qug : Nat) (qua : Nat) (qur : Nat) (qum : Nat) (qut : Nat) (qus : Nat) (iA : Int32) (iB : Int32) (iC : Int32)  (hB : T_nb tA ≤ 8) (hPp : T_np tA ≤ 8) : MW l yX5_run cX5_run 6 (some .int) 12 0 0 G cy [zzO qx 4 [.ref qt, .ref qk, .ref qp, .ref qs, .ref qa, .ref qr, .int iKp, .int iYe, .int iTv], zzI cy qr 5 fR, zzO qs 1 [.ref qsh, .ref qss, .ref qsa, .ref qse], zzI cy qsh 8 fH, zzI cy qsa 8 fA, zzO qt 3 [.int (nI (T_nb tA)), .int (nI (T_np tA)), .int (wb (T_wh tA)), .int (wb (T_gn tA)), .int (T_sd tA), .ref qtw, .ref qtn, .ref qtg, .ref qta, .ref qtr, .ref qtm, .ref qtt, .ref qts], zzI cy qtw 8 (T_wo tA), zzI cy qtn 8 (T_ne tA), zzI cy qtg 8 (T_go tA), zzI cy qta 8 (T_ag tA), zzI cy qtr 8 (T_re tA), zzI cy qtm 8 (T_me tA), zzI cy qtt 8 (T_te tA), zzI cy qts 64 (shF (T_kn tA)), zzO qp 0 [.ref qu, .ref qv, .int iL, .int iBs], zzO qu 3 [.int (nI (T_nb tU)), .int (nI (T_np tU)), .int (wb (T_wh tU)), .int (wb (T_gn tU)), .int (T_sd tU), .ref quw, .ref qun, .ref qug, .ref qua, .ref qur, .ref qum, .ref qut, .ref qus], zzI cy quw 8 (T_wo tU), zzI cy qun 8 (T_ne tU), zzI cy qug 8 (T_go tU), zzI cy qua 8 (T_ag tU), zzI cy qur 8 (T_re tU), zzI cy qum 8 (T_me tU), zzI cy qut 8 (T_te tU), zzI cy qus 64 (shF (T_kn tU))] sz [.ref qx, .int iA, .int iB, .int iC] (Wi G (fun r u => ∃ (fX : Nat → Int32) (iX : Int32) (iY : Int32) (tX : TA), u = [zzO qx 4 [.ref qt, .ref qk, .ref qp, .ref qs, .ref qa, .ref qr, .int iKp, .int iYe, .int iTv], zzI cy qr 5 fX, zzO qs 1 [.ref qsh, .ref qss, .ref qsa, .ref qse], zzI cy qsh 8 fH, zzI cy qsa 8 fA, zzO qt 3 [.int (nI (T_nb tA)), .int (nI (T_np tA)), .int (wb (T_wh tA)), .int (wb (T_gn tA)), .int (T_sd tA), .ref qtw, .ref qtn, .ref qtg, .ref qta, .ref qtr, .ref qtm, .ref qtt, .ref qts], zzI cy qtw 8 (T_wo tA), zzI cy qtn 8 (T_ne tA), zzI cy qtg 8 (T_go tA), zzI cy qta 8 (T_ag tA), zzI cy qtr 8 (T_re tA), zzI cy qtm 8 (T_me tA), zzI cy qtt 8 (T_te tA), zzI cy qts 64 (shF (T_kn tA)), zzO qp 0 [.ref qu, .ref qv, .int iX, .int iY], zzO qu 3 [.int (nI (T_nb tX)), .int (nI (T_np tX)), .int (wb (T_wh tX)), .int (wb (T_gn tX)), .int (T_sd tX), .ref quw, .ref qun, .ref qug, .ref qua, .ref qur, .ref qum, .ref qut, .ref qus], zzI cy quw 8 (T_wo tX), zzI cy qun 8 (T_ne tX), zzI cy qug 8 (T_go tX), zzI cy qua 8 (T_ag tX), zzI cy qur 8 (T_re tX), zzI cy qum 8 (T_me tX), zzI cy qut 8 (T_te tX), zzI cy qus 64 (shF (T_kn tX))] ∧ (True))) := by
  refine enW RX5 (by decide) rfl (Nat.le_of_ble_eq_true rfl) (fun p e s m below meth c ls A hx hb hml hown hts hr hlocks hP hN hl hin hD hA hS => ?_)
  have hin : meth.name = _ := hin
  have hK := hN.1
  replace hl : lv_has ls 6 [(0, .ref qx), (1, .int iA), (2, .int iB), (3, .int iC)] := hl
  refine lv_iload_n hx hb dX5_run_0 rfl (lv_at hl 2 rfl) ?_
  refine lv_i2l (v := iB.toInt64) hx hb dX5_run_1 rfl ?_
  refine lv_lconst (v := 1) hx hb dX5_run_2 (by decide) ?_
  refine lv_ldc2 hx hb hown (hts _ m_t644) dX5_run_3 ?_
  refine kRi (rS (As := [.long iB.toInt64, .long 1, .long 60]) (rest := []) ⟨hx, hb, hml, hown, hts⟩ (c_X5_within l G cy iB.toInt64 1 60) L_X5_50 (preRS hN hP [] rfl) rfl ⟨Nat.le_of_ble_eq_true rfl, Nat.le_of_ble_eq_true rfl⟩ hl.1 (Nat.le_of_ble_eq_true rfl) dX5_run_6 ⟨Nat.le_of_ble_eq_true rfl, Nat.le_of_ble_eq_true rfl⟩) (fun r_1 h_2 => ?_)
  rcases h_2 with ⟨rfl, h_3⟩ | ⟨rfl, h_3⟩
  · obtain ⟨k_4, hk_5, hk_6, rfl⟩ := iv_nI 1 60 (by decide) (by decide) h_3
    refine lv_if_eq (tgt := 32) hx hb dX5_run_9 (by decide) (fun h9 => absurd h9 (by decide)) (fun _ => ?_)
    refine lv_iload_n hx hb dX5_run_12 rfl (lv_at hl 3 rfl) ?_
    refine lv_i2l (v := iC.toInt64) hx hb dX5_run_13 rfl ?_
    refine lv_lconst (v := 0) hx hb dX5_run_14 (by decide) ?_
    refine lv_ldc2 hx hb hown (hts _ m_t645) dX5_run_15 ?_
    refine kRi (rS (As := [.long iC.toInt64, .long 0, .long 3]) (rest := []) ⟨hx, hb, hml, hown, hts⟩ (c_X5_within l G cy iC.toInt64 0 3) L_X5_50 (preRS hN hP [] rfl) rfl ⟨Nat.le_of_ble_eq_true rfl, Nat.le_of_ble_eq_true rfl⟩ hl.1 (Nat.le_of_ble_eq_true rfl) dX5_run_18 ⟨Nat.le_of_ble_eq_true rfl, Nat.le_of_ble_eq_true rfl⟩) (fun r_8 h_9 => ?_)
    rcases h_9 with ⟨rfl, h_10⟩ | ⟨rfl, h_10⟩
    · refine lv_if_eq (tgt := 32) hx hb dX5_run_21 (by decide) (fun h9 => absurd h9 (by decide)) (fun _ => ?_)
      refine lv_aload_n hx hb dX5_run_24 rfl (lv_at hl 0 rfl) ?_
      refine lv_iload_n hx hb dX5_run_25 rfl (lv_at hl 1 rfl) ?_
      refine kRi (rV (As := [.int iA]) (rest := []) (b := qx) ⟨hx, hb, hml, hown, hts⟩ (c_X5_ruleFit l G cy qx qt qk qp qs qa qr iKp iYe iTv qsh qss qsa qse fH iA) L_X5_100 (preRV (q := (RX5, TX5, 9)) hN hP [0, 2, 3] rfl 0 4 rfl rfl) rfl ⟨Nat.le_of_ble_eq_true rfl, Nat.le_of_ble_eq_true rfl⟩ hl.1 (Nat.le_of_ble_eq_true rfl) dX5_run_26 ⟨Nat.le_of_ble_eq_true rfl, Nat.le_of_ble_eq_true rfl⟩) (fun r_12 h_13 => ?_)
      rcases h_13 with ⟨rfl, h_14⟩ | ⟨rfl, h_14⟩ | ⟨rfl, h_14⟩ | ⟨rfl, h_14⟩
      · refine lv_goto (tgt := 34) hx hb dX5_run_29 (by decide) ?_
        refine lv_istore (lv' := [(4, .int (-2)), (0, .ref qx), (1, .int iA), (2, .int (nI k_4)), (3, .int iC)]) hx hb dX5_run_34 hl (by decide) rfl (fun ls => ?_)
        clear hl
        intro hl
        refine lv_iload hx hb dX5_run_36 (lv_at hl 0 rfl) ?_
        refine lv_if_eq (tgt := 48) hx hb dX5_run_38 (by decide) (fun h9 => absurd h9 (by decide)) (fun _ => ?_)
        refine lv_aload_n hx hb dX5_run_41 rfl (lv_at hl 1 rfl) ?_
        refine lv_iload hx hb dX5_run_42 (lv_at hl 0 rfl) ?_
        refine cVi (As := [.int (-2)]) (rest := []) (b := qx) (q := (RX5, TX5, 9)) ⟨hx, hb, hml, hown, hts⟩ (c_X5_refuse2 l G cy (s.heap).size qx qt qk qp qs qa qr iKp iYe iTv fR) L_X5_56 hN hP hD hS hA [0, 1] [false, false, true, true, true, true, true, true, true, true, true, true, true, true, true, true, true, true, true, true, true, true, true, true] rfl (by decide +kernel) rfl 0 4 rfl rfl rfl ⟨Nat.le_of_ble_eq_true rfl, Nat.le_of_ble_eq_true rfl⟩ hl.1 (Nat.le_of_ble_eq_true rfl) dX5_run_44 ⟨Nat.le_of_ble_eq_true rfl, Nat.le_of_ble_eq_true rfl⟩ (fun r_16 u_18 H locs h_17 => ?_)
        clear hP hD hS
        intro hP hD hS
        obtain ⟨fX_19, rfl, h_17⟩ := h_17
        have hPD := pd_as [zzO qs 1 [.ref qsh, .ref qss, .ref qsa, .ref qse], zzI cy qsh 8 fH, zzI cy qsa 8 fA, zzO qt 3 [.int (nI (T_nb tA)), .int (nI (T_np tA)), .int (wb (T_wh tA)), .int (wb (T_gn tA)), .int (T_sd tA), .ref qtw, .ref qtn, .ref qtg, .ref qta, .ref qtr, .ref qtm, .ref qtt, .ref qts], zzI cy qtw 8 (T_wo tA), zzI cy qtn 8 (T_ne tA), zzI cy qtg 8 (T_go tA), zzI cy qta 8 (T_ag tA), zzI cy qtr 8 (T_re tA), zzI cy qtm 8 (T_me tA), zzI cy qtt 8 (T_te tA), zzI cy qts 64 (shF (T_kn tA)), zzO qp 0 [.ref qu, .ref qv, .int iL, .int iBs], zzO qu 3 [.int (nI (T_nb tU)), .int (nI (T_np tU)), .int (wb (T_wh tU)), .int (wb (T_gn tU)), .int (T_sd tU), .ref quw, .ref qun, .ref qug, .ref qua, .ref qur, .ref qum, .ref qut, .ref qus], zzI cy quw 8 (T_wo tU), zzI cy qun 8 (T_ne tU), zzI cy qug 8 (T_go tU), zzI cy qua 8 (T_ag tU), zzI cy qur 8 (T_re tU), zzI cy qum 8 (T_me tU), zzI cy qut 8 (T_te tU), zzI cy qus 64 (shF (T_kn tU)), zzO qx 4 [.ref qt, .ref qk, .ref qp, .ref qs, .ref qa, .ref qr, .int iKp, .int iYe, .int iTv], zzI cy qr 5 fX_19] hP hD rfl
        clear hP hD
        obtain ⟨hP, hD⟩ := hPD
        subst h_17
        exact endW (u := [zzO qx 4 [.ref qt, .ref qk, .ref qp, .ref qs, .ref qa, .ref qr, .int iKp, .int iYe, .int iTv], zzI cy qr 5 fX_19, zzO qs 1 [.ref qsh, .ref qss, .ref qsa, .ref qse], zzI cy qsh 8 fH, zzI cy qsa 8 fA, zzO qt 3 [.int (nI (T_nb tA)), .int (nI (T_np tA)), .int (wb (T_wh tA)), .int (wb (T_gn tA)), .int (T_sd tA), .ref qtw, .ref qtn, .ref qtg, .ref qta, .ref qtr, .ref qtm, .ref qtt, .ref qts], zzI cy qtw 8 (T_wo tA), zzI cy qtn 8 (T_ne tA), zzI cy qtg 8 (T_go tA), zzI cy qta 8 (T_ag tA), zzI cy qtr 8 (T_re tA), zzI cy qtm 8 (T_me tA), zzI cy qtt 8 (T_te tA), zzI cy qts 64 (shF (T_kn tA)), zzO qp 0 [.ref qu, .ref qv, .int iL, .int iBs], zzO qu 3 [.int (nI (T_nb tU)), .int (nI (T_np tU)), .int (wb (T_wh tU)), .int (wb (T_gn tU)), .int (T_sd tU), .ref quw, .ref qun, .ref qug, .ref qua, .ref qur, .ref qum, .ref qut, .ref qus], zzI cy quw 8 (T_wo tU), zzI cy qun 8 (T_ne tU), zzI cy qug 8 (T_go tU), zzI cy qua 8 (T_ag tU), zzI cy qur 8 (T_re tU), zzI cy qum 8 (T_me tU), zzI cy qut 8 (T_te tU), zzI cy qus 64 (shF (T_kn tU))]) hx hb hr hlocks rfl (hP.sub [22, 23, 0, 1, 2, 3, 4, 5, 6, 7, 8, 9, 10, 11, 12, 13, 14, 15, 16, 17, 18, 19, 20, 21] rfl) (hD.sub [22, 23, 0, 1, 2, 3, 4, 5, 6, 7, 8, 9, 10, 11, 12, 13, 14, 15, 16, 17, 18, 19, 20, 21] (by decide +kernel) rfl) hS ⟨fX_19, iL, iBs, tU, rfl, trivial⟩ dX5_run_47
      · obtain ⟨k_20, hk_21, rfl, h_22⟩ := h_14
        refine lv_goto (tgt := 34) hx hb dX5_run_29 (by decide) ?_
        refine lv_istore (lv' := [(4, .int (-3)), (0, .ref qx), (1, .int (nI k_20)), (2, .int (nI k_4)), (3, .int iC)]) hx hb dX5_run_34 hl (by decide) rfl (fun ls => ?_)
        clear hl
        intro hl
        refine lv_iload hx hb dX5_run_36 (lv_at hl 0 rfl) ?_
        refine lv_if_eq (tgt := 48) hx hb dX5_run_38 (by decide) (fun h9 => absurd h9 (by decide)) (fun _ => ?_)
        refine lv_aload_n hx hb dX5_run_41 rfl (lv_at hl 1 rfl) ?_
        refine lv_iload hx hb dX5_run_42 (lv_at hl 0 rfl) ?_
        refine cVi (As := [.int (-3)]) (rest := []) (b := qx) (q := (RX5, TX5, 9)) ⟨hx, hb, hml, hown, hts⟩ (c_X5_refuse3 l G cy (s.heap).size qx qt qk qp qs qa qr iKp iYe iTv fR) L_X5_56 hN hP hD hS hA [0, 1] [false, false, true, true, true, true, true, true, true, true, true, true, true, true, true, true, true, true, true, true, true, true, true, true] rfl (by decide +kernel) rfl 0 4 rfl rfl rfl ⟨Nat.le_of_ble_eq_true rfl, Nat.le_of_ble_eq_true rfl⟩ hl.1 (Nat.le_of_ble_eq_true rfl) dX5_run_44 ⟨Nat.le_of_ble_eq_true rfl, Nat.le_of_ble_eq_true rfl⟩ (fun r_24 u_26 H locs h_25 => ?_)
        clear hP hD hS
        intro hP hD hS
        obtain ⟨fX_27, rfl, h_25⟩ := h_25
        have hPD := pd_as [zzO qs 1 [.ref qsh, .ref qss, .ref qsa, .ref qse], zzI cy qsh 8 fH, zzI cy qsa 8 fA, zzO qt 3 [.int (nI (T_nb tA)), .int (nI (T_np tA)), .int (wb (T_wh tA)), .int (wb (T_gn tA)), .int (T_sd tA), .ref qtw, .ref qtn, .ref qtg, .ref qta, .ref qtr, .ref qtm, .ref qtt, .ref qts], zzI cy qtw 8 (T_wo tA), zzI cy qtn 8 (T_ne tA), zzI cy qtg 8 (T_go tA), zzI cy qta 8 (T_ag tA), zzI cy qtr 8 (T_re tA), zzI cy qtm 8 (T_me tA), zzI cy qtt 8 (T_te tA), zzI cy qts 64 (shF (T_kn tA)), zzO qp 0 [.ref qu, .ref qv, .int iL, .int iBs], zzO qu 3 [.int (nI (T_nb tU)), .int (nI (T_np tU)), .int (wb (T_wh tU)), .int (wb (T_gn tU)), .int (T_sd tU), .ref quw, .ref qun, .ref qug, .ref qua, .ref qur, .ref qum, .ref qut, .ref qus], zzI cy quw 8 (T_wo tU), zzI cy qun 8 (T_ne tU), zzI cy qug 8 (T_go tU), zzI cy qua 8 (T_ag tU), zzI cy qur 8 (T_re tU), zzI cy qum 8 (T_me tU), zzI cy qut 8 (T_te tU), zzI cy qus 64 (shF (T_kn tU)), zzO qx 4 [.ref qt, .ref qk, .ref qp, .ref qs, .ref qa, .ref qr, .int iKp, .int iYe, .int iTv], zzI cy qr 5 fX_27] hP hD rfl
        clear hP hD
        obtain ⟨hP, hD⟩ := hPD
        subst h_25
        exact endW (u := [zzO qx 4 [.ref qt, .ref qk, .ref qp, .ref qs, .ref qa, .ref qr, .int iKp, .int iYe, .int iTv], zzI cy qr 5 fX_27, zzO qs 1 [.ref qsh, .ref qss, .ref qsa, .ref qse], zzI cy qsh 8 fH, zzI cy qsa 8 fA, zzO qt 3 [.int (nI (T_nb tA)), .int (nI (T_np tA)), .int (wb (T_wh tA)), .int (wb (T_gn tA)), .int (T_sd tA), .ref qtw, .ref qtn, .ref qtg, .ref qta, .ref qtr, .ref qtm, .ref qtt, .ref qts], zzI cy qtw 8 (T_wo tA), zzI cy qtn 8 (T_ne tA), zzI cy qtg 8 (T_go tA), zzI cy qta 8 (T_ag tA), zzI cy qtr 8 (T_re tA), zzI cy qtm 8 (T_me tA), zzI cy qtt 8 (T_te tA), zzI cy qts 64 (shF (T_kn tA)), zzO qp 0 [.ref qu, .ref qv, .int iL, .int iBs], zzO qu 3 [.int (nI (T_nb tU)), .int (nI (T_np tU)), .int (wb (T_wh tU)), .int (wb (T_gn tU)), .int (T_sd tU), .ref quw, .ref qun, .ref qug, .ref qua, .ref qur, .ref qum, .ref qut, .ref qus], zzI cy quw 8 (T_wo tU), zzI cy qun 8 (T_ne tU), zzI cy qug 8 (T_go tU), zzI cy qua 8 (T_ag tU), zzI cy qur 8 (T_re tU), zzI cy qum 8 (T_me tU), zzI cy qut 8 (T_te tU), zzI cy qus 64 (shF (T_kn tU))]) hx hb hr hlocks rfl (hP.sub [22, 23, 0, 1, 2, 3, 4, 5, 6, 7, 8, 9, 10, 11, 12, 13, 14, 15, 16, 17, 18, 19, 20, 21] rfl) (hD.sub [22, 23, 0, 1, 2, 3, 4, 5, 6, 7, 8, 9, 10, 11, 12, 13, 14, 15, 16, 17, 18, 19, 20, 21] (by decide +kernel) rfl) hS ⟨fX_27, iL, iBs, tU, rfl, trivial⟩ dX5_run_47
      · obtain ⟨k_28, hk_29, rfl, h_30, h_31⟩ := h_14
        refine lv_goto (tgt := 34) hx hb dX5_run_29 (by decide) ?_
        refine lv_istore (lv' := [(4, .int 0), (0, .ref qx), (1, .int (nI k_28)), (2, .int (nI k_4)), (3, .int iC)]) hx hb dX5_run_34 hl (by decide) rfl (fun ls => ?_)
        clear hl
        intro hl
        refine lv_iload hx hb dX5_run_36 (lv_at hl 0 rfl) ?_
        refine lv_if_eq (tgt := 48) hx hb dX5_run_38 (by decide) (fun _ => ?_) (fun h9 => absurd (by decide) h9)
        refine lv_aload_n hx hb dX5_run_48 rfl (lv_at hl 1 rfl) ?_
        refine va_get (D := G) (ci := 4) (v := .ref qp) (C := RX5) (T := TX5) (N := 9) hx hb hts iX_X5 hown hK hP 0 rfl rfl 2 (by decide) (hts _ m_t176) (fun _ h9 => h9) rfl dX5_run_49 ?_
        refine lv_aload_n hx hb dX5_run_52 rfl (lv_at hl 1 rfl) ?_
        refine va_get (D := G) (ci := 4) (v := .ref qp) (C := RX5) (T := TX5) (N := 9) hx hb hts iX_X5 hown hK hP 0 rfl rfl 2 (by decide) (hts _ m_t176) (fun _ h9 => h9) rfl dX5_run_53 ?_
        refine lv_aload_n hx hb dX5_run_56 rfl (lv_at hl 1 rfl) ?_
        refine va_get (D := G) (ci := 4) (v := .ref qt) (C := RX5) (T := TX5) (N := 9) hx hb hts iX_X5 hown hK hP 0 rfl rfl 0 (by decide) (hts _ m_t174) (fun _ h9 => h9) rfl dX5_run_57 ?_
        refine cVq (As := [.ref qt]) (rest := [.ref qp]) (b := qp) (q := (RX0, TX0, 4)) ⟨hx, hb, hml, hown, hts⟩ (c_X0_trialOf l G cy (s.heap).size qp qu (.ref qv) (.int iL) (.int iBs) tU quw qun qug qua qur qum qut qus qt tA qtw qtn qtg qta qtr qtm qtt qts) L_X5_115 hN hP hD hS hA [14, 15, 16, 17, 18, 19, 20, 21, 22, 23, 5, 6, 7, 8, 9, 10, 11, 12, 13] [true, true, true, true, true, false, false, false, false, false, false, false, false, false, false, false, false, false, false, false, false, false, false, false] rfl (by decide +kernel) rfl 14 0 rfl rfl rfl ⟨Nat.le_of_ble_eq_true rfl, Nat.le_of_ble_eq_true rfl⟩ hl.1 (Nat.le_of_ble_eq_true rfl) dX5_run_60 ⟨Nat.le_of_ble_eq_true rfl, Nat.le_of_ble_eq_true rfl⟩ (fun r_33 u_35 H locs h_34 => ?_)
        clear hP hD hS
        intro hP hD hS
        obtain ⟨rfl, h_34⟩ := h_34
        have hPD := pd_as [zzO qx 4 [.ref qt, .ref qk, .ref qp, .ref qs, .ref qa, .ref qr, .int iKp, .int iYe, .int iTv], zzI cy qr 5 fR, zzO qs 1 [.ref qsh, .ref qss, .ref qsa, .ref qse], zzI cy qsh 8 fH, zzI cy qsa 8 fA, zzO qp 0 [.ref qu, .ref qv, .int iL, .int iBs], zzO qu 3 [.int (nI (T_nb tA)), .int (nI (T_np tA)), .int (wb (T_wh tA)), .int (wb (T_gn tA)), .int (T_sd tA), .ref quw, .ref qun, .ref qug, .ref qua, .ref qur, .ref qum, .ref qut, .ref qus], zzI cy quw 8 (T_wo tA), zzI cy qun 8 (T_ne tA), zzI cy qug 8 (T_go tA), zzI cy qua 8 (T_ag tA), zzI cy qur 8 (T_re tA), zzI cy qum 8 (T_me tA), zzI cy qut 8 (T_te tA), zzI cy qus 64 (shF (T_kn tA)), zzO qt 3 [.int (nI (T_nb tA)), .int (nI (T_np tA)), .int (wb (T_wh tA)), .int (wb (T_gn tA)), .int (T_sd tA), .ref qtw, .ref qtn, .ref qtg, .ref qta, .ref qtr, .ref qtm, .ref qtt, .ref qts], zzI cy qtw 8 (T_wo tA), zzI cy qtn 8 (T_ne tA), zzI cy qtg 8 (T_go tA), zzI cy qta 8 (T_ag tA), zzI cy qtr 8 (T_re tA), zzI cy qtm 8 (T_me tA), zzI cy qtt 8 (T_te tA), zzI cy qts 64 (shF (T_kn tA))] hP hD rfl
        clear hP hD
        obtain ⟨hP, hD⟩ := hPD
        have h_34 := h_34.symm
        subst h_34
        refine lv_aload_n hx hb dX5_run_63 rfl (lv_at hl 1 rfl) ?_
        refine va_get (D := G) (ci := 4) (v := .ref qs) (C := RX5) (T := TX5) (N := 9) hx hb hts iX_X5 hown hK hP 0 rfl rfl 3 (by decide) (hts _ m_t177) (fun _ h9 => h9) rfl dX5_run_64 ?_
        refine lv_iload_n hx hb dX5_run_67 rfl (lv_at hl 2 rfl) ?_
        refine kRi (rV (As := [.int (nI k_28)]) (rest := [.ref qu, .ref qp]) (b := qs) ⟨hx, hb, hml, hown, hts⟩ (c_X2_kindIn l G cy qs qsh qss qsa qse fH k_28 (by first | omega | (simp only [nb_sr, np_sr, nb_wr, np_wr, nb_rd, np_rd, nb_ch, np_ch, nb_zr, np_zr, nb_za, np_za, nb_ey, np_ey, nb_hf, np_hf, nb_dd, np_dd, nb_so, np_so, nb_skn, np_skn, nb_swh, np_swh, nb_sgn, np_sgn, nb_ssd, np_ssd, nb_sgo, np_sgo, nb_sag, np_sag]; omega))) L_X5_103 (preRV (q := (RX2, TX2, 4)) hN hP [2, 3] rfl 2 1 rfl rfl) rfl ⟨Nat.le_of_ble_eq_true rfl, Nat.le_of_ble_eq_true rfl⟩ hl.1 (Nat.le_of_ble_eq_true rfl) dX5_run_68 ⟨Nat.le_of_ble_eq_true rfl, Nat.le_of_ble_eq_true rfl⟩) (fun r_36 h_37 => ?_)
        subst h_37
        refine lv_aload_n hx hb dX5_run_71 rfl (lv_at hl 1 rfl) ?_
        refine va_get (D := G) (ci := 4) (v := .ref qs) (C := RX5) (T := TX5) (N := 9) hx hb hts iX_X5 hown hK hP 0 rfl rfl 3 (by decide) (hts _ m_t177) (fun _ h9 => h9) rfl dX5_run_72 ?_
        refine va_getN (D := G) (ci := 1) (v := .ref qsa) (C := RX2) (T := TX2) (N := 4) hx hb hts iX_X2 hown hK hP 2 rfl rfl 2 (by decide) (va_Nw.use rfl (hN.2.1 (RX5, 112, "EachBookOnce$Shelves", "amount", "[I") (List.mem_of_getElem? (i := 28) rfl))) (fun _ h9 => h9) rfl dX5_run_75 ?_
        refine lv_iload_n hx hb dX5_run_78 rfl (lv_at hl 2 rfl) ?_
        refine va_iald hx hb hK hP 4 0 rfl rfl (in8 (by omega)) dX5_run_79 ?_
        refine lv_seti (v := fA k_28) (congrArg fA (cl8 (by omega))) ?_
        refine lv_iload_n hx hb dX5_run_80 rfl (lv_at hl 3 rfl) ?_
        refine cVi (As := [.ref qu, .int ((fH k_28) - 10), .int (fA k_28), .int (nI k_4)]) (rest := []) (b := qp) (q := (RX0, TX0, 4)) ⟨hx, hb, hml, hown, hts⟩ (c_X0_sumOfRun l G cy (H).size qp qu (.ref qv) iL iBs tA quw qun qug qua qur qum qut qus ((fH k_28) - 10) (fA k_28) k_4 hB hPp (by first | omega | (simp only [nb_sr, np_sr, nb_wr, np_wr, nb_rd, np_rd, nb_ch, np_ch, nb_zr, np_zr, nb_za, np_za, nb_ey, np_ey, nb_hf, np_hf, nb_dd, np_dd, nb_so, np_so, nb_skn, np_skn, nb_swh, np_swh, nb_sgn, np_sgn, nb_ssd, np_ssd, nb_sgo, np_sgo, nb_sag, np_sag]; omega))) L_X5_254 hN hP hD hS hA [5, 6, 7, 8, 9, 10, 11, 12, 13, 14] [true, true, true, true, true, false, false, false, false, false, false, false, false, false, false, true, true, true, true, true, true, true, true, true] rfl (by decide +kernel) rfl 5 0 rfl rfl rfl ⟨Nat.le_of_ble_eq_true rfl, Nat.le_of_ble_eq_true rfl⟩ hl.1 (Nat.le_of_ble_eq_true rfl) dX5_run_81 ⟨Nat.le_of_ble_eq_true rfl, Nat.le_of_ble_eq_true rfl⟩ (fun r_38 u_40 H locs h_39 => ?_)
        clear hP hD hS
        intro hP hD hS
        obtain ⟨rfl, h_39⟩ := h_39
        have hPD := pd_as [zzO qx 4 [.ref qt, .ref qk, .ref qp, .ref qs, .ref qa, .ref qr, .int iKp, .int iYe, .int iTv], zzI cy qr 5 fR, zzO qs 1 [.ref qsh, .ref qss, .ref qsa, .ref qse], zzI cy qsh 8 fH, zzI cy qsa 8 fA, zzO qt 3 [.int (nI (T_nb tA)), .int (nI (T_np tA)), .int (wb (T_wh tA)), .int (wb (T_gn tA)), .int (T_sd tA), .ref qtw, .ref qtn, .ref qtg, .ref qta, .ref qtr, .ref qtm, .ref qtt, .ref qts], zzI cy qtw 8 (T_wo tA), zzI cy qtn 8 (T_ne tA), zzI cy qtg 8 (T_go tA), zzI cy qta 8 (T_ag tA), zzI cy qtr 8 (T_re tA), zzI cy qtm 8 (T_me tA), zzI cy qtt 8 (T_te tA), zzI cy qts 64 (shF (T_kn tA)), zzO qp 0 [.ref qu, .ref qv, .int ((srG ((fH k_28) - 10) (fA k_28) k_4 tA iL 0).2.1), .int iBs], zzO qu 3 [.int (nI (T_nb ((srG ((fH k_28) - 10) (fA k_28) k_4 tA iL 0).1))), .int (nI (T_np ((srG ((fH k_28) - 10) (fA k_28) k_4 tA iL 0).1))), .int (wb (T_wh ((srG ((fH k_28) - 10) (fA k_28) k_4 tA iL 0).1))), .int (wb (T_gn ((srG ((fH k_28) - 10) (fA k_28) k_4 tA iL 0).1))), .int (T_sd ((srG ((fH k_28) - 10) (fA k_28) k_4 tA iL 0).1)), .ref quw, .ref qun, .ref qug, .ref qua, .ref qur, .ref qum, .ref qut, .ref qus], zzI cy quw 8 (T_wo ((srG ((fH k_28) - 10) (fA k_28) k_4 tA iL 0).1)), zzI cy qun 8 (T_ne ((srG ((fH k_28) - 10) (fA k_28) k_4 tA iL 0).1)), zzI cy qug 8 (T_go ((srG ((fH k_28) - 10) (fA k_28) k_4 tA iL 0).1)), zzI cy qua 8 (T_ag ((srG ((fH k_28) - 10) (fA k_28) k_4 tA iL 0).1)), zzI cy qur 8 (T_re ((srG ((fH k_28) - 10) (fA k_28) k_4 tA iL 0).1)), zzI cy qum 8 (T_me ((srG ((fH k_28) - 10) (fA k_28) k_4 tA iL 0).1)), zzI cy qut 8 (T_te ((srG ((fH k_28) - 10) (fA k_28) k_4 tA iL 0).1)), zzI cy qus 64 (shF (T_kn ((srG ((fH k_28) - 10) (fA k_28) k_4 tA iL 0).1)))] hP hD rfl
        clear hP hD
        obtain ⟨hP, hD⟩ := hPD
        subst h_39
        refine lv_istore (lv' := [(5, .int ((srG ((fH k_28) - 10) (fA k_28) k_4 tA iL 0).2.2)), (4, .int 0), (0, .ref qx), (1, .int (nI k_28)), (2, .int (nI k_4)), (3, .int iC)]) hx hb dX5_run_84 hl (by decide) rfl (fun ls => ?_)
        clear hl
        intro hl
        refine lv_iload_n hx hb dX5_run_86 rfl (lv_at hl 5 rfl) ?_
        rcases sw_0_2 iC with rfl | rfl | rfl | h_41
        · refine lv_tableIn (tgt := 112) (off := 25) hx hb dX5_run_87 (by decide) (by decide) (by decide) (by decide) ?_
          refine lv_iload hx hb dX5_run_112 (lv_at hl 0 rfl) ?_
          exact endW (u := [zzO qx 4 [.ref qt, .ref qk, .ref qp, .ref qs, .ref qa, .ref qr, .int iKp, .int iYe, .int iTv], zzI cy qr 5 fR, zzO qs 1 [.ref qsh, .ref qss, .ref qsa, .ref qse], zzI cy qsh 8 fH, zzI cy qsa 8 fA, zzO qt 3 [.int (nI (T_nb tA)), .int (nI (T_np tA)), .int (wb (T_wh tA)), .int (wb (T_gn tA)), .int (T_sd tA), .ref qtw, .ref qtn, .ref qtg, .ref qta, .ref qtr, .ref qtm, .ref qtt, .ref qts], zzI cy qtw 8 (T_wo tA), zzI cy qtn 8 (T_ne tA), zzI cy qtg 8 (T_go tA), zzI cy qta 8 (T_ag tA), zzI cy qtr 8 (T_re tA), zzI cy qtm 8 (T_me tA), zzI cy qtt 8 (T_te tA), zzI cy qts 64 (shF (T_kn tA)), zzO qp 0 [.ref qu, .ref qv, .int ((srG ((fH k_28) - 10) (fA k_28) k_4 tA iL 0).2.1), .int iBs], zzO qu 3 [.int (nI (T_nb ((srG ((fH k_28) - 10) (fA k_28) k_4 tA iL 0).1))), .int (nI (T_np ((srG ((fH k_28) - 10) (fA k_28) k_4 tA iL 0).1))), .int (wb (T_wh ((srG ((fH k_28) - 10) (fA k_28) k_4 tA iL 0).1))), .int (wb (T_gn ((srG ((fH k_28) - 10) (fA k_28) k_4 tA iL 0).1))), .int (T_sd ((srG ((fH k_28) - 10) (fA k_28) k_4 tA iL 0).1)), .ref quw, .ref qun, .ref qug, .ref qua, .ref qur, .ref qum, .ref qut, .ref qus], zzI cy quw 8 (T_wo ((srG ((fH k_28) - 10) (fA k_28) k_4 tA iL 0).1)), zzI cy qun 8 (T_ne ((srG ((fH k_28) - 10) (fA k_28) k_4 tA iL 0).1)), zzI cy qug 8 (T_go ((srG ((fH k_28) - 10) (fA k_28) k_4 tA iL 0).1)), zzI cy qua 8 (T_ag ((srG ((fH k_28) - 10) (fA k_28) k_4 tA iL 0).1)), zzI cy qur 8 (T_re ((srG ((fH k_28) - 10) (fA k_28) k_4 tA iL 0).1)), zzI cy qum 8 (T_me ((srG ((fH k_28) - 10) (fA k_28) k_4 tA iL 0).1)), zzI cy qut 8 (T_te ((srG ((fH k_28) - 10) (fA k_28) k_4 tA iL 0).1)), zzI cy qus 64 (shF (T_kn ((srG ((fH k_28) - 10) (fA k_28) k_4 tA iL 0).1)))]) hx hb hr hlocks rfl (hP.sub [0, 1, 2, 3, 4, 5, 6, 7, 8, 9, 10, 11, 12, 13, 14, 15, 16, 17, 18, 19, 20, 21, 22, 23] rfl) (hD.sub [0, 1, 2, 3, 4, 5, 6, 7, 8, 9, 10, 11, 12, 13, 14, 15, 16, 17, 18, 19, 20, 21, 22, 23] (by decide +kernel) rfl) hS ⟨fR, (srG ((fH k_28) - 10) (fA k_28) k_4 tA iL 0).2.1, iBs, ((srG ((fH k_28) - 10) (fA k_28) k_4 tA iL 0).1), rfl, trivial⟩ dX5_run_114
        · refine lv_tableIn (tgt := 115) (off := 28) hx hb dX5_run_87 (by decide) (by decide) (by decide) (by decide) ?_
          refine lv_aload_n hx hb dX5_run_115 rfl (lv_at hl 2 rfl) ?_
          refine va_get (D := G) (ci := 4) (v := .ref qp) (C := RX5) (T := TX5) (N := 9) hx hb hts iX_X5 hown hK hP 0 rfl rfl 2 (by decide) (hts _ m_t176) (fun _ h9 => h9) rfl dX5_run_116 ?_
          refine va_getN (D := G) (ci := 0) (v := .int ((srG ((fH k_28) - 10) (fA k_28) k_4 tA iL 0).2.1)) (C := RX0) (T := TX0) (N := 4) hx hb hts iX_X0 hown hK hP 14 rfl rfl 2 (by decide) (va_Nw.use rfl (hN.2.1 (RX5, 258, "EachBookOnce$Plans", "lastValue", "I") (List.mem_of_getElem? (i := 24) rfl))) (fun _ h9 => h9) rfl dX5_run_119 ?_
          exact endW (u := [zzO qx 4 [.ref qt, .ref qk, .ref qp, .ref qs, .ref qa, .ref qr, .int iKp, .int iYe, .int iTv], zzI cy qr 5 fR, zzO qs 1 [.ref qsh, .ref qss, .ref qsa, .ref qse], zzI cy qsh 8 fH, zzI cy qsa 8 fA, zzO qt 3 [.int (nI (T_nb tA)), .int (nI (T_np tA)), .int (wb (T_wh tA)), .int (wb (T_gn tA)), .int (T_sd tA), .ref qtw, .ref qtn, .ref qtg, .ref qta, .ref qtr, .ref qtm, .ref qtt, .ref qts], zzI cy qtw 8 (T_wo tA), zzI cy qtn 8 (T_ne tA), zzI cy qtg 8 (T_go tA), zzI cy qta 8 (T_ag tA), zzI cy qtr 8 (T_re tA), zzI cy qtm 8 (T_me tA), zzI cy qtt 8 (T_te tA), zzI cy qts 64 (shF (T_kn tA)), zzO qp 0 [.ref qu, .ref qv, .int ((srG ((fH k_28) - 10) (fA k_28) k_4 tA iL 0).2.1), .int iBs], zzO qu 3 [.int (nI (T_nb ((srG ((fH k_28) - 10) (fA k_28) k_4 tA iL 0).1))), .int (nI (T_np ((srG ((fH k_28) - 10) (fA k_28) k_4 tA iL 0).1))), .int (wb (T_wh ((srG ((fH k_28) - 10) (fA k_28) k_4 tA iL 0).1))), .int (wb (T_gn ((srG ((fH k_28) - 10) (fA k_28) k_4 tA iL 0).1))), .int (T_sd ((srG ((fH k_28) - 10) (fA k_28) k_4 tA iL 0).1)), .ref quw, .ref qun, .ref qug, .ref qua, .ref qur, .ref qum, .ref qut, .ref qus], zzI cy quw 8 (T_wo ((srG ((fH k_28) - 10) (fA k_28) k_4 tA iL 0).1)), zzI cy qun 8 (T_ne ((srG ((fH k_28) - 10) (fA k_28) k_4 tA iL 0).1)), zzI cy qug 8 (T_go ((srG ((fH k_28) - 10) (fA k_28) k_4 tA iL 0).1)), zzI cy qua 8 (T_ag ((srG ((fH k_28) - 10) (fA k_28) k_4 tA iL 0).1)), zzI cy qur 8 (T_re ((srG ((fH k_28) - 10) (fA k_28) k_4 tA iL 0).1)), zzI cy qum 8 (T_me ((srG ((fH k_28) - 10) (fA k_28) k_4 tA iL 0).1)), zzI cy qut 8 (T_te ((srG ((fH k_28) - 10) (fA k_28) k_4 tA iL 0).1)), zzI cy qus 64 (shF (T_kn ((srG ((fH k_28) - 10) (fA k_28) k_4 tA iL 0).1)))]) hx hb hr hlocks rfl (hP.sub [0, 1, 2, 3, 4, 5, 6, 7, 8, 9, 10, 11, 12, 13, 14, 15, 16, 17, 18, 19, 20, 21, 22, 23] rfl) (hD.sub [0, 1, 2, 3, 4, 5, 6, 7, 8, 9, 10, 11, 12, 13, 14, 15, 16, 17, 18, 19, 20, 21, 22, 23] (by decide +kernel) rfl) hS ⟨fR, (srG ((fH k_28) - 10) (fA k_28) k_4 tA iL 0).2.1, iBs, ((srG ((fH k_28) - 10) (fA k_28) k_4 tA iL 0).1), rfl, trivial⟩ dX5_run_122
        · refine lv_tableIn (tgt := 123) (off := 36) hx hb dX5_run_87 (by decide) (by decide) (by decide) (by decide) ?_
          refine lv_aload_n hx hb dX5_run_123 rfl (lv_at hl 2 rfl) ?_
          refine va_get (D := G) (ci := 4) (v := .ref qp) (C := RX5) (T := TX5) (N := 9) hx hb hts iX_X5 hown hK hP 0 rfl rfl 2 (by decide) (hts _ m_t176) (fun _ h9 => h9) rfl dX5_run_124 ?_
          refine va_getN (D := G) (ci := 0) (v := .ref qu) (C := RX0) (T := TX0) (N := 4) hx hb hts iX_X0 hown hK hP 14 rfl rfl 0 (by decide) (va_Nw.use rfl (hN.2.1 (RX5, 261, "EachBookOnce$Plans", "trial", "LEachBookOnce$Town;") (List.mem_of_getElem? (i := 23) rfl))) (fun _ h9 => h9) rfl dX5_run_127 ?_
          refine va_getN (D := G) (ci := 3) (v := .int (wb (T_wh ((srG ((fH k_28) - 10) (fA k_28) k_4 tA iL 0).1)))) (C := RX4) (T := TX4) (N := 13) hx hb hts iX_X4 hown hK hP 15 rfl rfl 2 (by decide) (va_Nw.use rfl (hN.2.1 (RX5, 180, "EachBookOnce$Town", "white", "I") (List.mem_of_getElem? (i := 10) rfl))) (fun _ h9 => h9) rfl dX5_run_130 ?_
          refine kRi (rS (As := [.int (wb (T_wh ((srG ((fH k_28) - 10) (fA k_28) k_4 tA iL 0).1)))]) (rest := []) ⟨hx, hb, hml, hown, hts⟩ (c_J6_bitCount l G cy (wb (T_wh ((srG ((fH k_28) - 10) (fA k_28) k_4 tA iL 0).1)))) L_X5_264 (preRS hN hP [] rfl) rfl ⟨Nat.le_of_ble_eq_true rfl, Nat.le_of_ble_eq_true rfl⟩ hl.1 (Nat.le_of_ble_eq_true rfl) dX5_run_133 ⟨Nat.le_of_ble_eq_true rfl, Nat.le_of_ble_eq_true rfl⟩) (fun r_42 h_43 => ?_)
          subst h_43
          exact endW (u := [zzO qx 4 [.ref qt, .ref qk, .ref qp, .ref qs, .ref qa, .ref qr, .int iKp, .int iYe, .int iTv], zzI cy qr 5 fR, zzO qs 1 [.ref qsh, .ref qss, .ref qsa, .ref qse], zzI cy qsh 8 fH, zzI cy qsa 8 fA, zzO qt 3 [.int (nI (T_nb tA)), .int (nI (T_np tA)), .int (wb (T_wh tA)), .int (wb (T_gn tA)), .int (T_sd tA), .ref qtw, .ref qtn, .ref qtg, .ref qta, .ref qtr, .ref qtm, .ref qtt, .ref qts], zzI cy qtw 8 (T_wo tA), zzI cy qtn 8 (T_ne tA), zzI cy qtg 8 (T_go tA), zzI cy qta 8 (T_ag tA), zzI cy qtr 8 (T_re tA), zzI cy qtm 8 (T_me tA), zzI cy qtt 8 (T_te tA), zzI cy qts 64 (shF (T_kn tA)), zzO qp 0 [.ref qu, .ref qv, .int ((srG ((fH k_28) - 10) (fA k_28) k_4 tA iL 0).2.1), .int iBs], zzO qu 3 [.int (nI (T_nb ((srG ((fH k_28) - 10) (fA k_28) k_4 tA iL 0).1))), .int (nI (T_np ((srG ((fH k_28) - 10) (fA k_28) k_4 tA iL 0).1))), .int (wb (T_wh ((srG ((fH k_28) - 10) (fA k_28) k_4 tA iL 0).1))), .int (wb (T_gn ((srG ((fH k_28) - 10) (fA k_28) k_4 tA iL 0).1))), .int (T_sd ((srG ((fH k_28) - 10) (fA k_28) k_4 tA iL 0).1)), .ref quw, .ref qun, .ref qug, .ref qua, .ref qur, .ref qum, .ref qut, .ref qus], zzI cy quw 8 (T_wo ((srG ((fH k_28) - 10) (fA k_28) k_4 tA iL 0).1)), zzI cy qun 8 (T_ne ((srG ((fH k_28) - 10) (fA k_28) k_4 tA iL 0).1)), zzI cy qug 8 (T_go ((srG ((fH k_28) - 10) (fA k_28) k_4 tA iL 0).1)), zzI cy qua 8 (T_ag ((srG ((fH k_28) - 10) (fA k_28) k_4 tA iL 0).1)), zzI cy qur 8 (T_re ((srG ((fH k_28) - 10) (fA k_28) k_4 tA iL 0).1)), zzI cy qum 8 (T_me ((srG ((fH k_28) - 10) (fA k_28) k_4 tA iL 0).1)), zzI cy qut 8 (T_te ((srG ((fH k_28) - 10) (fA k_28) k_4 tA iL 0).1)), zzI cy qus 64 (shF (T_kn ((srG ((fH k_28) - 10) (fA k_28) k_4 tA iL 0).1)))]) hx hb hr hlocks rfl (hP.sub [0, 1, 2, 3, 4, 5, 6, 7, 8, 9, 10, 11, 12, 13, 14, 15, 16, 17, 18, 19, 20, 21, 22, 23] rfl) (hD.sub [0, 1, 2, 3, 4, 5, 6, 7, 8, 9, 10, 11, 12, 13, 14, 15, 16, 17, 18, 19, 20, 21, 22, 23] (by decide +kernel) rfl) hS ⟨fR, (srG ((fH k_28) - 10) (fA k_28) k_4 tA iL 0).2.1, iBs, ((srG ((fH k_28) - 10) (fA k_28) k_4 tA iL 0).1), rfl, trivial⟩ dX5_run_136
        · refine lv_tableOut (tgt := 137) hx hb dX5_run_87 h_41 (by decide) ?_
          refine lv_aload_n hx hb dX5_run_137 rfl (lv_at hl 2 rfl) ?_
          refine va_get (D := G) (ci := 4) (v := .ref qp) (C := RX5) (T := TX5) (N := 9) hx hb hts iX_X5 hown hK hP 0 rfl rfl 2 (by decide) (hts _ m_t176) (fun _ h9 => h9) rfl dX5_run_138 ?_
          refine va_getN (D := G) (ci := 0) (v := .ref qu) (C := RX0) (T := TX0) (N := 4) hx hb hts iX_X0 hown hK hP 14 rfl rfl 0 (by decide) (va_Nw.use rfl (hN.2.1 (RX5, 261, "EachBookOnce$Plans", "trial", "LEachBookOnce$Town;") (List.mem_of_getElem? (i := 23) rfl))) (fun _ h9 => h9) rfl dX5_run_141 ?_
          refine kRi (rV (As := []) (rest := []) (b := qu) ⟨hx, hb, hml, hown, hts⟩ (c_X4_setThere l G cy qu ((srG ((fH k_28) - 10) (fA k_28) k_4 tA iL 0).1) quw qun qug qua qur qum qut qus (by first | omega | (simp only [nb_sr, np_sr, nb_wr, np_wr, nb_rd, np_rd, nb_ch, np_ch, nb_zr, np_zr, nb_za, np_za, nb_ey, np_ey, nb_hf, np_hf, nb_dd, np_dd, nb_so, np_so, nb_skn, np_skn, nb_swh, np_swh, nb_sgn, np_sgn, nb_ssd, np_ssd, nb_sgo, np_sgo, nb_sag, np_sag]; omega))) L_X5_269 (preRV (q := (RX4, TX4, 13)) hN hP [15] rfl 15 3 rfl rfl) rfl ⟨Nat.le_of_ble_eq_true rfl, Nat.le_of_ble_eq_true rfl⟩ hl.1 (Nat.le_of_ble_eq_true rfl) dX5_run_144 ⟨Nat.le_of_ble_eq_true rfl, Nat.le_of_ble_eq_true rfl⟩) (fun r_44 h_45 => ?_)
          subst h_45
          refine kRi (rS (As := [.int (zthere ((srG ((fH k_28) - 10) (fA k_28) k_4 tA iL 0).1))]) (rest := []) ⟨hx, hb, hml, hown, hts⟩ (c_J6_bitCount l G cy (zthere ((srG ((fH k_28) - 10) (fA k_28) k_4 tA iL 0).1))) L_X5_264 (preRS hN hP [] rfl) rfl ⟨Nat.le_of_ble_eq_true rfl, Nat.le_of_ble_eq_true rfl⟩ hl.1 (Nat.le_of_ble_eq_true rfl) dX5_run_147 ⟨Nat.le_of_ble_eq_true rfl, Nat.le_of_ble_eq_true rfl⟩) (fun r_46 h_47 => ?_)
          subst h_47
          exact endW (u := [zzO qx 4 [.ref qt, .ref qk, .ref qp, .ref qs, .ref qa, .ref qr, .int iKp, .int iYe, .int iTv], zzI cy qr 5 fR, zzO qs 1 [.ref qsh, .ref qss, .ref qsa, .ref qse], zzI cy qsh 8 fH, zzI cy qsa 8 fA, zzO qt 3 [.int (nI (T_nb tA)), .int (nI (T_np tA)), .int (wb (T_wh tA)), .int (wb (T_gn tA)), .int (T_sd tA), .ref qtw, .ref qtn, .ref qtg, .ref qta, .ref qtr, .ref qtm, .ref qtt, .ref qts], zzI cy qtw 8 (T_wo tA), zzI cy qtn 8 (T_ne tA), zzI cy qtg 8 (T_go tA), zzI cy qta 8 (T_ag tA), zzI cy qtr 8 (T_re tA), zzI cy qtm 8 (T_me tA), zzI cy qtt 8 (T_te tA), zzI cy qts 64 (shF (T_kn tA)), zzO qp 0 [.ref qu, .ref qv, .int ((srG ((fH k_28) - 10) (fA k_28) k_4 tA iL 0).2.1), .int iBs], zzO qu 3 [.int (nI (T_nb ((srG ((fH k_28) - 10) (fA k_28) k_4 tA iL 0).1))), .int (nI (T_np ((srG ((fH k_28) - 10) (fA k_28) k_4 tA iL 0).1))), .int (wb (T_wh ((srG ((fH k_28) - 10) (fA k_28) k_4 tA iL 0).1))), .int (wb (T_gn ((srG ((fH k_28) - 10) (fA k_28) k_4 tA iL 0).1))), .int (T_sd ((srG ((fH k_28) - 10) (fA k_28) k_4 tA iL 0).1)), .ref quw, .ref qun, .ref qug, .ref qua, .ref qur, .ref qum, .ref qut, .ref qus], zzI cy quw 8 (T_wo ((srG ((fH k_28) - 10) (fA k_28) k_4 tA iL 0).1)), zzI cy qun 8 (T_ne ((srG ((fH k_28) - 10) (fA k_28) k_4 tA iL 0).1)), zzI cy qug 8 (T_go ((srG ((fH k_28) - 10) (fA k_28) k_4 tA iL 0).1)), zzI cy qua 8 (T_ag ((srG ((fH k_28) - 10) (fA k_28) k_4 tA iL 0).1)), zzI cy qur 8 (T_re ((srG ((fH k_28) - 10) (fA k_28) k_4 tA iL 0).1)), zzI cy qum 8 (T_me ((srG ((fH k_28) - 10) (fA k_28) k_4 tA iL 0).1)), zzI cy qut 8 (T_te ((srG ((fH k_28) - 10) (fA k_28) k_4 tA iL 0).1)), zzI cy qus 64 (shF (T_kn ((srG ((fH k_28) - 10) (fA k_28) k_4 tA iL 0).1)))]) hx hb hr hlocks rfl (hP.sub [0, 1, 2, 3, 4, 5, 6, 7, 8, 9, 10, 11, 12, 13, 14, 15, 16, 17, 18, 19, 20, 21, 22, 23] rfl) (hD.sub [0, 1, 2, 3, 4, 5, 6, 7, 8, 9, 10, 11, 12, 13, 14, 15, 16, 17, 18, 19, 20, 21, 22, 23] (by decide +kernel) rfl) hS ⟨fR, (srG ((fH k_28) - 10) (fA k_28) k_4 tA iL 0).2.1, iBs, ((srG ((fH k_28) - 10) (fA k_28) k_4 tA iL 0).1), rfl, trivial⟩ dX5_run_150
      · obtain ⟨k_48, hk_49, rfl, h_50, h_51⟩ := h_14
        refine lv_goto (tgt := 34) hx hb dX5_run_29 (by decide) ?_
        refine lv_istore (lv' := [(4, .int (-4)), (0, .ref qx), (1, .int (nI k_48)), (2, .int (nI k_4)), (3, .int iC)]) hx hb dX5_run_34 hl (by decide) rfl (fun ls => ?_)
        clear hl
        intro hl
        refine lv_iload hx hb dX5_run_36 (lv_at hl 0 rfl) ?_
        refine lv_if_eq (tgt := 48) hx hb dX5_run_38 (by decide) (fun h9 => absurd h9 (by decide)) (fun _ => ?_)
        refine lv_aload_n hx hb dX5_run_41 rfl (lv_at hl 1 rfl) ?_
        refine lv_iload hx hb dX5_run_42 (lv_at hl 0 rfl) ?_
        refine cVi (As := [.int (-4)]) (rest := []) (b := qx) (q := (RX5, TX5, 9)) ⟨hx, hb, hml, hown, hts⟩ (c_X5_refuse4 l G cy (s.heap).size qx qt qk qp qs qa qr iKp iYe iTv fR) L_X5_56 hN hP hD hS hA [0, 1] [false, false, true, true, true, true, true, true, true, true, true, true, true, true, true, true, true, true, true, true, true, true, true, true] rfl (by decide +kernel) rfl 0 4 rfl rfl rfl ⟨Nat.le_of_ble_eq_true rfl, Nat.le_of_ble_eq_true rfl⟩ hl.1 (Nat.le_of_ble_eq_true rfl) dX5_run_44 ⟨Nat.le_of_ble_eq_true rfl, Nat.le_of_ble_eq_true rfl⟩ (fun r_53 u_55 H locs h_54 => ?_)
        clear hP hD hS
        intro hP hD hS
        obtain ⟨fX_56, rfl, h_54⟩ := h_54
        have hPD := pd_as [zzO qs 1 [.ref qsh, .ref qss, .ref qsa, .ref qse], zzI cy qsh 8 fH, zzI cy qsa 8 fA, zzO qt 3 [.int (nI (T_nb tA)), .int (nI (T_np tA)), .int (wb (T_wh tA)), .int (wb (T_gn tA)), .int (T_sd tA), .ref qtw, .ref qtn, .ref qtg, .ref qta, .ref qtr, .ref qtm, .ref qtt, .ref qts], zzI cy qtw 8 (T_wo tA), zzI cy qtn 8 (T_ne tA), zzI cy qtg 8 (T_go tA), zzI cy qta 8 (T_ag tA), zzI cy qtr 8 (T_re tA), zzI cy qtm 8 (T_me tA), zzI cy qtt 8 (T_te tA), zzI cy qts 64 (shF (T_kn tA)), zzO qp 0 [.ref qu, .ref qv, .int iL, .int iBs], zzO qu 3 [.int (nI (T_nb tU)), .int (nI (T_np tU)), .int (wb (T_wh tU)), .int (wb (T_gn tU)), .int (T_sd tU), .ref quw, .ref qun, .ref qug, .ref qua, .ref qur, .ref qum, .ref qut, .ref qus], zzI cy quw 8 (T_wo tU), zzI cy qun 8 (T_ne tU), zzI cy qug 8 (T_go tU), zzI cy qua 8 (T_ag tU), zzI cy qur 8 (T_re tU), zzI cy qum 8 (T_me tU), zzI cy qut 8 (T_te tU), zzI cy qus 64 (shF (T_kn tU)), zzO qx 4 [.ref qt, .ref qk, .ref qp, .ref qs, .ref qa, .ref qr, .int iKp, .int iYe, .int iTv], zzI cy qr 5 fX_56] hP hD rfl
        clear hP hD
        obtain ⟨hP, hD⟩ := hPD
        subst h_54
        exact endW (u := [zzO qx 4 [.ref qt, .ref qk, .ref qp, .ref qs, .ref qa, .ref qr, .int iKp, .int iYe, .int iTv], zzI cy qr 5 fX_56, zzO qs 1 [.ref qsh, .ref qss, .ref qsa, .ref qse], zzI cy qsh 8 fH, zzI cy qsa 8 fA, zzO qt 3 [.int (nI (T_nb tA)), .int (nI (T_np tA)), .int (wb (T_wh tA)), .int (wb (T_gn tA)), .int (T_sd tA), .ref qtw, .ref qtn, .ref qtg, .ref qta, .ref qtr, .ref qtm, .ref qtt, .ref qts], zzI cy qtw 8 (T_wo tA), zzI cy qtn 8 (T_ne tA), zzI cy qtg 8 (T_go tA), zzI cy qta 8 (T_ag tA), zzI cy qtr 8 (T_re tA), zzI cy qtm 8 (T_me tA), zzI cy qtt 8 (T_te tA), zzI cy qts 64 (shF (T_kn tA)), zzO qp 0 [.ref qu, .ref qv, .int iL, .int iBs], zzO qu 3 [.int (nI (T_nb tU)), .int (nI (T_np tU)), .int (wb (T_wh tU)), .int (wb (T_gn tU)), .int (T_sd tU), .ref quw, .ref qun, .ref qug, .ref qua, .ref qur, .ref qum, .ref qut, .ref qus], zzI cy quw 8 (T_wo tU), zzI cy qun 8 (T_ne tU), zzI cy qug 8 (T_go tU), zzI cy qua 8 (T_ag tU), zzI cy qur 8 (T_re tU), zzI cy qum 8 (T_me tU), zzI cy qut 8 (T_te tU), zzI cy qus 64 (shF (T_kn tU))]) hx hb hr hlocks rfl (hP.sub [22, 23, 0, 1, 2, 3, 4, 5, 6, 7, 8, 9, 10, 11, 12, 13, 14, 15, 16, 17, 18, 19, 20, 21] rfl) (hD.sub [22, 23, 0, 1, 2, 3, 4, 5, 6, 7, 8, 9, 10, 11, 12, 13, 14, 15, 16, 17, 18, 19, 20, 21] (by decide +kernel) rfl) hS ⟨fX_56, iL, iBs, tU, rfl, trivial⟩ dX5_run_47
    · refine lv_if_eq (tgt := 32) hx hb dX5_run_21 (by decide) (fun _ => ?_) (fun h9 => absurd (by decide) h9)
      refine lv_bipush (v := (-2)) hx hb dX5_run_32 (by decide) ?_
      refine lv_istore (lv' := [(4, .int (-2)), (0, .ref qx), (1, .int iA), (2, .int (nI k_4)), (3, .int iC)]) hx hb dX5_run_34 hl (by decide) rfl (fun ls => ?_)
      clear hl
      intro hl
      refine lv_iload hx hb dX5_run_36 (lv_at hl 0 rfl) ?_
      refine lv_if_eq (tgt := 48) hx hb dX5_run_38 (by decide) (fun h9 => absurd h9 (by decide)) (fun _ => ?_)
      refine lv_aload_n hx hb dX5_run_41 rfl (lv_at hl 1 rfl) ?_
      refine lv_iload hx hb dX5_run_42 (lv_at hl 0 rfl) ?_
      refine cVi (As := [.int (-2)]) (rest := []) (b := qx) (q := (RX5, TX5, 9)) ⟨hx, hb, hml, hown, hts⟩ (c_X5_refuse2 l G cy (s.heap).size qx qt qk qp qs qa qr iKp iYe iTv fR) L_X5_56 hN hP hD hS hA [0, 1] [false, false, true, true, true, true, true, true, true, true, true, true, true, true, true, true, true, true, true, true, true, true, true, true] rfl (by decide +kernel) rfl 0 4 rfl rfl rfl ⟨Nat.le_of_ble_eq_true rfl, Nat.le_of_ble_eq_true rfl⟩ hl.1 (Nat.le_of_ble_eq_true rfl) dX5_run_44 ⟨Nat.le_of_ble_eq_true rfl, Nat.le_of_ble_eq_true rfl⟩ (fun r_59 u_61 H locs h_60 => ?_)
      clear hP hD hS
      intro hP hD hS
      obtain ⟨fX_62, rfl, h_60⟩ := h_60
      have hPD := pd_as [zzO qs 1 [.ref qsh, .ref qss, .ref qsa, .ref qse], zzI cy qsh 8 fH, zzI cy qsa 8 fA, zzO qt 3 [.int (nI (T_nb tA)), .int (nI (T_np tA)), .int (wb (T_wh tA)), .int (wb (T_gn tA)), .int (T_sd tA), .ref qtw, .ref qtn, .ref qtg, .ref qta, .ref qtr, .ref qtm, .ref qtt, .ref qts], zzI cy qtw 8 (T_wo tA), zzI cy qtn 8 (T_ne tA), zzI cy qtg 8 (T_go tA), zzI cy qta 8 (T_ag tA), zzI cy qtr 8 (T_re tA), zzI cy qtm 8 (T_me tA), zzI cy qtt 8 (T_te tA), zzI cy qts 64 (shF (T_kn tA)), zzO qp 0 [.ref qu, .ref qv, .int iL, .int iBs], zzO qu 3 [.int (nI (T_nb tU)), .int (nI (T_np tU)), .int (wb (T_wh tU)), .int (wb (T_gn tU)), .int (T_sd tU), .ref quw, .ref qun, .ref qug, .ref qua, .ref qur, .ref qum, .ref qut, .ref qus], zzI cy quw 8 (T_wo tU), zzI cy qun 8 (T_ne tU), zzI cy qug 8 (T_go tU), zzI cy qua 8 (T_ag tU), zzI cy qur 8 (T_re tU), zzI cy qum 8 (T_me tU), zzI cy qut 8 (T_te tU), zzI cy qus 64 (shF (T_kn tU)), zzO qx 4 [.ref qt, .ref qk, .ref qp, .ref qs, .ref qa, .ref qr, .int iKp, .int iYe, .int iTv], zzI cy qr 5 fX_62] hP hD rfl
      clear hP hD
      obtain ⟨hP, hD⟩ := hPD
      subst h_60
      exact endW (u := [zzO qx 4 [.ref qt, .ref qk, .ref qp, .ref qs, .ref qa, .ref qr, .int iKp, .int iYe, .int iTv], zzI cy qr 5 fX_62, zzO qs 1 [.ref qsh, .ref qss, .ref qsa, .ref qse], zzI cy qsh 8 fH, zzI cy qsa 8 fA, zzO qt 3 [.int (nI (T_nb tA)), .int (nI (T_np tA)), .int (wb (T_wh tA)), .int (wb (T_gn tA)), .int (T_sd tA), .ref qtw, .ref qtn, .ref qtg, .ref qta, .ref qtr, .ref qtm, .ref qtt, .ref qts], zzI cy qtw 8 (T_wo tA), zzI cy qtn 8 (T_ne tA), zzI cy qtg 8 (T_go tA), zzI cy qta 8 (T_ag tA), zzI cy qtr 8 (T_re tA), zzI cy qtm 8 (T_me tA), zzI cy qtt 8 (T_te tA), zzI cy qts 64 (shF (T_kn tA)), zzO qp 0 [.ref qu, .ref qv, .int iL, .int iBs], zzO qu 3 [.int (nI (T_nb tU)), .int (nI (T_np tU)), .int (wb (T_wh tU)), .int (wb (T_gn tU)), .int (T_sd tU), .ref quw, .ref qun, .ref qug, .ref qua, .ref qur, .ref qum, .ref qut, .ref qus], zzI cy quw 8 (T_wo tU), zzI cy qun 8 (T_ne tU), zzI cy qug 8 (T_go tU), zzI cy qua 8 (T_ag tU), zzI cy qur 8 (T_re tU), zzI cy qum 8 (T_me tU), zzI cy qut 8 (T_te tU), zzI cy qus 64 (shF (T_kn tU))]) hx hb hr hlocks rfl (hP.sub [22, 23, 0, 1, 2, 3, 4, 5, 6, 7, 8, 9, 10, 11, 12, 13, 14, 15, 16, 17, 18, 19, 20, 21] rfl) (hD.sub [22, 23, 0, 1, 2, 3, 4, 5, 6, 7, 8, 9, 10, 11, 12, 13, 14, 15, 16, 17, 18, 19, 20, 21] (by decide +kernel) rfl) hS ⟨fX_62, iL, iBs, tU, rfl, trivial⟩ dX5_run_47
  · refine lv_if_eq (tgt := 32) hx hb dX5_run_9 (by decide) (fun _ => ?_) (fun h9 => absurd (by decide) h9)
    refine lv_bipush (v := (-2)) hx hb dX5_run_32 (by decide) ?_
    refine lv_istore (lv' := [(4, .int (-2)), (0, .ref qx), (1, .int iA), (2, .int iB), (3, .int iC)]) hx hb dX5_run_34 hl (by decide) rfl (fun ls => ?_)
    clear hl
    intro hl
    refine lv_iload hx hb dX5_run_36 (lv_at hl 0 rfl) ?_
    refine lv_if_eq (tgt := 48) hx hb dX5_run_38 (by decide) (fun h9 => absurd h9 (by decide)) (fun _ => ?_)
    refine lv_aload_n hx hb dX5_run_41 rfl (lv_at hl 1 rfl) ?_
    refine lv_iload hx hb dX5_run_42 (lv_at hl 0 rfl) ?_
    refine cVi (As := [.int (-2)]) (rest := []) (b := qx) (q := (RX5, TX5, 9)) ⟨hx, hb, hml, hown, hts⟩ (c_X5_refuse2 l G cy (s.heap).size qx qt qk qp qs qa qr iKp iYe iTv fR) L_X5_56 hN hP hD hS hA [0, 1] [false, false, true, true, true, true, true, true, true, true, true, true, true, true, true, true, true, true, true, true, true, true, true, true] rfl (by decide +kernel) rfl 0 4 rfl rfl rfl ⟨Nat.le_of_ble_eq_true rfl, Nat.le_of_ble_eq_true rfl⟩ hl.1 (Nat.le_of_ble_eq_true rfl) dX5_run_44 ⟨Nat.le_of_ble_eq_true rfl, Nat.le_of_ble_eq_true rfl⟩ (fun r_65 u_67 H locs h_66 => ?_)
    clear hP hD hS
    intro hP hD hS
    obtain ⟨fX_68, rfl, h_66⟩ := h_66
    have hPD := pd_as [zzO qs 1 [.ref qsh, .ref qss, .ref qsa, .ref qse], zzI cy qsh 8 fH, zzI cy qsa 8 fA, zzO qt 3 [.int (nI (T_nb tA)), .int (nI (T_np tA)), .int (wb (T_wh tA)), .int (wb (T_gn tA)), .int (T_sd tA), .ref qtw, .ref qtn, .ref qtg, .ref qta, .ref qtr, .ref qtm, .ref qtt, .ref qts], zzI cy qtw 8 (T_wo tA), zzI cy qtn 8 (T_ne tA), zzI cy qtg 8 (T_go tA), zzI cy qta 8 (T_ag tA), zzI cy qtr 8 (T_re tA), zzI cy qtm 8 (T_me tA), zzI cy qtt 8 (T_te tA), zzI cy qts 64 (shF (T_kn tA)), zzO qp 0 [.ref qu, .ref qv, .int iL, .int iBs], zzO qu 3 [.int (nI (T_nb tU)), .int (nI (T_np tU)), .int (wb (T_wh tU)), .int (wb (T_gn tU)), .int (T_sd tU), .ref quw, .ref qun, .ref qug, .ref qua, .ref qur, .ref qum, .ref qut, .ref qus], zzI cy quw 8 (T_wo tU), zzI cy qun 8 (T_ne tU), zzI cy qug 8 (T_go tU), zzI cy qua 8 (T_ag tU), zzI cy qur 8 (T_re tU), zzI cy qum 8 (T_me tU), zzI cy qut 8 (T_te tU), zzI cy qus 64 (shF (T_kn tU)), zzO qx 4 [.ref qt, .ref qk, .ref qp, .ref qs, .ref qa, .ref qr, .int iKp, .int iYe, .int iTv], zzI cy qr 5 fX_68] hP hD rfl
    clear hP hD
    obtain ⟨hP, hD⟩ := hPD
    subst h_66
    exact endW (u := [zzO qx 4 [.ref qt, .ref qk, .ref qp, .ref qs, .ref qa, .ref qr, .int iKp, .int iYe, .int iTv], zzI cy qr 5 fX_68, zzO qs 1 [.ref qsh, .ref qss, .ref qsa, .ref qse], zzI cy qsh 8 fH, zzI cy qsa 8 fA, zzO qt 3 [.int (nI (T_nb tA)), .int (nI (T_np tA)), .int (wb (T_wh tA)), .int (wb (T_gn tA)), .int (T_sd tA), .ref qtw, .ref qtn, .ref qtg, .ref qta, .ref qtr, .ref qtm, .ref qtt, .ref qts], zzI cy qtw 8 (T_wo tA), zzI cy qtn 8 (T_ne tA), zzI cy qtg 8 (T_go tA), zzI cy qta 8 (T_ag tA), zzI cy qtr 8 (T_re tA), zzI cy qtm 8 (T_me tA), zzI cy qtt 8 (T_te tA), zzI cy qts 64 (shF (T_kn tA)), zzO qp 0 [.ref qu, .ref qv, .int iL, .int iBs], zzO qu 3 [.int (nI (T_nb tU)), .int (nI (T_np tU)), .int (wb (T_wh tU)), .int (wb (T_gn tU)), .int (T_sd tU), .ref quw, .ref qun, .ref qug, .ref qua, .ref qur, .ref qum, .ref qut, .ref qus], zzI cy quw 8 (T_wo tU), zzI cy qun 8 (T_ne tU), zzI cy qug 8 (T_go tU), zzI cy qua 8 (T_ag tU), zzI cy qur 8 (T_re tU), zzI cy qum 8 (T_me tU), zzI cy qut 8 (T_te tU), zzI cy qus 64 (shF (T_kn tU))]) hx hb hr hlocks rfl (hP.sub [22, 23, 0, 1, 2, 3, 4, 5, 6, 7, 8, 9, 10, 11, 12, 13, 14, 15, 16, 17, 18, 19, 20, 21] rfl) (hD.sub [22, 23, 0, 1, 2, 3, 4, 5, 6, 7, 8, 9, 10, 11, 12, 13, 14, 15, 16, 17, 18, 19, 20, 21] (by decide +kernel) rfl) hS ⟨fX_68, iL, iBs, tU, rfl, trivial⟩ dX5_run_47
set_option maxHeartbeats 4000000 in
set_option maxRecDepth 100000 in
theorem p_X5_head (l : Launch) (G : va_G) (cy : Nat → ClassId) (sz : Nat) (qx : Nat) (qt : Nat) (qk : Nat) (qp : Nat) (qs : Nat) (qa : Nat) (qr : Nat) (iKp : Int32) (iYe : Int32) (iTv : Int32) (fR : Nat → Int32) (qsh : Nat) (qss : Nat) (qsa : Nat) (qse : Nat) (fH : Nat → Int32) (fA : Nat → Int32) (tA : TA) (qtw : Nat) (qtn : Nat) (qtg : Nat) (qta : Nat) (qtr : Nat) (qtm : Nat) (qtt : Nat) (qts : Nat) (qu : Nat) (qv : Nat) (iL : Int32) (iBs : Int32) (tU : TA) (quw : Nat) (qun : Nat) (qug : Nat) (qua : Nat) (qur : Nat) (qum : Nat) (qut : Nat) (qus : Nat) (iA : Int32)  (hB : T_nb tA ≤ 8) (hPp : T_np tA ≤ 8) : MW l yX5_head cX5_head 6 (some .int) 12 0 0 G cy [zzO qx 4 [.ref qt, .ref qk, .ref qp, .ref qs, .ref qa, .ref qr, .int iKp, .int iYe, .int iTv], zzI cy qr 5 fR, zzO qs 1 [.ref qsh, .ref qss, .ref qsa, .ref qse], zzI cy qsh 8 fH, zzI cy qsa 8 fA, zzO qt 3 [.int (nI (T_nb tA)), .int (nI (T_np tA)), .int (wb (T_wh tA)), .int (wb (T_gn tA)), .int (T_sd tA), .ref qtw, .ref qtn, .ref qtg, .ref qta, .ref qtr, .ref qtm, .ref qtt, .ref qts], zzI cy qtw 8 (T_wo tA), zzI cy qtn 8 (T_ne tA), zzI cy qtg 8 (T_go tA), zzI cy qta 8 (T_ag tA), zzI cy qtr 8 (T_re tA), zzI cy qtm 8 (T_me tA), zzI cy qtt 8 (T_te tA), zzI cy qts 64 (shF (T_kn tA)), zzO qp 0 [.ref qu, .ref qv, .int iL, .int iBs], zzO qu 3 [.int (nI (T_nb tU)), .int (nI (T_np tU)), .int (wb (T_wh tU)), .int (wb (T_gn tU)), .int (T_sd tU), .ref quw, .ref qun, .ref qug, .ref qua, .ref qur, .ref qum, .ref qut, .ref qus], zzI cy quw 8 (T_wo tU), zzI cy qun 8 (T_ne tU), zzI cy qug 8 (T_go tU), zzI cy qua 8 (T_ag tU), zzI cy qur 8 (T_re tU), zzI cy qum 8 (T_me tU), zzI cy qut 8 (T_te tU), zzI cy qus 64 (shF (T_kn tU))] sz [.ref qx, .int iA] (Wi G (fun r u => ∃ (fX : Nat → Int32) (iX : Int32) (iY : Int32) (tX : TA), u = [zzO qx 4 [.ref qt, .ref qk, .ref qp, .ref qs, .ref qa, .ref qr, .int iKp, .int iYe, .int iTv], zzI cy qr 5 fX, zzO qs 1 [.ref qsh, .ref qss, .ref qsa, .ref qse], zzI cy qsh 8 fH, zzI cy qsa 8 fA, zzO qt 3 [.int (nI (T_nb tA)), .int (nI (T_np tA)), .int (wb (T_wh tA)), .int (wb (T_gn tA)), .int (T_sd tA), .ref qtw, .ref qtn, .ref qtg, .ref qta, .ref qtr, .ref qtm, .ref qtt, .ref qts], zzI cy qtw 8 (T_wo tA), zzI cy qtn 8 (T_ne tA), zzI cy qtg 8 (T_go tA), zzI cy qta 8 (T_ag tA), zzI cy qtr 8 (T_re tA), zzI cy qtm 8 (T_me tA), zzI cy qtt 8 (T_te tA), zzI cy qts 64 (shF (T_kn tA)), zzO qp 0 [.ref qu, .ref qv, .int iX, .int iY], zzO qu 3 [.int (nI (T_nb tX)), .int (nI (T_np tX)), .int (wb (T_wh tX)), .int (wb (T_gn tX)), .int (T_sd tX), .ref quw, .ref qun, .ref qug, .ref qua, .ref qur, .ref qum, .ref qut, .ref qus], zzI cy quw 8 (T_wo tX), zzI cy qun 8 (T_ne tX), zzI cy qug 8 (T_go tX), zzI cy qua 8 (T_ag tX), zzI cy qur 8 (T_re tX), zzI cy qum 8 (T_me tX), zzI cy qut 8 (T_te tX), zzI cy qus 64 (shF (T_kn tX))] ∧ (True))) := by
  refine enW RX5 (by decide) rfl (Nat.le_of_ble_eq_true rfl) (fun p e s m below meth c ls A hx hb hml hown hts hr hlocks hP hN hl hin hD hA hS => ?_)
  have hin : meth.name = _ := hin
  have hK := hN.1
  replace hl : lv_has ls 6 [(0, .ref qx), (1, .int iA)] := hl
  refine lv_iload_n hx hb dX5_head_0 rfl (lv_at hl 1 rfl) ?_
  refine lv_i2l (v := iA.toInt64) hx hb dX5_head_1 rfl ?_
  refine lv_lconst (v := 1) hx hb dX5_head_2 (by decide) ?_
  refine lv_ldc2 hx hb hown (hts _ m_t644) dX5_head_3 ?_
  refine kRi (rS (As := [.long iA.toInt64, .long 1, .long 60]) (rest := []) ⟨hx, hb, hml, hown, hts⟩ (c_X5_within l G cy iA.toInt64 1 60) L_X5_50 (preRS hN hP [] rfl) rfl ⟨Nat.le_of_ble_eq_true rfl, Nat.le_of_ble_eq_true rfl⟩ hl.1 (Nat.le_of_ble_eq_true rfl) dX5_head_6 ⟨Nat.le_of_ble_eq_true rfl, Nat.le_of_ble_eq_true rfl⟩) (fun r_1 h_2 => ?_)
  rcases h_2 with ⟨rfl, h_3⟩ | ⟨rfl, h_3⟩
  · obtain ⟨k_4, hk_5, hk_6, rfl⟩ := iv_nI 1 60 (by decide) (by decide) h_3
    refine lv_if_ne (tgt := 19) hx hb dX5_head_9 (by decide) (fun _ => ?_) (fun h9 => absurd h9 (by decide))
    refine lv_iconst (v := (-1)) hx hb dX5_head_19 (by decide) ?_
    refine lv_istore_n (lv' := [(2, .int (-1)), (0, .ref qx), (1, .int (nI k_4))]) hx hb dX5_head_20 rfl hl (by decide) rfl (fun ls => ?_)
    clear hl
    intro hl
    refine lv_iconst (v := 0) hx hb dX5_head_21 (by decide) ?_
    refine lv_istore_n (lv' := [(3, .int 0), (2, .int (-1)), (0, .ref qx), (1, .int (nI k_4))]) hx hb dX5_head_22 rfl hl (by decide) rfl (fun ls => ?_)
    clear hl
    intro hl
    refine lv_iconst (v := 0) hx hb dX5_head_23 (by decide) ?_
    refine lv_istore (lv' := [(4, .int 0), (3, .int 0), (2, .int (-1)), (0, .ref qx), (1, .int (nI k_4))]) hx hb dX5_head_24 hl (by decide) rfl (fun ls => ?_)
    clear hl
    intro hl
    have lp_8 : ∀ (n_9 : Nat) (j_11 : Nat) (tJ_12 : TA) (xB_13 : Int32) (xM_14 : Int32) (xL_15 : Int32), 8 - j_11 < n_9 → j_11 ≤ 8 → ∀ (H : Heap) (locs : List Loc) (ls : Array Slot), va_P G CL [zzO qx 4 [.ref qt, .ref qk, .ref qp, .ref qs, .ref qa, .ref qr, .int iKp, .int iYe, .int iTv], zzI cy qr 5 fR, zzO qs 1 [.ref qsh, .ref qss, .ref qsa, .ref qse], zzI cy qsh 8 fH, zzI cy qsa 8 fA, zzO qt 3 [.int (nI (T_nb tA)), .int (nI (T_np tA)), .int (wb (T_wh tA)), .int (wb (T_gn tA)), .int (T_sd tA), .ref qtw, .ref qtn, .ref qtg, .ref qta, .ref qtr, .ref qtm, .ref qtt, .ref qts], zzI cy qtw 8 (T_wo tA), zzI cy qtn 8 (T_ne tA), zzI cy qtg 8 (T_go tA), zzI cy qta 8 (T_ag tA), zzI cy qtr 8 (T_re tA), zzI cy qtm 8 (T_me tA), zzI cy qtt 8 (T_te tA), zzI cy qts 64 (shF (T_kn tA)), zzO qp 0 [.ref qu, .ref qv, .int xL_15, .int iBs], zzO qu 3 [.int (nI (T_nb tJ_12)), .int (nI (T_np tJ_12)), .int (wb (T_wh tJ_12)), .int (wb (T_gn tJ_12)), .int (T_sd tJ_12), .ref quw, .ref qun, .ref qug, .ref qua, .ref qur, .ref qum, .ref qut, .ref qus], zzI cy quw 8 (T_wo tJ_12), zzI cy qun 8 (T_ne tJ_12), zzI cy qug 8 (T_go tJ_12), zzI cy qua 8 (T_ag tJ_12), zzI cy qur 8 (T_re tJ_12), zzI cy qum 8 (T_me tJ_12), zzI cy qut 8 (T_te tJ_12), zzI cy qus 64 (shF (T_kn tJ_12))] H → va_D A [zzO qx 4 [.ref qt, .ref qk, .ref qp, .ref qs, .ref qa, .ref qr, .int iKp, .int iYe, .int iTv], zzI cy qr 5 fR, zzO qs 1 [.ref qsh, .ref qss, .ref qsa, .ref qse], zzI cy qsh 8 fH, zzI cy qsa 8 fA, zzO qt 3 [.int (nI (T_nb tA)), .int (nI (T_np tA)), .int (wb (T_wh tA)), .int (wb (T_gn tA)), .int (T_sd tA), .ref qtw, .ref qtn, .ref qtg, .ref qta, .ref qtr, .ref qtm, .ref qtt, .ref qts], zzI cy qtw 8 (T_wo tA), zzI cy qtn 8 (T_ne tA), zzI cy qtg 8 (T_go tA), zzI cy qta 8 (T_ag tA), zzI cy qtr 8 (T_re tA), zzI cy qtm 8 (T_me tA), zzI cy qtt 8 (T_te tA), zzI cy qts 64 (shF (T_kn tA)), zzO qp 0 [.ref qu, .ref qv, .int xL_15, .int iBs], zzO qu 3 [.int (nI (T_nb tJ_12)), .int (nI (T_np tJ_12)), .int (wb (T_wh tJ_12)), .int (wb (T_gn tJ_12)), .int (T_sd tJ_12), .ref quw, .ref qun, .ref qug, .ref qua, .ref qur, .ref qum, .ref qut, .ref qus], zzI cy quw 8 (T_wo tJ_12), zzI cy qun 8 (T_ne tJ_12), zzI cy qug 8 (T_go tJ_12), zzI cy qua 8 (T_ag tJ_12), zzI cy qur 8 (T_re tJ_12), zzI cy qum 8 (T_me tJ_12), zzI cy qut 8 (T_te tJ_12), zzI cy qus 64 (shF (T_kn tJ_12))] → va_S A s.heap H locs → lv_has ls 6 [(4, .int (nI j_11)), (3, .int xM_14), (2, .int xB_13), (0, .ref qx), (1, .int (nI k_4))] → W p l e (Rm 12 0 0) s m (List.toArray (α := Value) [.ref qx, .int (nI k_4)]) below meth c H locs 0 0 (MQ below ((Wi G (fun r u => ∃ (fX : Nat → Int32) (iX : Int32) (iY : Int32) (tX : TA), u = [zzO qx 4 [.ref qt, .ref qk, .ref qp, .ref qs, .ref qa, .ref qr, .int iKp, .int iYe, .int iTv], zzI cy qr 5 fX, zzO qs 1 [.ref qsh, .ref qss, .ref qsa, .ref qse], zzI cy qsh 8 fH, zzI cy qsa 8 fA, zzO qt 3 [.int (nI (T_nb tA)), .int (nI (T_np tA)), .int (wb (T_wh tA)), .int (wb (T_gn tA)), .int (T_sd tA), .ref qtw, .ref qtn, .ref qtg, .ref qta, .ref qtr, .ref qtm, .ref qtt, .ref qts], zzI cy qtw 8 (T_wo tA), zzI cy qtn 8 (T_ne tA), zzI cy qtg 8 (T_go tA), zzI cy qta 8 (T_ag tA), zzI cy qtr 8 (T_re tA), zzI cy qtm 8 (T_me tA), zzI cy qtt 8 (T_te tA), zzI cy qts 64 (shF (T_kn tA)), zzO qp 0 [.ref qu, .ref qv, .int iX, .int iY], zzO qu 3 [.int (nI (T_nb tX)), .int (nI (T_np tX)), .int (wb (T_wh tX)), .int (wb (T_gn tX)), .int (T_sd tX), .ref quw, .ref qun, .ref qug, .ref qua, .ref qur, .ref qum, .ref qut, .ref qus], zzI cy quw 8 (T_wo tX), zzI cy qun 8 (T_ne tX), zzI cy qug 8 (T_go tX), zzI cy qua 8 (T_ag tX), zzI cy qur 8 (T_re tX), zzI cy qum 8 (T_me tX), zzI cy qut 8 (T_te tX), zzI cy qus 64 (shF (T_kn tX))] ∧ (True))) A) (List.toArray (α := Value) [.ref qx, .int (nI k_4)]) s 0 0 A) (F0 m 26 ls []) := by
      intro n_9
      induction n_9 with
      | zero => intro j_11 tJ_12 xB_13 xM_14 xL_15 hm9; exact absurd hm9 (Nat.not_lt_zero _)
      | succ n_9 ih_10 =>
        intro j_11 tJ_12 xB_13 xM_14 xL_15 hm_17 hj_16 H locs ls hP hD hS hl
        refine lv_iload hx hb dX5_head_26 (lv_at hl 0 rfl) ?_
        refine lv_bipush (v := 8) hx hb dX5_head_28 (by decide) ?_
        refine lv_icmp_ge (tgt := 105) hx hb dX5_head_30 (by decide) (fun c_18 => ?_) (fun c_18 => ?_)
        · have hlt_19 : j_11 = 8 := Nat.le_antisymm (by omega) (lp_ge rfl (rfl : (8 : Int32) = nI 8) (by omega) (by omega) c_18)
          refine lv_iload_n hx hb dX5_head_105 rfl (lv_at hl 2 rfl) ?_
          refine lv_iconst (v := (-1)) hx hb dX5_head_106 (by decide) ?_
          refine lv_icmp_ne (tgt := 119) hx hb dX5_head_107 (by decide) (fun c_20 => ?_) (fun c_20 => ?_)
          · refine lv_iload_n hx hb dX5_head_119 rfl (lv_at hl 2 rfl) ?_
            exact endW (u := [zzO qx 4 [.ref qt, .ref qk, .ref qp, .ref qs, .ref qa, .ref qr, .int iKp, .int iYe, .int iTv], zzI cy qr 5 fR, zzO qs 1 [.ref qsh, .ref qss, .ref qsa, .ref qse], zzI cy qsh 8 fH, zzI cy qsa 8 fA, zzO qt 3 [.int (nI (T_nb tA)), .int (nI (T_np tA)), .int (wb (T_wh tA)), .int (wb (T_gn tA)), .int (T_sd tA), .ref qtw, .ref qtn, .ref qtg, .ref qta, .ref qtr, .ref qtm, .ref qtt, .ref qts], zzI cy qtw 8 (T_wo tA), zzI cy qtn 8 (T_ne tA), zzI cy qtg 8 (T_go tA), zzI cy qta 8 (T_ag tA), zzI cy qtr 8 (T_re tA), zzI cy qtm 8 (T_me tA), zzI cy qtt 8 (T_te tA), zzI cy qts 64 (shF (T_kn tA)), zzO qp 0 [.ref qu, .ref qv, .int xL_15, .int iBs], zzO qu 3 [.int (nI (T_nb tJ_12)), .int (nI (T_np tJ_12)), .int (wb (T_wh tJ_12)), .int (wb (T_gn tJ_12)), .int (T_sd tJ_12), .ref quw, .ref qun, .ref qug, .ref qua, .ref qur, .ref qum, .ref qut, .ref qus], zzI cy quw 8 (T_wo tJ_12), zzI cy qun 8 (T_ne tJ_12), zzI cy qug 8 (T_go tJ_12), zzI cy qua 8 (T_ag tJ_12), zzI cy qur 8 (T_re tJ_12), zzI cy qum 8 (T_me tJ_12), zzI cy qut 8 (T_te tJ_12), zzI cy qus 64 (shF (T_kn tJ_12))]) hx hb hr hlocks rfl (hP.sub [0, 1, 2, 3, 4, 5, 6, 7, 8, 9, 10, 11, 12, 13, 14, 15, 16, 17, 18, 19, 20, 21, 22, 23] rfl) (hD.sub [0, 1, 2, 3, 4, 5, 6, 7, 8, 9, 10, 11, 12, 13, 14, 15, 16, 17, 18, 19, 20, 21, 22, 23] (by decide +kernel) rfl) hS ⟨fR, xL_15, iBs, tJ_12, rfl, trivial⟩ dX5_head_120
          · refine lv_aload_n hx hb dX5_head_110 rfl (lv_at hl 3 rfl) ?_
            refine lv_bipush (v := (-5)) hx hb dX5_head_111 (by decide) ?_
            refine cVi (As := [.int (-5)]) (rest := []) (b := qx) (q := (RX5, TX5, 9)) ⟨hx, hb, hml, hown, hts⟩ (c_X5_refuse5 l G cy (H).size qx qt qk qp qs qa qr iKp iYe iTv fR) L_X5_56 hN hP hD hS hA [0, 1] [false, false, true, true, true, true, true, true, true, true, true, true, true, true, true, true, true, true, true, true, true, true, true, true] rfl (by decide +kernel) rfl 0 4 rfl rfl rfl ⟨Nat.le_of_ble_eq_true rfl, Nat.le_of_ble_eq_true rfl⟩ hl.1 (Nat.le_of_ble_eq_true rfl) dX5_head_113 ⟨Nat.le_of_ble_eq_true rfl, Nat.le_of_ble_eq_true rfl⟩ (fun r_21 u_23 H locs h_22 => ?_)
            clear hP hD hS
            intro hP hD hS
            obtain ⟨fX_24, rfl, h_22⟩ := h_22
            have hPD := pd_as [zzO qs 1 [.ref qsh, .ref qss, .ref qsa, .ref qse], zzI cy qsh 8 fH, zzI cy qsa 8 fA, zzO qt 3 [.int (nI (T_nb tA)), .int (nI (T_np tA)), .int (wb (T_wh tA)), .int (wb (T_gn tA)), .int (T_sd tA), .ref qtw, .ref qtn, .ref qtg, .ref qta, .ref qtr, .ref qtm, .ref qtt, .ref qts], zzI cy qtw 8 (T_wo tA), zzI cy qtn 8 (T_ne tA), zzI cy qtg 8 (T_go tA), zzI cy qta 8 (T_ag tA), zzI cy qtr 8 (T_re tA), zzI cy qtm 8 (T_me tA), zzI cy qtt 8 (T_te tA), zzI cy qts 64 (shF (T_kn tA)), zzO qp 0 [.ref qu, .ref qv, .int xL_15, .int iBs], zzO qu 3 [.int (nI (T_nb tJ_12)), .int (nI (T_np tJ_12)), .int (wb (T_wh tJ_12)), .int (wb (T_gn tJ_12)), .int (T_sd tJ_12), .ref quw, .ref qun, .ref qug, .ref qua, .ref qur, .ref qum, .ref qut, .ref qus], zzI cy quw 8 (T_wo tJ_12), zzI cy qun 8 (T_ne tJ_12), zzI cy qug 8 (T_go tJ_12), zzI cy qua 8 (T_ag tJ_12), zzI cy qur 8 (T_re tJ_12), zzI cy qum 8 (T_me tJ_12), zzI cy qut 8 (T_te tJ_12), zzI cy qus 64 (shF (T_kn tJ_12)), zzO qx 4 [.ref qt, .ref qk, .ref qp, .ref qs, .ref qa, .ref qr, .int iKp, .int iYe, .int iTv], zzI cy qr 5 fX_24] hP hD rfl
            clear hP hD
            obtain ⟨hP, hD⟩ := hPD
            subst h_22
            refine lv_goto (tgt := 120) hx hb dX5_head_116 (by decide) ?_
            exact endW (u := [zzO qx 4 [.ref qt, .ref qk, .ref qp, .ref qs, .ref qa, .ref qr, .int iKp, .int iYe, .int iTv], zzI cy qr 5 fX_24, zzO qs 1 [.ref qsh, .ref qss, .ref qsa, .ref qse], zzI cy qsh 8 fH, zzI cy qsa 8 fA, zzO qt 3 [.int (nI (T_nb tA)), .int (nI (T_np tA)), .int (wb (T_wh tA)), .int (wb (T_gn tA)), .int (T_sd tA), .ref qtw, .ref qtn, .ref qtg, .ref qta, .ref qtr, .ref qtm, .ref qtt, .ref qts], zzI cy qtw 8 (T_wo tA), zzI cy qtn 8 (T_ne tA), zzI cy qtg 8 (T_go tA), zzI cy qta 8 (T_ag tA), zzI cy qtr 8 (T_re tA), zzI cy qtm 8 (T_me tA), zzI cy qtt 8 (T_te tA), zzI cy qts 64 (shF (T_kn tA)), zzO qp 0 [.ref qu, .ref qv, .int xL_15, .int iBs], zzO qu 3 [.int (nI (T_nb tJ_12)), .int (nI (T_np tJ_12)), .int (wb (T_wh tJ_12)), .int (wb (T_gn tJ_12)), .int (T_sd tJ_12), .ref quw, .ref qun, .ref qug, .ref qua, .ref qur, .ref qum, .ref qut, .ref qus], zzI cy quw 8 (T_wo tJ_12), zzI cy qun 8 (T_ne tJ_12), zzI cy qug 8 (T_go tJ_12), zzI cy qua 8 (T_ag tJ_12), zzI cy qur 8 (T_re tJ_12), zzI cy qum 8 (T_me tJ_12), zzI cy qut 8 (T_te tJ_12), zzI cy qus 64 (shF (T_kn tJ_12))]) hx hb hr hlocks rfl (hP.sub [22, 23, 0, 1, 2, 3, 4, 5, 6, 7, 8, 9, 10, 11, 12, 13, 14, 15, 16, 17, 18, 19, 20, 21] rfl) (hD.sub [22, 23, 0, 1, 2, 3, 4, 5, 6, 7, 8, 9, 10, 11, 12, 13, 14, 15, 16, 17, 18, 19, 20, 21] (by decide +kernel) rfl) hS ⟨fX_24, xL_15, iBs, tJ_12, rfl, trivial⟩ dX5_head_120
        · have hlt_25 : j_11 < 8 := lp_lt rfl (rfl : (8 : Int32) = nI 8) (by omega) (by omega) c_18
          refine lv_aload_n hx hb dX5_head_33 rfl (lv_at hl 3 rfl) ?_
          refine lv_iload hx hb dX5_head_34 (lv_at hl 0 rfl) ?_
          refine kRi (rV (As := [.int (nI j_11)]) (rest := []) (b := qx) ⟨hx, hb, hml, hown, hts⟩ (c_X5_ruleFitK l G cy qx qt qk qp qs qa qr iKp iYe iTv qsh qss qsa qse fH j_11 (by first | omega | (simp only [nb_sr, np_sr, nb_wr, np_wr, nb_rd, np_rd, nb_ch, np_ch, nb_zr, np_zr, nb_za, np_za, nb_ey, np_ey, nb_hf, np_hf, nb_dd, np_dd, nb_so, np_so, nb_skn, np_skn, nb_swh, np_swh, nb_sgn, np_sgn, nb_ssd, np_ssd, nb_sgo, np_sgo, nb_sag, np_sag]; omega))) L_X5_100 (preRV (q := (RX5, TX5, 9)) hN hP [0, 2, 3] rfl 0 4 rfl rfl) rfl ⟨Nat.le_of_ble_eq_true rfl, Nat.le_of_ble_eq_true rfl⟩ hl.1 (Nat.le_of_ble_eq_true rfl) dX5_head_36 ⟨Nat.le_of_ble_eq_true rfl, Nat.le_of_ble_eq_true rfl⟩) (fun r_26 h_27 => ?_)
          rcases h_27 with ⟨rfl, h_28⟩ | ⟨rfl, h_28⟩ | ⟨rfl, h_28⟩
          · refine lv_if_ne (tgt := 99) hx hb dX5_head_39 (by decide) (fun _ => ?_) (fun h9 => absurd h9 (by decide))
            refine lv_iinc (v := nI (j_11 + 1)) (lv' := [(4, .int (nI (j_11 + 1))), (3, .int xM_14), (2, .int xB_13), (0, .ref qx), (1, .int (nI k_4))]) hx hb dX5_head_99 hl (k := 0) rfl (nI_1 _) (by decide) rfl (fun ls => ?_)
            clear hl
            intro hl
            refine lv_goto (tgt := 26) hx hb dX5_head_102 (by decide) ?_
            exact ih_10 (j_11 + 1) tJ_12 xB_13 xM_14 xL_15 (by omega) (by omega) _ _ _ hP hD hS (lv_sub hl [0, 1, 2, 3, 4] rfl)
          · refine lv_if_ne (tgt := 99) hx hb dX5_head_39 (by decide) (fun h9 => absurd (by decide) h9) (fun _ => ?_)
            refine lv_aload_n hx hb dX5_head_42 rfl (lv_at hl 3 rfl) ?_
            refine va_get (D := G) (ci := 4) (v := .ref qp) (C := RX5) (T := TX5) (N := 9) hx hb hts iX_X5 hown hK hP 0 rfl rfl 2 (by decide) (hts _ m_t176) (fun _ h9 => h9) rfl dX5_head_43 ?_
            refine lv_aload_n hx hb dX5_head_46 rfl (lv_at hl 3 rfl) ?_
            refine va_get (D := G) (ci := 4) (v := .ref qp) (C := RX5) (T := TX5) (N := 9) hx hb hts iX_X5 hown hK hP 0 rfl rfl 2 (by decide) (hts _ m_t176) (fun _ h9 => h9) rfl dX5_head_47 ?_
            refine lv_aload_n hx hb dX5_head_50 rfl (lv_at hl 3 rfl) ?_
            refine va_get (D := G) (ci := 4) (v := .ref qt) (C := RX5) (T := TX5) (N := 9) hx hb hts iX_X5 hown hK hP 0 rfl rfl 0 (by decide) (hts _ m_t174) (fun _ h9 => h9) rfl dX5_head_51 ?_
            refine cVq (As := [.ref qt]) (rest := [.ref qp]) (b := qp) (q := (RX0, TX0, 4)) ⟨hx, hb, hml, hown, hts⟩ (c_X0_trialOf l G cy (H).size qp qu (.ref qv) (.int xL_15) (.int iBs) tJ_12 quw qun qug qua qur qum qut qus qt tA qtw qtn qtg qta qtr qtm qtt qts) L_X5_115 hN hP hD hS hA [14, 15, 16, 17, 18, 19, 20, 21, 22, 23, 5, 6, 7, 8, 9, 10, 11, 12, 13] [true, true, true, true, true, false, false, false, false, false, false, false, false, false, false, false, false, false, false, false, false, false, false, false] rfl (by decide +kernel) rfl 14 0 rfl rfl rfl ⟨Nat.le_of_ble_eq_true rfl, Nat.le_of_ble_eq_true rfl⟩ hl.1 (Nat.le_of_ble_eq_true rfl) dX5_head_54 ⟨Nat.le_of_ble_eq_true rfl, Nat.le_of_ble_eq_true rfl⟩ (fun r_31 u_33 H locs h_32 => ?_)
            clear hP hD hS
            intro hP hD hS
            obtain ⟨rfl, h_32⟩ := h_32
            have hPD := pd_as [zzO qx 4 [.ref qt, .ref qk, .ref qp, .ref qs, .ref qa, .ref qr, .int iKp, .int iYe, .int iTv], zzI cy qr 5 fR, zzO qs 1 [.ref qsh, .ref qss, .ref qsa, .ref qse], zzI cy qsh 8 fH, zzI cy qsa 8 fA, zzO qp 0 [.ref qu, .ref qv, .int xL_15, .int iBs], zzO qu 3 [.int (nI (T_nb tA)), .int (nI (T_np tA)), .int (wb (T_wh tA)), .int (wb (T_gn tA)), .int (T_sd tA), .ref quw, .ref qun, .ref qug, .ref qua, .ref qur, .ref qum, .ref qut, .ref qus], zzI cy quw 8 (T_wo tA), zzI cy qun 8 (T_ne tA), zzI cy qug 8 (T_go tA), zzI cy qua 8 (T_ag tA), zzI cy qur 8 (T_re tA), zzI cy qum 8 (T_me tA), zzI cy qut 8 (T_te tA), zzI cy qus 64 (shF (T_kn tA)), zzO qt 3 [.int (nI (T_nb tA)), .int (nI (T_np tA)), .int (wb (T_wh tA)), .int (wb (T_gn tA)), .int (T_sd tA), .ref qtw, .ref qtn, .ref qtg, .ref qta, .ref qtr, .ref qtm, .ref qtt, .ref qts], zzI cy qtw 8 (T_wo tA), zzI cy qtn 8 (T_ne tA), zzI cy qtg 8 (T_go tA), zzI cy qta 8 (T_ag tA), zzI cy qtr 8 (T_re tA), zzI cy qtm 8 (T_me tA), zzI cy qtt 8 (T_te tA), zzI cy qts 64 (shF (T_kn tA))] hP hD rfl
            clear hP hD
            obtain ⟨hP, hD⟩ := hPD
            have h_32 := h_32.symm
            subst h_32
            refine lv_aload_n hx hb dX5_head_57 rfl (lv_at hl 3 rfl) ?_
            refine va_get (D := G) (ci := 4) (v := .ref qs) (C := RX5) (T := TX5) (N := 9) hx hb hts iX_X5 hown hK hP 0 rfl rfl 3 (by decide) (hts _ m_t177) (fun _ h9 => h9) rfl dX5_head_58 ?_
            refine lv_iload hx hb dX5_head_61 (lv_at hl 0 rfl) ?_
            refine kRi (rV (As := [.int (nI j_11)]) (rest := [.ref qu, .ref qp]) (b := qs) ⟨hx, hb, hml, hown, hts⟩ (c_X2_kindIn l G cy qs qsh qss qsa qse fH j_11 (by first | omega | (simp only [nb_sr, np_sr, nb_wr, np_wr, nb_rd, np_rd, nb_ch, np_ch, nb_zr, np_zr, nb_za, np_za, nb_ey, np_ey, nb_hf, np_hf, nb_dd, np_dd, nb_so, np_so, nb_skn, np_skn, nb_swh, np_swh, nb_sgn, np_sgn, nb_ssd, np_ssd, nb_sgo, np_sgo, nb_sag, np_sag]; omega))) L_X5_103 (preRV (q := (RX2, TX2, 4)) hN hP [2, 3] rfl 2 1 rfl rfl) rfl ⟨Nat.le_of_ble_eq_true rfl, Nat.le_of_ble_eq_true rfl⟩ hl.1 (Nat.le_of_ble_eq_true rfl) dX5_head_63 ⟨Nat.le_of_ble_eq_true rfl, Nat.le_of_ble_eq_true rfl⟩) (fun r_34 h_35 => ?_)
            subst h_35
            refine lv_aload_n hx hb dX5_head_66 rfl (lv_at hl 3 rfl) ?_
            refine va_get (D := G) (ci := 4) (v := .ref qs) (C := RX5) (T := TX5) (N := 9) hx hb hts iX_X5 hown hK hP 0 rfl rfl 3 (by decide) (hts _ m_t177) (fun _ h9 => h9) rfl dX5_head_67 ?_
            refine va_getN (D := G) (ci := 1) (v := .ref qsa) (C := RX2) (T := TX2) (N := 4) hx hb hts iX_X2 hown hK hP 2 rfl rfl 2 (by decide) (va_Nw.use rfl (hN.2.1 (RX5, 112, "EachBookOnce$Shelves", "amount", "[I") (List.mem_of_getElem? (i := 28) rfl))) (fun _ h9 => h9) rfl dX5_head_70 ?_
            refine lv_iload hx hb dX5_head_73 (lv_at hl 0 rfl) ?_
            refine va_iald hx hb hK hP 4 0 rfl rfl (in8 (by omega)) dX5_head_75 ?_
            refine lv_seti (v := fA j_11) (congrArg fA (cl8 (by omega))) ?_
            refine lv_iload_n hx hb dX5_head_76 rfl (lv_at hl 4 rfl) ?_
            refine cVi (As := [.ref qu, .int ((fH j_11) - 10), .int (fA j_11), .int (nI k_4)]) (rest := []) (b := qp) (q := (RX0, TX0, 4)) ⟨hx, hb, hml, hown, hts⟩ (c_X0_sumOfRun l G cy (H).size qp qu (.ref qv) xL_15 iBs tA quw qun qug qua qur qum qut qus ((fH j_11) - 10) (fA j_11) k_4 hB hPp (by first | omega | (simp only [nb_sr, np_sr, nb_wr, np_wr, nb_rd, np_rd, nb_ch, np_ch, nb_zr, np_zr, nb_za, np_za, nb_ey, np_ey, nb_hf, np_hf, nb_dd, np_dd, nb_so, np_so, nb_skn, np_skn, nb_swh, np_swh, nb_sgn, np_sgn, nb_ssd, np_ssd, nb_sgo, np_sgo, nb_sag, np_sag]; omega))) L_X5_254 hN hP hD hS hA [5, 6, 7, 8, 9, 10, 11, 12, 13, 14] [true, true, true, true, true, false, false, false, false, false, false, false, false, false, false, true, true, true, true, true, true, true, true, true] rfl (by decide +kernel) rfl 5 0 rfl rfl rfl ⟨Nat.le_of_ble_eq_true rfl, Nat.le_of_ble_eq_true rfl⟩ hl.1 (Nat.le_of_ble_eq_true rfl) dX5_head_77 ⟨Nat.le_of_ble_eq_true rfl, Nat.le_of_ble_eq_true rfl⟩ (fun r_36 u_38 H locs h_37 => ?_)
            clear hP hD hS
            intro hP hD hS
            obtain ⟨rfl, h_37⟩ := h_37
            have hPD := pd_as [zzO qx 4 [.ref qt, .ref qk, .ref qp, .ref qs, .ref qa, .ref qr, .int iKp, .int iYe, .int iTv], zzI cy qr 5 fR, zzO qs 1 [.ref qsh, .ref qss, .ref qsa, .ref qse], zzI cy qsh 8 fH, zzI cy qsa 8 fA, zzO qt 3 [.int (nI (T_nb tA)), .int (nI (T_np tA)), .int (wb (T_wh tA)), .int (wb (T_gn tA)), .int (T_sd tA), .ref qtw, .ref qtn, .ref qtg, .ref qta, .ref qtr, .ref qtm, .ref qtt, .ref qts], zzI cy qtw 8 (T_wo tA), zzI cy qtn 8 (T_ne tA), zzI cy qtg 8 (T_go tA), zzI cy qta 8 (T_ag tA), zzI cy qtr 8 (T_re tA), zzI cy qtm 8 (T_me tA), zzI cy qtt 8 (T_te tA), zzI cy qts 64 (shF (T_kn tA)), zzO qp 0 [.ref qu, .ref qv, .int ((srG ((fH j_11) - 10) (fA j_11) k_4 tA xL_15 0).2.1), .int iBs], zzO qu 3 [.int (nI (T_nb ((srG ((fH j_11) - 10) (fA j_11) k_4 tA xL_15 0).1))), .int (nI (T_np ((srG ((fH j_11) - 10) (fA j_11) k_4 tA xL_15 0).1))), .int (wb (T_wh ((srG ((fH j_11) - 10) (fA j_11) k_4 tA xL_15 0).1))), .int (wb (T_gn ((srG ((fH j_11) - 10) (fA j_11) k_4 tA xL_15 0).1))), .int (T_sd ((srG ((fH j_11) - 10) (fA j_11) k_4 tA xL_15 0).1)), .ref quw, .ref qun, .ref qug, .ref qua, .ref qur, .ref qum, .ref qut, .ref qus], zzI cy quw 8 (T_wo ((srG ((fH j_11) - 10) (fA j_11) k_4 tA xL_15 0).1)), zzI cy qun 8 (T_ne ((srG ((fH j_11) - 10) (fA j_11) k_4 tA xL_15 0).1)), zzI cy qug 8 (T_go ((srG ((fH j_11) - 10) (fA j_11) k_4 tA xL_15 0).1)), zzI cy qua 8 (T_ag ((srG ((fH j_11) - 10) (fA j_11) k_4 tA xL_15 0).1)), zzI cy qur 8 (T_re ((srG ((fH j_11) - 10) (fA j_11) k_4 tA xL_15 0).1)), zzI cy qum 8 (T_me ((srG ((fH j_11) - 10) (fA j_11) k_4 tA xL_15 0).1)), zzI cy qut 8 (T_te ((srG ((fH j_11) - 10) (fA j_11) k_4 tA xL_15 0).1)), zzI cy qus 64 (shF (T_kn ((srG ((fH j_11) - 10) (fA j_11) k_4 tA xL_15 0).1)))] hP hD rfl
            clear hP hD
            obtain ⟨hP, hD⟩ := hPD
            subst h_37
            refine lv_istore (lv' := [(5, .int ((srG ((fH j_11) - 10) (fA j_11) k_4 tA xL_15 0).2.2)), (4, .int (nI j_11)), (3, .int xM_14), (2, .int xB_13), (0, .ref qx), (1, .int (nI k_4))]) hx hb dX5_head_80 hl (by decide) rfl (fun ls => ?_)
            clear hl
            intro hl
            refine lv_iload_n hx hb dX5_head_82 rfl (lv_at hl 3 rfl) ?_
            refine lv_iconst (v := (-1)) hx hb dX5_head_83 (by decide) ?_
            refine lv_icmp_eq (tgt := 93) hx hb dX5_head_84 (by decide) (fun c_39 => ?_) (fun c_39 => ?_)
            · refine lv_iload hx hb dX5_head_93 (lv_at hl 1 rfl) ?_
              refine lv_istore_n (lv' := [(2, .int (nI j_11)), (5, .int ((srG ((fH j_11) - 10) (fA j_11) k_4 tA xL_15 0).2.2)), (4, .int (nI j_11)), (3, .int xM_14), (0, .ref qx), (1, .int (nI k_4))]) hx hb dX5_head_95 rfl hl (by decide) rfl (fun ls => ?_)
              clear hl
              intro hl
              refine lv_iload hx hb dX5_head_96 (lv_at hl 1 rfl) ?_
              refine lv_istore_n (lv' := [(3, .int ((srG ((fH j_11) - 10) (fA j_11) k_4 tA xL_15 0).2.2)), (2, .int (nI j_11)), (5, .int ((srG ((fH j_11) - 10) (fA j_11) k_4 tA xL_15 0).2.2)), (4, .int (nI j_11)), (0, .ref qx), (1, .int (nI k_4))]) hx hb dX5_head_98 rfl hl (by decide) rfl (fun ls => ?_)
              clear hl
              intro hl
              refine lv_iinc (v := nI (j_11 + 1)) (lv' := [(4, .int (nI (j_11 + 1))), (3, .int ((srG ((fH j_11) - 10) (fA j_11) k_4 tA xL_15 0).2.2)), (2, .int (nI j_11)), (5, .int ((srG ((fH j_11) - 10) (fA j_11) k_4 tA xL_15 0).2.2)), (0, .ref qx), (1, .int (nI k_4))]) hx hb dX5_head_99 hl (k := 3) rfl (nI_1 _) (by decide) rfl (fun ls => ?_)
              clear hl
              intro hl
              refine lv_goto (tgt := 26) hx hb dX5_head_102 (by decide) ?_
              exact ih_10 (j_11 + 1) ((srG ((fH j_11) - 10) (fA j_11) k_4 tA xL_15 0).1) (nI j_11) ((srG ((fH j_11) - 10) (fA j_11) k_4 tA xL_15 0).2.2) ((srG ((fH j_11) - 10) (fA j_11) k_4 tA xL_15 0).2.1) (by omega) (by omega) _ _ _ hP hD hS (lv_sub hl [0, 1, 2, 4, 5] rfl)
            · refine lv_iload hx hb dX5_head_87 (lv_at hl 0 rfl) ?_
              refine lv_iload_n hx hb dX5_head_89 rfl (lv_at hl 2 rfl) ?_
              refine lv_icmp_le (tgt := 99) hx hb dX5_head_90 (by decide) (fun c_40 => ?_) (fun c_40 => ?_)
              · refine lv_iinc (v := nI (j_11 + 1)) (lv' := [(4, .int (nI (j_11 + 1))), (5, .int ((srG ((fH j_11) - 10) (fA j_11) k_4 tA xL_15 0).2.2)), (3, .int xM_14), (2, .int xB_13), (0, .ref qx), (1, .int (nI k_4))]) hx hb dX5_head_99 hl (k := 1) rfl (nI_1 _) (by decide) rfl (fun ls => ?_)
                clear hl
                intro hl
                refine lv_goto (tgt := 26) hx hb dX5_head_102 (by decide) ?_
                exact ih_10 (j_11 + 1) ((srG ((fH j_11) - 10) (fA j_11) k_4 tA xL_15 0).1) xB_13 xM_14 ((srG ((fH j_11) - 10) (fA j_11) k_4 tA xL_15 0).2.1) (by omega) (by omega) _ _ _ hP hD hS (lv_sub hl [0, 2, 3, 4, 5] rfl)
              · refine lv_iload hx hb dX5_head_93 (lv_at hl 1 rfl) ?_
                refine lv_istore_n (lv' := [(2, .int (nI j_11)), (5, .int ((srG ((fH j_11) - 10) (fA j_11) k_4 tA xL_15 0).2.2)), (4, .int (nI j_11)), (3, .int xM_14), (0, .ref qx), (1, .int (nI k_4))]) hx hb dX5_head_95 rfl hl (by decide) rfl (fun ls => ?_)
                clear hl
                intro hl
                refine lv_iload hx hb dX5_head_96 (lv_at hl 1 rfl) ?_
                refine lv_istore_n (lv' := [(3, .int ((srG ((fH j_11) - 10) (fA j_11) k_4 tA xL_15 0).2.2)), (2, .int (nI j_11)), (5, .int ((srG ((fH j_11) - 10) (fA j_11) k_4 tA xL_15 0).2.2)), (4, .int (nI j_11)), (0, .ref qx), (1, .int (nI k_4))]) hx hb dX5_head_98 rfl hl (by decide) rfl (fun ls => ?_)
                clear hl
                intro hl
                refine lv_iinc (v := nI (j_11 + 1)) (lv' := [(4, .int (nI (j_11 + 1))), (3, .int ((srG ((fH j_11) - 10) (fA j_11) k_4 tA xL_15 0).2.2)), (2, .int (nI j_11)), (5, .int ((srG ((fH j_11) - 10) (fA j_11) k_4 tA xL_15 0).2.2)), (0, .ref qx), (1, .int (nI k_4))]) hx hb dX5_head_99 hl (k := 3) rfl (nI_1 _) (by decide) rfl (fun ls => ?_)
                clear hl
                intro hl
                refine lv_goto (tgt := 26) hx hb dX5_head_102 (by decide) ?_
                exact ih_10 (j_11 + 1) ((srG ((fH j_11) - 10) (fA j_11) k_4 tA xL_15 0).1) (nI j_11) ((srG ((fH j_11) - 10) (fA j_11) k_4 tA xL_15 0).2.2) ((srG ((fH j_11) - 10) (fA j_11) k_4 tA xL_15 0).2.1) (by omega) (by omega) _ _ _ hP hD hS (lv_sub hl [0, 1, 2, 4, 5] rfl)
          · refine lv_if_ne (tgt := 99) hx hb dX5_head_39 (by decide) (fun _ => ?_) (fun h9 => absurd h9 (by decide))
            refine lv_iinc (v := nI (j_11 + 1)) (lv' := [(4, .int (nI (j_11 + 1))), (3, .int xM_14), (2, .int xB_13), (0, .ref qx), (1, .int (nI k_4))]) hx hb dX5_head_99 hl (k := 0) rfl (nI_1 _) (by decide) rfl (fun ls => ?_)
            clear hl
            intro hl
            refine lv_goto (tgt := 26) hx hb dX5_head_102 (by decide) ?_
            exact ih_10 (j_11 + 1) tJ_12 xB_13 xM_14 xL_15 (by omega) (by omega) _ _ _ hP hD hS (lv_sub hl [0, 1, 2, 3, 4] rfl)
    exact lp_8 ((8 - 0) + 1) 0 tU (-1) 0 iL (Nat.lt_succ_self _) (Nat.zero_le _) _ _ ls hP hD hS (lv_sub hl [0, 1, 2, 3, 4] rfl)
  · refine lv_if_ne (tgt := 19) hx hb dX5_head_9 (by decide) (fun h9 => absurd (by decide) h9) (fun _ => ?_)
    refine lv_aload_n hx hb dX5_head_12 rfl (lv_at hl 0 rfl) ?_
    refine lv_bipush (v := (-2)) hx hb dX5_head_13 (by decide) ?_
    refine cVi (As := [.int (-2)]) (rest := []) (b := qx) (q := (RX5, TX5, 9)) ⟨hx, hb, hml, hown, hts⟩ (c_X5_refuse2 l G cy (s.heap).size qx qt qk qp qs qa qr iKp iYe iTv fR) L_X5_56 hN hP hD hS hA [0, 1] [false, false, true, true, true, true, true, true, true, true, true, true, true, true, true, true, true, true, true, true, true, true, true, true] rfl (by decide +kernel) rfl 0 4 rfl rfl rfl ⟨Nat.le_of_ble_eq_true rfl, Nat.le_of_ble_eq_true rfl⟩ hl.1 (Nat.le_of_ble_eq_true rfl) dX5_head_15 ⟨Nat.le_of_ble_eq_true rfl, Nat.le_of_ble_eq_true rfl⟩ (fun r_43 u_45 H locs h_44 => ?_)
    clear hP hD hS
    intro hP hD hS
    obtain ⟨fX_46, rfl, h_44⟩ := h_44
    have hPD := pd_as [zzO qs 1 [.ref qsh, .ref qss, .ref qsa, .ref qse], zzI cy qsh 8 fH, zzI cy qsa 8 fA, zzO qt 3 [.int (nI (T_nb tA)), .int (nI (T_np tA)), .int (wb (T_wh tA)), .int (wb (T_gn tA)), .int (T_sd tA), .ref qtw, .ref qtn, .ref qtg, .ref qta, .ref qtr, .ref qtm, .ref qtt, .ref qts], zzI cy qtw 8 (T_wo tA), zzI cy qtn 8 (T_ne tA), zzI cy qtg 8 (T_go tA), zzI cy qta 8 (T_ag tA), zzI cy qtr 8 (T_re tA), zzI cy qtm 8 (T_me tA), zzI cy qtt 8 (T_te tA), zzI cy qts 64 (shF (T_kn tA)), zzO qp 0 [.ref qu, .ref qv, .int iL, .int iBs], zzO qu 3 [.int (nI (T_nb tU)), .int (nI (T_np tU)), .int (wb (T_wh tU)), .int (wb (T_gn tU)), .int (T_sd tU), .ref quw, .ref qun, .ref qug, .ref qua, .ref qur, .ref qum, .ref qut, .ref qus], zzI cy quw 8 (T_wo tU), zzI cy qun 8 (T_ne tU), zzI cy qug 8 (T_go tU), zzI cy qua 8 (T_ag tU), zzI cy qur 8 (T_re tU), zzI cy qum 8 (T_me tU), zzI cy qut 8 (T_te tU), zzI cy qus 64 (shF (T_kn tU)), zzO qx 4 [.ref qt, .ref qk, .ref qp, .ref qs, .ref qa, .ref qr, .int iKp, .int iYe, .int iTv], zzI cy qr 5 fX_46] hP hD rfl
    clear hP hD
    obtain ⟨hP, hD⟩ := hPD
    subst h_44
    exact endW (u := [zzO qx 4 [.ref qt, .ref qk, .ref qp, .ref qs, .ref qa, .ref qr, .int iKp, .int iYe, .int iTv], zzI cy qr 5 fX_46, zzO qs 1 [.ref qsh, .ref qss, .ref qsa, .ref qse], zzI cy qsh 8 fH, zzI cy qsa 8 fA, zzO qt 3 [.int (nI (T_nb tA)), .int (nI (T_np tA)), .int (wb (T_wh tA)), .int (wb (T_gn tA)), .int (T_sd tA), .ref qtw, .ref qtn, .ref qtg, .ref qta, .ref qtr, .ref qtm, .ref qtt, .ref qts], zzI cy qtw 8 (T_wo tA), zzI cy qtn 8 (T_ne tA), zzI cy qtg 8 (T_go tA), zzI cy qta 8 (T_ag tA), zzI cy qtr 8 (T_re tA), zzI cy qtm 8 (T_me tA), zzI cy qtt 8 (T_te tA), zzI cy qts 64 (shF (T_kn tA)), zzO qp 0 [.ref qu, .ref qv, .int iL, .int iBs], zzO qu 3 [.int (nI (T_nb tU)), .int (nI (T_np tU)), .int (wb (T_wh tU)), .int (wb (T_gn tU)), .int (T_sd tU), .ref quw, .ref qun, .ref qug, .ref qua, .ref qur, .ref qum, .ref qut, .ref qus], zzI cy quw 8 (T_wo tU), zzI cy qun 8 (T_ne tU), zzI cy qug 8 (T_go tU), zzI cy qua 8 (T_ag tU), zzI cy qur 8 (T_re tU), zzI cy qum 8 (T_me tU), zzI cy qut 8 (T_te tU), zzI cy qus 64 (shF (T_kn tU))]) hx hb hr hlocks rfl (hP.sub [22, 23, 0, 1, 2, 3, 4, 5, 6, 7, 8, 9, 10, 11, 12, 13, 14, 15, 16, 17, 18, 19, 20, 21] rfl) (hD.sub [22, 23, 0, 1, 2, 3, 4, 5, 6, 7, 8, 9, 10, 11, 12, 13, 14, 15, 16, 17, 18, 19, 20, 21] (by decide +kernel) rfl) hS ⟨fX_46, iL, iBs, tU, rfl, trivial⟩ dX5_head_18
set_option maxHeartbeats 4000000 in
set_option maxRecDepth 100000 in
theorem p_X5_who (l : Launch) (G : va_G) (cy : Nat → ClassId) (sz : Nat) (qx : Nat) (qt : Nat) (qk : Nat) (qp : Nat) (qs : Nat) (qa : Nat) (qr : Nat) (iKp : Int32) (iYe : Int32) (iTv : Int32) (fR : Nat → Int32) (tA : TA) (qtw : Nat) (qtn : Nat) (qtg : Nat) (qta : Nat) (qtr : Nat) (qtm : Nat) (qtt : Nat) (qts : Nat) (qu : Nat) (qv : Nat) (iL : Int32) (iBs : Int32) (tU : TA) (quw : Nat) (qun : Nat) (qug : Nat) (qua : Nat) (qur : Nat) (qum : Nat) (qut : Nat) (qus : Nat) (iA : Int32) (iB : Int32)  (hB : T_nb tA ≤ 8) (hPp : T_np tA ≤ 8) : MW l yX5_who cX5_who 3 (some .int) 12 0 0 G cy [zzO qx 4 [.ref qt, .ref qk, .ref qp, .ref qs, .ref qa, .ref qr, .int iKp, .int iYe, .int iTv], zzI cy qr 5 fR, zzO qt 3 [.int (nI (T_nb tA)), .int (nI (T_np tA)), .int (wb (T_wh tA)), .int (wb (T_gn tA)), .int (T_sd tA), .ref qtw, .ref qtn, .ref qtg, .ref qta, .ref qtr, .ref qtm, .ref qtt, .ref qts], zzI cy qtw 8 (T_wo tA), zzI cy qtn 8 (T_ne tA), zzI cy qtg 8 (T_go tA), zzI cy qta 8 (T_ag tA), zzI cy qtr 8 (T_re tA), zzI cy qtm 8 (T_me tA), zzI cy qtt 8 (T_te tA), zzI cy qts 64 (shF (T_kn tA)), zzO qp 0 [.ref qu, .ref qv, .int iL, .int iBs], zzO qu 3 [.int (nI (T_nb tU)), .int (nI (T_np tU)), .int (wb (T_wh tU)), .int (wb (T_gn tU)), .int (T_sd tU), .ref quw, .ref qun, .ref qug, .ref qua, .ref qur, .ref qum, .ref qut, .ref qus], zzI cy quw 8 (T_wo tU), zzI cy qun 8 (T_ne tU), zzI cy qug 8 (T_go tU), zzI cy qua 8 (T_ag tU), zzI cy qur 8 (T_re tU), zzI cy qum 8 (T_me tU), zzI cy qut 8 (T_te tU), zzI cy qus 64 (shF (T_kn tU))] sz [.ref qx, .int iA, .int iB] (Wi G (fun r u => ∃ (fX : Nat → Int32) (iX : Int32) (iY : Int32) (tX : TA), u = [zzO qx 4 [.ref qt, .ref qk, .ref qp, .ref qs, .ref qa, .ref qr, .int iKp, .int iYe, .int iTv], zzI cy qr 5 fX, zzO qt 3 [.int (nI (T_nb tA)), .int (nI (T_np tA)), .int (wb (T_wh tA)), .int (wb (T_gn tA)), .int (T_sd tA), .ref qtw, .ref qtn, .ref qtg, .ref qta, .ref qtr, .ref qtm, .ref qtt, .ref qts], zzI cy qtw 8 (T_wo tA), zzI cy qtn 8 (T_ne tA), zzI cy qtg 8 (T_go tA), zzI cy qta 8 (T_ag tA), zzI cy qtr 8 (T_re tA), zzI cy qtm 8 (T_me tA), zzI cy qtt 8 (T_te tA), zzI cy qts 64 (shF (T_kn tA)), zzO qp 0 [.ref qu, .ref qv, .int iX, .int iY], zzO qu 3 [.int (nI (T_nb tX)), .int (nI (T_np tX)), .int (wb (T_wh tX)), .int (wb (T_gn tX)), .int (T_sd tX), .ref quw, .ref qun, .ref qug, .ref qua, .ref qur, .ref qum, .ref qut, .ref qus], zzI cy quw 8 (T_wo tX), zzI cy qun 8 (T_ne tX), zzI cy qug 8 (T_go tX), zzI cy qua 8 (T_ag tX), zzI cy qur 8 (T_re tX), zzI cy qum 8 (T_me tX), zzI cy qut 8 (T_te tX), zzI cy qus 64 (shF (T_kn tX))] ∧ (True))) := by
  refine enW RX5 (by decide) rfl (Nat.le_of_ble_eq_true rfl) (fun p e s m below meth c ls A hx hb hml hown hts hr hlocks hP hN hl hin hD hA hS => ?_)
  have hin : meth.name = _ := hin
  have hK := hN.1
  replace hl : lv_has ls 3 [(0, .ref qx), (1, .int iA), (2, .int iB)] := hl
  refine lv_aload_n hx hb dX5_who_0 rfl (lv_at hl 0 rfl) ?_
  refine va_get (D := G) (ci := 4) (v := .ref qt) (C := RX5) (T := TX5) (N := 9) hx hb hts iX_X5 hown hK hP 0 rfl rfl 0 (by decide) (hts _ m_t174) (fun _ h9 => h9) rfl dX5_who_1 ?_
  refine lv_iload_n hx hb dX5_who_4 rfl (lv_at hl 1 rfl) ?_
  refine kRi (rV (As := [.int iA]) (rest := []) (b := qt) ⟨hx, hb, hml, hown, hts⟩ (c_X4_isBook l G cy qt tA qtw qtn qtg qta qtr qtm qtt qts iA hB) L_X5_168 (preRV (q := (RX4, TX4, 13)) hN hP [2] rfl 2 3 rfl rfl) rfl ⟨Nat.le_of_ble_eq_true rfl, Nat.le_of_ble_eq_true rfl⟩ hl.1 (Nat.le_of_ble_eq_true rfl) dX5_who_5 ⟨Nat.le_of_ble_eq_true rfl, Nat.le_of_ble_eq_true rfl⟩) (fun r_1 h_2 => ?_)
  rcases h_2 with ⟨rfl, h_3⟩ | ⟨rfl, h_3⟩
  · obtain ⟨k_4, hk_5, rfl⟩ := h_3
    refine lv_if_eq (tgt := 23) hx hb dX5_who_8 (by decide) (fun h9 => absurd h9 (by decide)) (fun _ => ?_)
    refine lv_iload_n hx hb dX5_who_11 rfl (lv_at hl 2 rfl) ?_
    refine lv_i2l (v := iB.toInt64) hx hb dX5_who_12 rfl ?_
    refine lv_lconst (v := 1) hx hb dX5_who_13 (by decide) ?_
    refine lv_ldc2 hx hb hown (hts _ m_t644) dX5_who_14 ?_
    refine kRi (rS (As := [.long iB.toInt64, .long 1, .long 60]) (rest := []) ⟨hx, hb, hml, hown, hts⟩ (c_X5_within l G cy iB.toInt64 1 60) L_X5_50 (preRS hN hP [] rfl) rfl ⟨Nat.le_of_ble_eq_true rfl, Nat.le_of_ble_eq_true rfl⟩ hl.1 (Nat.le_of_ble_eq_true rfl) dX5_who_17 ⟨Nat.le_of_ble_eq_true rfl, Nat.le_of_ble_eq_true rfl⟩) (fun r_7 h_8 => ?_)
    rcases h_8 with ⟨rfl, h_9⟩ | ⟨rfl, h_9⟩
    · obtain ⟨k_10, hk_11, hk_12, rfl⟩ := iv_nI 1 60 (by decide) (by decide) h_9
      refine lv_if_ne (tgt := 30) hx hb dX5_who_20 (by decide) (fun _ => ?_) (fun h9 => absurd h9 (by decide))
      refine lv_aload_n hx hb dX5_who_30 rfl (lv_at hl 0 rfl) ?_
      refine va_get (D := G) (ci := 4) (v := .ref qt) (C := RX5) (T := TX5) (N := 9) hx hb hts iX_X5 hown hK hP 0 rfl rfl 0 (by decide) (hts _ m_t174) (fun _ h9 => h9) rfl dX5_who_31 ?_
      refine va_getN (D := G) (ci := 3) (v := .int (wb (T_wh tA))) (C := RX4) (T := TX4) (N := 13) hx hb hts iX_X4 hown hK hP 2 rfl rfl 2 (by decide) (va_Nw.use rfl (hN.2.1 (RX5, 180, "EachBookOnce$Town", "white", "I") (List.mem_of_getElem? (i := 10) rfl))) (fun _ h9 => h9) rfl dX5_who_34 ?_
      refine lv_iload_n hx hb dX5_who_37 rfl (lv_at hl 1 rfl) ?_
      refine kRi (rS (As := [.int (wb (T_wh tA)), .int (nI k_4)]) (rest := []) ⟨hx, hb, hml, hown, hts⟩ (c_X5_has l G cy (wb (T_wh tA)) k_4) L_X5_183 (preRS hN hP [] rfl) rfl ⟨Nat.le_of_ble_eq_true rfl, Nat.le_of_ble_eq_true rfl⟩ hl.1 (Nat.le_of_ble_eq_true rfl) dX5_who_38 ⟨Nat.le_of_ble_eq_true rfl, Nat.le_of_ble_eq_true rfl⟩) (fun r_14 h_15 => ?_)
      rcases h_15 with ⟨rfl, h_16⟩ | ⟨rfl, h_16⟩
      · rw [bit_wb _ (by omega)] at h_16
        refine lv_if_ne (tgt := 54) hx hb dX5_who_41 (by decide) (fun _ => ?_) (fun h9 => absurd h9 (by decide))
        refine lv_aload_n hx hb dX5_who_54 rfl (lv_at hl 0 rfl) ?_
        refine lv_bipush (v := (-5)) hx hb dX5_who_55 (by decide) ?_
        refine cVi (As := [.int (-5)]) (rest := []) (b := qx) (q := (RX5, TX5, 9)) ⟨hx, hb, hml, hown, hts⟩ (c_X5_refuse5 l G cy (s.heap).size qx qt qk qp qs qa qr iKp iYe iTv fR) L_X5_56 hN hP hD hS hA [0, 1] [false, false, true, true, true, true, true, true, true, true, true, true, true, true, true, true, true, true, true, true, true] rfl (by decide +kernel) rfl 0 4 rfl rfl rfl ⟨Nat.le_of_ble_eq_true rfl, Nat.le_of_ble_eq_true rfl⟩ hl.1 (Nat.le_of_ble_eq_true rfl) dX5_who_57 ⟨Nat.le_of_ble_eq_true rfl, Nat.le_of_ble_eq_true rfl⟩ (fun r_18 u_20 H locs h_19 => ?_)
        clear hP hD hS
        intro hP hD hS
        obtain ⟨fX_21, rfl, h_19⟩ := h_19
        have hPD := pd_as [zzO qt 3 [.int (nI (T_nb tA)), .int (nI (T_np tA)), .int (wb (T_wh tA)), .int (wb (T_gn tA)), .int (T_sd tA), .ref qtw, .ref qtn, .ref qtg, .ref qta, .ref qtr, .ref qtm, .ref qtt, .ref qts], zzI cy qtw 8 (T_wo tA), zzI cy qtn 8 (T_ne tA), zzI cy qtg 8 (T_go tA), zzI cy qta 8 (T_ag tA), zzI cy qtr 8 (T_re tA), zzI cy qtm 8 (T_me tA), zzI cy qtt 8 (T_te tA), zzI cy qts 64 (shF (T_kn tA)), zzO qp 0 [.ref qu, .ref qv, .int iL, .int iBs], zzO qu 3 [.int (nI (T_nb tU)), .int (nI (T_np tU)), .int (wb (T_wh tU)), .int (wb (T_gn tU)), .int (T_sd tU), .ref quw, .ref qun, .ref qug, .ref qua, .ref qur, .ref qum, .ref qut, .ref qus], zzI cy quw 8 (T_wo tU), zzI cy qun 8 (T_ne tU), zzI cy qug 8 (T_go tU), zzI cy qua 8 (T_ag tU), zzI cy qur 8 (T_re tU), zzI cy qum 8 (T_me tU), zzI cy qut 8 (T_te tU), zzI cy qus 64 (shF (T_kn tU)), zzO qx 4 [.ref qt, .ref qk, .ref qp, .ref qs, .ref qa, .ref qr, .int iKp, .int iYe, .int iTv], zzI cy qr 5 fX_21] hP hD rfl
        clear hP hD
        obtain ⟨hP, hD⟩ := hPD
        subst h_19
        exact endW (u := [zzO qx 4 [.ref qt, .ref qk, .ref qp, .ref qs, .ref qa, .ref qr, .int iKp, .int iYe, .int iTv], zzI cy qr 5 fX_21, zzO qt 3 [.int (nI (T_nb tA)), .int (nI (T_np tA)), .int (wb (T_wh tA)), .int (wb (T_gn tA)), .int (T_sd tA), .ref qtw, .ref qtn, .ref qtg, .ref qta, .ref qtr, .ref qtm, .ref qtt, .ref qts], zzI cy qtw 8 (T_wo tA), zzI cy qtn 8 (T_ne tA), zzI cy qtg 8 (T_go tA), zzI cy qta 8 (T_ag tA), zzI cy qtr 8 (T_re tA), zzI cy qtm 8 (T_me tA), zzI cy qtt 8 (T_te tA), zzI cy qts 64 (shF (T_kn tA)), zzO qp 0 [.ref qu, .ref qv, .int iL, .int iBs], zzO qu 3 [.int (nI (T_nb tU)), .int (nI (T_np tU)), .int (wb (T_wh tU)), .int (wb (T_gn tU)), .int (T_sd tU), .ref quw, .ref qun, .ref qug, .ref qua, .ref qur, .ref qum, .ref qut, .ref qus], zzI cy quw 8 (T_wo tU), zzI cy qun 8 (T_ne tU), zzI cy qug 8 (T_go tU), zzI cy qua 8 (T_ag tU), zzI cy qur 8 (T_re tU), zzI cy qum 8 (T_me tU), zzI cy qut 8 (T_te tU), zzI cy qus 64 (shF (T_kn tU))]) hx hb hr hlocks rfl (hP.sub [19, 20, 0, 1, 2, 3, 4, 5, 6, 7, 8, 9, 10, 11, 12, 13, 14, 15, 16, 17, 18] rfl) (hD.sub [19, 20, 0, 1, 2, 3, 4, 5, 6, 7, 8, 9, 10, 11, 12, 13, 14, 15, 16, 17, 18] (by decide +kernel) rfl) hS ⟨fX_21, iL, iBs, tU, rfl, trivial⟩ dX5_who_60
      · rw [bit_wb _ (by omega)] at h_16
        refine lv_if_ne (tgt := 54) hx hb dX5_who_41 (by decide) (fun h9 => absurd (by decide) h9) (fun _ => ?_)
        refine lv_aload_n hx hb dX5_who_44 rfl (lv_at hl 0 rfl) ?_
        refine va_get (D := G) (ci := 4) (v := .ref qt) (C := RX5) (T := TX5) (N := 9) hx hb hts iX_X5 hown hK hP 0 rfl rfl 0 (by decide) (hts _ m_t174) (fun _ h9 => h9) rfl dX5_who_45 ?_
        refine kRi (rV (As := []) (rest := []) (b := qt) ⟨hx, hb, hml, hown, hts⟩ (c_X4_setThere l G cy qt tA qtw qtn qtg qta qtr qtm qtt qts hPp) L_X5_269 (preRV (q := (RX4, TX4, 13)) hN hP [2] rfl 2 3 rfl rfl) rfl ⟨Nat.le_of_ble_eq_true rfl, Nat.le_of_ble_eq_true rfl⟩ hl.1 (Nat.le_of_ble_eq_true rfl) dX5_who_48 ⟨Nat.le_of_ble_eq_true rfl, Nat.le_of_ble_eq_true rfl⟩) (fun r_23 h_24 => ?_)
        subst h_24
        refine lv_if_ne (tgt := 61) hx hb dX5_who_51 (by decide) (fun c_25 => ?_) (fun c_25 => ?_)
        · refine lv_aload_n hx hb dX5_who_61 rfl (lv_at hl 0 rfl) ?_
          refine va_get (D := G) (ci := 4) (v := .ref qp) (C := RX5) (T := TX5) (N := 9) hx hb hts iX_X5 hown hK hP 0 rfl rfl 2 (by decide) (hts _ m_t176) (fun _ h9 => h9) rfl dX5_who_62 ?_
          refine lv_aload_n hx hb dX5_who_65 rfl (lv_at hl 0 rfl) ?_
          refine va_get (D := G) (ci := 4) (v := .ref qt) (C := RX5) (T := TX5) (N := 9) hx hb hts iX_X5 hown hK hP 0 rfl rfl 0 (by decide) (hts _ m_t174) (fun _ h9 => h9) rfl dX5_who_66 ?_
          refine lv_iload_n hx hb dX5_who_69 rfl (lv_at hl 1 rfl) ?_
          refine lv_iload_n hx hb dX5_who_70 rfl (lv_at hl 2 rfl) ?_
          refine cVi (As := [.ref qt, .int (nI k_4), .int (nI k_10)]) (rest := []) (b := qp) (q := (RX0, TX0, 4)) ⟨hx, hb, hml, hown, hts⟩ (c_X0_bestWho l G cy (s.heap).size qp qu (.ref qv) iL iBs tU quw qun qug qua qur qum qut qus qt tA qtw qtn qtg qta qtr qtm qtt qts k_4 k_10 hB hPp (by first | omega | (simp only [nb_sr, np_sr, nb_wr, np_wr, nb_rd, np_rd, nb_ch, np_ch, nb_zr, np_zr, nb_za, np_za, nb_ey, np_ey, nb_hf, np_hf, nb_dd, np_dd, nb_so, np_so, nb_skn, np_skn, nb_swh, np_swh, nb_sgn, np_sgn, nb_ssd, np_ssd, nb_sgo, np_sgo, nb_sag, np_sag]; omega)) (by first | omega | (simp only [nb_sr, np_sr, nb_wr, np_wr, nb_rd, np_rd, nb_ch, np_ch, nb_zr, np_zr, nb_za, np_za, nb_ey, np_ey, nb_hf, np_hf, nb_dd, np_dd, nb_so, np_so, nb_skn, np_skn, nb_swh, np_swh, nb_sgn, np_sgn, nb_ssd, np_ssd, nb_sgo, np_sgo, nb_sag, np_sag]; omega))) L_X5_272 hN hP hD hS hA [11, 12, 13, 14, 15, 16, 17, 18, 19, 20, 2, 3, 4, 5, 6, 7, 8, 9, 10] [true, true, false, false, false, false, false, false, false, false, false, false, false, false, false, false, false, false, false, false, false] rfl (by decide +kernel) rfl 11 0 rfl rfl rfl ⟨Nat.le_of_ble_eq_true rfl, Nat.le_of_ble_eq_true rfl⟩ hl.1 (Nat.le_of_ble_eq_true rfl) dX5_who_71 ⟨Nat.le_of_ble_eq_true rfl, Nat.le_of_ble_eq_true rfl⟩ (fun r_26 u_28 H locs h_27 => ?_)
          clear hP hD hS
          intro hP hD hS
          obtain ⟨tX_29, rfl, h_27⟩ := h_27
          have hPD := pd_as [zzO qx 4 [.ref qt, .ref qk, .ref qp, .ref qs, .ref qa, .ref qr, .int iKp, .int iYe, .int iTv], zzI cy qr 5 fR, zzO qp 0 [.ref qu, .ref qv, .int iL, .int ((zbw tA k_4 k_10 iBs).2)], zzO qu 3 [.int (nI (T_nb tX_29)), .int (nI (T_np tX_29)), .int (wb (T_wh tX_29)), .int (wb (T_gn tX_29)), .int (T_sd tX_29), .ref quw, .ref qun, .ref qug, .ref qua, .ref qur, .ref qum, .ref qut, .ref qus], zzI cy quw 8 (T_wo tX_29), zzI cy qun 8 (T_ne tX_29), zzI cy qug 8 (T_go tX_29), zzI cy qua 8 (T_ag tX_29), zzI cy qur 8 (T_re tX_29), zzI cy qum 8 (T_me tX_29), zzI cy qut 8 (T_te tX_29), zzI cy qus 64 (shF (T_kn tX_29)), zzO qt 3 [.int (nI (T_nb tA)), .int (nI (T_np tA)), .int (wb (T_wh tA)), .int (wb (T_gn tA)), .int (T_sd tA), .ref qtw, .ref qtn, .ref qtg, .ref qta, .ref qtr, .ref qtm, .ref qtt, .ref qts], zzI cy qtw 8 (T_wo tA), zzI cy qtn 8 (T_ne tA), zzI cy qtg 8 (T_go tA), zzI cy qta 8 (T_ag tA), zzI cy qtr 8 (T_re tA), zzI cy qtm 8 (T_me tA), zzI cy qtt 8 (T_te tA), zzI cy qts 64 (shF (T_kn tA))] hP hD rfl
          clear hP hD
          obtain ⟨hP, hD⟩ := hPD
          subst h_27
          exact endW (u := [zzO qx 4 [.ref qt, .ref qk, .ref qp, .ref qs, .ref qa, .ref qr, .int iKp, .int iYe, .int iTv], zzI cy qr 5 fR, zzO qt 3 [.int (nI (T_nb tA)), .int (nI (T_np tA)), .int (wb (T_wh tA)), .int (wb (T_gn tA)), .int (T_sd tA), .ref qtw, .ref qtn, .ref qtg, .ref qta, .ref qtr, .ref qtm, .ref qtt, .ref qts], zzI cy qtw 8 (T_wo tA), zzI cy qtn 8 (T_ne tA), zzI cy qtg 8 (T_go tA), zzI cy qta 8 (T_ag tA), zzI cy qtr 8 (T_re tA), zzI cy qtm 8 (T_me tA), zzI cy qtt 8 (T_te tA), zzI cy qts 64 (shF (T_kn tA)), zzO qp 0 [.ref qu, .ref qv, .int iL, .int ((zbw tA k_4 k_10 iBs).2)], zzO qu 3 [.int (nI (T_nb tX_29)), .int (nI (T_np tX_29)), .int (wb (T_wh tX_29)), .int (wb (T_gn tX_29)), .int (T_sd tX_29), .ref quw, .ref qun, .ref qug, .ref qua, .ref qur, .ref qum, .ref qut, .ref qus], zzI cy quw 8 (T_wo tX_29), zzI cy qun 8 (T_ne tX_29), zzI cy qug 8 (T_go tX_29), zzI cy qua 8 (T_ag tX_29), zzI cy qur 8 (T_re tX_29), zzI cy qum 8 (T_me tX_29), zzI cy qut 8 (T_te tX_29), zzI cy qus 64 (shF (T_kn tX_29))]) hx hb hr hlocks rfl (hP.sub [0, 1, 12, 13, 14, 15, 16, 17, 18, 19, 20, 2, 3, 4, 5, 6, 7, 8, 9, 10, 11] rfl) (hD.sub [0, 1, 12, 13, 14, 15, 16, 17, 18, 19, 20, 2, 3, 4, 5, 6, 7, 8, 9, 10, 11] (by decide +kernel) rfl) hS ⟨fR, iL, (zbw tA k_4 k_10 iBs).2, tX_29, rfl, trivial⟩ dX5_who_74
        · refine lv_aload_n hx hb dX5_who_54 rfl (lv_at hl 0 rfl) ?_
          refine lv_bipush (v := (-5)) hx hb dX5_who_55 (by decide) ?_
          refine cVi (As := [.int (-5)]) (rest := []) (b := qx) (q := (RX5, TX5, 9)) ⟨hx, hb, hml, hown, hts⟩ (c_X5_refuse5 l G cy (s.heap).size qx qt qk qp qs qa qr iKp iYe iTv fR) L_X5_56 hN hP hD hS hA [0, 1] [false, false, true, true, true, true, true, true, true, true, true, true, true, true, true, true, true, true, true, true, true] rfl (by decide +kernel) rfl 0 4 rfl rfl rfl ⟨Nat.le_of_ble_eq_true rfl, Nat.le_of_ble_eq_true rfl⟩ hl.1 (Nat.le_of_ble_eq_true rfl) dX5_who_57 ⟨Nat.le_of_ble_eq_true rfl, Nat.le_of_ble_eq_true rfl⟩ (fun r_30 u_32 H locs h_31 => ?_)
          clear hP hD hS
          intro hP hD hS
          obtain ⟨fX_33, rfl, h_31⟩ := h_31
          have hPD := pd_as [zzO qt 3 [.int (nI (T_nb tA)), .int (nI (T_np tA)), .int (wb (T_wh tA)), .int (wb (T_gn tA)), .int (T_sd tA), .ref qtw, .ref qtn, .ref qtg, .ref qta, .ref qtr, .ref qtm, .ref qtt, .ref qts], zzI cy qtw 8 (T_wo tA), zzI cy qtn 8 (T_ne tA), zzI cy qtg 8 (T_go tA), zzI cy qta 8 (T_ag tA), zzI cy qtr 8 (T_re tA), zzI cy qtm 8 (T_me tA), zzI cy qtt 8 (T_te tA), zzI cy qts 64 (shF (T_kn tA)), zzO qp 0 [.ref qu, .ref qv, .int iL, .int iBs], zzO qu 3 [.int (nI (T_nb tU)), .int (nI (T_np tU)), .int (wb (T_wh tU)), .int (wb (T_gn tU)), .int (T_sd tU), .ref quw, .ref qun, .ref qug, .ref qua, .ref qur, .ref qum, .ref qut, .ref qus], zzI cy quw 8 (T_wo tU), zzI cy qun 8 (T_ne tU), zzI cy qug 8 (T_go tU), zzI cy qua 8 (T_ag tU), zzI cy qur 8 (T_re tU), zzI cy qum 8 (T_me tU), zzI cy qut 8 (T_te tU), zzI cy qus 64 (shF (T_kn tU)), zzO qx 4 [.ref qt, .ref qk, .ref qp, .ref qs, .ref qa, .ref qr, .int iKp, .int iYe, .int iTv], zzI cy qr 5 fX_33] hP hD rfl
          clear hP hD
          obtain ⟨hP, hD⟩ := hPD
          subst h_31
          exact endW (u := [zzO qx 4 [.ref qt, .ref qk, .ref qp, .ref qs, .ref qa, .ref qr, .int iKp, .int iYe, .int iTv], zzI cy qr 5 fX_33, zzO qt 3 [.int (nI (T_nb tA)), .int (nI (T_np tA)), .int (wb (T_wh tA)), .int (wb (T_gn tA)), .int (T_sd tA), .ref qtw, .ref qtn, .ref qtg, .ref qta, .ref qtr, .ref qtm, .ref qtt, .ref qts], zzI cy qtw 8 (T_wo tA), zzI cy qtn 8 (T_ne tA), zzI cy qtg 8 (T_go tA), zzI cy qta 8 (T_ag tA), zzI cy qtr 8 (T_re tA), zzI cy qtm 8 (T_me tA), zzI cy qtt 8 (T_te tA), zzI cy qts 64 (shF (T_kn tA)), zzO qp 0 [.ref qu, .ref qv, .int iL, .int iBs], zzO qu 3 [.int (nI (T_nb tU)), .int (nI (T_np tU)), .int (wb (T_wh tU)), .int (wb (T_gn tU)), .int (T_sd tU), .ref quw, .ref qun, .ref qug, .ref qua, .ref qur, .ref qum, .ref qut, .ref qus], zzI cy quw 8 (T_wo tU), zzI cy qun 8 (T_ne tU), zzI cy qug 8 (T_go tU), zzI cy qua 8 (T_ag tU), zzI cy qur 8 (T_re tU), zzI cy qum 8 (T_me tU), zzI cy qut 8 (T_te tU), zzI cy qus 64 (shF (T_kn tU))]) hx hb hr hlocks rfl (hP.sub [19, 20, 0, 1, 2, 3, 4, 5, 6, 7, 8, 9, 10, 11, 12, 13, 14, 15, 16, 17, 18] rfl) (hD.sub [19, 20, 0, 1, 2, 3, 4, 5, 6, 7, 8, 9, 10, 11, 12, 13, 14, 15, 16, 17, 18] (by decide +kernel) rfl) hS ⟨fX_33, iL, iBs, tU, rfl, trivial⟩ dX5_who_60
    · refine lv_if_ne (tgt := 30) hx hb dX5_who_20 (by decide) (fun h9 => absurd (by decide) h9) (fun _ => ?_)
      refine lv_aload_n hx hb dX5_who_23 rfl (lv_at hl 0 rfl) ?_
      refine lv_bipush (v := (-2)) hx hb dX5_who_24 (by decide) ?_
      refine cVi (As := [.int (-2)]) (rest := []) (b := qx) (q := (RX5, TX5, 9)) ⟨hx, hb, hml, hown, hts⟩ (c_X5_refuse2 l G cy (s.heap).size qx qt qk qp qs qa qr iKp iYe iTv fR) L_X5_56 hN hP hD hS hA [0, 1] [false, false, true, true, true, true, true, true, true, true, true, true, true, true, true, true, true, true, true, true, true] rfl (by decide +kernel) rfl 0 4 rfl rfl rfl ⟨Nat.le_of_ble_eq_true rfl, Nat.le_of_ble_eq_true rfl⟩ hl.1 (Nat.le_of_ble_eq_true rfl) dX5_who_26 ⟨Nat.le_of_ble_eq_true rfl, Nat.le_of_ble_eq_true rfl⟩ (fun r_35 u_37 H locs h_36 => ?_)
      clear hP hD hS
      intro hP hD hS
      obtain ⟨fX_38, rfl, h_36⟩ := h_36
      have hPD := pd_as [zzO qt 3 [.int (nI (T_nb tA)), .int (nI (T_np tA)), .int (wb (T_wh tA)), .int (wb (T_gn tA)), .int (T_sd tA), .ref qtw, .ref qtn, .ref qtg, .ref qta, .ref qtr, .ref qtm, .ref qtt, .ref qts], zzI cy qtw 8 (T_wo tA), zzI cy qtn 8 (T_ne tA), zzI cy qtg 8 (T_go tA), zzI cy qta 8 (T_ag tA), zzI cy qtr 8 (T_re tA), zzI cy qtm 8 (T_me tA), zzI cy qtt 8 (T_te tA), zzI cy qts 64 (shF (T_kn tA)), zzO qp 0 [.ref qu, .ref qv, .int iL, .int iBs], zzO qu 3 [.int (nI (T_nb tU)), .int (nI (T_np tU)), .int (wb (T_wh tU)), .int (wb (T_gn tU)), .int (T_sd tU), .ref quw, .ref qun, .ref qug, .ref qua, .ref qur, .ref qum, .ref qut, .ref qus], zzI cy quw 8 (T_wo tU), zzI cy qun 8 (T_ne tU), zzI cy qug 8 (T_go tU), zzI cy qua 8 (T_ag tU), zzI cy qur 8 (T_re tU), zzI cy qum 8 (T_me tU), zzI cy qut 8 (T_te tU), zzI cy qus 64 (shF (T_kn tU)), zzO qx 4 [.ref qt, .ref qk, .ref qp, .ref qs, .ref qa, .ref qr, .int iKp, .int iYe, .int iTv], zzI cy qr 5 fX_38] hP hD rfl
      clear hP hD
      obtain ⟨hP, hD⟩ := hPD
      subst h_36
      exact endW (u := [zzO qx 4 [.ref qt, .ref qk, .ref qp, .ref qs, .ref qa, .ref qr, .int iKp, .int iYe, .int iTv], zzI cy qr 5 fX_38, zzO qt 3 [.int (nI (T_nb tA)), .int (nI (T_np tA)), .int (wb (T_wh tA)), .int (wb (T_gn tA)), .int (T_sd tA), .ref qtw, .ref qtn, .ref qtg, .ref qta, .ref qtr, .ref qtm, .ref qtt, .ref qts], zzI cy qtw 8 (T_wo tA), zzI cy qtn 8 (T_ne tA), zzI cy qtg 8 (T_go tA), zzI cy qta 8 (T_ag tA), zzI cy qtr 8 (T_re tA), zzI cy qtm 8 (T_me tA), zzI cy qtt 8 (T_te tA), zzI cy qts 64 (shF (T_kn tA)), zzO qp 0 [.ref qu, .ref qv, .int iL, .int iBs], zzO qu 3 [.int (nI (T_nb tU)), .int (nI (T_np tU)), .int (wb (T_wh tU)), .int (wb (T_gn tU)), .int (T_sd tU), .ref quw, .ref qun, .ref qug, .ref qua, .ref qur, .ref qum, .ref qut, .ref qus], zzI cy quw 8 (T_wo tU), zzI cy qun 8 (T_ne tU), zzI cy qug 8 (T_go tU), zzI cy qua 8 (T_ag tU), zzI cy qur 8 (T_re tU), zzI cy qum 8 (T_me tU), zzI cy qut 8 (T_te tU), zzI cy qus 64 (shF (T_kn tU))]) hx hb hr hlocks rfl (hP.sub [19, 20, 0, 1, 2, 3, 4, 5, 6, 7, 8, 9, 10, 11, 12, 13, 14, 15, 16, 17, 18] rfl) (hD.sub [19, 20, 0, 1, 2, 3, 4, 5, 6, 7, 8, 9, 10, 11, 12, 13, 14, 15, 16, 17, 18] (by decide +kernel) rfl) hS ⟨fX_38, iL, iBs, tU, rfl, trivial⟩ dX5_who_29
  · refine lv_if_eq (tgt := 23) hx hb dX5_who_8 (by decide) (fun _ => ?_) (fun h9 => absurd (by decide) h9)
    refine lv_aload_n hx hb dX5_who_23 rfl (lv_at hl 0 rfl) ?_
    refine lv_bipush (v := (-2)) hx hb dX5_who_24 (by decide) ?_
    refine cVi (As := [.int (-2)]) (rest := []) (b := qx) (q := (RX5, TX5, 9)) ⟨hx, hb, hml, hown, hts⟩ (c_X5_refuse2 l G cy (s.heap).size qx qt qk qp qs qa qr iKp iYe iTv fR) L_X5_56 hN hP hD hS hA [0, 1] [false, false, true, true, true, true, true, true, true, true, true, true, true, true, true, true, true, true, true, true, true] rfl (by decide +kernel) rfl 0 4 rfl rfl rfl ⟨Nat.le_of_ble_eq_true rfl, Nat.le_of_ble_eq_true rfl⟩ hl.1 (Nat.le_of_ble_eq_true rfl) dX5_who_26 ⟨Nat.le_of_ble_eq_true rfl, Nat.le_of_ble_eq_true rfl⟩ (fun r_40 u_42 H locs h_41 => ?_)
    clear hP hD hS
    intro hP hD hS
    obtain ⟨fX_43, rfl, h_41⟩ := h_41
    have hPD := pd_as [zzO qt 3 [.int (nI (T_nb tA)), .int (nI (T_np tA)), .int (wb (T_wh tA)), .int (wb (T_gn tA)), .int (T_sd tA), .ref qtw, .ref qtn, .ref qtg, .ref qta, .ref qtr, .ref qtm, .ref qtt, .ref qts], zzI cy qtw 8 (T_wo tA), zzI cy qtn 8 (T_ne tA), zzI cy qtg 8 (T_go tA), zzI cy qta 8 (T_ag tA), zzI cy qtr 8 (T_re tA), zzI cy qtm 8 (T_me tA), zzI cy qtt 8 (T_te tA), zzI cy qts 64 (shF (T_kn tA)), zzO qp 0 [.ref qu, .ref qv, .int iL, .int iBs], zzO qu 3 [.int (nI (T_nb tU)), .int (nI (T_np tU)), .int (wb (T_wh tU)), .int (wb (T_gn tU)), .int (T_sd tU), .ref quw, .ref qun, .ref qug, .ref qua, .ref qur, .ref qum, .ref qut, .ref qus], zzI cy quw 8 (T_wo tU), zzI cy qun 8 (T_ne tU), zzI cy qug 8 (T_go tU), zzI cy qua 8 (T_ag tU), zzI cy qur 8 (T_re tU), zzI cy qum 8 (T_me tU), zzI cy qut 8 (T_te tU), zzI cy qus 64 (shF (T_kn tU)), zzO qx 4 [.ref qt, .ref qk, .ref qp, .ref qs, .ref qa, .ref qr, .int iKp, .int iYe, .int iTv], zzI cy qr 5 fX_43] hP hD rfl
    clear hP hD
    obtain ⟨hP, hD⟩ := hPD
    subst h_41
    exact endW (u := [zzO qx 4 [.ref qt, .ref qk, .ref qp, .ref qs, .ref qa, .ref qr, .int iKp, .int iYe, .int iTv], zzI cy qr 5 fX_43, zzO qt 3 [.int (nI (T_nb tA)), .int (nI (T_np tA)), .int (wb (T_wh tA)), .int (wb (T_gn tA)), .int (T_sd tA), .ref qtw, .ref qtn, .ref qtg, .ref qta, .ref qtr, .ref qtm, .ref qtt, .ref qts], zzI cy qtw 8 (T_wo tA), zzI cy qtn 8 (T_ne tA), zzI cy qtg 8 (T_go tA), zzI cy qta 8 (T_ag tA), zzI cy qtr 8 (T_re tA), zzI cy qtm 8 (T_me tA), zzI cy qtt 8 (T_te tA), zzI cy qts 64 (shF (T_kn tA)), zzO qp 0 [.ref qu, .ref qv, .int iL, .int iBs], zzO qu 3 [.int (nI (T_nb tU)), .int (nI (T_np tU)), .int (wb (T_wh tU)), .int (wb (T_gn tU)), .int (T_sd tU), .ref quw, .ref qun, .ref qug, .ref qua, .ref qur, .ref qum, .ref qut, .ref qus], zzI cy quw 8 (T_wo tU), zzI cy qun 8 (T_ne tU), zzI cy qug 8 (T_go tU), zzI cy qua 8 (T_ag tU), zzI cy qur 8 (T_re tU), zzI cy qum 8 (T_me tU), zzI cy qut 8 (T_te tU), zzI cy qus 64 (shF (T_kn tU))]) hx hb hr hlocks rfl (hP.sub [19, 20, 0, 1, 2, 3, 4, 5, 6, 7, 8, 9, 10, 11, 12, 13, 14, 15, 16, 17, 18] rfl) (hD.sub [19, 20, 0, 1, 2, 3, 4, 5, 6, 7, 8, 9, 10, 11, 12, 13, 14, 15, 16, 17, 18] (by decide +kernel) rfl) hS ⟨fX_43, iL, iBs, tU, rfl, trivial⟩ dX5_who_29
set_option maxHeartbeats 4000000 in
set_option maxRecDepth 100000 in
theorem p_X5_order (l : Launch) (G : va_G) (cy : Nat → ClassId) (sz : Nat) (qx : Nat) (qt : Nat) (qk : Nat) (qp : Nat) (qs : Nat) (qa : Nat) (qr : Nat) (iKp : Int32) (iYe : Int32) (iTv : Int32) (fR : Nat → Int32) (tA : TA) (qtw : Nat) (qtn : Nat) (qtg : Nat) (qta : Nat) (qtr : Nat) (qtm : Nat) (qtt : Nat) (qts : Nat) (qu : Nat) (qv : Nat) (iL : Int32) (iBs : Int32) (tU : TA) (quw : Nat) (qun : Nat) (qug : Nat) (qua : Nat) (qur : Nat) (qum : Nat) (qut : Nat) (qus : Nat) (iA : Int32) (iB : Int32)  (hB : T_nb tA ≤ 8) (hPp : T_np tA ≤ 8) : MW l yX5_order cX5_order 4 (some .int) 12 0 0 G cy [zzO qx 4 [.ref qt, .ref qk, .ref qp, .ref qs, .ref qa, .ref qr, .int iKp, .int iYe, .int iTv], zzI cy qr 5 fR, zzO qt 3 [.int (nI (T_nb tA)), .int (nI (T_np tA)), .int (wb (T_wh tA)), .int (wb (T_gn tA)), .int (T_sd tA), .ref qtw, .ref qtn, .ref qtg, .ref qta, .ref qtr, .ref qtm, .ref qtt, .ref qts], zzI cy qtw 8 (T_wo tA), zzI cy qtn 8 (T_ne tA), zzI cy qtg 8 (T_go tA), zzI cy qta 8 (T_ag tA), zzI cy qtr 8 (T_re tA), zzI cy qtm 8 (T_me tA), zzI cy qtt 8 (T_te tA), zzI cy qts 64 (shF (T_kn tA)), zzO qp 0 [.ref qu, .ref qv, .int iL, .int iBs], zzO qu 3 [.int (nI (T_nb tU)), .int (nI (T_np tU)), .int (wb (T_wh tU)), .int (wb (T_gn tU)), .int (T_sd tU), .ref quw, .ref qun, .ref qug, .ref qua, .ref qur, .ref qum, .ref qut, .ref qus], zzI cy quw 8 (T_wo tU), zzI cy qun 8 (T_ne tU), zzI cy qug 8 (T_go tU), zzI cy qua 8 (T_ag tU), zzI cy qur 8 (T_re tU), zzI cy qum 8 (T_me tU), zzI cy qut 8 (T_te tU), zzI cy qus 64 (shF (T_kn tU))] sz [.ref qx, .int iA, .int iB] (Wi G (fun r u => ∃ (fX : Nat → Int32) (iX : Int32) (iY : Int32) (tX : TA), u = [zzO qx 4 [.ref qt, .ref qk, .ref qp, .ref qs, .ref qa, .ref qr, .int iKp, .int iYe, .int iTv], zzI cy qr 5 fX, zzO qt 3 [.int (nI (T_nb tA)), .int (nI (T_np tA)), .int (wb (T_wh tA)), .int (wb (T_gn tA)), .int (T_sd tA), .ref qtw, .ref qtn, .ref qtg, .ref qta, .ref qtr, .ref qtm, .ref qtt, .ref qts], zzI cy qtw 8 (T_wo tA), zzI cy qtn 8 (T_ne tA), zzI cy qtg 8 (T_go tA), zzI cy qta 8 (T_ag tA), zzI cy qtr 8 (T_re tA), zzI cy qtm 8 (T_me tA), zzI cy qtt 8 (T_te tA), zzI cy qts 64 (shF (T_kn tA)), zzO qp 0 [.ref qu, .ref qv, .int iX, .int iY], zzO qu 3 [.int (nI (T_nb tX)), .int (nI (T_np tX)), .int (wb (T_wh tX)), .int (wb (T_gn tX)), .int (T_sd tX), .ref quw, .ref qun, .ref qug, .ref qua, .ref qur, .ref qum, .ref qut, .ref qus], zzI cy quw 8 (T_wo tX), zzI cy qun 8 (T_ne tX), zzI cy qug 8 (T_go tX), zzI cy qua 8 (T_ag tX), zzI cy qur 8 (T_re tX), zzI cy qum 8 (T_me tX), zzI cy qut 8 (T_te tX), zzI cy qus 64 (shF (T_kn tX))] ∧ (True))) := by
  refine enW RX5 (by decide) rfl (Nat.le_of_ble_eq_true rfl) (fun p e s m below meth c ls A hx hb hml hown hts hr hlocks hP hN hl hin hD hA hS => ?_)
  have hin : meth.name = _ := hin
  have hK := hN.1
  replace hl : lv_has ls 4 [(0, .ref qx), (1, .int iA), (2, .int iB)] := hl
  refine lv_aload_n hx hb dX5_order_0 rfl (lv_at hl 0 rfl) ?_
  refine va_get (D := G) (ci := 4) (v := .ref qt) (C := RX5) (T := TX5) (N := 9) hx hb hts iX_X5 hown hK hP 0 rfl rfl 0 (by decide) (hts _ m_t174) (fun _ h9 => h9) rfl dX5_order_1 ?_
  refine va_getN (D := G) (ci := 3) (v := .int (nI (T_nb tA))) (C := RX4) (T := TX4) (N := 13) hx hb hts iX_X4 hown hK hP 2 rfl rfl 0 (by decide) (va_Nw.use rfl (hN.2.1 (RX5, 127, "EachBookOnce$Town", "books", "I") (List.mem_of_getElem? (i := 3) rfl))) (fun _ h9 => h9) rfl dX5_order_4 ?_
  refine lv_aload_n hx hb dX5_order_7 rfl (lv_at hl 0 rfl) ?_
  refine va_get (D := G) (ci := 4) (v := .ref qt) (C := RX5) (T := TX5) (N := 9) hx hb hts iX_X5 hown hK hP 0 rfl rfl 0 (by decide) (hts _ m_t174) (fun _ h9 => h9) rfl dX5_order_8 ?_
  refine va_getN (D := G) (ci := 3) (v := .int (wb (T_wh tA))) (C := RX4) (T := TX4) (N := 13) hx hb hts iX_X4 hown hK hP 2 rfl rfl 2 (by decide) (va_Nw.use rfl (hN.2.1 (RX5, 180, "EachBookOnce$Town", "white", "I") (List.mem_of_getElem? (i := 10) rfl))) (fun _ h9 => h9) rfl dX5_order_11 ?_
  refine kRi (rS (As := [.int (wb (T_wh tA))]) (rest := [.int (nI (T_nb tA))]) ⟨hx, hb, hml, hown, hts⟩ (c_J6_bitCount l G cy (wb (T_wh tA))) L_X5_264 (preRS hN hP [] rfl) rfl ⟨Nat.le_of_ble_eq_true rfl, Nat.le_of_ble_eq_true rfl⟩ hl.1 (Nat.le_of_ble_eq_true rfl) dX5_order_14 ⟨Nat.le_of_ble_eq_true rfl, Nat.le_of_ble_eq_true rfl⟩) (fun r_1 h_2 => ?_)
  subst h_2
  refine lv_isub hx hb dX5_order_17 ?_
  refine lv_istore_n (lv' := [(3, .int ((nI (T_nb tA)) - (zbc (wb (T_wh tA))))), (0, .ref qx), (1, .int iA), (2, .int iB)]) hx hb dX5_order_18 rfl hl (by decide) rfl (fun ls => ?_)
  clear hl
  intro hl
  refine lv_aload_n hx hb dX5_order_19 rfl (lv_at hl 1 rfl) ?_
  refine va_get (D := G) (ci := 4) (v := .ref qt) (C := RX5) (T := TX5) (N := 9) hx hb hts iX_X5 hown hK hP 0 rfl rfl 0 (by decide) (hts _ m_t174) (fun _ h9 => h9) rfl dX5_order_20 ?_
  refine lv_iload_n hx hb dX5_order_23 rfl (lv_at hl 2 rfl) ?_
  refine kRi (rV (As := [.int iA]) (rest := []) (b := qt) ⟨hx, hb, hml, hown, hts⟩ (c_X4_isOne l G cy qt tA qtw qtn qtg qta qtr qtm qtt qts iA hPp) L_X5_192 (preRV (q := (RX4, TX4, 13)) hN hP [2] rfl 2 3 rfl rfl) rfl ⟨Nat.le_of_ble_eq_true rfl, Nat.le_of_ble_eq_true rfl⟩ hl.1 (Nat.le_of_ble_eq_true rfl) dX5_order_24 ⟨Nat.le_of_ble_eq_true rfl, Nat.le_of_ble_eq_true rfl⟩) (fun r_3 h_4 => ?_)
  rcases h_4 with ⟨rfl, h_5⟩ | ⟨rfl, h_5⟩
  · obtain ⟨k_6, hk_7, rfl⟩ := h_5
    refine lv_if_eq (tgt := 45) hx hb dX5_order_27 (by decide) (fun h9 => absurd h9 (by decide)) (fun _ => ?_)
    refine lv_iload_n hx hb dX5_order_30 rfl (lv_at hl 3 rfl) ?_
    refine lv_i2l (v := iB.toInt64) hx hb dX5_order_31 rfl ?_
    refine lv_ldc2 hx hb hown (hts _ m_t691) dX5_order_32 ?_
    refine lv_iload_n hx hb dX5_order_35 rfl (lv_at hl 0 rfl) ?_
    refine lv_iconst (v := 1) hx hb dX5_order_36 (by decide) ?_
    refine lv_isub hx hb dX5_order_37 ?_
    refine lv_i2l (v := (((nI (T_nb tA)) - (zbc (wb (T_wh tA)))) - 1).toInt64) hx hb dX5_order_38 rfl ?_
    refine kRi (rS (As := [.long iB.toInt64, .long (-1), .long ((((nI (T_nb tA)) - (zbc (wb (T_wh tA)))) - 1).toInt64)]) (rest := []) ⟨hx, hb, hml, hown, hts⟩ (c_X5_within l G cy iB.toInt64 (-1) ((((nI (T_nb tA)) - (zbc (wb (T_wh tA)))) - 1).toInt64)) L_X5_50 (preRS hN hP [] rfl) rfl ⟨Nat.le_of_ble_eq_true rfl, Nat.le_of_ble_eq_true rfl⟩ hl.1 (Nat.le_of_ble_eq_true rfl) dX5_order_39 ⟨Nat.le_of_ble_eq_true rfl, Nat.le_of_ble_eq_true rfl⟩) (fun r_9 h_10 => ?_)
    rcases h_10 with ⟨rfl, h_11⟩ | ⟨rfl, h_11⟩
    · refine lv_if_ne (tgt := 52) hx hb dX5_order_42 (by decide) (fun _ => ?_) (fun h9 => absurd h9 (by decide))
      refine lv_aload_n hx hb dX5_order_52 rfl (lv_at hl 1 rfl) ?_
      refine va_get (D := G) (ci := 4) (v := .ref qt) (C := RX5) (T := TX5) (N := 9) hx hb hts iX_X5 hown hK hP 0 rfl rfl 0 (by decide) (hts _ m_t174) (fun _ h9 => h9) rfl dX5_order_53 ?_
      refine va_getN (D := G) (ci := 3) (v := .int (wb (T_gn tA))) (C := RX4) (T := TX4) (N := 13) hx hb hts iX_X4 hown hK hP 2 rfl rfl 3 (by decide) (va_Nw.use rfl (hN.2.1 (RX5, 207, "EachBookOnce$Town", "gone", "I") (List.mem_of_getElem? (i := 12) rfl))) (fun _ h9 => h9) rfl dX5_order_56 ?_
      refine lv_iload_n hx hb dX5_order_59 rfl (lv_at hl 2 rfl) ?_
      refine kRi (rS (As := [.int (wb (T_gn tA)), .int (nI k_6)]) (rest := []) ⟨hx, hb, hml, hown, hts⟩ (c_X5_has l G cy (wb (T_gn tA)) k_6) L_X5_183 (preRS hN hP [] rfl) rfl ⟨Nat.le_of_ble_eq_true rfl, Nat.le_of_ble_eq_true rfl⟩ hl.1 (Nat.le_of_ble_eq_true rfl) dX5_order_60 ⟨Nat.le_of_ble_eq_true rfl, Nat.le_of_ble_eq_true rfl⟩) (fun r_13 h_14 => ?_)
      rcases h_14 with ⟨rfl, h_15⟩ | ⟨rfl, h_15⟩
      · rw [bit_wb _ (by omega)] at h_15
        refine lv_if_ne (tgt := 71) hx hb dX5_order_63 (by decide) (fun _ => ?_) (fun h9 => absurd h9 (by decide))
        refine lv_aload_n hx hb dX5_order_71 rfl (lv_at hl 1 rfl) ?_
        refine lv_bipush (v := (-5)) hx hb dX5_order_72 (by decide) ?_
        refine cVi (As := [.int (-5)]) (rest := []) (b := qx) (q := (RX5, TX5, 9)) ⟨hx, hb, hml, hown, hts⟩ (c_X5_refuse5 l G cy (s.heap).size qx qt qk qp qs qa qr iKp iYe iTv fR) L_X5_56 hN hP hD hS hA [0, 1] [false, false, true, true, true, true, true, true, true, true, true, true, true, true, true, true, true, true, true, true, true] rfl (by decide +kernel) rfl 0 4 rfl rfl rfl ⟨Nat.le_of_ble_eq_true rfl, Nat.le_of_ble_eq_true rfl⟩ hl.1 (Nat.le_of_ble_eq_true rfl) dX5_order_74 ⟨Nat.le_of_ble_eq_true rfl, Nat.le_of_ble_eq_true rfl⟩ (fun r_17 u_19 H locs h_18 => ?_)
        clear hP hD hS
        intro hP hD hS
        obtain ⟨fX_20, rfl, h_18⟩ := h_18
        have hPD := pd_as [zzO qt 3 [.int (nI (T_nb tA)), .int (nI (T_np tA)), .int (wb (T_wh tA)), .int (wb (T_gn tA)), .int (T_sd tA), .ref qtw, .ref qtn, .ref qtg, .ref qta, .ref qtr, .ref qtm, .ref qtt, .ref qts], zzI cy qtw 8 (T_wo tA), zzI cy qtn 8 (T_ne tA), zzI cy qtg 8 (T_go tA), zzI cy qta 8 (T_ag tA), zzI cy qtr 8 (T_re tA), zzI cy qtm 8 (T_me tA), zzI cy qtt 8 (T_te tA), zzI cy qts 64 (shF (T_kn tA)), zzO qp 0 [.ref qu, .ref qv, .int iL, .int iBs], zzO qu 3 [.int (nI (T_nb tU)), .int (nI (T_np tU)), .int (wb (T_wh tU)), .int (wb (T_gn tU)), .int (T_sd tU), .ref quw, .ref qun, .ref qug, .ref qua, .ref qur, .ref qum, .ref qut, .ref qus], zzI cy quw 8 (T_wo tU), zzI cy qun 8 (T_ne tU), zzI cy qug 8 (T_go tU), zzI cy qua 8 (T_ag tU), zzI cy qur 8 (T_re tU), zzI cy qum 8 (T_me tU), zzI cy qut 8 (T_te tU), zzI cy qus 64 (shF (T_kn tU)), zzO qx 4 [.ref qt, .ref qk, .ref qp, .ref qs, .ref qa, .ref qr, .int iKp, .int iYe, .int iTv], zzI cy qr 5 fX_20] hP hD rfl
        clear hP hD
        obtain ⟨hP, hD⟩ := hPD
        subst h_18
        exact endW (u := [zzO qx 4 [.ref qt, .ref qk, .ref qp, .ref qs, .ref qa, .ref qr, .int iKp, .int iYe, .int iTv], zzI cy qr 5 fX_20, zzO qt 3 [.int (nI (T_nb tA)), .int (nI (T_np tA)), .int (wb (T_wh tA)), .int (wb (T_gn tA)), .int (T_sd tA), .ref qtw, .ref qtn, .ref qtg, .ref qta, .ref qtr, .ref qtm, .ref qtt, .ref qts], zzI cy qtw 8 (T_wo tA), zzI cy qtn 8 (T_ne tA), zzI cy qtg 8 (T_go tA), zzI cy qta 8 (T_ag tA), zzI cy qtr 8 (T_re tA), zzI cy qtm 8 (T_me tA), zzI cy qtt 8 (T_te tA), zzI cy qts 64 (shF (T_kn tA)), zzO qp 0 [.ref qu, .ref qv, .int iL, .int iBs], zzO qu 3 [.int (nI (T_nb tU)), .int (nI (T_np tU)), .int (wb (T_wh tU)), .int (wb (T_gn tU)), .int (T_sd tU), .ref quw, .ref qun, .ref qug, .ref qua, .ref qur, .ref qum, .ref qut, .ref qus], zzI cy quw 8 (T_wo tU), zzI cy qun 8 (T_ne tU), zzI cy qug 8 (T_go tU), zzI cy qua 8 (T_ag tU), zzI cy qur 8 (T_re tU), zzI cy qum 8 (T_me tU), zzI cy qut 8 (T_te tU), zzI cy qus 64 (shF (T_kn tU))]) hx hb hr hlocks rfl (hP.sub [19, 20, 0, 1, 2, 3, 4, 5, 6, 7, 8, 9, 10, 11, 12, 13, 14, 15, 16, 17, 18] rfl) (hD.sub [19, 20, 0, 1, 2, 3, 4, 5, 6, 7, 8, 9, 10, 11, 12, 13, 14, 15, 16, 17, 18] (by decide +kernel) rfl) hS ⟨fX_20, iL, iBs, tU, rfl, trivial⟩ dX5_order_77
      · rw [bit_wb _ (by omega)] at h_15
        refine lv_if_ne (tgt := 71) hx hb dX5_order_63 (by decide) (fun h9 => absurd (by decide) h9) (fun _ => ?_)
        refine lv_iload_n hx hb dX5_order_66 rfl (lv_at hl 0 rfl) ?_
        refine lv_iconst (v := 5) hx hb dX5_order_67 (by decide) ?_
        refine lv_icmp_le (tgt := 78) hx hb dX5_order_68 (by decide) (fun c_22 => ?_) (fun c_22 => ?_)
        · refine lv_iload_n hx hb dX5_order_78 rfl (lv_at hl 3 rfl) ?_
          refine lv_iconst (v := (-1)) hx hb dX5_order_79 (by decide) ?_
          refine lv_icmp_ne (tgt := 98) hx hb dX5_order_80 (by decide) (fun c_23 => ?_) (fun c_23 => ?_)
          · refine lv_aload_n hx hb dX5_order_98 rfl (lv_at hl 1 rfl) ?_
            refine va_get (D := G) (ci := 4) (v := .ref qt) (C := RX5) (T := TX5) (N := 9) hx hb hts iX_X5 hown hK hP 0 rfl rfl 0 (by decide) (hts _ m_t174) (fun _ h9 => h9) rfl dX5_order_99 ?_
            refine lv_iload_n hx hb dX5_order_102 rfl (lv_at hl 3 rfl) ?_
            refine kRi (rV (As := [.int iB]) (rest := []) (b := qt) ⟨hx, hb, hml, hown, hts⟩ (c_X4_unreadAt l G cy qt tA qtw qtn qtg qta qtr qtm qtt qts iB hB) L_X5_281 (preRV (q := (RX4, TX4, 13)) hN hP [2, 3, 4, 5, 6, 7, 8, 9, 10] rfl 2 3 rfl rfl) rfl ⟨Nat.le_of_ble_eq_true rfl, Nat.le_of_ble_eq_true rfl⟩ hl.1 (Nat.le_of_ble_eq_true rfl) dX5_order_103 ⟨Nat.le_of_ble_eq_true rfl, Nat.le_of_ble_eq_true rfl⟩) (fun r_24 h_25 => ?_)
            subst h_25
            exact endW (u := [zzO qx 4 [.ref qt, .ref qk, .ref qp, .ref qs, .ref qa, .ref qr, .int iKp, .int iYe, .int iTv], zzI cy qr 5 fR, zzO qt 3 [.int (nI (T_nb tA)), .int (nI (T_np tA)), .int (wb (T_wh tA)), .int (wb (T_gn tA)), .int (T_sd tA), .ref qtw, .ref qtn, .ref qtg, .ref qta, .ref qtr, .ref qtm, .ref qtt, .ref qts], zzI cy qtw 8 (T_wo tA), zzI cy qtn 8 (T_ne tA), zzI cy qtg 8 (T_go tA), zzI cy qta 8 (T_ag tA), zzI cy qtr 8 (T_re tA), zzI cy qtm 8 (T_me tA), zzI cy qtt 8 (T_te tA), zzI cy qts 64 (shF (T_kn tA)), zzO qp 0 [.ref qu, .ref qv, .int iL, .int iBs], zzO qu 3 [.int (nI (T_nb tU)), .int (nI (T_np tU)), .int (wb (T_wh tU)), .int (wb (T_gn tU)), .int (T_sd tU), .ref quw, .ref qun, .ref qug, .ref qua, .ref qur, .ref qum, .ref qut, .ref qus], zzI cy quw 8 (T_wo tU), zzI cy qun 8 (T_ne tU), zzI cy qug 8 (T_go tU), zzI cy qua 8 (T_ag tU), zzI cy qur 8 (T_re tU), zzI cy qum 8 (T_me tU), zzI cy qut 8 (T_te tU), zzI cy qus 64 (shF (T_kn tU))]) hx hb hr hlocks rfl (hP.sub [0, 1, 2, 3, 4, 5, 6, 7, 8, 9, 10, 11, 12, 13, 14, 15, 16, 17, 18, 19, 20] rfl) (hD.sub [0, 1, 2, 3, 4, 5, 6, 7, 8, 9, 10, 11, 12, 13, 14, 15, 16, 17, 18, 19, 20] (by decide +kernel) rfl) hS ⟨fR, iL, iBs, tU, rfl, trivial⟩ dX5_order_106
          · refine lv_aload_n hx hb dX5_order_83 rfl (lv_at hl 1 rfl) ?_
            refine va_get (D := G) (ci := 4) (v := .ref qp) (C := RX5) (T := TX5) (N := 9) hx hb hts iX_X5 hown hK hP 0 rfl rfl 2 (by decide) (hts _ m_t176) (fun _ h9 => h9) rfl dX5_order_84 ?_
            refine lv_aload_n hx hb dX5_order_87 rfl (lv_at hl 1 rfl) ?_
            refine va_get (D := G) (ci := 4) (v := .ref qt) (C := RX5) (T := TX5) (N := 9) hx hb hts iX_X5 hown hK hP 0 rfl rfl 0 (by decide) (hts _ m_t174) (fun _ h9 => h9) rfl dX5_order_88 ?_
            refine lv_iload_n hx hb dX5_order_91 rfl (lv_at hl 2 rfl) ?_
            refine cVi (As := [.ref qt, .int (nI k_6)]) (rest := []) (b := qp) (q := (RX0, TX0, 4)) ⟨hx, hb, hml, hown, hts⟩ (c_X0_worthByRising l G cy (s.heap).size qp qu (.ref qv) iL iBs tU quw qun qug qua qur qum qut qus qt tA qtw qtn qtg qta qtr qtm qtt qts k_6 hB hPp (by first | omega | (simp only [nb_sr, np_sr, nb_wr, np_wr, nb_rd, np_rd, nb_ch, np_ch, nb_zr, np_zr, nb_za, np_za, nb_ey, np_ey, nb_hf, np_hf, nb_dd, np_dd, nb_so, np_so, nb_skn, np_skn, nb_swh, np_swh, nb_sgn, np_sgn, nb_ssd, np_ssd, nb_sgo, np_sgo, nb_sag, np_sag]; omega))) L_X5_277 hN hP hD hS hA [11, 12, 13, 14, 15, 16, 17, 18, 19, 20, 2, 3, 4, 5, 6, 7, 8, 9, 10] [true, true, false, false, false, false, false, false, false, false, false, false, false, false, false, false, false, false, false, false, false] rfl (by decide +kernel) rfl 11 0 rfl rfl rfl ⟨Nat.le_of_ble_eq_true rfl, Nat.le_of_ble_eq_true rfl⟩ hl.1 (Nat.le_of_ble_eq_true rfl) dX5_order_92 ⟨Nat.le_of_ble_eq_true rfl, Nat.le_of_ble_eq_true rfl⟩ (fun r_26 u_28 H locs h_27 => ?_)
            clear hP hD hS
            intro hP hD hS
            obtain ⟨rfl, h_27⟩ := h_27
            have hPD := pd_as [zzO qx 4 [.ref qt, .ref qk, .ref qp, .ref qs, .ref qa, .ref qr, .int iKp, .int iYe, .int iTv], zzI cy qr 5 fR, zzO qp 0 [.ref qu, .ref qv, .int iL, .int iBs], zzO qu 3 [.int (nI (T_nb (zwr tA k_6))), .int (nI (T_np (zwr tA k_6))), .int (wb (T_wh (zwr tA k_6))), .int (wb (T_gn (zwr tA k_6))), .int (T_sd (zwr tA k_6)), .ref quw, .ref qun, .ref qug, .ref qua, .ref qur, .ref qum, .ref qut, .ref qus], zzI cy quw 8 (T_wo (zwr tA k_6)), zzI cy qun 8 (T_ne (zwr tA k_6)), zzI cy qug 8 (T_go (zwr tA k_6)), zzI cy qua 8 (T_ag (zwr tA k_6)), zzI cy qur 8 (T_re (zwr tA k_6)), zzI cy qum 8 (T_me (zwr tA k_6)), zzI cy qut 8 (T_te (zwr tA k_6)), zzI cy qus 64 (shF (T_kn (zwr tA k_6))), zzO qt 3 [.int (nI (T_nb tA)), .int (nI (T_np tA)), .int (wb (T_wh tA)), .int (wb (T_gn tA)), .int (T_sd tA), .ref qtw, .ref qtn, .ref qtg, .ref qta, .ref qtr, .ref qtm, .ref qtt, .ref qts], zzI cy qtw 8 (T_wo tA), zzI cy qtn 8 (T_ne tA), zzI cy qtg 8 (T_go tA), zzI cy qta 8 (T_ag tA), zzI cy qtr 8 (T_re tA), zzI cy qtm 8 (T_me tA), zzI cy qtt 8 (T_te tA), zzI cy qts 64 (shF (T_kn tA))] hP hD rfl
            clear hP hD
            obtain ⟨hP, hD⟩ := hPD
            subst h_27
            refine lv_goto (tgt := 106) hx hb dX5_order_95 (by decide) ?_
            exact endW (u := [zzO qx 4 [.ref qt, .ref qk, .ref qp, .ref qs, .ref qa, .ref qr, .int iKp, .int iYe, .int iTv], zzI cy qr 5 fR, zzO qt 3 [.int (nI (T_nb tA)), .int (nI (T_np tA)), .int (wb (T_wh tA)), .int (wb (T_gn tA)), .int (T_sd tA), .ref qtw, .ref qtn, .ref qtg, .ref qta, .ref qtr, .ref qtm, .ref qtt, .ref qts], zzI cy qtw 8 (T_wo tA), zzI cy qtn 8 (T_ne tA), zzI cy qtg 8 (T_go tA), zzI cy qta 8 (T_ag tA), zzI cy qtr 8 (T_re tA), zzI cy qtm 8 (T_me tA), zzI cy qtt 8 (T_te tA), zzI cy qts 64 (shF (T_kn tA)), zzO qp 0 [.ref qu, .ref qv, .int iL, .int iBs], zzO qu 3 [.int (nI (T_nb (zwr tA k_6))), .int (nI (T_np (zwr tA k_6))), .int (wb (T_wh (zwr tA k_6))), .int (wb (T_gn (zwr tA k_6))), .int (T_sd (zwr tA k_6)), .ref quw, .ref qun, .ref qug, .ref qua, .ref qur, .ref qum, .ref qut, .ref qus], zzI cy quw 8 (T_wo (zwr tA k_6)), zzI cy qun 8 (T_ne (zwr tA k_6)), zzI cy qug 8 (T_go (zwr tA k_6)), zzI cy qua 8 (T_ag (zwr tA k_6)), zzI cy qur 8 (T_re (zwr tA k_6)), zzI cy qum 8 (T_me (zwr tA k_6)), zzI cy qut 8 (T_te (zwr tA k_6)), zzI cy qus 64 (shF (T_kn (zwr tA k_6)))]) hx hb hr hlocks rfl (hP.sub [0, 1, 12, 13, 14, 15, 16, 17, 18, 19, 20, 2, 3, 4, 5, 6, 7, 8, 9, 10, 11] rfl) (hD.sub [0, 1, 12, 13, 14, 15, 16, 17, 18, 19, 20, 2, 3, 4, 5, 6, 7, 8, 9, 10, 11] (by decide +kernel) rfl) hS ⟨fR, iL, iBs, (zwr tA k_6), rfl, trivial⟩ dX5_order_106
        · refine lv_aload_n hx hb dX5_order_71 rfl (lv_at hl 1 rfl) ?_
          refine lv_bipush (v := (-5)) hx hb dX5_order_72 (by decide) ?_
          refine cVi (As := [.int (-5)]) (rest := []) (b := qx) (q := (RX5, TX5, 9)) ⟨hx, hb, hml, hown, hts⟩ (c_X5_refuse5 l G cy (s.heap).size qx qt qk qp qs qa qr iKp iYe iTv fR) L_X5_56 hN hP hD hS hA [0, 1] [false, false, true, true, true, true, true, true, true, true, true, true, true, true, true, true, true, true, true, true, true] rfl (by decide +kernel) rfl 0 4 rfl rfl rfl ⟨Nat.le_of_ble_eq_true rfl, Nat.le_of_ble_eq_true rfl⟩ hl.1 (Nat.le_of_ble_eq_true rfl) dX5_order_74 ⟨Nat.le_of_ble_eq_true rfl, Nat.le_of_ble_eq_true rfl⟩ (fun r_29 u_31 H locs h_30 => ?_)
          clear hP hD hS
          intro hP hD hS
          obtain ⟨fX_32, rfl, h_30⟩ := h_30
          have hPD := pd_as [zzO qt 3 [.int (nI (T_nb tA)), .int (nI (T_np tA)), .int (wb (T_wh tA)), .int (wb (T_gn tA)), .int (T_sd tA), .ref qtw, .ref qtn, .ref qtg, .ref qta, .ref qtr, .ref qtm, .ref qtt, .ref qts], zzI cy qtw 8 (T_wo tA), zzI cy qtn 8 (T_ne tA), zzI cy qtg 8 (T_go tA), zzI cy qta 8 (T_ag tA), zzI cy qtr 8 (T_re tA), zzI cy qtm 8 (T_me tA), zzI cy qtt 8 (T_te tA), zzI cy qts 64 (shF (T_kn tA)), zzO qp 0 [.ref qu, .ref qv, .int iL, .int iBs], zzO qu 3 [.int (nI (T_nb tU)), .int (nI (T_np tU)), .int (wb (T_wh tU)), .int (wb (T_gn tU)), .int (T_sd tU), .ref quw, .ref qun, .ref qug, .ref qua, .ref qur, .ref qum, .ref qut, .ref qus], zzI cy quw 8 (T_wo tU), zzI cy qun 8 (T_ne tU), zzI cy qug 8 (T_go tU), zzI cy qua 8 (T_ag tU), zzI cy qur 8 (T_re tU), zzI cy qum 8 (T_me tU), zzI cy qut 8 (T_te tU), zzI cy qus 64 (shF (T_kn tU)), zzO qx 4 [.ref qt, .ref qk, .ref qp, .ref qs, .ref qa, .ref qr, .int iKp, .int iYe, .int iTv], zzI cy qr 5 fX_32] hP hD rfl
          clear hP hD
          obtain ⟨hP, hD⟩ := hPD
          subst h_30
          exact endW (u := [zzO qx 4 [.ref qt, .ref qk, .ref qp, .ref qs, .ref qa, .ref qr, .int iKp, .int iYe, .int iTv], zzI cy qr 5 fX_32, zzO qt 3 [.int (nI (T_nb tA)), .int (nI (T_np tA)), .int (wb (T_wh tA)), .int (wb (T_gn tA)), .int (T_sd tA), .ref qtw, .ref qtn, .ref qtg, .ref qta, .ref qtr, .ref qtm, .ref qtt, .ref qts], zzI cy qtw 8 (T_wo tA), zzI cy qtn 8 (T_ne tA), zzI cy qtg 8 (T_go tA), zzI cy qta 8 (T_ag tA), zzI cy qtr 8 (T_re tA), zzI cy qtm 8 (T_me tA), zzI cy qtt 8 (T_te tA), zzI cy qts 64 (shF (T_kn tA)), zzO qp 0 [.ref qu, .ref qv, .int iL, .int iBs], zzO qu 3 [.int (nI (T_nb tU)), .int (nI (T_np tU)), .int (wb (T_wh tU)), .int (wb (T_gn tU)), .int (T_sd tU), .ref quw, .ref qun, .ref qug, .ref qua, .ref qur, .ref qum, .ref qut, .ref qus], zzI cy quw 8 (T_wo tU), zzI cy qun 8 (T_ne tU), zzI cy qug 8 (T_go tU), zzI cy qua 8 (T_ag tU), zzI cy qur 8 (T_re tU), zzI cy qum 8 (T_me tU), zzI cy qut 8 (T_te tU), zzI cy qus 64 (shF (T_kn tU))]) hx hb hr hlocks rfl (hP.sub [19, 20, 0, 1, 2, 3, 4, 5, 6, 7, 8, 9, 10, 11, 12, 13, 14, 15, 16, 17, 18] rfl) (hD.sub [19, 20, 0, 1, 2, 3, 4, 5, 6, 7, 8, 9, 10, 11, 12, 13, 14, 15, 16, 17, 18] (by decide +kernel) rfl) hS ⟨fX_32, iL, iBs, tU, rfl, trivial⟩ dX5_order_77
    · refine lv_if_ne (tgt := 52) hx hb dX5_order_42 (by decide) (fun h9 => absurd (by decide) h9) (fun _ => ?_)
      refine lv_aload_n hx hb dX5_order_45 rfl (lv_at hl 1 rfl) ?_
      refine lv_bipush (v := (-2)) hx hb dX5_order_46 (by decide) ?_
      refine cVi (As := [.int (-2)]) (rest := []) (b := qx) (q := (RX5, TX5, 9)) ⟨hx, hb, hml, hown, hts⟩ (c_X5_refuse2 l G cy (s.heap).size qx qt qk qp qs qa qr iKp iYe iTv fR) L_X5_56 hN hP hD hS hA [0, 1] [false, false, true, true, true, true, true, true, true, true, true, true, true, true, true, true, true, true, true, true, true] rfl (by decide +kernel) rfl 0 4 rfl rfl rfl ⟨Nat.le_of_ble_eq_true rfl, Nat.le_of_ble_eq_true rfl⟩ hl.1 (Nat.le_of_ble_eq_true rfl) dX5_order_48 ⟨Nat.le_of_ble_eq_true rfl, Nat.le_of_ble_eq_true rfl⟩ (fun r_34 u_36 H locs h_35 => ?_)
      clear hP hD hS
      intro hP hD hS
      obtain ⟨fX_37, rfl, h_35⟩ := h_35
      have hPD := pd_as [zzO qt 3 [.int (nI (T_nb tA)), .int (nI (T_np tA)), .int (wb (T_wh tA)), .int (wb (T_gn tA)), .int (T_sd tA), .ref qtw, .ref qtn, .ref qtg, .ref qta, .ref qtr, .ref qtm, .ref qtt, .ref qts], zzI cy qtw 8 (T_wo tA), zzI cy qtn 8 (T_ne tA), zzI cy qtg 8 (T_go tA), zzI cy qta 8 (T_ag tA), zzI cy qtr 8 (T_re tA), zzI cy qtm 8 (T_me tA), zzI cy qtt 8 (T_te tA), zzI cy qts 64 (shF (T_kn tA)), zzO qp 0 [.ref qu, .ref qv, .int iL, .int iBs], zzO qu 3 [.int (nI (T_nb tU)), .int (nI (T_np tU)), .int (wb (T_wh tU)), .int (wb (T_gn tU)), .int (T_sd tU), .ref quw, .ref qun, .ref qug, .ref qua, .ref qur, .ref qum, .ref qut, .ref qus], zzI cy quw 8 (T_wo tU), zzI cy qun 8 (T_ne tU), zzI cy qug 8 (T_go tU), zzI cy qua 8 (T_ag tU), zzI cy qur 8 (T_re tU), zzI cy qum 8 (T_me tU), zzI cy qut 8 (T_te tU), zzI cy qus 64 (shF (T_kn tU)), zzO qx 4 [.ref qt, .ref qk, .ref qp, .ref qs, .ref qa, .ref qr, .int iKp, .int iYe, .int iTv], zzI cy qr 5 fX_37] hP hD rfl
      clear hP hD
      obtain ⟨hP, hD⟩ := hPD
      subst h_35
      exact endW (u := [zzO qx 4 [.ref qt, .ref qk, .ref qp, .ref qs, .ref qa, .ref qr, .int iKp, .int iYe, .int iTv], zzI cy qr 5 fX_37, zzO qt 3 [.int (nI (T_nb tA)), .int (nI (T_np tA)), .int (wb (T_wh tA)), .int (wb (T_gn tA)), .int (T_sd tA), .ref qtw, .ref qtn, .ref qtg, .ref qta, .ref qtr, .ref qtm, .ref qtt, .ref qts], zzI cy qtw 8 (T_wo tA), zzI cy qtn 8 (T_ne tA), zzI cy qtg 8 (T_go tA), zzI cy qta 8 (T_ag tA), zzI cy qtr 8 (T_re tA), zzI cy qtm 8 (T_me tA), zzI cy qtt 8 (T_te tA), zzI cy qts 64 (shF (T_kn tA)), zzO qp 0 [.ref qu, .ref qv, .int iL, .int iBs], zzO qu 3 [.int (nI (T_nb tU)), .int (nI (T_np tU)), .int (wb (T_wh tU)), .int (wb (T_gn tU)), .int (T_sd tU), .ref quw, .ref qun, .ref qug, .ref qua, .ref qur, .ref qum, .ref qut, .ref qus], zzI cy quw 8 (T_wo tU), zzI cy qun 8 (T_ne tU), zzI cy qug 8 (T_go tU), zzI cy qua 8 (T_ag tU), zzI cy qur 8 (T_re tU), zzI cy qum 8 (T_me tU), zzI cy qut 8 (T_te tU), zzI cy qus 64 (shF (T_kn tU))]) hx hb hr hlocks rfl (hP.sub [19, 20, 0, 1, 2, 3, 4, 5, 6, 7, 8, 9, 10, 11, 12, 13, 14, 15, 16, 17, 18] rfl) (hD.sub [19, 20, 0, 1, 2, 3, 4, 5, 6, 7, 8, 9, 10, 11, 12, 13, 14, 15, 16, 17, 18] (by decide +kernel) rfl) hS ⟨fX_37, iL, iBs, tU, rfl, trivial⟩ dX5_order_51
  · refine lv_if_eq (tgt := 45) hx hb dX5_order_27 (by decide) (fun _ => ?_) (fun h9 => absurd (by decide) h9)
    refine lv_aload_n hx hb dX5_order_45 rfl (lv_at hl 1 rfl) ?_
    refine lv_bipush (v := (-2)) hx hb dX5_order_46 (by decide) ?_
    refine cVi (As := [.int (-2)]) (rest := []) (b := qx) (q := (RX5, TX5, 9)) ⟨hx, hb, hml, hown, hts⟩ (c_X5_refuse2 l G cy (s.heap).size qx qt qk qp qs qa qr iKp iYe iTv fR) L_X5_56 hN hP hD hS hA [0, 1] [false, false, true, true, true, true, true, true, true, true, true, true, true, true, true, true, true, true, true, true, true] rfl (by decide +kernel) rfl 0 4 rfl rfl rfl ⟨Nat.le_of_ble_eq_true rfl, Nat.le_of_ble_eq_true rfl⟩ hl.1 (Nat.le_of_ble_eq_true rfl) dX5_order_48 ⟨Nat.le_of_ble_eq_true rfl, Nat.le_of_ble_eq_true rfl⟩ (fun r_39 u_41 H locs h_40 => ?_)
    clear hP hD hS
    intro hP hD hS
    obtain ⟨fX_42, rfl, h_40⟩ := h_40
    have hPD := pd_as [zzO qt 3 [.int (nI (T_nb tA)), .int (nI (T_np tA)), .int (wb (T_wh tA)), .int (wb (T_gn tA)), .int (T_sd tA), .ref qtw, .ref qtn, .ref qtg, .ref qta, .ref qtr, .ref qtm, .ref qtt, .ref qts], zzI cy qtw 8 (T_wo tA), zzI cy qtn 8 (T_ne tA), zzI cy qtg 8 (T_go tA), zzI cy qta 8 (T_ag tA), zzI cy qtr 8 (T_re tA), zzI cy qtm 8 (T_me tA), zzI cy qtt 8 (T_te tA), zzI cy qts 64 (shF (T_kn tA)), zzO qp 0 [.ref qu, .ref qv, .int iL, .int iBs], zzO qu 3 [.int (nI (T_nb tU)), .int (nI (T_np tU)), .int (wb (T_wh tU)), .int (wb (T_gn tU)), .int (T_sd tU), .ref quw, .ref qun, .ref qug, .ref qua, .ref qur, .ref qum, .ref qut, .ref qus], zzI cy quw 8 (T_wo tU), zzI cy qun 8 (T_ne tU), zzI cy qug 8 (T_go tU), zzI cy qua 8 (T_ag tU), zzI cy qur 8 (T_re tU), zzI cy qum 8 (T_me tU), zzI cy qut 8 (T_te tU), zzI cy qus 64 (shF (T_kn tU)), zzO qx 4 [.ref qt, .ref qk, .ref qp, .ref qs, .ref qa, .ref qr, .int iKp, .int iYe, .int iTv], zzI cy qr 5 fX_42] hP hD rfl
    clear hP hD
    obtain ⟨hP, hD⟩ := hPD
    subst h_40
    exact endW (u := [zzO qx 4 [.ref qt, .ref qk, .ref qp, .ref qs, .ref qa, .ref qr, .int iKp, .int iYe, .int iTv], zzI cy qr 5 fX_42, zzO qt 3 [.int (nI (T_nb tA)), .int (nI (T_np tA)), .int (wb (T_wh tA)), .int (wb (T_gn tA)), .int (T_sd tA), .ref qtw, .ref qtn, .ref qtg, .ref qta, .ref qtr, .ref qtm, .ref qtt, .ref qts], zzI cy qtw 8 (T_wo tA), zzI cy qtn 8 (T_ne tA), zzI cy qtg 8 (T_go tA), zzI cy qta 8 (T_ag tA), zzI cy qtr 8 (T_re tA), zzI cy qtm 8 (T_me tA), zzI cy qtt 8 (T_te tA), zzI cy qts 64 (shF (T_kn tA)), zzO qp 0 [.ref qu, .ref qv, .int iL, .int iBs], zzO qu 3 [.int (nI (T_nb tU)), .int (nI (T_np tU)), .int (wb (T_wh tU)), .int (wb (T_gn tU)), .int (T_sd tU), .ref quw, .ref qun, .ref qug, .ref qua, .ref qur, .ref qum, .ref qut, .ref qus], zzI cy quw 8 (T_wo tU), zzI cy qun 8 (T_ne tU), zzI cy qug 8 (T_go tU), zzI cy qua 8 (T_ag tU), zzI cy qur 8 (T_re tU), zzI cy qum 8 (T_me tU), zzI cy qut 8 (T_te tU), zzI cy qus 64 (shF (T_kn tU))]) hx hb hr hlocks rfl (hP.sub [19, 20, 0, 1, 2, 3, 4, 5, 6, 7, 8, 9, 10, 11, 12, 13, 14, 15, 16, 17, 18] rfl) (hD.sub [19, 20, 0, 1, 2, 3, 4, 5, 6, 7, 8, 9, 10, 11, 12, 13, 14, 15, 16, 17, 18] (by decide +kernel) rfl) hS ⟨fX_42, iL, iBs, tU, rfl, trivial⟩ dX5_order_51
set_option maxHeartbeats 4000000 in
set_option maxRecDepth 100000 in
theorem p_X5_keeping (l : Launch) (G : va_G) (cy : Nat → ClassId) (sz : Nat) (qx : Nat) (qt : Nat) (qk : Nat) (qp : Nat) (qs : Nat) (qa : Nat) (qr : Nat) (iKp : Int32) (iYe : Int32) (iTv : Int32) (fR : Nat → Int32) (tA : TA) (qtw : Nat) (qtn : Nat) (qtg : Nat) (qta : Nat) (qtr : Nat) (qtm : Nat) (qtt : Nat) (qts : Nat) (qu : Nat) (qv : Nat) (iL : Int32) (iBs : Int32) (tU : TA) (quw : Nat) (qun : Nat) (qug : Nat) (qua : Nat) (qur : Nat) (qum : Nat) (qut : Nat) (qus : Nat) (tV : TA) (qvw : Nat) (qvn : Nat) (qvg : Nat) (qva : Nat) (qvr : Nat) (qvm : Nat) (qvt : Nat) (qvs : Nat) (iA : Int32) (iB : Int32)  (hB : T_nb tA ≤ 8) (hPp : T_np tA ≤ 8) : MW l yX5_keeping cX5_keeping 4 (some .int) 12 0 0 G cy [zzO qx 4 [.ref qt, .ref qk, .ref qp, .ref qs, .ref qa, .ref qr, .int iKp, .int iYe, .int iTv], zzI cy qr 5 fR, zzO qt 3 [.int (nI (T_nb tA)), .int (nI (T_np tA)), .int (wb (T_wh tA)), .int (wb (T_gn tA)), .int (T_sd tA), .ref qtw, .ref qtn, .ref qtg, .ref qta, .ref qtr, .ref qtm, .ref qtt, .ref qts], zzI cy qtw 8 (T_wo tA), zzI cy qtn 8 (T_ne tA), zzI cy qtg 8 (T_go tA), zzI cy qta 8 (T_ag tA), zzI cy qtr 8 (T_re tA), zzI cy qtm 8 (T_me tA), zzI cy qtt 8 (T_te tA), zzI cy qts 64 (shF (T_kn tA)), zzO qp 0 [.ref qu, .ref qv, .int iL, .int iBs], zzO qu 3 [.int (nI (T_nb tU)), .int (nI (T_np tU)), .int (wb (T_wh tU)), .int (wb (T_gn tU)), .int (T_sd tU), .ref quw, .ref qun, .ref qug, .ref qua, .ref qur, .ref qum, .ref qut, .ref qus], zzI cy quw 8 (T_wo tU), zzI cy qun 8 (T_ne tU), zzI cy qug 8 (T_go tU), zzI cy qua 8 (T_ag tU), zzI cy qur 8 (T_re tU), zzI cy qum 8 (T_me tU), zzI cy qut 8 (T_te tU), zzI cy qus 64 (shF (T_kn tU)), zzO qv 3 [.int (nI (T_nb tV)), .int (nI (T_np tV)), .int (wb (T_wh tV)), .int (wb (T_gn tV)), .int (T_sd tV), .ref qvw, .ref qvn, .ref qvg, .ref qva, .ref qvr, .ref qvm, .ref qvt, .ref qvs], zzI cy qvw 8 (T_wo tV), zzI cy qvn 8 (T_ne tV), zzI cy qvg 8 (T_go tV), zzI cy qva 8 (T_ag tV), zzI cy qvr 8 (T_re tV), zzI cy qvm 8 (T_me tV), zzI cy qvt 8 (T_te tV), zzI cy qvs 64 (shF (T_kn tV))] sz [.ref qx, .int iA, .int iB] (Wi G (fun r u => ∃ (fX : Nat → Int32) (iX : Int32) (iY : Int32) (tX : TA) (tY : TA), u = [zzO qx 4 [.ref qt, .ref qk, .ref qp, .ref qs, .ref qa, .ref qr, .int iKp, .int iYe, .int iTv], zzI cy qr 5 fX, zzO qt 3 [.int (nI (T_nb tA)), .int (nI (T_np tA)), .int (wb (T_wh tA)), .int (wb (T_gn tA)), .int (T_sd tA), .ref qtw, .ref qtn, .ref qtg, .ref qta, .ref qtr, .ref qtm, .ref qtt, .ref qts], zzI cy qtw 8 (T_wo tA), zzI cy qtn 8 (T_ne tA), zzI cy qtg 8 (T_go tA), zzI cy qta 8 (T_ag tA), zzI cy qtr 8 (T_re tA), zzI cy qtm 8 (T_me tA), zzI cy qtt 8 (T_te tA), zzI cy qts 64 (shF (T_kn tA)), zzO qp 0 [.ref qu, .ref qv, .int iX, .int iY], zzO qu 3 [.int (nI (T_nb tX)), .int (nI (T_np tX)), .int (wb (T_wh tX)), .int (wb (T_gn tX)), .int (T_sd tX), .ref quw, .ref qun, .ref qug, .ref qua, .ref qur, .ref qum, .ref qut, .ref qus], zzI cy quw 8 (T_wo tX), zzI cy qun 8 (T_ne tX), zzI cy qug 8 (T_go tX), zzI cy qua 8 (T_ag tX), zzI cy qur 8 (T_re tX), zzI cy qum 8 (T_me tX), zzI cy qut 8 (T_te tX), zzI cy qus 64 (shF (T_kn tX)), zzO qv 3 [.int (nI (T_nb tY)), .int (nI (T_np tY)), .int (wb (T_wh tY)), .int (wb (T_gn tY)), .int (T_sd tY), .ref qvw, .ref qvn, .ref qvg, .ref qva, .ref qvr, .ref qvm, .ref qvt, .ref qvs], zzI cy qvw 8 (T_wo tY), zzI cy qvn 8 (T_ne tY), zzI cy qvg 8 (T_go tY), zzI cy qva 8 (T_ag tY), zzI cy qvr 8 (T_re tY), zzI cy qvm 8 (T_me tY), zzI cy qvt 8 (T_te tY), zzI cy qvs 64 (shF (T_kn tY))] ∧ (True))) := by
  refine enW RX5 (by decide) rfl (Nat.le_of_ble_eq_true rfl) (fun p e s m below meth c ls A hx hb hml hown hts hr hlocks hP hN hl hin hD hA hS => ?_)
  have hin : meth.name = _ := hin
  have hK := hN.1
  replace hl : lv_has ls 4 [(0, .ref qx), (1, .int iA), (2, .int iB)] := hl
  refine lv_aload_n hx hb dX5_keeping_0 rfl (lv_at hl 0 rfl) ?_
  refine va_get (D := G) (ci := 4) (v := .ref qt) (C := RX5) (T := TX5) (N := 9) hx hb hts iX_X5 hown hK hP 0 rfl rfl 0 (by decide) (hts _ m_t174) (fun _ h9 => h9) rfl dX5_keeping_1 ?_
  refine lv_iload_n hx hb dX5_keeping_4 rfl (lv_at hl 1 rfl) ?_
  refine kRi (rV (As := [.int iA]) (rest := []) (b := qt) ⟨hx, hb, hml, hown, hts⟩ (c_X4_isBook l G cy qt tA qtw qtn qtg qta qtr qtm qtt qts iA hB) L_X5_168 (preRV (q := (RX4, TX4, 13)) hN hP [2] rfl 2 3 rfl rfl) rfl ⟨Nat.le_of_ble_eq_true rfl, Nat.le_of_ble_eq_true rfl⟩ hl.1 (Nat.le_of_ble_eq_true rfl) dX5_keeping_5 ⟨Nat.le_of_ble_eq_true rfl, Nat.le_of_ble_eq_true rfl⟩) (fun r_1 h_2 => ?_)
  rcases h_2 with ⟨rfl, h_3⟩ | ⟨rfl, h_3⟩
  · obtain ⟨k_4, hk_5, rfl⟩ := h_3
    refine lv_if_eq (tgt := 25) hx hb dX5_keeping_8 (by decide) (fun h9 => absurd h9 (by decide)) (fun _ => ?_)
    refine lv_iload_n hx hb dX5_keeping_11 rfl (lv_at hl 2 rfl) ?_
    refine lv_i2l (v := iB.toInt64) hx hb dX5_keeping_12 rfl ?_
    refine lv_ldc2 hx hb hown (hts _ m_t704) dX5_keeping_13 ?_
    refine lv_ldc2 hx hb hown (hts _ m_t644) dX5_keeping_16 ?_
    refine kRi (rS (As := [.long iB.toInt64, .long 2, .long 60]) (rest := []) ⟨hx, hb, hml, hown, hts⟩ (c_X5_within l G cy iB.toInt64 2 60) L_X5_50 (preRS hN hP [] rfl) rfl ⟨Nat.le_of_ble_eq_true rfl, Nat.le_of_ble_eq_true rfl⟩ hl.1 (Nat.le_of_ble_eq_true rfl) dX5_keeping_19 ⟨Nat.le_of_ble_eq_true rfl, Nat.le_of_ble_eq_true rfl⟩) (fun r_7 h_8 => ?_)
    rcases h_8 with ⟨rfl, h_9⟩ | ⟨rfl, h_9⟩
    · obtain ⟨k_10, hk_11, hk_12, rfl⟩ := iv_nI 2 60 (by decide) (by decide) h_9
      refine lv_if_ne (tgt := 36) hx hb dX5_keeping_22 (by decide) (fun _ => ?_) (fun h9 => absurd h9 (by decide))
      refine lv_aload_n hx hb dX5_keeping_36 rfl (lv_at hl 0 rfl) ?_
      refine va_get (D := G) (ci := 4) (v := .ref qt) (C := RX5) (T := TX5) (N := 9) hx hb hts iX_X5 hown hK hP 0 rfl rfl 0 (by decide) (hts _ m_t174) (fun _ h9 => h9) rfl dX5_keeping_37 ?_
      refine va_getN (D := G) (ci := 3) (v := .int (wb (T_wh tA))) (C := RX4) (T := TX4) (N := 13) hx hb hts iX_X4 hown hK hP 2 rfl rfl 2 (by decide) (va_Nw.use rfl (hN.2.1 (RX5, 180, "EachBookOnce$Town", "white", "I") (List.mem_of_getElem? (i := 10) rfl))) (fun _ h9 => h9) rfl dX5_keeping_40 ?_
      refine lv_iload_n hx hb dX5_keeping_43 rfl (lv_at hl 1 rfl) ?_
      refine kRi (rS (As := [.int (wb (T_wh tA)), .int (nI k_4)]) (rest := []) ⟨hx, hb, hml, hown, hts⟩ (c_X5_has l G cy (wb (T_wh tA)) k_4) L_X5_183 (preRS hN hP [] rfl) rfl ⟨Nat.le_of_ble_eq_true rfl, Nat.le_of_ble_eq_true rfl⟩ hl.1 (Nat.le_of_ble_eq_true rfl) dX5_keeping_44 ⟨Nat.le_of_ble_eq_true rfl, Nat.le_of_ble_eq_true rfl⟩) (fun r_14 h_15 => ?_)
      rcases h_15 with ⟨rfl, h_16⟩ | ⟨rfl, h_16⟩
      · rw [bit_wb _ (by omega)] at h_16
        refine lv_if_ne (tgt := 70) hx hb dX5_keeping_47 (by decide) (fun _ => ?_) (fun h9 => absurd h9 (by decide))
        refine lv_iconst (v := 0) hx hb dX5_keeping_70 (by decide) ?_
        refine lv_istore_n (lv' := [(3, .int 0), (0, .ref qx), (1, .int (nI k_4)), (2, .int (nI k_10))]) hx hb dX5_keeping_71 rfl hl (by decide) rfl (fun ls => ?_)
        clear hl
        intro hl
        refine lv_iload_n hx hb dX5_keeping_72 rfl (lv_at hl 0 rfl) ?_
        refine lv_if_eq (tgt := 86) hx hb dX5_keeping_73 (by decide) (fun _ => ?_) (fun h9 => absurd (by decide) h9)
        refine lv_aload_n hx hb dX5_keeping_86 rfl (lv_at hl 1 rfl) ?_
        refine lv_bipush (v := (-5)) hx hb dX5_keeping_87 (by decide) ?_
        refine cVi (As := [.int (-5)]) (rest := []) (b := qx) (q := (RX5, TX5, 9)) ⟨hx, hb, hml, hown, hts⟩ (c_X5_refuse5 l G cy (s.heap).size qx qt qk qp qs qa qr iKp iYe iTv fR) L_X5_56 hN hP hD hS hA [0, 1] [false, false, true, true, true, true, true, true, true, true, true, true, true, true, true, true, true, true, true, true, true, true, true, true, true, true, true, true, true, true] rfl (by decide +kernel) rfl 0 4 rfl rfl rfl ⟨Nat.le_of_ble_eq_true rfl, Nat.le_of_ble_eq_true rfl⟩ hl.1 (Nat.le_of_ble_eq_true rfl) dX5_keeping_89 ⟨Nat.le_of_ble_eq_true rfl, Nat.le_of_ble_eq_true rfl⟩ (fun r_19 u_21 H locs h_20 => ?_)
        clear hP hD hS
        intro hP hD hS
        obtain ⟨fX_22, rfl, h_20⟩ := h_20
        have hPD := pd_as [zzO qt 3 [.int (nI (T_nb tA)), .int (nI (T_np tA)), .int (wb (T_wh tA)), .int (wb (T_gn tA)), .int (T_sd tA), .ref qtw, .ref qtn, .ref qtg, .ref qta, .ref qtr, .ref qtm, .ref qtt, .ref qts], zzI cy qtw 8 (T_wo tA), zzI cy qtn 8 (T_ne tA), zzI cy qtg 8 (T_go tA), zzI cy qta 8 (T_ag tA), zzI cy qtr 8 (T_re tA), zzI cy qtm 8 (T_me tA), zzI cy qtt 8 (T_te tA), zzI cy qts 64 (shF (T_kn tA)), zzO qp 0 [.ref qu, .ref qv, .int iL, .int iBs], zzO qu 3 [.int (nI (T_nb tU)), .int (nI (T_np tU)), .int (wb (T_wh tU)), .int (wb (T_gn tU)), .int (T_sd tU), .ref quw, .ref qun, .ref qug, .ref qua, .ref qur, .ref qum, .ref qut, .ref qus], zzI cy quw 8 (T_wo tU), zzI cy qun 8 (T_ne tU), zzI cy qug 8 (T_go tU), zzI cy qua 8 (T_ag tU), zzI cy qur 8 (T_re tU), zzI cy qum 8 (T_me tU), zzI cy qut 8 (T_te tU), zzI cy qus 64 (shF (T_kn tU)), zzO qv 3 [.int (nI (T_nb tV)), .int (nI (T_np tV)), .int (wb (T_wh tV)), .int (wb (T_gn tV)), .int (T_sd tV), .ref qvw, .ref qvn, .ref qvg, .ref qva, .ref qvr, .ref qvm, .ref qvt, .ref qvs], zzI cy qvw 8 (T_wo tV), zzI cy qvn 8 (T_ne tV), zzI cy qvg 8 (T_go tV), zzI cy qva 8 (T_ag tV), zzI cy qvr 8 (T_re tV), zzI cy qvm 8 (T_me tV), zzI cy qvt 8 (T_te tV), zzI cy qvs 64 (shF (T_kn tV)), zzO qx 4 [.ref qt, .ref qk, .ref qp, .ref qs, .ref qa, .ref qr, .int iKp, .int iYe, .int iTv], zzI cy qr 5 fX_22] hP hD rfl
        clear hP hD
        obtain ⟨hP, hD⟩ := hPD
        subst h_20
        refine lv_ldcw hx hb hown (hts _ m_t705) dX5_keeping_92 ?_
        refine lv_isub hx hb dX5_keeping_95 ?_
        refine lv_seti (v := (-1000005)) (by decide) ?_
        exact endW (u := [zzO qx 4 [.ref qt, .ref qk, .ref qp, .ref qs, .ref qa, .ref qr, .int iKp, .int iYe, .int iTv], zzI cy qr 5 fX_22, zzO qt 3 [.int (nI (T_nb tA)), .int (nI (T_np tA)), .int (wb (T_wh tA)), .int (wb (T_gn tA)), .int (T_sd tA), .ref qtw, .ref qtn, .ref qtg, .ref qta, .ref qtr, .ref qtm, .ref qtt, .ref qts], zzI cy qtw 8 (T_wo tA), zzI cy qtn 8 (T_ne tA), zzI cy qtg 8 (T_go tA), zzI cy qta 8 (T_ag tA), zzI cy qtr 8 (T_re tA), zzI cy qtm 8 (T_me tA), zzI cy qtt 8 (T_te tA), zzI cy qts 64 (shF (T_kn tA)), zzO qp 0 [.ref qu, .ref qv, .int iL, .int iBs], zzO qu 3 [.int (nI (T_nb tU)), .int (nI (T_np tU)), .int (wb (T_wh tU)), .int (wb (T_gn tU)), .int (T_sd tU), .ref quw, .ref qun, .ref qug, .ref qua, .ref qur, .ref qum, .ref qut, .ref qus], zzI cy quw 8 (T_wo tU), zzI cy qun 8 (T_ne tU), zzI cy qug 8 (T_go tU), zzI cy qua 8 (T_ag tU), zzI cy qur 8 (T_re tU), zzI cy qum 8 (T_me tU), zzI cy qut 8 (T_te tU), zzI cy qus 64 (shF (T_kn tU)), zzO qv 3 [.int (nI (T_nb tV)), .int (nI (T_np tV)), .int (wb (T_wh tV)), .int (wb (T_gn tV)), .int (T_sd tV), .ref qvw, .ref qvn, .ref qvg, .ref qva, .ref qvr, .ref qvm, .ref qvt, .ref qvs], zzI cy qvw 8 (T_wo tV), zzI cy qvn 8 (T_ne tV), zzI cy qvg 8 (T_go tV), zzI cy qva 8 (T_ag tV), zzI cy qvr 8 (T_re tV), zzI cy qvm 8 (T_me tV), zzI cy qvt 8 (T_te tV), zzI cy qvs 64 (shF (T_kn tV))]) hx hb hr hlocks rfl (hP.sub [28, 29, 0, 1, 2, 3, 4, 5, 6, 7, 8, 9, 10, 11, 12, 13, 14, 15, 16, 17, 18, 19, 20, 21, 22, 23, 24, 25, 26, 27] rfl) (hD.sub [28, 29, 0, 1, 2, 3, 4, 5, 6, 7, 8, 9, 10, 11, 12, 13, 14, 15, 16, 17, 18, 19, 20, 21, 22, 23, 24, 25, 26, 27] (by decide +kernel) rfl) hS ⟨fX_22, iL, iBs, tU, tV, rfl, trivial⟩ dX5_keeping_96
      · rw [bit_wb _ (by omega)] at h_16
        refine lv_if_ne (tgt := 70) hx hb dX5_keeping_47 (by decide) (fun h9 => absurd (by decide) h9) (fun _ => ?_)
        refine lv_aload_n hx hb dX5_keeping_50 rfl (lv_at hl 0 rfl) ?_
        refine va_get (D := G) (ci := 4) (v := .ref qp) (C := RX5) (T := TX5) (N := 9) hx hb hts iX_X5 hown hK hP 0 rfl rfl 2 (by decide) (hts _ m_t176) (fun _ h9 => h9) rfl dX5_keeping_51 ?_
        refine lv_aload_n hx hb dX5_keeping_54 rfl (lv_at hl 0 rfl) ?_
        refine va_get (D := G) (ci := 4) (v := .ref qt) (C := RX5) (T := TX5) (N := 9) hx hb hts iX_X5 hown hK hP 0 rfl rfl 0 (by decide) (hts _ m_t174) (fun _ h9 => h9) rfl dX5_keeping_55 ?_
        refine lv_iload_n hx hb dX5_keeping_58 rfl (lv_at hl 1 rfl) ?_
        refine lv_iload_n hx hb dX5_keeping_59 rfl (lv_at hl 2 rfl) ?_
        refine cVi (As := [.ref qt, .int (nI k_4), .int (nI k_10)]) (rest := []) (b := qp) (q := (RX0, TX0, 4)) ⟨hx, hb, hml, hown, hts⟩ (c_X0_findKeeping l G cy (s.heap).size qp qu qv iL iBs tU quw qun qug qua qur qum qut qus tV qvw qvn qvg qva qvr qvm qvt qvs qt tA qtw qtn qtg qta qtr qtm qtt qts k_4 k_10 hB hPp (by first | omega | (simp only [nb_sr, np_sr, nb_wr, np_wr, nb_rd, np_rd, nb_ch, np_ch, nb_zr, np_zr, nb_za, np_za, nb_ey, np_ey, nb_hf, np_hf, nb_dd, np_dd, nb_so, np_so, nb_skn, np_skn, nb_swh, np_swh, nb_sgn, np_sgn, nb_ssd, np_ssd, nb_sgo, np_sgo, nb_sag, np_sag]; omega)) (by first | omega | (simp only [nb_sr, np_sr, nb_wr, np_wr, nb_rd, np_rd, nb_ch, np_ch, nb_zr, np_zr, nb_za, np_za, nb_ey, np_ey, nb_hf, np_hf, nb_dd, np_dd, nb_so, np_so, nb_skn, np_skn, nb_swh, np_swh, nb_sgn, np_sgn, nb_ssd, np_ssd, nb_sgo, np_sgo, nb_sag, np_sag]; omega)) (by first | omega | (simp only [nb_sr, np_sr, nb_wr, np_wr, nb_rd, np_rd, nb_ch, np_ch, nb_zr, np_zr, nb_za, np_za, nb_ey, np_ey, nb_hf, np_hf, nb_dd, np_dd, nb_so, np_so, nb_skn, np_skn, nb_swh, np_swh, nb_sgn, np_sgn, nb_ssd, np_ssd, nb_sgo, np_sgo, nb_sag, np_sag]; omega))) L_X5_287 hN hP hD hS hA [11, 12, 13, 14, 15, 16, 17, 18, 19, 20, 21, 22, 23, 24, 25, 26, 27, 28, 29, 2, 3, 4, 5, 6, 7, 8, 9, 10] [true, true, false, false, false, false, false, false, false, false, false, false, false, false, false, false, false, false, false, false, false, false, false, false, false, false, false, false, false, false] rfl (by decide +kernel) rfl 11 0 rfl rfl rfl ⟨Nat.le_of_ble_eq_true rfl, Nat.le_of_ble_eq_true rfl⟩ hl.1 (Nat.le_of_ble_eq_true rfl) dX5_keeping_60 ⟨Nat.le_of_ble_eq_true rfl, Nat.le_of_ble_eq_true rfl⟩ (fun r_24 u_26 H locs h_25 => ?_)
        clear hP hD hS
        intro hP hD hS
        obtain ⟨tX_27, tY_28, rfl, h_25⟩ := h_25
        have hPD := pd_as [zzO qx 4 [.ref qt, .ref qk, .ref qp, .ref qs, .ref qa, .ref qr, .int iKp, .int iYe, .int iTv], zzI cy qr 5 fR, zzO qp 0 [.ref qu, .ref qv, .int iL, .int ((zfk tA k_4 k_10 iBs).2)], zzO qu 3 [.int (nI (T_nb tX_27)), .int (nI (T_np tX_27)), .int (wb (T_wh tX_27)), .int (wb (T_gn tX_27)), .int (T_sd tX_27), .ref quw, .ref qun, .ref qug, .ref qua, .ref qur, .ref qum, .ref qut, .ref qus], zzI cy quw 8 (T_wo tX_27), zzI cy qun 8 (T_ne tX_27), zzI cy qug 8 (T_go tX_27), zzI cy qua 8 (T_ag tX_27), zzI cy qur 8 (T_re tX_27), zzI cy qum 8 (T_me tX_27), zzI cy qut 8 (T_te tX_27), zzI cy qus 64 (shF (T_kn tX_27)), zzO qv 3 [.int (nI (T_nb tY_28)), .int (nI (T_np tY_28)), .int (wb (T_wh tY_28)), .int (wb (T_gn tY_28)), .int (T_sd tY_28), .ref qvw, .ref qvn, .ref qvg, .ref qva, .ref qvr, .ref qvm, .ref qvt, .ref qvs], zzI cy qvw 8 (T_wo tY_28), zzI cy qvn 8 (T_ne tY_28), zzI cy qvg 8 (T_go tY_28), zzI cy qva 8 (T_ag tY_28), zzI cy qvr 8 (T_re tY_28), zzI cy qvm 8 (T_me tY_28), zzI cy qvt 8 (T_te tY_28), zzI cy qvs 64 (shF (T_kn tY_28)), zzO qt 3 [.int (nI (T_nb tA)), .int (nI (T_np tA)), .int (wb (T_wh tA)), .int (wb (T_gn tA)), .int (T_sd tA), .ref qtw, .ref qtn, .ref qtg, .ref qta, .ref qtr, .ref qtm, .ref qtt, .ref qts], zzI cy qtw 8 (T_wo tA), zzI cy qtn 8 (T_ne tA), zzI cy qtg 8 (T_go tA), zzI cy qta 8 (T_ag tA), zzI cy qtr 8 (T_re tA), zzI cy qtm 8 (T_me tA), zzI cy qtt 8 (T_te tA), zzI cy qts 64 (shF (T_kn tA))] hP hD rfl
        clear hP hD
        obtain ⟨hP, hD⟩ := hPD
        subst h_25
        refine lv_if_eq (tgt := 70) hx hb dX5_keeping_63 (by decide) (fun c_29 => ?_) (fun c_29 => ?_)
        · refine lv_iconst (v := 0) hx hb dX5_keeping_70 (by decide) ?_
          refine lv_istore_n (lv' := [(3, .int 0), (0, .ref qx), (1, .int (nI k_4)), (2, .int (nI k_10))]) hx hb dX5_keeping_71 rfl hl (by decide) rfl (fun ls => ?_)
          clear hl
          intro hl
          refine lv_iload_n hx hb dX5_keeping_72 rfl (lv_at hl 0 rfl) ?_
          refine lv_if_eq (tgt := 86) hx hb dX5_keeping_73 (by decide) (fun _ => ?_) (fun h9 => absurd (by decide) h9)
          refine lv_aload_n hx hb dX5_keeping_86 rfl (lv_at hl 1 rfl) ?_
          refine lv_bipush (v := (-5)) hx hb dX5_keeping_87 (by decide) ?_
          refine cVi (As := [.int (-5)]) (rest := []) (b := qx) (q := (RX5, TX5, 9)) ⟨hx, hb, hml, hown, hts⟩ (c_X5_refuse5 l G cy (H).size qx qt qk qp qs qa qr iKp iYe iTv fR) L_X5_56 hN hP hD hS hA [0, 1] [false, false, true, true, true, true, true, true, true, true, true, true, true, true, true, true, true, true, true, true, true, true, true, true, true, true, true, true, true, true] rfl (by decide +kernel) rfl 0 4 rfl rfl rfl ⟨Nat.le_of_ble_eq_true rfl, Nat.le_of_ble_eq_true rfl⟩ hl.1 (Nat.le_of_ble_eq_true rfl) dX5_keeping_89 ⟨Nat.le_of_ble_eq_true rfl, Nat.le_of_ble_eq_true rfl⟩ (fun r_31 u_33 H locs h_32 => ?_)
          clear hP hD hS
          intro hP hD hS
          obtain ⟨fX_34, rfl, h_32⟩ := h_32
          have hPD := pd_as [zzO qp 0 [.ref qu, .ref qv, .int iL, .int ((zfk tA k_4 k_10 iBs).2)], zzO qu 3 [.int (nI (T_nb tX_27)), .int (nI (T_np tX_27)), .int (wb (T_wh tX_27)), .int (wb (T_gn tX_27)), .int (T_sd tX_27), .ref quw, .ref qun, .ref qug, .ref qua, .ref qur, .ref qum, .ref qut, .ref qus], zzI cy quw 8 (T_wo tX_27), zzI cy qun 8 (T_ne tX_27), zzI cy qug 8 (T_go tX_27), zzI cy qua 8 (T_ag tX_27), zzI cy qur 8 (T_re tX_27), zzI cy qum 8 (T_me tX_27), zzI cy qut 8 (T_te tX_27), zzI cy qus 64 (shF (T_kn tX_27)), zzO qv 3 [.int (nI (T_nb tY_28)), .int (nI (T_np tY_28)), .int (wb (T_wh tY_28)), .int (wb (T_gn tY_28)), .int (T_sd tY_28), .ref qvw, .ref qvn, .ref qvg, .ref qva, .ref qvr, .ref qvm, .ref qvt, .ref qvs], zzI cy qvw 8 (T_wo tY_28), zzI cy qvn 8 (T_ne tY_28), zzI cy qvg 8 (T_go tY_28), zzI cy qva 8 (T_ag tY_28), zzI cy qvr 8 (T_re tY_28), zzI cy qvm 8 (T_me tY_28), zzI cy qvt 8 (T_te tY_28), zzI cy qvs 64 (shF (T_kn tY_28)), zzO qt 3 [.int (nI (T_nb tA)), .int (nI (T_np tA)), .int (wb (T_wh tA)), .int (wb (T_gn tA)), .int (T_sd tA), .ref qtw, .ref qtn, .ref qtg, .ref qta, .ref qtr, .ref qtm, .ref qtt, .ref qts], zzI cy qtw 8 (T_wo tA), zzI cy qtn 8 (T_ne tA), zzI cy qtg 8 (T_go tA), zzI cy qta 8 (T_ag tA), zzI cy qtr 8 (T_re tA), zzI cy qtm 8 (T_me tA), zzI cy qtt 8 (T_te tA), zzI cy qts 64 (shF (T_kn tA)), zzO qx 4 [.ref qt, .ref qk, .ref qp, .ref qs, .ref qa, .ref qr, .int iKp, .int iYe, .int iTv], zzI cy qr 5 fX_34] hP hD rfl
          clear hP hD
          obtain ⟨hP, hD⟩ := hPD
          subst h_32
          refine lv_ldcw hx hb hown (hts _ m_t705) dX5_keeping_92 ?_
          refine lv_isub hx hb dX5_keeping_95 ?_
          refine lv_seti (v := (-1000005)) (by decide) ?_
          exact endW (u := [zzO qx 4 [.ref qt, .ref qk, .ref qp, .ref qs, .ref qa, .ref qr, .int iKp, .int iYe, .int iTv], zzI cy qr 5 fX_34, zzO qt 3 [.int (nI (T_nb tA)), .int (nI (T_np tA)), .int (wb (T_wh tA)), .int (wb (T_gn tA)), .int (T_sd tA), .ref qtw, .ref qtn, .ref qtg, .ref qta, .ref qtr, .ref qtm, .ref qtt, .ref qts], zzI cy qtw 8 (T_wo tA), zzI cy qtn 8 (T_ne tA), zzI cy qtg 8 (T_go tA), zzI cy qta 8 (T_ag tA), zzI cy qtr 8 (T_re tA), zzI cy qtm 8 (T_me tA), zzI cy qtt 8 (T_te tA), zzI cy qts 64 (shF (T_kn tA)), zzO qp 0 [.ref qu, .ref qv, .int iL, .int ((zfk tA k_4 k_10 iBs).2)], zzO qu 3 [.int (nI (T_nb tX_27)), .int (nI (T_np tX_27)), .int (wb (T_wh tX_27)), .int (wb (T_gn tX_27)), .int (T_sd tX_27), .ref quw, .ref qun, .ref qug, .ref qua, .ref qur, .ref qum, .ref qut, .ref qus], zzI cy quw 8 (T_wo tX_27), zzI cy qun 8 (T_ne tX_27), zzI cy qug 8 (T_go tX_27), zzI cy qua 8 (T_ag tX_27), zzI cy qur 8 (T_re tX_27), zzI cy qum 8 (T_me tX_27), zzI cy qut 8 (T_te tX_27), zzI cy qus 64 (shF (T_kn tX_27)), zzO qv 3 [.int (nI (T_nb tY_28)), .int (nI (T_np tY_28)), .int (wb (T_wh tY_28)), .int (wb (T_gn tY_28)), .int (T_sd tY_28), .ref qvw, .ref qvn, .ref qvg, .ref qva, .ref qvr, .ref qvm, .ref qvt, .ref qvs], zzI cy qvw 8 (T_wo tY_28), zzI cy qvn 8 (T_ne tY_28), zzI cy qvg 8 (T_go tY_28), zzI cy qva 8 (T_ag tY_28), zzI cy qvr 8 (T_re tY_28), zzI cy qvm 8 (T_me tY_28), zzI cy qvt 8 (T_te tY_28), zzI cy qvs 64 (shF (T_kn tY_28))]) hx hb hr hlocks rfl (hP.sub [28, 29, 19, 20, 21, 22, 23, 24, 25, 26, 27, 0, 1, 2, 3, 4, 5, 6, 7, 8, 9, 10, 11, 12, 13, 14, 15, 16, 17, 18] rfl) (hD.sub [28, 29, 19, 20, 21, 22, 23, 24, 25, 26, 27, 0, 1, 2, 3, 4, 5, 6, 7, 8, 9, 10, 11, 12, 13, 14, 15, 16, 17, 18] (by decide +kernel) rfl) hS ⟨fX_34, iL, (zfk tA k_4 k_10 iBs).2, tX_27, tY_28, rfl, trivial⟩ dX5_keeping_96
        · refine lv_iconst (v := 1) hx hb dX5_keeping_66 (by decide) ?_
          refine lv_goto (tgt := 71) hx hb dX5_keeping_67 (by decide) ?_
          refine lv_istore_n (lv' := [(3, .int 1), (0, .ref qx), (1, .int (nI k_4)), (2, .int (nI k_10))]) hx hb dX5_keeping_71 rfl hl (by decide) rfl (fun ls => ?_)
          clear hl
          intro hl
          refine lv_iload_n hx hb dX5_keeping_72 rfl (lv_at hl 0 rfl) ?_
          refine lv_if_eq (tgt := 86) hx hb dX5_keeping_73 (by decide) (fun h9 => absurd h9 (by decide)) (fun _ => ?_)
          refine lv_aload_n hx hb dX5_keeping_76 rfl (lv_at hl 1 rfl) ?_
          refine va_get (D := G) (ci := 4) (v := .ref qp) (C := RX5) (T := TX5) (N := 9) hx hb hts iX_X5 hown hK hP 0 rfl rfl 2 (by decide) (hts _ m_t176) (fun _ h9 => h9) rfl dX5_keeping_77 ?_
          refine va_getN (D := G) (ci := 0) (v := .int ((zfk tA k_4 k_10 iBs).2)) (C := RX0) (T := TX0) (N := 4) hx hb hts iX_X0 hown hK hP 2 rfl rfl 3 (by decide) (va_Nw.use rfl (hN.2.1 (RX5, 291, "EachBookOnce$Plans", "bestSum", "I") (List.mem_of_getElem? (i := 25) rfl))) (fun _ h9 => h9) rfl dX5_keeping_80 ?_
          refine lv_goto (tgt := 96) hx hb dX5_keeping_83 (by decide) ?_
          exact endW (u := [zzO qx 4 [.ref qt, .ref qk, .ref qp, .ref qs, .ref qa, .ref qr, .int iKp, .int iYe, .int iTv], zzI cy qr 5 fR, zzO qt 3 [.int (nI (T_nb tA)), .int (nI (T_np tA)), .int (wb (T_wh tA)), .int (wb (T_gn tA)), .int (T_sd tA), .ref qtw, .ref qtn, .ref qtg, .ref qta, .ref qtr, .ref qtm, .ref qtt, .ref qts], zzI cy qtw 8 (T_wo tA), zzI cy qtn 8 (T_ne tA), zzI cy qtg 8 (T_go tA), zzI cy qta 8 (T_ag tA), zzI cy qtr 8 (T_re tA), zzI cy qtm 8 (T_me tA), zzI cy qtt 8 (T_te tA), zzI cy qts 64 (shF (T_kn tA)), zzO qp 0 [.ref qu, .ref qv, .int iL, .int ((zfk tA k_4 k_10 iBs).2)], zzO qu 3 [.int (nI (T_nb tX_27)), .int (nI (T_np tX_27)), .int (wb (T_wh tX_27)), .int (wb (T_gn tX_27)), .int (T_sd tX_27), .ref quw, .ref qun, .ref qug, .ref qua, .ref qur, .ref qum, .ref qut, .ref qus], zzI cy quw 8 (T_wo tX_27), zzI cy qun 8 (T_ne tX_27), zzI cy qug 8 (T_go tX_27), zzI cy qua 8 (T_ag tX_27), zzI cy qur 8 (T_re tX_27), zzI cy qum 8 (T_me tX_27), zzI cy qut 8 (T_te tX_27), zzI cy qus 64 (shF (T_kn tX_27)), zzO qv 3 [.int (nI (T_nb tY_28)), .int (nI (T_np tY_28)), .int (wb (T_wh tY_28)), .int (wb (T_gn tY_28)), .int (T_sd tY_28), .ref qvw, .ref qvn, .ref qvg, .ref qva, .ref qvr, .ref qvm, .ref qvt, .ref qvs], zzI cy qvw 8 (T_wo tY_28), zzI cy qvn 8 (T_ne tY_28), zzI cy qvg 8 (T_go tY_28), zzI cy qva 8 (T_ag tY_28), zzI cy qvr 8 (T_re tY_28), zzI cy qvm 8 (T_me tY_28), zzI cy qvt 8 (T_te tY_28), zzI cy qvs 64 (shF (T_kn tY_28))]) hx hb hr hlocks rfl (hP.sub [0, 1, 21, 22, 23, 24, 25, 26, 27, 28, 29, 2, 3, 4, 5, 6, 7, 8, 9, 10, 11, 12, 13, 14, 15, 16, 17, 18, 19, 20] rfl) (hD.sub [0, 1, 21, 22, 23, 24, 25, 26, 27, 28, 29, 2, 3, 4, 5, 6, 7, 8, 9, 10, 11, 12, 13, 14, 15, 16, 17, 18, 19, 20] (by decide +kernel) rfl) hS ⟨fR, iL, (zfk tA k_4 k_10 iBs).2, tX_27, tY_28, rfl, trivial⟩ dX5_keeping_96
    · refine lv_if_ne (tgt := 36) hx hb dX5_keeping_22 (by decide) (fun h9 => absurd (by decide) h9) (fun _ => ?_)
      refine lv_aload_n hx hb dX5_keeping_25 rfl (lv_at hl 0 rfl) ?_
      refine lv_bipush (v := (-2)) hx hb dX5_keeping_26 (by decide) ?_
      refine cVi (As := [.int (-2)]) (rest := []) (b := qx) (q := (RX5, TX5, 9)) ⟨hx, hb, hml, hown, hts⟩ (c_X5_refuse2 l G cy (s.heap).size qx qt qk qp qs qa qr iKp iYe iTv fR) L_X5_56 hN hP hD hS hA [0, 1] [false, false, true, true, true, true, true, true, true, true, true, true, true, true, true, true, true, true, true, true, true, true, true, true, true, true, true, true, true, true] rfl (by decide +kernel) rfl 0 4 rfl rfl rfl ⟨Nat.le_of_ble_eq_true rfl, Nat.le_of_ble_eq_true rfl⟩ hl.1 (Nat.le_of_ble_eq_true rfl) dX5_keeping_28 ⟨Nat.le_of_ble_eq_true rfl, Nat.le_of_ble_eq_true rfl⟩ (fun r_37 u_39 H locs h_38 => ?_)
      clear hP hD hS
      intro hP hD hS
      obtain ⟨fX_40, rfl, h_38⟩ := h_38
      have hPD := pd_as [zzO qt 3 [.int (nI (T_nb tA)), .int (nI (T_np tA)), .int (wb (T_wh tA)), .int (wb (T_gn tA)), .int (T_sd tA), .ref qtw, .ref qtn, .ref qtg, .ref qta, .ref qtr, .ref qtm, .ref qtt, .ref qts], zzI cy qtw 8 (T_wo tA), zzI cy qtn 8 (T_ne tA), zzI cy qtg 8 (T_go tA), zzI cy qta 8 (T_ag tA), zzI cy qtr 8 (T_re tA), zzI cy qtm 8 (T_me tA), zzI cy qtt 8 (T_te tA), zzI cy qts 64 (shF (T_kn tA)), zzO qp 0 [.ref qu, .ref qv, .int iL, .int iBs], zzO qu 3 [.int (nI (T_nb tU)), .int (nI (T_np tU)), .int (wb (T_wh tU)), .int (wb (T_gn tU)), .int (T_sd tU), .ref quw, .ref qun, .ref qug, .ref qua, .ref qur, .ref qum, .ref qut, .ref qus], zzI cy quw 8 (T_wo tU), zzI cy qun 8 (T_ne tU), zzI cy qug 8 (T_go tU), zzI cy qua 8 (T_ag tU), zzI cy qur 8 (T_re tU), zzI cy qum 8 (T_me tU), zzI cy qut 8 (T_te tU), zzI cy qus 64 (shF (T_kn tU)), zzO qv 3 [.int (nI (T_nb tV)), .int (nI (T_np tV)), .int (wb (T_wh tV)), .int (wb (T_gn tV)), .int (T_sd tV), .ref qvw, .ref qvn, .ref qvg, .ref qva, .ref qvr, .ref qvm, .ref qvt, .ref qvs], zzI cy qvw 8 (T_wo tV), zzI cy qvn 8 (T_ne tV), zzI cy qvg 8 (T_go tV), zzI cy qva 8 (T_ag tV), zzI cy qvr 8 (T_re tV), zzI cy qvm 8 (T_me tV), zzI cy qvt 8 (T_te tV), zzI cy qvs 64 (shF (T_kn tV)), zzO qx 4 [.ref qt, .ref qk, .ref qp, .ref qs, .ref qa, .ref qr, .int iKp, .int iYe, .int iTv], zzI cy qr 5 fX_40] hP hD rfl
      clear hP hD
      obtain ⟨hP, hD⟩ := hPD
      subst h_38
      refine lv_ldcw hx hb hown (hts _ m_t705) dX5_keeping_31 ?_
      refine lv_isub hx hb dX5_keeping_34 ?_
      refine lv_seti (v := (-1000002)) (by decide) ?_
      exact endW (u := [zzO qx 4 [.ref qt, .ref qk, .ref qp, .ref qs, .ref qa, .ref qr, .int iKp, .int iYe, .int iTv], zzI cy qr 5 fX_40, zzO qt 3 [.int (nI (T_nb tA)), .int (nI (T_np tA)), .int (wb (T_wh tA)), .int (wb (T_gn tA)), .int (T_sd tA), .ref qtw, .ref qtn, .ref qtg, .ref qta, .ref qtr, .ref qtm, .ref qtt, .ref qts], zzI cy qtw 8 (T_wo tA), zzI cy qtn 8 (T_ne tA), zzI cy qtg 8 (T_go tA), zzI cy qta 8 (T_ag tA), zzI cy qtr 8 (T_re tA), zzI cy qtm 8 (T_me tA), zzI cy qtt 8 (T_te tA), zzI cy qts 64 (shF (T_kn tA)), zzO qp 0 [.ref qu, .ref qv, .int iL, .int iBs], zzO qu 3 [.int (nI (T_nb tU)), .int (nI (T_np tU)), .int (wb (T_wh tU)), .int (wb (T_gn tU)), .int (T_sd tU), .ref quw, .ref qun, .ref qug, .ref qua, .ref qur, .ref qum, .ref qut, .ref qus], zzI cy quw 8 (T_wo tU), zzI cy qun 8 (T_ne tU), zzI cy qug 8 (T_go tU), zzI cy qua 8 (T_ag tU), zzI cy qur 8 (T_re tU), zzI cy qum 8 (T_me tU), zzI cy qut 8 (T_te tU), zzI cy qus 64 (shF (T_kn tU)), zzO qv 3 [.int (nI (T_nb tV)), .int (nI (T_np tV)), .int (wb (T_wh tV)), .int (wb (T_gn tV)), .int (T_sd tV), .ref qvw, .ref qvn, .ref qvg, .ref qva, .ref qvr, .ref qvm, .ref qvt, .ref qvs], zzI cy qvw 8 (T_wo tV), zzI cy qvn 8 (T_ne tV), zzI cy qvg 8 (T_go tV), zzI cy qva 8 (T_ag tV), zzI cy qvr 8 (T_re tV), zzI cy qvm 8 (T_me tV), zzI cy qvt 8 (T_te tV), zzI cy qvs 64 (shF (T_kn tV))]) hx hb hr hlocks rfl (hP.sub [28, 29, 0, 1, 2, 3, 4, 5, 6, 7, 8, 9, 10, 11, 12, 13, 14, 15, 16, 17, 18, 19, 20, 21, 22, 23, 24, 25, 26, 27] rfl) (hD.sub [28, 29, 0, 1, 2, 3, 4, 5, 6, 7, 8, 9, 10, 11, 12, 13, 14, 15, 16, 17, 18, 19, 20, 21, 22, 23, 24, 25, 26, 27] (by decide +kernel) rfl) hS ⟨fX_40, iL, iBs, tU, tV, rfl, trivial⟩ dX5_keeping_35
  · refine lv_if_eq (tgt := 25) hx hb dX5_keeping_8 (by decide) (fun _ => ?_) (fun h9 => absurd (by decide) h9)
    refine lv_aload_n hx hb dX5_keeping_25 rfl (lv_at hl 0 rfl) ?_
    refine lv_bipush (v := (-2)) hx hb dX5_keeping_26 (by decide) ?_
    refine cVi (As := [.int (-2)]) (rest := []) (b := qx) (q := (RX5, TX5, 9)) ⟨hx, hb, hml, hown, hts⟩ (c_X5_refuse2 l G cy (s.heap).size qx qt qk qp qs qa qr iKp iYe iTv fR) L_X5_56 hN hP hD hS hA [0, 1] [false, false, true, true, true, true, true, true, true, true, true, true, true, true, true, true, true, true, true, true, true, true, true, true, true, true, true, true, true, true] rfl (by decide +kernel) rfl 0 4 rfl rfl rfl ⟨Nat.le_of_ble_eq_true rfl, Nat.le_of_ble_eq_true rfl⟩ hl.1 (Nat.le_of_ble_eq_true rfl) dX5_keeping_28 ⟨Nat.le_of_ble_eq_true rfl, Nat.le_of_ble_eq_true rfl⟩ (fun r_42 u_44 H locs h_43 => ?_)
    clear hP hD hS
    intro hP hD hS
    obtain ⟨fX_45, rfl, h_43⟩ := h_43
    have hPD := pd_as [zzO qt 3 [.int (nI (T_nb tA)), .int (nI (T_np tA)), .int (wb (T_wh tA)), .int (wb (T_gn tA)), .int (T_sd tA), .ref qtw, .ref qtn, .ref qtg, .ref qta, .ref qtr, .ref qtm, .ref qtt, .ref qts], zzI cy qtw 8 (T_wo tA), zzI cy qtn 8 (T_ne tA), zzI cy qtg 8 (T_go tA), zzI cy qta 8 (T_ag tA), zzI cy qtr 8 (T_re tA), zzI cy qtm 8 (T_me tA), zzI cy qtt 8 (T_te tA), zzI cy qts 64 (shF (T_kn tA)), zzO qp 0 [.ref qu, .ref qv, .int iL, .int iBs], zzO qu 3 [.int (nI (T_nb tU)), .int (nI (T_np tU)), .int (wb (T_wh tU)), .int (wb (T_gn tU)), .int (T_sd tU), .ref quw, .ref qun, .ref qug, .ref qua, .ref qur, .ref qum, .ref qut, .ref qus], zzI cy quw 8 (T_wo tU), zzI cy qun 8 (T_ne tU), zzI cy qug 8 (T_go tU), zzI cy qua 8 (T_ag tU), zzI cy qur 8 (T_re tU), zzI cy qum 8 (T_me tU), zzI cy qut 8 (T_te tU), zzI cy qus 64 (shF (T_kn tU)), zzO qv 3 [.int (nI (T_nb tV)), .int (nI (T_np tV)), .int (wb (T_wh tV)), .int (wb (T_gn tV)), .int (T_sd tV), .ref qvw, .ref qvn, .ref qvg, .ref qva, .ref qvr, .ref qvm, .ref qvt, .ref qvs], zzI cy qvw 8 (T_wo tV), zzI cy qvn 8 (T_ne tV), zzI cy qvg 8 (T_go tV), zzI cy qva 8 (T_ag tV), zzI cy qvr 8 (T_re tV), zzI cy qvm 8 (T_me tV), zzI cy qvt 8 (T_te tV), zzI cy qvs 64 (shF (T_kn tV)), zzO qx 4 [.ref qt, .ref qk, .ref qp, .ref qs, .ref qa, .ref qr, .int iKp, .int iYe, .int iTv], zzI cy qr 5 fX_45] hP hD rfl
    clear hP hD
    obtain ⟨hP, hD⟩ := hPD
    subst h_43
    refine lv_ldcw hx hb hown (hts _ m_t705) dX5_keeping_31 ?_
    refine lv_isub hx hb dX5_keeping_34 ?_
    refine lv_seti (v := (-1000002)) (by decide) ?_
    exact endW (u := [zzO qx 4 [.ref qt, .ref qk, .ref qp, .ref qs, .ref qa, .ref qr, .int iKp, .int iYe, .int iTv], zzI cy qr 5 fX_45, zzO qt 3 [.int (nI (T_nb tA)), .int (nI (T_np tA)), .int (wb (T_wh tA)), .int (wb (T_gn tA)), .int (T_sd tA), .ref qtw, .ref qtn, .ref qtg, .ref qta, .ref qtr, .ref qtm, .ref qtt, .ref qts], zzI cy qtw 8 (T_wo tA), zzI cy qtn 8 (T_ne tA), zzI cy qtg 8 (T_go tA), zzI cy qta 8 (T_ag tA), zzI cy qtr 8 (T_re tA), zzI cy qtm 8 (T_me tA), zzI cy qtt 8 (T_te tA), zzI cy qts 64 (shF (T_kn tA)), zzO qp 0 [.ref qu, .ref qv, .int iL, .int iBs], zzO qu 3 [.int (nI (T_nb tU)), .int (nI (T_np tU)), .int (wb (T_wh tU)), .int (wb (T_gn tU)), .int (T_sd tU), .ref quw, .ref qun, .ref qug, .ref qua, .ref qur, .ref qum, .ref qut, .ref qus], zzI cy quw 8 (T_wo tU), zzI cy qun 8 (T_ne tU), zzI cy qug 8 (T_go tU), zzI cy qua 8 (T_ag tU), zzI cy qur 8 (T_re tU), zzI cy qum 8 (T_me tU), zzI cy qut 8 (T_te tU), zzI cy qus 64 (shF (T_kn tU)), zzO qv 3 [.int (nI (T_nb tV)), .int (nI (T_np tV)), .int (wb (T_wh tV)), .int (wb (T_gn tV)), .int (T_sd tV), .ref qvw, .ref qvn, .ref qvg, .ref qva, .ref qvr, .ref qvm, .ref qvt, .ref qvs], zzI cy qvw 8 (T_wo tV), zzI cy qvn 8 (T_ne tV), zzI cy qvg 8 (T_go tV), zzI cy qva 8 (T_ag tV), zzI cy qvr 8 (T_re tV), zzI cy qvm 8 (T_me tV), zzI cy qvt 8 (T_te tV), zzI cy qvs 64 (shF (T_kn tV))]) hx hb hr hlocks rfl (hP.sub [28, 29, 0, 1, 2, 3, 4, 5, 6, 7, 8, 9, 10, 11, 12, 13, 14, 15, 16, 17, 18, 19, 20, 21, 22, 23, 24, 25, 26, 27] rfl) (hD.sub [28, 29, 0, 1, 2, 3, 4, 5, 6, 7, 8, 9, 10, 11, 12, 13, 14, 15, 16, 17, 18, 19, 20, 21, 22, 23, 24, 25, 26, 27] (by decide +kernel) rfl) hS ⟨fX_45, iL, iBs, tU, tV, rfl, trivial⟩ dX5_keeping_35
set_option maxHeartbeats 4000000 in
set_option maxRecDepth 100000 in
theorem p_X5_left (l : Launch) (G : va_G) (cy : Nat → ClassId) (sz : Nat) (qx : Nat) (qt : Nat) (qk : Nat) (qp : Nat) (qs : Nat) (qa : Nat) (qr : Nat) (iKp : Int32) (iYe : Int32) (iTv : Int32) (fR : Nat → Int32) (iA : Int32) (iB : Int32) (iC : Int32)   : MW l yX5_left cX5_left 6 (some .int) 12 0 0 G cy [zzO qx 4 [.ref qt, .ref qk, .ref qp, .ref qs, .ref qa, .ref qr, .int iKp, .int iYe, .int iTv], zzI cy qr 5 fR] sz [.ref qx, .int iA, .int iB, .int iC] (Wi G (fun r u => ∃ (fX : Nat → Int32), u = [zzO qx 4 [.ref qt, .ref qk, .ref qp, .ref qs, .ref qa, .ref qr, .int iKp, .int iYe, .int iTv], zzI cy qr 5 fX] ∧ ((r = (sp_left iA iB iC))))) := by
  refine enW RX5 (by decide) rfl (Nat.le_of_ble_eq_true rfl) (fun p e s m below meth c ls A hx hb hml hown hts hr hlocks hP hN hl hin hD hA hS => ?_)
  have hin : meth.name = _ := hin
  have hK := hN.1
  replace hl : lv_has ls 6 [(0, .ref qx), (1, .int iA), (2, .int iB), (3, .int iC)] := hl
  refine lv_iload_n hx hb dX5_left_0 rfl (lv_at hl 1 rfl) ?_
  refine lv_iload_n hx hb dX5_left_1 rfl (lv_at hl 2 rfl) ?_
  refine kRi (rS (As := [.int iA, .int iB]) (rest := []) ⟨hx, hb, hml, hown, hts⟩ (c_X5_canBeTold l G cy iA iB) L_X5_294 (preRS hN hP [] rfl) rfl ⟨Nat.le_of_ble_eq_true rfl, Nat.le_of_ble_eq_true rfl⟩ hl.1 (Nat.le_of_ble_eq_true rfl) dX5_left_2 ⟨Nat.le_of_ble_eq_true rfl, Nat.le_of_ble_eq_true rfl⟩) (fun r_1 h_2 => ?_)
  rcases h_2 with ⟨rfl, h_3⟩ | ⟨rfl, h_3⟩
  · refine lv_if_eq (tgt := 20) hx hb dX5_left_5 (by decide) (fun h9 => absurd h9 (by decide)) (fun _ => ?_)
    refine lv_iload_n hx hb dX5_left_8 rfl (lv_at hl 3 rfl) ?_
    refine lv_i2l (v := iC.toInt64) hx hb dX5_left_9 rfl ?_
    refine lv_lconst (v := 0) hx hb dX5_left_10 (by decide) ?_
    refine lv_ldc2 hx hb hown (hts _ m_t282) dX5_left_11 ?_
    refine kRi (rS (As := [.long iC.toInt64, .long 0, .long 99]) (rest := []) ⟨hx, hb, hml, hown, hts⟩ (c_X5_within l G cy iC.toInt64 0 99) L_X5_50 (preRS hN hP [] rfl) rfl ⟨Nat.le_of_ble_eq_true rfl, Nat.le_of_ble_eq_true rfl⟩ hl.1 (Nat.le_of_ble_eq_true rfl) dX5_left_14 ⟨Nat.le_of_ble_eq_true rfl, Nat.le_of_ble_eq_true rfl⟩) (fun r_5 h_6 => ?_)
    rcases h_6 with ⟨rfl, h_7⟩ | ⟨rfl, h_7⟩
    · obtain ⟨k_8, hk_9, hk_10, rfl⟩ := iv_nI 0 99 (by decide) (by decide) h_7
      refine lv_if_ne (tgt := 27) hx hb dX5_left_17 (by decide) (fun _ => ?_) (fun h9 => absurd h9 (by decide))
      refine lv_iload_n hx hb dX5_left_27 rfl (lv_at hl 1 rfl) ?_
      refine lv_istore (lv' := [(4, .int iA), (0, .ref qx), (1, .int iA), (2, .int iB), (3, .int (nI k_8))]) hx hb dX5_left_28 hl (by decide) rfl (fun ls => ?_)
      clear hl
      intro hl
      refine lv_iconst (v := 0) hx hb dX5_left_30 (by decide) ?_
      refine lv_istore (lv' := [(5, .int 0), (4, .int iA), (0, .ref qx), (1, .int iA), (2, .int iB), (3, .int (nI k_8))]) hx hb dX5_left_31 hl (by decide) rfl (fun ls => ?_)
      clear hl
      intro hl
      have lp_12 : ∀ (n_13 : Nat) (j_15 : Nat) (xR_16 : Int32), 99 - j_15 < n_13 → xR_16 = lft iB j_15 iA → j_15 ≤ k_8 → ∀ (H : Heap) (locs : List Loc) (ls : Array Slot), va_P G CL [zzO qx 4 [.ref qt, .ref qk, .ref qp, .ref qs, .ref qa, .ref qr, .int iKp, .int iYe, .int iTv], zzI cy qr 5 fR] H → va_D A [zzO qx 4 [.ref qt, .ref qk, .ref qp, .ref qs, .ref qa, .ref qr, .int iKp, .int iYe, .int iTv], zzI cy qr 5 fR] → va_S A s.heap H locs → lv_has ls 6 [(5, .int (nI j_15)), (4, .int xR_16), (0, .ref qx), (1, .int iA), (2, .int iB), (3, .int (nI k_8))] → W p l e (Rm 12 0 0) s m (List.toArray (α := Value) [.ref qx, .int iA, .int iB, .int (nI k_8)]) below meth c H locs 0 0 (MQ below ((Wi G (fun r u => ∃ (fX : Nat → Int32), u = [zzO qx 4 [.ref qt, .ref qk, .ref qp, .ref qs, .ref qa, .ref qr, .int iKp, .int iYe, .int iTv], zzI cy qr 5 fX] ∧ ((r = (sp_left iA iB (nI k_8)))))) A) (List.toArray (α := Value) [.ref qx, .int iA, .int iB, .int (nI k_8)]) s 0 0 A) (F0 m 33 ls []) := by
        intro n_13
        induction n_13 with
        | zero => intro j_15 xR_16 hm9; exact absurd hm9 (Nat.not_lt_zero _)
        | succ n_13 ih_14 =>
          intro j_15 xR_16 hm_19 hxR_17 hj_18 H locs ls hP hD hS hl
          refine lv_iload hx hb dX5_left_33 (lv_at hl 0 rfl) ?_
          refine lv_iload_n hx hb dX5_left_35 rfl (lv_at hl 5 rfl) ?_
          refine lv_icmp_ge (tgt := 53) hx hb dX5_left_36 (by decide) (fun c_20 => ?_) (fun c_20 => ?_)
          · have hlt_21 : k_8 ≤ j_15 := lp_ge rfl rfl (by omega) (by omega) c_20
            refine lv_iload hx hb dX5_left_53 (lv_at hl 1 rfl) ?_
            exact endW (u := [zzO qx 4 [.ref qt, .ref qk, .ref qp, .ref qs, .ref qa, .ref qr, .int iKp, .int iYe, .int iTv], zzI cy qr 5 fR]) hx hb hr hlocks rfl (hP.sub [0, 1] rfl) (hD.sub [0, 1] (by decide +kernel) rfl) hS ⟨fR, rfl, (by rw [hxR_17, show j_15 = k_8 by omega, sp_left, if_pos ⟨h_3.1, h_3.2, h_7⟩, nI_clamp (by omega)])⟩ dX5_left_55
          · have hlt_22 : j_15 < k_8 := lp_lt rfl rfl (by omega) (by omega) c_20
            refine lv_iload hx hb dX5_left_39 (lv_at hl 1 rfl) ?_
            refine lv_iload_n hx hb dX5_left_41 rfl (lv_at hl 4 rfl) ?_
            refine kRi (rS (As := [.int xR_16, .int iB]) (rest := []) ⟨hx, hb, hml, hown, hts⟩ (c_X4_afterTelling l G cy xR_16 iB) L_X5_297 (preRS hN hP [] rfl) rfl ⟨Nat.le_of_ble_eq_true rfl, Nat.le_of_ble_eq_true rfl⟩ hl.1 (Nat.le_of_ble_eq_true rfl) dX5_left_42 ⟨Nat.le_of_ble_eq_true rfl, Nat.le_of_ble_eq_true rfl⟩) (fun r_23 h_24 => ?_)
            subst h_24
            refine lv_istore (lv' := [(4, .int (xR_16 * iB / 10)), (5, .int (nI j_15)), (0, .ref qx), (1, .int iA), (2, .int iB), (3, .int (nI k_8))]) hx hb dX5_left_45 hl (by decide) rfl (fun ls => ?_)
            clear hl
            intro hl
            refine lv_iinc (v := nI (j_15 + 1)) (lv' := [(5, .int (nI (j_15 + 1))), (4, .int (xR_16 * iB / 10)), (0, .ref qx), (1, .int iA), (2, .int iB), (3, .int (nI k_8))]) hx hb dX5_left_47 hl (k := 1) rfl (nI_1 _) (by decide) rfl (fun ls => ?_)
            clear hl
            intro hl
            refine lv_goto (tgt := 33) hx hb dX5_left_50 (by decide) ?_
            exact ih_14 (j_15 + 1) (xR_16 * iB / 10) (by omega) (by rw [hxR_17]; rfl) (by omega) _ _ _ hP hD hS (lv_sub hl [0, 1, 2, 3, 4, 5] rfl)
      exact lp_12 ((99 - 0) + 1) 0 iA (Nat.lt_succ_self _) rfl (Nat.zero_le _) _ _ ls hP hD hS (lv_sub hl [0, 1, 2, 3, 4, 5] rfl)
    · refine lv_if_ne (tgt := 27) hx hb dX5_left_17 (by decide) (fun h9 => absurd (by decide) h9) (fun _ => ?_)
      refine lv_aload_n hx hb dX5_left_20 rfl (lv_at hl 0 rfl) ?_
      refine lv_bipush (v := (-2)) hx hb dX5_left_21 (by decide) ?_
      refine cVi (As := [.int (-2)]) (rest := []) (b := qx) (q := (RX5, TX5, 9)) ⟨hx, hb, hml, hown, hts⟩ (c_X5_refuse2 l G cy (s.heap).size qx qt qk qp qs qa qr iKp iYe iTv fR) L_X5_56 hN hP hD hS hA [0, 1] [false, false] rfl (by decide +kernel) rfl 0 4 rfl rfl rfl ⟨Nat.le_of_ble_eq_true rfl, Nat.le_of_ble_eq_true rfl⟩ hl.1 (Nat.le_of_ble_eq_true rfl) dX5_left_23 ⟨Nat.le_of_ble_eq_true rfl, Nat.le_of_ble_eq_true rfl⟩ (fun r_26 u_28 H locs h_27 => ?_)
      clear hP hD hS
      intro hP hD hS
      obtain ⟨fX_29, rfl, h_27⟩ := h_27
      have hPD := pd_as [zzO qx 4 [.ref qt, .ref qk, .ref qp, .ref qs, .ref qa, .ref qr, .int iKp, .int iYe, .int iTv], zzI cy qr 5 fX_29] hP hD rfl
      clear hP hD
      obtain ⟨hP, hD⟩ := hPD
      subst h_27
      exact endW (u := [zzO qx 4 [.ref qt, .ref qk, .ref qp, .ref qs, .ref qa, .ref qr, .int iKp, .int iYe, .int iTv], zzI cy qr 5 fX_29]) hx hb hr hlocks rfl (hP.sub [0, 1] rfl) (hD.sub [0, 1] (by decide +kernel) rfl) hS ⟨fX_29, rfl, (by rw [sp_left, if_neg (fun q => h_7 q.2.2)])⟩ dX5_left_26
  · refine lv_if_eq (tgt := 20) hx hb dX5_left_5 (by decide) (fun _ => ?_) (fun h9 => absurd (by decide) h9)
    refine lv_aload_n hx hb dX5_left_20 rfl (lv_at hl 0 rfl) ?_
    refine lv_bipush (v := (-2)) hx hb dX5_left_21 (by decide) ?_
    refine cVi (As := [.int (-2)]) (rest := []) (b := qx) (q := (RX5, TX5, 9)) ⟨hx, hb, hml, hown, hts⟩ (c_X5_refuse2 l G cy (s.heap).size qx qt qk qp qs qa qr iKp iYe iTv fR) L_X5_56 hN hP hD hS hA [0, 1] [false, false] rfl (by decide +kernel) rfl 0 4 rfl rfl rfl ⟨Nat.le_of_ble_eq_true rfl, Nat.le_of_ble_eq_true rfl⟩ hl.1 (Nat.le_of_ble_eq_true rfl) dX5_left_23 ⟨Nat.le_of_ble_eq_true rfl, Nat.le_of_ble_eq_true rfl⟩ (fun r_31 u_33 H locs h_32 => ?_)
    clear hP hD hS
    intro hP hD hS
    obtain ⟨fX_34, rfl, h_32⟩ := h_32
    have hPD := pd_as [zzO qx 4 [.ref qt, .ref qk, .ref qp, .ref qs, .ref qa, .ref qr, .int iKp, .int iYe, .int iTv], zzI cy qr 5 fX_34] hP hD rfl
    clear hP hD
    obtain ⟨hP, hD⟩ := hPD
    subst h_32
    exact endW (u := [zzO qx 4 [.ref qt, .ref qk, .ref qp, .ref qs, .ref qa, .ref qr, .int iKp, .int iYe, .int iTv], zzI cy qr 5 fX_34]) hx hb hr hlocks rfl (hP.sub [0, 1] rfl) (hD.sub [0, 1] (by decide +kernel) rfl) hS ⟨fX_34, rfl, (by rw [sp_left, if_neg (fun q => h_3 ⟨q.1, q.2.1⟩)])⟩ dX5_left_26
set_option maxHeartbeats 4000000 in
set_option maxRecDepth 100000 in
theorem p_X5_longest (l : Launch) (G : va_G) (cy : Nat → ClassId) (sz : Nat) (qx : Nat) (qt : Nat) (qk : Nat) (qp : Nat) (qs : Nat) (qa : Nat) (qr : Nat) (iKp : Int32) (iYe : Int32) (iTv : Int32) (fR : Nat → Int32) (iA : Int32) (iB : Int32) (iC : Int32)   : MW l yX5_longest cX5_longest 6 (some .int) 12 0 0 G cy [zzO qx 4 [.ref qt, .ref qk, .ref qp, .ref qs, .ref qa, .ref qr, .int iKp, .int iYe, .int iTv], zzI cy qr 5 fR] sz [.ref qx, .int iA, .int iB, .int iC] (Wi G (fun r u => ∃ (fX : Nat → Int32), u = [zzO qx 4 [.ref qt, .ref qk, .ref qp, .ref qs, .ref qa, .ref qr, .int iKp, .int iYe, .int iTv], zzI cy qr 5 fX] ∧ ((r = (sp_longest iA iB iC))))) := by
  refine enW RX5 (by decide) rfl (Nat.le_of_ble_eq_true rfl) (fun p e s m below meth c ls A hx hb hml hown hts hr hlocks hP hN hl hin hD hA hS => ?_)
  have hin : meth.name = _ := hin
  have hK := hN.1
  replace hl : lv_has ls 6 [(0, .ref qx), (1, .int iA), (2, .int iB), (3, .int iC)] := hl
  refine lv_iload_n hx hb dX5_longest_0 rfl (lv_at hl 1 rfl) ?_
  refine lv_iload_n hx hb dX5_longest_1 rfl (lv_at hl 2 rfl) ?_
  refine kRi (rS (As := [.int iA, .int iB]) (rest := []) ⟨hx, hb, hml, hown, hts⟩ (c_X5_canBeTold l G cy iA iB) L_X5_294 (preRS hN hP [] rfl) rfl ⟨Nat.le_of_ble_eq_true rfl, Nat.le_of_ble_eq_true rfl⟩ hl.1 (Nat.le_of_ble_eq_true rfl) dX5_longest_2 ⟨Nat.le_of_ble_eq_true rfl, Nat.le_of_ble_eq_true rfl⟩) (fun r_1 h_2 => ?_)
  rcases h_2 with ⟨rfl, h_3⟩ | ⟨rfl, h_3⟩
  · refine lv_if_eq (tgt := 20) hx hb dX5_longest_5 (by decide) (fun h9 => absurd h9 (by decide)) (fun _ => ?_)
    refine lv_iload_n hx hb dX5_longest_8 rfl (lv_at hl 3 rfl) ?_
    refine lv_i2l (v := iC.toInt64) hx hb dX5_longest_9 rfl ?_
    refine lv_lconst (v := 1) hx hb dX5_longest_10 (by decide) ?_
    refine lv_ldc2 hx hb hown (hts _ m_t591) dX5_longest_11 ?_
    refine kRi (rS (As := [.long iC.toInt64, .long 1, .long 1000]) (rest := []) ⟨hx, hb, hml, hown, hts⟩ (c_X5_within l G cy iC.toInt64 1 1000) L_X5_50 (preRS hN hP [] rfl) rfl ⟨Nat.le_of_ble_eq_true rfl, Nat.le_of_ble_eq_true rfl⟩ hl.1 (Nat.le_of_ble_eq_true rfl) dX5_longest_14 ⟨Nat.le_of_ble_eq_true rfl, Nat.le_of_ble_eq_true rfl⟩) (fun r_5 h_6 => ?_)
    rcases h_6 with ⟨rfl, h_7⟩ | ⟨rfl, h_7⟩
    · refine lv_if_ne (tgt := 27) hx hb dX5_longest_17 (by decide) (fun _ => ?_) (fun h9 => absurd h9 (by decide))
      refine lv_iconst (v := (-1)) hx hb dX5_longest_27 (by decide) ?_
      refine lv_istore (lv' := [(4, .int (-1)), (0, .ref qx), (1, .int iA), (2, .int iB), (3, .int iC)]) hx hb dX5_longest_28 hl (by decide) rfl (fun ls => ?_)
      clear hl
      intro hl
      refine lv_iload_n hx hb dX5_longest_30 rfl (lv_at hl 2 rfl) ?_
      refine lv_istore (lv' := [(5, .int iA), (4, .int (-1)), (0, .ref qx), (1, .int iA), (2, .int iB), (3, .int iC)]) hx hb dX5_longest_31 hl (by decide) rfl (fun ls => ?_)
      clear hl
      intro hl
      have lp_9 : ∀ (n_10 : Nat) (j_12 : Nat) (xC_13 : Int32) (xR_14 : Int32), 100 - j_12 < n_10 → xC_13 = nI j_12 - 1 → lgst iB iC (100 - j_12) xC_13 xR_14 = lgst iB iC 100 (-1) iA → j_12 ≤ 100 → ∀ (H : Heap) (locs : List Loc) (ls : Array Slot), va_P G CL [zzO qx 4 [.ref qt, .ref qk, .ref qp, .ref qs, .ref qa, .ref qr, .int iKp, .int iYe, .int iTv], zzI cy qr 5 fR] H → va_D A [zzO qx 4 [.ref qt, .ref qk, .ref qp, .ref qs, .ref qa, .ref qr, .int iKp, .int iYe, .int iTv], zzI cy qr 5 fR] → va_S A s.heap H locs → lv_has ls 6 [(5, .int xR_14), (4, .int xC_13), (0, .ref qx), (1, .int iA), (2, .int iB), (3, .int iC)] → W p l e (Rm 12 0 0) s m (List.toArray (α := Value) [.ref qx, .int iA, .int iB, .int iC]) below meth c H locs 0 0 (MQ below ((Wi G (fun r u => ∃ (fX : Nat → Int32), u = [zzO qx 4 [.ref qt, .ref qk, .ref qp, .ref qs, .ref qa, .ref qr, .int iKp, .int iYe, .int iTv], zzI cy qr 5 fX] ∧ ((r = (sp_longest iA iB iC))))) A) (List.toArray (α := Value) [.ref qx, .int iA, .int iB, .int iC]) s 0 0 A) (F0 m 33 ls []) := by
        intro n_10
        induction n_10 with
        | zero => intro j_12 xC_13 xR_14 hm9; exact absurd hm9 (Nat.not_lt_zero _)
        | succ n_10 ih_11 =>
          intro j_12 xC_13 xR_14 hm_18 hxC_15 hT_16 hj_17 H locs ls hP hD hS hl
          refine lv_iload hx hb dX5_longest_33 (lv_at hl 0 rfl) ?_
          refine lv_iload_n hx hb dX5_longest_35 rfl (lv_at hl 5 rfl) ?_
          refine lv_icmp_lt (tgt := 60) hx hb dX5_longest_36 (by decide) (fun c_19 => ?_) (fun c_19 => ?_)
          · refine lv_iload hx hb dX5_longest_60 (lv_at hl 1 rfl) ?_
            exact endW (u := [zzO qx 4 [.ref qt, .ref qk, .ref qp, .ref qs, .ref qa, .ref qr, .int iKp, .int iYe, .int iTv], zzI cy qr 5 fR]) hx hb hr hlocks rfl (hP.sub [0, 1] rfl) (hD.sub [0, 1] (by decide +kernel) rfl) hS ⟨fR, rfl, (by rw [sp_longest, if_pos ⟨h_3.1, h_3.2, h_7⟩, ← hT_16, lg_stop0 c_19])⟩ dX5_longest_62
          · refine lv_iload hx hb dX5_longest_39 (lv_at hl 1 rfl) ?_
            refine lv_bipush (v := 99) hx hb dX5_longest_41 (by decide) ?_
            refine lv_icmp_ge (tgt := 60) hx hb dX5_longest_43 (by decide) (fun c_20 => ?_) (fun c_20 => ?_)
            · refine lv_iload hx hb dX5_longest_60 (lv_at hl 1 rfl) ?_
              exact endW (u := [zzO qx 4 [.ref qt, .ref qk, .ref qp, .ref qs, .ref qa, .ref qr, .int iKp, .int iYe, .int iTv], zzI cy qr 5 fR]) hx hb hr hlocks rfl (hP.sub [0, 1] rfl) (hD.sub [0, 1] (by decide +kernel) rfl) hS ⟨fR, rfl, (by rw [sp_longest, if_pos ⟨h_3.1, h_3.2, h_7⟩, ← hT_16, m1_ge hxC_15 hj_17 c_20]; rfl)⟩ dX5_longest_62
            · have hlt_21 : j_12 < 100 := m1_lt hxC_15 hj_17 c_20
              refine lv_iinc (v := xC_13 + 1) (lv' := [(4, .int (xC_13 + 1)), (5, .int xR_14), (0, .ref qx), (1, .int iA), (2, .int iB), (3, .int iC)]) hx hb dX5_longest_46 hl (k := 1) rfl (rfl) (by decide) rfl (fun ls => ?_)
              clear hl
              intro hl
              refine lv_iload hx hb dX5_longest_49 (lv_at hl 1 rfl) ?_
              refine lv_iload_n hx hb dX5_longest_51 rfl (lv_at hl 4 rfl) ?_
              refine kRi (rS (As := [.int xR_14, .int iB]) (rest := []) ⟨hx, hb, hml, hown, hts⟩ (c_X4_afterTelling l G cy xR_14 iB) L_X5_297 (preRS hN hP [] rfl) rfl ⟨Nat.le_of_ble_eq_true rfl, Nat.le_of_ble_eq_true rfl⟩ hl.1 (Nat.le_of_ble_eq_true rfl) dX5_longest_52 ⟨Nat.le_of_ble_eq_true rfl, Nat.le_of_ble_eq_true rfl⟩) (fun r_22 h_23 => ?_)
              subst h_23
              refine lv_istore (lv' := [(5, .int (xR_14 * iB / 10)), (4, .int (xC_13 + 1)), (0, .ref qx), (1, .int iA), (2, .int iB), (3, .int iC)]) hx hb dX5_longest_55 hl (by decide) rfl (fun ls => ?_)
              clear hl
              intro hl
              refine lv_goto (tgt := 33) hx hb dX5_longest_57 (by decide) ?_
              exact ih_11 (j_12 + 1) (xC_13 + 1) (xR_14 * iB / 10) (by omega) (by rw [hxC_15]; exact m1_nI _) (by rw [← hT_16, show 100 - j_12 = 100 - (j_12 + 1) + 1 by omega, lg_go c_19]) (by omega) _ _ _ hP hD hS (lv_sub hl [0, 1, 2, 3, 4, 5] rfl)
      exact lp_9 ((100 - 0) + 1) 0 (-1) iA (Nat.lt_succ_self _) (by decide) rfl (Nat.zero_le _) _ _ ls hP hD hS (lv_sub hl [0, 1, 2, 3, 4, 5] rfl)
    · refine lv_if_ne (tgt := 27) hx hb dX5_longest_17 (by decide) (fun h9 => absurd (by decide) h9) (fun _ => ?_)
      refine lv_aload_n hx hb dX5_longest_20 rfl (lv_at hl 0 rfl) ?_
      refine lv_bipush (v := (-2)) hx hb dX5_longest_21 (by decide) ?_
      refine cVi (As := [.int (-2)]) (rest := []) (b := qx) (q := (RX5, TX5, 9)) ⟨hx, hb, hml, hown, hts⟩ (c_X5_refuse2 l G cy (s.heap).size qx qt qk qp qs qa qr iKp iYe iTv fR) L_X5_56 hN hP hD hS hA [0, 1] [false, false] rfl (by decide +kernel) rfl 0 4 rfl rfl rfl ⟨Nat.le_of_ble_eq_true rfl, Nat.le_of_ble_eq_true rfl⟩ hl.1 (Nat.le_of_ble_eq_true rfl) dX5_longest_23 ⟨Nat.le_of_ble_eq_true rfl, Nat.le_of_ble_eq_true rfl⟩ (fun r_25 u_27 H locs h_26 => ?_)
      clear hP hD hS
      intro hP hD hS
      obtain ⟨fX_28, rfl, h_26⟩ := h_26
      have hPD := pd_as [zzO qx 4 [.ref qt, .ref qk, .ref qp, .ref qs, .ref qa, .ref qr, .int iKp, .int iYe, .int iTv], zzI cy qr 5 fX_28] hP hD rfl
      clear hP hD
      obtain ⟨hP, hD⟩ := hPD
      subst h_26
      exact endW (u := [zzO qx 4 [.ref qt, .ref qk, .ref qp, .ref qs, .ref qa, .ref qr, .int iKp, .int iYe, .int iTv], zzI cy qr 5 fX_28]) hx hb hr hlocks rfl (hP.sub [0, 1] rfl) (hD.sub [0, 1] (by decide +kernel) rfl) hS ⟨fX_28, rfl, (by rw [sp_longest, if_neg (fun q => h_7 q.2.2)])⟩ dX5_longest_26
  · refine lv_if_eq (tgt := 20) hx hb dX5_longest_5 (by decide) (fun _ => ?_) (fun h9 => absurd (by decide) h9)
    refine lv_aload_n hx hb dX5_longest_20 rfl (lv_at hl 0 rfl) ?_
    refine lv_bipush (v := (-2)) hx hb dX5_longest_21 (by decide) ?_
    refine cVi (As := [.int (-2)]) (rest := []) (b := qx) (q := (RX5, TX5, 9)) ⟨hx, hb, hml, hown, hts⟩ (c_X5_refuse2 l G cy (s.heap).size qx qt qk qp qs qa qr iKp iYe iTv fR) L_X5_56 hN hP hD hS hA [0, 1] [false, false] rfl (by decide +kernel) rfl 0 4 rfl rfl rfl ⟨Nat.le_of_ble_eq_true rfl, Nat.le_of_ble_eq_true rfl⟩ hl.1 (Nat.le_of_ble_eq_true rfl) dX5_longest_23 ⟨Nat.le_of_ble_eq_true rfl, Nat.le_of_ble_eq_true rfl⟩ (fun r_30 u_32 H locs h_31 => ?_)
    clear hP hD hS
    intro hP hD hS
    obtain ⟨fX_33, rfl, h_31⟩ := h_31
    have hPD := pd_as [zzO qx 4 [.ref qt, .ref qk, .ref qp, .ref qs, .ref qa, .ref qr, .int iKp, .int iYe, .int iTv], zzI cy qr 5 fX_33] hP hD rfl
    clear hP hD
    obtain ⟨hP, hD⟩ := hPD
    subst h_31
    exact endW (u := [zzO qx 4 [.ref qt, .ref qk, .ref qp, .ref qs, .ref qa, .ref qr, .int iKp, .int iYe, .int iTv], zzI cy qr 5 fX_33]) hx hb hr hlocks rfl (hP.sub [0, 1] rfl) (hD.sub [0, 1] (by decide +kernel) rfl) hS ⟨fX_33, rfl, (by rw [sp_longest, if_neg (fun q => h_3 ⟨q.1, q.2.1⟩)])⟩ dX5_longest_26
set_option maxHeartbeats 4000000 in
set_option maxRecDepth 100000 in
theorem p_X5_hangs (l : Launch) (G : va_G) (cy : Nat → ClassId) (sz : Nat) (qx : Nat) (qt : Nat) (qk : Nat) (qp : Nat) (qs : Nat) (qa : Nat) (qr : Nat) (iKp : Int32) (iYe : Int32) (iTv : Int32) (fR : Nat → Int32) (tA : TA) (qtw : Nat) (qtn : Nat) (qtg : Nat) (qta : Nat) (qtr : Nat) (qtm : Nat) (qtt : Nat) (qts : Nat)  (hB : T_nb tA ≤ 8) (hPp : T_np tA ≤ 8) : MW l yX5_hangs cX5_hangs 6 (some .int) 12 0 0 G cy [zzO qx 4 [.ref qt, .ref qk, .ref qp, .ref qs, .ref qa, .ref qr, .int iKp, .int iYe, .int iTv], zzI cy qr 5 fR, zzO qt 3 [.int (nI (T_nb tA)), .int (nI (T_np tA)), .int (wb (T_wh tA)), .int (wb (T_gn tA)), .int (T_sd tA), .ref qtw, .ref qtn, .ref qtg, .ref qta, .ref qtr, .ref qtm, .ref qtt, .ref qts], zzI cy qtw 8 (T_wo tA), zzI cy qtn 8 (T_ne tA), zzI cy qtg 8 (T_go tA), zzI cy qta 8 (T_ag tA), zzI cy qtr 8 (T_re tA), zzI cy qtm 8 (T_me tA), zzI cy qtt 8 (T_te tA), zzI cy qts 64 (shF (T_kn tA))] sz [.ref qx] (Wi G (fun r u => ∃ (fX : Nat → Int32), u = [zzO qx 4 [.ref qt, .ref qk, .ref qp, .ref qs, .ref qa, .ref qr, .int iKp, .int iYe, .int iTv], zzI cy qr 5 fX, zzO qt 3 [.int (nI (T_nb tA)), .int (nI (T_np tA)), .int (wb (T_wh tA)), .int (wb (T_gn tA)), .int (T_sd tA), .ref qtw, .ref qtn, .ref qtg, .ref qta, .ref qtr, .ref qtm, .ref qtt, .ref qts], zzI cy qtw 8 (T_wo tA), zzI cy qtn 8 (T_ne tA), zzI cy qtg 8 (T_go tA), zzI cy qta 8 (T_ag tA), zzI cy qtr 8 (T_re tA), zzI cy qtm 8 (T_me tA), zzI cy qtt 8 (T_te tA), zzI cy qts 64 (shF (T_kn tA))] ∧ (True))) := by
  refine enW RX5 (by decide) rfl (Nat.le_of_ble_eq_true rfl) (fun p e s m below meth c ls A hx hb hml hown hts hr hlocks hP hN hl hin hD hA hS => ?_)
  have hin : meth.name = _ := hin
  have hK := hN.1
  replace hl : lv_has ls 6 [(0, .ref qx)] := hl
  refine lv_aload_n hx hb dX5_hangs_0 rfl (lv_at hl 0 rfl) ?_
  refine va_get (D := G) (ci := 4) (v := .ref qt) (C := RX5) (T := TX5) (N := 9) hx hb hts iX_X5 hown hK hP 0 rfl rfl 0 (by decide) (hts _ m_t174) (fun _ h9 => h9) rfl dX5_hangs_1 ?_
  refine kRi (rV (As := []) (rest := []) (b := qt) ⟨hx, hb, hml, hown, hts⟩ (c_X4_setThere l G cy qt tA qtw qtn qtg qta qtr qtm qtt qts hPp) L_X5_269 (preRV (q := (RX4, TX4, 13)) hN hP [2] rfl 2 3 rfl rfl) rfl ⟨Nat.le_of_ble_eq_true rfl, Nat.le_of_ble_eq_true rfl⟩ hl.1 (Nat.le_of_ble_eq_true rfl) dX5_hangs_4 ⟨Nat.le_of_ble_eq_true rfl, Nat.le_of_ble_eq_true rfl⟩) (fun r_1 h_2 => ?_)
  subst h_2
  refine lv_istore_n (lv' := [(1, .int (zthere tA)), (0, .ref qx)]) hx hb dX5_hangs_7 rfl hl (by decide) rfl (fun ls => ?_)
  clear hl
  intro hl
  refine lv_iconst (v := (-1)) hx hb dX5_hangs_8 (by decide) ?_
  refine lv_istore_n (lv' := [(2, .int (-1)), (1, .int (zthere tA)), (0, .ref qx)]) hx hb dX5_hangs_9 rfl hl (by decide) rfl (fun ls => ?_)
  clear hl
  intro hl
  refine lv_iconst (v := 0) hx hb dX5_hangs_10 (by decide) ?_
  refine lv_istore_n (lv' := [(3, .int 0), (2, .int (-1)), (1, .int (zthere tA)), (0, .ref qx)]) hx hb dX5_hangs_11 rfl hl (by decide) rfl (fun ls => ?_)
  clear hl
  intro hl
  refine lv_iconst (v := 0) hx hb dX5_hangs_12 (by decide) ?_
  refine lv_istore (lv' := [(4, .int 0), (3, .int 0), (2, .int (-1)), (1, .int (zthere tA)), (0, .ref qx)]) hx hb dX5_hangs_13 hl (by decide) rfl (fun ls => ?_)
  clear hl
  intro hl
  have lp_3 : ∀ (n_4 : Nat) (j_6 : Nat) (x2_7 : Int32) (x3_8 : Int32), 8 - j_6 < n_4 → j_6 ≤ T_np tA → ∀ (H : Heap) (locs : List Loc) (ls : Array Slot), va_P G CL [zzO qx 4 [.ref qt, .ref qk, .ref qp, .ref qs, .ref qa, .ref qr, .int iKp, .int iYe, .int iTv], zzI cy qr 5 fR, zzO qt 3 [.int (nI (T_nb tA)), .int (nI (T_np tA)), .int (wb (T_wh tA)), .int (wb (T_gn tA)), .int (T_sd tA), .ref qtw, .ref qtn, .ref qtg, .ref qta, .ref qtr, .ref qtm, .ref qtt, .ref qts], zzI cy qtw 8 (T_wo tA), zzI cy qtn 8 (T_ne tA), zzI cy qtg 8 (T_go tA), zzI cy qta 8 (T_ag tA), zzI cy qtr 8 (T_re tA), zzI cy qtm 8 (T_me tA), zzI cy qtt 8 (T_te tA), zzI cy qts 64 (shF (T_kn tA))] H → va_D A [zzO qx 4 [.ref qt, .ref qk, .ref qp, .ref qs, .ref qa, .ref qr, .int iKp, .int iYe, .int iTv], zzI cy qr 5 fR, zzO qt 3 [.int (nI (T_nb tA)), .int (nI (T_np tA)), .int (wb (T_wh tA)), .int (wb (T_gn tA)), .int (T_sd tA), .ref qtw, .ref qtn, .ref qtg, .ref qta, .ref qtr, .ref qtm, .ref qtt, .ref qts], zzI cy qtw 8 (T_wo tA), zzI cy qtn 8 (T_ne tA), zzI cy qtg 8 (T_go tA), zzI cy qta 8 (T_ag tA), zzI cy qtr 8 (T_re tA), zzI cy qtm 8 (T_me tA), zzI cy qtt 8 (T_te tA), zzI cy qts 64 (shF (T_kn tA))] → va_S A s.heap H locs → lv_has ls 6 [(4, .int (nI j_6)), (3, .int x3_8), (2, .int x2_7), (1, .int (zthere tA)), (0, .ref qx)] → W p l e (Rm 12 0 0) s m (List.toArray (α := Value) [.ref qx]) below meth c H locs 0 0 (MQ below ((Wi G (fun r u => ∃ (fX : Nat → Int32), u = [zzO qx 4 [.ref qt, .ref qk, .ref qp, .ref qs, .ref qa, .ref qr, .int iKp, .int iYe, .int iTv], zzI cy qr 5 fX, zzO qt 3 [.int (nI (T_nb tA)), .int (nI (T_np tA)), .int (wb (T_wh tA)), .int (wb (T_gn tA)), .int (T_sd tA), .ref qtw, .ref qtn, .ref qtg, .ref qta, .ref qtr, .ref qtm, .ref qtt, .ref qts], zzI cy qtw 8 (T_wo tA), zzI cy qtn 8 (T_ne tA), zzI cy qtg 8 (T_go tA), zzI cy qta 8 (T_ag tA), zzI cy qtr 8 (T_re tA), zzI cy qtm 8 (T_me tA), zzI cy qtt 8 (T_te tA), zzI cy qts 64 (shF (T_kn tA))] ∧ (True))) A) (List.toArray (α := Value) [.ref qx]) s 0 0 A) (F0 m 15 ls []) := by
    intro n_4
    induction n_4 with
    | zero => intro j_6 x2_7 x3_8 hm9; exact absurd hm9 (Nat.not_lt_zero _)
    | succ n_4 ih_5 =>
      intro j_6 x2_7 x3_8 hm_10 hj_9 H locs ls hP hD hS hl
      refine lv_iload hx hb dX5_hangs_15 (lv_at hl 0 rfl) ?_
      refine lv_aload_n hx hb dX5_hangs_17 rfl (lv_at hl 4 rfl) ?_
      refine va_get (D := G) (ci := 4) (v := .ref qt) (C := RX5) (T := TX5) (N := 9) hx hb hts iX_X5 hown hK hP 0 rfl rfl 0 (by decide) (hts _ m_t174) (fun _ h9 => h9) rfl dX5_hangs_18 ?_
      refine va_getN (D := G) (ci := 3) (v := .int (nI (T_np tA))) (C := RX4) (T := TX4) (N := 13) hx hb hts iX_X4 hown hK hP 2 rfl rfl 1 (by decide) (va_Nw.use rfl (hN.2.1 (RX5, 141, "EachBookOnce$Town", "people", "I") (List.mem_of_getElem? (i := 7) rfl))) (fun _ h9 => h9) rfl dX5_hangs_21 ?_
      refine lv_icmp_ge (tgt := 76) hx hb dX5_hangs_24 (by decide) (fun c_11 => ?_) (fun c_11 => ?_)
      · have hlt_12 : j_6 = T_np tA := Nat.le_antisymm (by omega) (lp_ge rfl rfl (by omega) (by omega) c_11)
        refine lv_iload_n hx hb dX5_hangs_76 rfl (lv_at hl 2 rfl) ?_
        refine lv_iconst (v := (-1)) hx hb dX5_hangs_77 (by decide) ?_
        refine lv_icmp_ne (tgt := 90) hx hb dX5_hangs_78 (by decide) (fun c_13 => ?_) (fun c_13 => ?_)
        · refine lv_iload_n hx hb dX5_hangs_90 rfl (lv_at hl 2 rfl) ?_
          exact endW (u := [zzO qx 4 [.ref qt, .ref qk, .ref qp, .ref qs, .ref qa, .ref qr, .int iKp, .int iYe, .int iTv], zzI cy qr 5 fR, zzO qt 3 [.int (nI (T_nb tA)), .int (nI (T_np tA)), .int (wb (T_wh tA)), .int (wb (T_gn tA)), .int (T_sd tA), .ref qtw, .ref qtn, .ref qtg, .ref qta, .ref qtr, .ref qtm, .ref qtt, .ref qts], zzI cy qtw 8 (T_wo tA), zzI cy qtn 8 (T_ne tA), zzI cy qtg 8 (T_go tA), zzI cy qta 8 (T_ag tA), zzI cy qtr 8 (T_re tA), zzI cy qtm 8 (T_me tA), zzI cy qtt 8 (T_te tA), zzI cy qts 64 (shF (T_kn tA))]) hx hb hr hlocks rfl (hP.sub [0, 1, 2, 3, 4, 5, 6, 7, 8, 9, 10] rfl) (hD.sub [0, 1, 2, 3, 4, 5, 6, 7, 8, 9, 10] (by decide +kernel) rfl) hS ⟨fR, rfl, trivial⟩ dX5_hangs_91
        · refine lv_aload_n hx hb dX5_hangs_81 rfl (lv_at hl 4 rfl) ?_
          refine lv_bipush (v := (-5)) hx hb dX5_hangs_82 (by decide) ?_
          refine cVi (As := [.int (-5)]) (rest := []) (b := qx) (q := (RX5, TX5, 9)) ⟨hx, hb, hml, hown, hts⟩ (c_X5_refuse5 l G cy (H).size qx qt qk qp qs qa qr iKp iYe iTv fR) L_X5_56 hN hP hD hS hA [0, 1] [false, false, true, true, true, true, true, true, true, true, true] rfl (by decide +kernel) rfl 0 4 rfl rfl rfl ⟨Nat.le_of_ble_eq_true rfl, Nat.le_of_ble_eq_true rfl⟩ hl.1 (Nat.le_of_ble_eq_true rfl) dX5_hangs_84 ⟨Nat.le_of_ble_eq_true rfl, Nat.le_of_ble_eq_true rfl⟩ (fun r_14 u_16 H locs h_15 => ?_)
          clear hP hD hS
          intro hP hD hS
          obtain ⟨fX_17, rfl, h_15⟩ := h_15
          have hPD := pd_as [zzO qt 3 [.int (nI (T_nb tA)), .int (nI (T_np tA)), .int (wb (T_wh tA)), .int (wb (T_gn tA)), .int (T_sd tA), .ref qtw, .ref qtn, .ref qtg, .ref qta, .ref qtr, .ref qtm, .ref qtt, .ref qts], zzI cy qtw 8 (T_wo tA), zzI cy qtn 8 (T_ne tA), zzI cy qtg 8 (T_go tA), zzI cy qta 8 (T_ag tA), zzI cy qtr 8 (T_re tA), zzI cy qtm 8 (T_me tA), zzI cy qtt 8 (T_te tA), zzI cy qts 64 (shF (T_kn tA)), zzO qx 4 [.ref qt, .ref qk, .ref qp, .ref qs, .ref qa, .ref qr, .int iKp, .int iYe, .int iTv], zzI cy qr 5 fX_17] hP hD rfl
          clear hP hD
          obtain ⟨hP, hD⟩ := hPD
          subst h_15
          refine lv_goto (tgt := 91) hx hb dX5_hangs_87 (by decide) ?_
          exact endW (u := [zzO qx 4 [.ref qt, .ref qk, .ref qp, .ref qs, .ref qa, .ref qr, .int iKp, .int iYe, .int iTv], zzI cy qr 5 fX_17, zzO qt 3 [.int (nI (T_nb tA)), .int (nI (T_np tA)), .int (wb (T_wh tA)), .int (wb (T_gn tA)), .int (T_sd tA), .ref qtw, .ref qtn, .ref qtg, .ref qta, .ref qtr, .ref qtm, .ref qtt, .ref qts], zzI cy qtw 8 (T_wo tA), zzI cy qtn 8 (T_ne tA), zzI cy qtg 8 (T_go tA), zzI cy qta 8 (T_ag tA), zzI cy qtr 8 (T_re tA), zzI cy qtm 8 (T_me tA), zzI cy qtt 8 (T_te tA), zzI cy qts 64 (shF (T_kn tA))]) hx hb hr hlocks rfl (hP.sub [9, 10, 0, 1, 2, 3, 4, 5, 6, 7, 8] rfl) (hD.sub [9, 10, 0, 1, 2, 3, 4, 5, 6, 7, 8] (by decide +kernel) rfl) hS ⟨fX_17, rfl, trivial⟩ dX5_hangs_91
      · have hlt_18 : j_6 < T_np tA := lp_lt rfl rfl (by omega) (by omega) c_11
        refine lv_iload_n hx hb dX5_hangs_27 rfl (lv_at hl 3 rfl) ?_
        refine lv_iload hx hb dX5_hangs_28 (lv_at hl 0 rfl) ?_
        refine kRi (rS (As := [.int (zthere tA), .int (nI j_6)]) (rest := []) ⟨hx, hb, hml, hown, hts⟩ (c_X5_has l G cy (zthere tA) j_6) L_X5_183 (preRS hN hP [] rfl) rfl ⟨Nat.le_of_ble_eq_true rfl, Nat.le_of_ble_eq_true rfl⟩ hl.1 (Nat.le_of_ble_eq_true rfl) dX5_hangs_30 ⟨Nat.le_of_ble_eq_true rfl, Nat.le_of_ble_eq_true rfl⟩) (fun r_19 h_20 => ?_)
        rcases h_20 with ⟨rfl, h_21⟩ | ⟨rfl, h_21⟩
        · refine lv_if_eq (tgt := 70) hx hb dX5_hangs_33 (by decide) (fun h9 => absurd h9 (by decide)) (fun _ => ?_)
          refine lv_aload_n hx hb dX5_hangs_36 rfl (lv_at hl 4 rfl) ?_
          refine va_get (D := G) (ci := 4) (v := .ref qt) (C := RX5) (T := TX5) (N := 9) hx hb hts iX_X5 hown hK hP 0 rfl rfl 0 (by decide) (hts _ m_t174) (fun _ h9 => h9) rfl dX5_hangs_37 ?_
          refine lv_iload_n hx hb dX5_hangs_40 rfl (lv_at hl 3 rfl) ?_
          refine lv_iconst (v := 1) hx hb dX5_hangs_41 (by decide) ?_
          refine lv_iload hx hb dX5_hangs_42 (lv_at hl 0 rfl) ?_
          refine lv_ishl hx hb dX5_hangs_44 ?_
          refine lv_iconst (v := (-1)) hx hb dX5_hangs_45 (by decide) ?_
          refine lv_ixor hx hb dX5_hangs_46 ?_
          refine lv_iand hx hb dX5_hangs_47 ?_
          refine kRi (rV (As := [.int ((zthere tA) &&& ((1 <<< ((nI j_6) &&& 31)) ^^^ (-1)))]) (rest := []) (b := qt) ⟨hx, hb, hml, hown, hts⟩ (c_X4_worthAmong l G cy qt tA qtw qtn qtg qta qtr qtm qtt qts ((zthere tA) &&& ((1 <<< ((nI j_6) &&& 31)) ^^^ (-1))) hB hPp) L_X5_300 (preRV (q := (RX4, TX4, 13)) hN hP [2, 3, 10] rfl 2 3 rfl rfl) rfl ⟨Nat.le_of_ble_eq_true rfl, Nat.le_of_ble_eq_true rfl⟩ hl.1 (Nat.le_of_ble_eq_true rfl) dX5_hangs_48 ⟨Nat.le_of_ble_eq_true rfl, Nat.le_of_ble_eq_true rfl⟩) (fun r_23 h_24 => ?_)
          subst h_24
          refine lv_istore (lv' := [(5, .int (waF tA ((zthere tA) &&& ((1 <<< ((nI j_6) &&& 31)) ^^^ (-1))))), (4, .int (nI j_6)), (3, .int x3_8), (2, .int x2_7), (1, .int (zthere tA)), (0, .ref qx)]) hx hb dX5_hangs_51 hl (by decide) rfl (fun ls => ?_)
          clear hl
          intro hl
          refine lv_iload_n hx hb dX5_hangs_53 rfl (lv_at hl 3 rfl) ?_
          refine lv_iconst (v := (-1)) hx hb dX5_hangs_54 (by decide) ?_
          refine lv_icmp_eq (tgt := 64) hx hb dX5_hangs_55 (by decide) (fun c_25 => ?_) (fun c_25 => ?_)
          · refine lv_iload hx hb dX5_hangs_64 (lv_at hl 1 rfl) ?_
            refine lv_istore_n (lv' := [(2, .int (nI j_6)), (5, .int (waF tA ((zthere tA) &&& ((1 <<< ((nI j_6) &&& 31)) ^^^ (-1))))), (4, .int (nI j_6)), (3, .int x3_8), (1, .int (zthere tA)), (0, .ref qx)]) hx hb dX5_hangs_66 rfl hl (by decide) rfl (fun ls => ?_)
            clear hl
            intro hl
            refine lv_iload hx hb dX5_hangs_67 (lv_at hl 1 rfl) ?_
            refine lv_istore_n (lv' := [(3, .int (waF tA ((zthere tA) &&& ((1 <<< ((nI j_6) &&& 31)) ^^^ (-1))))), (2, .int (nI j_6)), (5, .int (waF tA ((zthere tA) &&& ((1 <<< ((nI j_6) &&& 31)) ^^^ (-1))))), (4, .int (nI j_6)), (1, .int (zthere tA)), (0, .ref qx)]) hx hb dX5_hangs_69 rfl hl (by decide) rfl (fun ls => ?_)
            clear hl
            intro hl
            refine lv_iinc (v := nI (j_6 + 1)) (lv' := [(4, .int (nI (j_6 + 1))), (3, .int (waF tA ((zthere tA) &&& ((1 <<< ((nI j_6) &&& 31)) ^^^ (-1))))), (2, .int (nI j_6)), (5, .int (waF tA ((zthere tA) &&& ((1 <<< ((nI j_6) &&& 31)) ^^^ (-1))))), (1, .int (zthere tA)), (0, .ref qx)]) hx hb dX5_hangs_70 hl (k := 3) rfl (nI_1 _) (by decide) rfl (fun ls => ?_)
            clear hl
            intro hl
            refine lv_goto (tgt := 15) hx hb dX5_hangs_73 (by decide) ?_
            exact ih_5 (j_6 + 1) (nI j_6) (waF tA ((zthere tA) &&& ((1 <<< ((nI j_6) &&& 31)) ^^^ (-1)))) (by omega) (by omega) _ _ _ hP hD hS (lv_sub hl [0, 1, 2, 4, 5] rfl)
          · refine lv_iload hx hb dX5_hangs_58 (lv_at hl 0 rfl) ?_
            refine lv_iload_n hx hb dX5_hangs_60 rfl (lv_at hl 2 rfl) ?_
            refine lv_icmp_ge (tgt := 70) hx hb dX5_hangs_61 (by decide) (fun c_26 => ?_) (fun c_26 => ?_)
            · refine lv_iinc (v := nI (j_6 + 1)) (lv' := [(4, .int (nI (j_6 + 1))), (5, .int (waF tA ((zthere tA) &&& ((1 <<< ((nI j_6) &&& 31)) ^^^ (-1))))), (3, .int x3_8), (2, .int x2_7), (1, .int (zthere tA)), (0, .ref qx)]) hx hb dX5_hangs_70 hl (k := 1) rfl (nI_1 _) (by decide) rfl (fun ls => ?_)
              clear hl
              intro hl
              refine lv_goto (tgt := 15) hx hb dX5_hangs_73 (by decide) ?_
              exact ih_5 (j_6 + 1) x2_7 x3_8 (by omega) (by omega) _ _ _ hP hD hS (lv_sub hl [0, 2, 3, 4, 5] rfl)
            · refine lv_iload hx hb dX5_hangs_64 (lv_at hl 1 rfl) ?_
              refine lv_istore_n (lv' := [(2, .int (nI j_6)), (5, .int (waF tA ((zthere tA) &&& ((1 <<< ((nI j_6) &&& 31)) ^^^ (-1))))), (4, .int (nI j_6)), (3, .int x3_8), (1, .int (zthere tA)), (0, .ref qx)]) hx hb dX5_hangs_66 rfl hl (by decide) rfl (fun ls => ?_)
              clear hl
              intro hl
              refine lv_iload hx hb dX5_hangs_67 (lv_at hl 1 rfl) ?_
              refine lv_istore_n (lv' := [(3, .int (waF tA ((zthere tA) &&& ((1 <<< ((nI j_6) &&& 31)) ^^^ (-1))))), (2, .int (nI j_6)), (5, .int (waF tA ((zthere tA) &&& ((1 <<< ((nI j_6) &&& 31)) ^^^ (-1))))), (4, .int (nI j_6)), (1, .int (zthere tA)), (0, .ref qx)]) hx hb dX5_hangs_69 rfl hl (by decide) rfl (fun ls => ?_)
              clear hl
              intro hl
              refine lv_iinc (v := nI (j_6 + 1)) (lv' := [(4, .int (nI (j_6 + 1))), (3, .int (waF tA ((zthere tA) &&& ((1 <<< ((nI j_6) &&& 31)) ^^^ (-1))))), (2, .int (nI j_6)), (5, .int (waF tA ((zthere tA) &&& ((1 <<< ((nI j_6) &&& 31)) ^^^ (-1))))), (1, .int (zthere tA)), (0, .ref qx)]) hx hb dX5_hangs_70 hl (k := 3) rfl (nI_1 _) (by decide) rfl (fun ls => ?_)
              clear hl
              intro hl
              refine lv_goto (tgt := 15) hx hb dX5_hangs_73 (by decide) ?_
              exact ih_5 (j_6 + 1) (nI j_6) (waF tA ((zthere tA) &&& ((1 <<< ((nI j_6) &&& 31)) ^^^ (-1)))) (by omega) (by omega) _ _ _ hP hD hS (lv_sub hl [0, 1, 2, 4, 5] rfl)
        · refine lv_if_eq (tgt := 70) hx hb dX5_hangs_33 (by decide) (fun _ => ?_) (fun h9 => absurd (by decide) h9)
          refine lv_iinc (v := nI (j_6 + 1)) (lv' := [(4, .int (nI (j_6 + 1))), (3, .int x3_8), (2, .int x2_7), (1, .int (zthere tA)), (0, .ref qx)]) hx hb dX5_hangs_70 hl (k := 0) rfl (nI_1 _) (by decide) rfl (fun ls => ?_)
          clear hl
          intro hl
          refine lv_goto (tgt := 15) hx hb dX5_hangs_73 (by decide) ?_
          exact ih_5 (j_6 + 1) x2_7 x3_8 (by omega) (by omega) _ _ _ hP hD hS (lv_sub hl [0, 1, 2, 3, 4] rfl)
  exact lp_3 ((8 - 0) + 1) 0 (-1) 0 (Nat.lt_succ_self _) (Nat.zero_le _) _ _ ls hP hD hS (lv_sub hl [0, 1, 2, 3, 4] rfl)
set_option maxHeartbeats 4000000 in
set_option maxRecDepth 100000 in
theorem p_X5_lost (l : Launch) (G : va_G) (cy : Nat → ClassId) (sz : Nat) (qx : Nat) (qt : Nat) (qk : Nat) (qp : Nat) (qs : Nat) (qa : Nat) (qr : Nat) (iKp : Int32) (iYe : Int32) (iTv : Int32) (fR : Nat → Int32) (tA : TA) (qtw : Nat) (qtn : Nat) (qtg : Nat) (qta : Nat) (qtr : Nat) (qtm : Nat) (qtt : Nat) (qts : Nat) (iA : Int32)  (hB : T_nb tA ≤ 8) (hPp : T_np tA ≤ 8) : MW l yX5_lost cX5_lost 2 (some .int) 12 0 0 G cy [zzO qx 4 [.ref qt, .ref qk, .ref qp, .ref qs, .ref qa, .ref qr, .int iKp, .int iYe, .int iTv], zzI cy qr 5 fR, zzO qt 3 [.int (nI (T_nb tA)), .int (nI (T_np tA)), .int (wb (T_wh tA)), .int (wb (T_gn tA)), .int (T_sd tA), .ref qtw, .ref qtn, .ref qtg, .ref qta, .ref qtr, .ref qtm, .ref qtt, .ref qts], zzI cy qtw 8 (T_wo tA), zzI cy qtn 8 (T_ne tA), zzI cy qtg 8 (T_go tA), zzI cy qta 8 (T_ag tA), zzI cy qtr 8 (T_re tA), zzI cy qtm 8 (T_me tA), zzI cy qtt 8 (T_te tA), zzI cy qts 64 (shF (T_kn tA))] sz [.ref qx, .int iA] (Wi G (fun r u => ∃ (fX : Nat → Int32), u = [zzO qx 4 [.ref qt, .ref qk, .ref qp, .ref qs, .ref qa, .ref qr, .int iKp, .int iYe, .int iTv], zzI cy qr 5 fX, zzO qt 3 [.int (nI (T_nb tA)), .int (nI (T_np tA)), .int (wb (T_wh tA)), .int (wb (T_gn tA)), .int (T_sd tA), .ref qtw, .ref qtn, .ref qtg, .ref qta, .ref qtr, .ref qtm, .ref qtt, .ref qts], zzI cy qtw 8 (T_wo tA), zzI cy qtn 8 (T_ne tA), zzI cy qtg 8 (T_go tA), zzI cy qta 8 (T_ag tA), zzI cy qtr 8 (T_re tA), zzI cy qtm 8 (T_me tA), zzI cy qtt 8 (T_te tA), zzI cy qts 64 (shF (T_kn tA))] ∧ (True))) := by
  refine enW RX5 (by decide) rfl (Nat.le_of_ble_eq_true rfl) (fun p e s m below meth c ls A hx hb hml hown hts hr hlocks hP hN hl hin hD hA hS => ?_)
  have hin : meth.name = _ := hin
  have hK := hN.1
  replace hl : lv_has ls 2 [(0, .ref qx), (1, .int iA)] := hl
  refine lv_iload_n hx hb dX5_lost_0 rfl (lv_at hl 1 rfl) ?_
  refine lv_i2l (v := iA.toInt64) hx hb dX5_lost_1 rfl ?_
  refine lv_lconst (v := 1) hx hb dX5_lost_2 (by decide) ?_
  refine lv_ldc2 hx hb hown (hts _ m_t591) dX5_lost_3 ?_
  refine kRi (rS (As := [.long iA.toInt64, .long 1, .long 1000]) (rest := []) ⟨hx, hb, hml, hown, hts⟩ (c_X5_within l G cy iA.toInt64 1 1000) L_X5_50 (preRS hN hP [] rfl) rfl ⟨Nat.le_of_ble_eq_true rfl, Nat.le_of_ble_eq_true rfl⟩ hl.1 (Nat.le_of_ble_eq_true rfl) dX5_lost_6 ⟨Nat.le_of_ble_eq_true rfl, Nat.le_of_ble_eq_true rfl⟩) (fun r_1 h_2 => ?_)
  rcases h_2 with ⟨rfl, h_3⟩ | ⟨rfl, h_3⟩
  · obtain ⟨k_4, hk_5, hk_6, rfl⟩ := iv_nI 1 1000 (by decide) (by decide) h_3
    refine lv_if_eq (tgt := 43) hx hb dX5_lost_9 (by decide) (fun h9 => absurd h9 (by decide)) (fun _ => ?_)
    refine lv_aload_n hx hb dX5_lost_12 rfl (lv_at hl 0 rfl) ?_
    refine va_get (D := G) (ci := 4) (v := .ref qt) (C := RX5) (T := TX5) (N := 9) hx hb hts iX_X5 hown hK hP 0 rfl rfl 0 (by decide) (hts _ m_t174) (fun _ h9 => h9) rfl dX5_lost_13 ?_
    refine va_getN (D := G) (ci := 3) (v := .int (nI (T_nb tA))) (C := RX4) (T := TX4) (N := 13) hx hb hts iX_X4 hown hK hP 2 rfl rfl 0 (by decide) (va_Nw.use rfl (hN.2.1 (RX5, 127, "EachBookOnce$Town", "books", "I") (List.mem_of_getElem? (i := 3) rfl))) (fun _ h9 => h9) rfl dX5_lost_16 ?_
    refine kRi (rS (As := [.int (nI (T_nb tA))]) (rest := []) ⟨hx, hb, hml, hown, hts⟩ (c_X5_setOfAll l G cy (nI (T_nb tA))) L_X5_186 (preRS hN hP [] rfl) rfl ⟨Nat.le_of_ble_eq_true rfl, Nat.le_of_ble_eq_true rfl⟩ hl.1 (Nat.le_of_ble_eq_true rfl) dX5_lost_19 ⟨Nat.le_of_ble_eq_true rfl, Nat.le_of_ble_eq_true rfl⟩) (fun r_8 h_9 => ?_)
    subst h_9
    refine lv_aload_n hx hb dX5_lost_22 rfl (lv_at hl 0 rfl) ?_
    refine va_get (D := G) (ci := 4) (v := .ref qt) (C := RX5) (T := TX5) (N := 9) hx hb hts iX_X5 hown hK hP 0 rfl rfl 0 (by decide) (hts _ m_t174) (fun _ h9 => h9) rfl dX5_lost_23 ?_
    refine lv_aload_n hx hb dX5_lost_26 rfl (lv_at hl 0 rfl) ?_
    refine va_get (D := G) (ci := 4) (v := .ref qt) (C := RX5) (T := TX5) (N := 9) hx hb hts iX_X5 hown hK hP 0 rfl rfl 0 (by decide) (hts _ m_t174) (fun _ h9 => h9) rfl dX5_lost_27 ?_
    refine kRi (rV (As := []) (rest := [.ref qt, .int ((1 <<< ((nI (T_nb tA)) &&& 31)) - 1)]) (b := qt) ⟨hx, hb, hml, hown, hts⟩ (c_X4_setThere l G cy qt tA qtw qtn qtg qta qtr qtm qtt qts hPp) L_X5_269 (preRV (q := (RX4, TX4, 13)) hN hP [2] rfl 2 3 rfl rfl) rfl ⟨Nat.le_of_ble_eq_true rfl, Nat.le_of_ble_eq_true rfl⟩ hl.1 (Nat.le_of_ble_eq_true rfl) dX5_lost_30 ⟨Nat.le_of_ble_eq_true rfl, Nat.le_of_ble_eq_true rfl⟩) (fun r_10 h_11 => ?_)
    subst h_11
    refine lv_iload_n hx hb dX5_lost_33 rfl (lv_at hl 1 rfl) ?_
    refine kRi (rV (As := [.int (zthere tA), .int (nI k_4)]) (rest := [.int ((1 <<< ((nI (T_nb tA)) &&& 31)) - 1)]) (b := qt) ⟨hx, hb, hml, hown, hts⟩ (c_X4_booksKnown l G cy qt tA qtw qtn qtg qta qtr qtm qtt qts (zthere tA) (nI k_4) hB hPp) L_X5_303 (preRV (q := (RX4, TX4, 13)) hN hP [2, 10] rfl 2 3 rfl rfl) rfl ⟨Nat.le_of_ble_eq_true rfl, Nat.le_of_ble_eq_true rfl⟩ hl.1 (Nat.le_of_ble_eq_true rfl) dX5_lost_34 ⟨Nat.le_of_ble_eq_true rfl, Nat.le_of_ble_eq_true rfl⟩) (fun r_12 h_13 => ?_)
    subst h_13
    refine lv_iconst (v := (-1)) hx hb dX5_lost_37 (by decide) ?_
    refine lv_ixor hx hb dX5_lost_38 ?_
    refine lv_iand hx hb dX5_lost_39 ?_
    refine lv_goto (tgt := 49) hx hb dX5_lost_40 (by decide) ?_
    exact endW (u := [zzO qx 4 [.ref qt, .ref qk, .ref qp, .ref qs, .ref qa, .ref qr, .int iKp, .int iYe, .int iTv], zzI cy qr 5 fR, zzO qt 3 [.int (nI (T_nb tA)), .int (nI (T_np tA)), .int (wb (T_wh tA)), .int (wb (T_gn tA)), .int (T_sd tA), .ref qtw, .ref qtn, .ref qtg, .ref qta, .ref qtr, .ref qtm, .ref qtt, .ref qts], zzI cy qtw 8 (T_wo tA), zzI cy qtn 8 (T_ne tA), zzI cy qtg 8 (T_go tA), zzI cy qta 8 (T_ag tA), zzI cy qtr 8 (T_re tA), zzI cy qtm 8 (T_me tA), zzI cy qtt 8 (T_te tA), zzI cy qts 64 (shF (T_kn tA))]) hx hb hr hlocks rfl (hP.sub [0, 1, 2, 3, 4, 5, 6, 7, 8, 9, 10] rfl) (hD.sub [0, 1, 2, 3, 4, 5, 6, 7, 8, 9, 10] (by decide +kernel) rfl) hS ⟨fR, rfl, trivial⟩ dX5_lost_49
  · refine lv_if_eq (tgt := 43) hx hb dX5_lost_9 (by decide) (fun _ => ?_) (fun h9 => absurd (by decide) h9)
    refine lv_aload_n hx hb dX5_lost_43 rfl (lv_at hl 0 rfl) ?_
    refine lv_bipush (v := (-2)) hx hb dX5_lost_44 (by decide) ?_
    refine cVi (As := [.int (-2)]) (rest := []) (b := qx) (q := (RX5, TX5, 9)) ⟨hx, hb, hml, hown, hts⟩ (c_X5_refuse2 l G cy (s.heap).size qx qt qk qp qs qa qr iKp iYe iTv fR) L_X5_56 hN hP hD hS hA [0, 1] [false, false, true, true, true, true, true, true, true, true, true] rfl (by decide +kernel) rfl 0 4 rfl rfl rfl ⟨Nat.le_of_ble_eq_true rfl, Nat.le_of_ble_eq_true rfl⟩ hl.1 (Nat.le_of_ble_eq_true rfl) dX5_lost_46 ⟨Nat.le_of_ble_eq_true rfl, Nat.le_of_ble_eq_true rfl⟩ (fun r_15 u_17 H locs h_16 => ?_)
    clear hP hD hS
    intro hP hD hS
    obtain ⟨fX_18, rfl, h_16⟩ := h_16
    have hPD := pd_as [zzO qt 3 [.int (nI (T_nb tA)), .int (nI (T_np tA)), .int (wb (T_wh tA)), .int (wb (T_gn tA)), .int (T_sd tA), .ref qtw, .ref qtn, .ref qtg, .ref qta, .ref qtr, .ref qtm, .ref qtt, .ref qts], zzI cy qtw 8 (T_wo tA), zzI cy qtn 8 (T_ne tA), zzI cy qtg 8 (T_go tA), zzI cy qta 8 (T_ag tA), zzI cy qtr 8 (T_re tA), zzI cy qtm 8 (T_me tA), zzI cy qtt 8 (T_te tA), zzI cy qts 64 (shF (T_kn tA)), zzO qx 4 [.ref qt, .ref qk, .ref qp, .ref qs, .ref qa, .ref qr, .int iKp, .int iYe, .int iTv], zzI cy qr 5 fX_18] hP hD rfl
    clear hP hD
    obtain ⟨hP, hD⟩ := hPD
    subst h_16
    exact endW (u := [zzO qx 4 [.ref qt, .ref qk, .ref qp, .ref qs, .ref qa, .ref qr, .int iKp, .int iYe, .int iTv], zzI cy qr 5 fX_18, zzO qt 3 [.int (nI (T_nb tA)), .int (nI (T_np tA)), .int (wb (T_wh tA)), .int (wb (T_gn tA)), .int (T_sd tA), .ref qtw, .ref qtn, .ref qtg, .ref qta, .ref qtr, .ref qtm, .ref qtt, .ref qts], zzI cy qtw 8 (T_wo tA), zzI cy qtn 8 (T_ne tA), zzI cy qtg 8 (T_go tA), zzI cy qta 8 (T_ag tA), zzI cy qtr 8 (T_re tA), zzI cy qtm 8 (T_me tA), zzI cy qtt 8 (T_te tA), zzI cy qts 64 (shF (T_kn tA))]) hx hb hr hlocks rfl (hP.sub [9, 10, 0, 1, 2, 3, 4, 5, 6, 7, 8] rfl) (hD.sub [9, 10, 0, 1, 2, 3, 4, 5, 6, 7, 8] (by decide +kernel) rfl) hS ⟨fX_18, rfl, trivial⟩ dX5_lost_49
set_option maxHeartbeats 4000000 in
set_option maxRecDepth 100000 in
theorem p_X5_bear (l : Launch) (G : va_G) (cy : Nat → ClassId) (sz : Nat) (qx : Nat) (qt : Nat) (qk : Nat) (qp : Nat) (qs : Nat) (qa : Nat) (qr : Nat) (iKp : Int32) (iYe : Int32) (iTv : Int32) (fR : Nat → Int32) (tA : TA) (qtw : Nat) (qtn : Nat) (qtg : Nat) (qta : Nat) (qtr : Nat) (qtm : Nat) (qtt : Nat) (qts : Nat) (iA : Int32)  (hB : T_nb tA ≤ 8) (hPp : T_np tA ≤ 8) : MW l yX5_bear cX5_bear 7 (some .int) 12 0 0 G cy [zzO qx 4 [.ref qt, .ref qk, .ref qp, .ref qs, .ref qa, .ref qr, .int iKp, .int iYe, .int iTv], zzI cy qr 5 fR, zzO qt 3 [.int (nI (T_nb tA)), .int (nI (T_np tA)), .int (wb (T_wh tA)), .int (wb (T_gn tA)), .int (T_sd tA), .ref qtw, .ref qtn, .ref qtg, .ref qta, .ref qtr, .ref qtm, .ref qtt, .ref qts], zzI cy qtw 8 (T_wo tA), zzI cy qtn 8 (T_ne tA), zzI cy qtg 8 (T_go tA), zzI cy qta 8 (T_ag tA), zzI cy qtr 8 (T_re tA), zzI cy qtm 8 (T_me tA), zzI cy qtt 8 (T_te tA), zzI cy qts 64 (shF (T_kn tA))] sz [.ref qx, .int iA] (Wi G (fun r u => ∃ (fX : Nat → Int32), u = [zzO qx 4 [.ref qt, .ref qk, .ref qp, .ref qs, .ref qa, .ref qr, .int iKp, .int iYe, .int iTv], zzI cy qr 5 fX, zzO qt 3 [.int (nI (T_nb tA)), .int (nI (T_np tA)), .int (wb (T_wh tA)), .int (wb (T_gn tA)), .int (T_sd tA), .ref qtw, .ref qtn, .ref qtg, .ref qta, .ref qtr, .ref qtm, .ref qtt, .ref qts], zzI cy qtw 8 (T_wo tA), zzI cy qtn 8 (T_ne tA), zzI cy qtg 8 (T_go tA), zzI cy qta 8 (T_ag tA), zzI cy qtr 8 (T_re tA), zzI cy qtm 8 (T_me tA), zzI cy qtt 8 (T_te tA), zzI cy qts 64 (shF (T_kn tA))] ∧ (True))) := by
  refine enW RX5 (by decide) rfl (Nat.le_of_ble_eq_true rfl) (fun p e s m below meth c ls A hx hb hml hown hts hr hlocks hP hN hl hin hD hA hS => ?_)
  have hin : meth.name = _ := hin
  have hK := hN.1
  replace hl : lv_has ls 7 [(0, .ref qx), (1, .int iA)] := hl
  refine lv_iload_n hx hb dX5_bear_0 rfl (lv_at hl 1 rfl) ?_
  refine lv_i2l (v := iA.toInt64) hx hb dX5_bear_1 rfl ?_
  refine lv_lconst (v := 1) hx hb dX5_bear_2 (by decide) ?_
  refine lv_ldc2 hx hb hown (hts _ m_t591) dX5_bear_3 ?_
  refine kRi (rS (As := [.long iA.toInt64, .long 1, .long 1000]) (rest := []) ⟨hx, hb, hml, hown, hts⟩ (c_X5_within l G cy iA.toInt64 1 1000) L_X5_50 (preRS hN hP [] rfl) rfl ⟨Nat.le_of_ble_eq_true rfl, Nat.le_of_ble_eq_true rfl⟩ hl.1 (Nat.le_of_ble_eq_true rfl) dX5_bear_6 ⟨Nat.le_of_ble_eq_true rfl, Nat.le_of_ble_eq_true rfl⟩) (fun r_1 h_2 => ?_)
  rcases h_2 with ⟨rfl, h_3⟩ | ⟨rfl, h_3⟩
  · obtain ⟨k_4, hk_5, hk_6, rfl⟩ := iv_nI 1 1000 (by decide) (by decide) h_3
    refine lv_if_ne (tgt := 19) hx hb dX5_bear_9 (by decide) (fun _ => ?_) (fun h9 => absurd h9 (by decide))
    refine lv_aload_n hx hb dX5_bear_19 rfl (lv_at hl 0 rfl) ?_
    refine va_get (D := G) (ci := 4) (v := .ref qt) (C := RX5) (T := TX5) (N := 9) hx hb hts iX_X5 hown hK hP 0 rfl rfl 0 (by decide) (hts _ m_t174) (fun _ h9 => h9) rfl dX5_bear_20 ?_
    refine kRi (rV (As := []) (rest := []) (b := qt) ⟨hx, hb, hml, hown, hts⟩ (c_X4_setThere l G cy qt tA qtw qtn qtg qta qtr qtm qtt qts hPp) L_X5_269 (preRV (q := (RX4, TX4, 13)) hN hP [2] rfl 2 3 rfl rfl) rfl ⟨Nat.le_of_ble_eq_true rfl, Nat.le_of_ble_eq_true rfl⟩ hl.1 (Nat.le_of_ble_eq_true rfl) dX5_bear_23 ⟨Nat.le_of_ble_eq_true rfl, Nat.le_of_ble_eq_true rfl⟩) (fun r_8 h_9 => ?_)
    subst h_9
    refine lv_istore_n (lv' := [(2, .int (zthere tA)), (0, .ref qx), (1, .int (nI k_4))]) hx hb dX5_bear_26 rfl hl (by decide) rfl (fun ls => ?_)
    clear hl
    intro hl
    obtain ⟨n_10, hn_11, en_12⟩ := wb_lt (fun p => decide (p < T_np tA) && !T_gn tA p)
    have en_12 : zthere tA = nI n_10 := en_12
    rw [en_12] at hl
    refine lv_aload_n hx hb dX5_bear_27 rfl (lv_at hl 1 rfl) ?_
    refine va_get (D := G) (ci := 4) (v := .ref qt) (C := RX5) (T := TX5) (N := 9) hx hb hts iX_X5 hown hK hP 0 rfl rfl 0 (by decide) (hts _ m_t174) (fun _ h9 => h9) rfl dX5_bear_28 ?_
    refine lv_iload_n hx hb dX5_bear_31 rfl (lv_at hl 0 rfl) ?_
    refine lv_iload_n hx hb dX5_bear_32 rfl (lv_at hl 2 rfl) ?_
    refine kRi (rV (As := [.int (nI n_10), .int (nI k_4)]) (rest := []) (b := qt) ⟨hx, hb, hml, hown, hts⟩ (c_X4_booksKnown l G cy qt tA qtw qtn qtg qta qtr qtm qtt qts (nI n_10) (nI k_4) hB hPp) L_X5_303 (preRV (q := (RX4, TX4, 13)) hN hP [2, 10] rfl 2 3 rfl rfl) rfl ⟨Nat.le_of_ble_eq_true rfl, Nat.le_of_ble_eq_true rfl⟩ hl.1 (Nat.le_of_ble_eq_true rfl) dX5_bear_33 ⟨Nat.le_of_ble_eq_true rfl, Nat.le_of_ble_eq_true rfl⟩) (fun r_13 h_14 => ?_)
    subst h_14
    refine lv_istore_n (lv' := [(3, .int (bkn tA (nI n_10) (nI k_4))), (2, .int (nI n_10)), (0, .ref qx), (1, .int (nI k_4))]) hx hb dX5_bear_36 rfl hl (by decide) rfl (fun ls => ?_)
    clear hl
    intro hl
    refine lv_iload_n hx hb dX5_bear_37 rfl (lv_at hl 1 rfl) ?_
    refine lv_istore (lv' := [(4, .int (nI n_10)), (3, .int (bkn tA (nI n_10) (nI k_4))), (2, .int (nI n_10)), (0, .ref qx), (1, .int (nI k_4))]) hx hb dX5_bear_38 hl (by decide) rfl (fun ls => ?_)
    clear hl
    intro hl
    refine lv_iconst (v := 0) hx hb dX5_bear_40 (by decide) ?_
    refine lv_istore (lv' := [(5, .int 0), (4, .int (nI n_10)), (3, .int (bkn tA (nI n_10) (nI k_4))), (2, .int (nI n_10)), (0, .ref qx), (1, .int (nI k_4))]) hx hb dX5_bear_41 hl (by decide) rfl (fun ls => ?_)
    clear hl
    intro hl
    have lp_15 : ∀ (n_16 : Nat) (j_18 : Nat) (x4_19 : Int32), 256 - j_18 < n_16 → j_18 ≤ n_10 → ∀ (H : Heap) (locs : List Loc) (ls : Array Slot), va_P G CL [zzO qx 4 [.ref qt, .ref qk, .ref qp, .ref qs, .ref qa, .ref qr, .int iKp, .int iYe, .int iTv], zzI cy qr 5 fR, zzO qt 3 [.int (nI (T_nb tA)), .int (nI (T_np tA)), .int (wb (T_wh tA)), .int (wb (T_gn tA)), .int (T_sd tA), .ref qtw, .ref qtn, .ref qtg, .ref qta, .ref qtr, .ref qtm, .ref qtt, .ref qts], zzI cy qtw 8 (T_wo tA), zzI cy qtn 8 (T_ne tA), zzI cy qtg 8 (T_go tA), zzI cy qta 8 (T_ag tA), zzI cy qtr 8 (T_re tA), zzI cy qtm 8 (T_me tA), zzI cy qtt 8 (T_te tA), zzI cy qts 64 (shF (T_kn tA))] H → va_D A [zzO qx 4 [.ref qt, .ref qk, .ref qp, .ref qs, .ref qa, .ref qr, .int iKp, .int iYe, .int iTv], zzI cy qr 5 fR, zzO qt 3 [.int (nI (T_nb tA)), .int (nI (T_np tA)), .int (wb (T_wh tA)), .int (wb (T_gn tA)), .int (T_sd tA), .ref qtw, .ref qtn, .ref qtg, .ref qta, .ref qtr, .ref qtm, .ref qtt, .ref qts], zzI cy qtw 8 (T_wo tA), zzI cy qtn 8 (T_ne tA), zzI cy qtg 8 (T_go tA), zzI cy qta 8 (T_ag tA), zzI cy qtr 8 (T_re tA), zzI cy qtm 8 (T_me tA), zzI cy qtt 8 (T_te tA), zzI cy qts 64 (shF (T_kn tA))] → va_S A s.heap H locs → lv_has ls 7 [(5, .int (nI j_18)), (4, .int x4_19), (3, .int (bkn tA (nI n_10) (nI k_4))), (2, .int (nI n_10)), (0, .ref qx), (1, .int (nI k_4))] → W p l e (Rm 12 0 0) s m (List.toArray (α := Value) [.ref qx, .int (nI k_4)]) below meth c H locs 0 0 (MQ below ((Wi G (fun r u => ∃ (fX : Nat → Int32), u = [zzO qx 4 [.ref qt, .ref qk, .ref qp, .ref qs, .ref qa, .ref qr, .int iKp, .int iYe, .int iTv], zzI cy qr 5 fX, zzO qt 3 [.int (nI (T_nb tA)), .int (nI (T_np tA)), .int (wb (T_wh tA)), .int (wb (T_gn tA)), .int (T_sd tA), .ref qtw, .ref qtn, .ref qtg, .ref qta, .ref qtr, .ref qtm, .ref qtt, .ref qts], zzI cy qtw 8 (T_wo tA), zzI cy qtn 8 (T_ne tA), zzI cy qtg 8 (T_go tA), zzI cy qta 8 (T_ag tA), zzI cy qtr 8 (T_re tA), zzI cy qtm 8 (T_me tA), zzI cy qtt 8 (T_te tA), zzI cy qts 64 (shF (T_kn tA))] ∧ (True))) A) (List.toArray (α := Value) [.ref qx, .int (nI k_4)]) s 0 0 A) (F0 m 43 ls []) := by
      intro n_16
      induction n_16 with
      | zero => intro j_18 x4_19 hm9; exact absurd hm9 (Nat.not_lt_zero _)
      | succ n_16 ih_17 =>
        intro j_18 x4_19 hm_21 hj_20 H locs ls hP hD hS hl
        refine lv_iload hx hb dX5_bear_43 (lv_at hl 0 rfl) ?_
        refine lv_iload_n hx hb dX5_bear_45 rfl (lv_at hl 3 rfl) ?_
        refine lv_icmp_ge (tgt := 107) hx hb dX5_bear_46 (by decide) (fun c_22 => ?_) (fun c_22 => ?_)
        · refine lv_iload hx hb dX5_bear_107 (lv_at hl 1 rfl) ?_
          exact endW (u := [zzO qx 4 [.ref qt, .ref qk, .ref qp, .ref qs, .ref qa, .ref qr, .int iKp, .int iYe, .int iTv], zzI cy qr 5 fR, zzO qt 3 [.int (nI (T_nb tA)), .int (nI (T_np tA)), .int (wb (T_wh tA)), .int (wb (T_gn tA)), .int (T_sd tA), .ref qtw, .ref qtn, .ref qtg, .ref qta, .ref qtr, .ref qtm, .ref qtt, .ref qts], zzI cy qtw 8 (T_wo tA), zzI cy qtn 8 (T_ne tA), zzI cy qtg 8 (T_go tA), zzI cy qta 8 (T_ag tA), zzI cy qtr 8 (T_re tA), zzI cy qtm 8 (T_me tA), zzI cy qtt 8 (T_te tA), zzI cy qts 64 (shF (T_kn tA))]) hx hb hr hlocks rfl (hP.sub [0, 1, 2, 3, 4, 5, 6, 7, 8, 9, 10] rfl) (hD.sub [0, 1, 2, 3, 4, 5, 6, 7, 8, 9, 10] (by decide +kernel) rfl) hS ⟨fR, rfl, trivial⟩ dX5_bear_109
        · have hlt_24 : j_18 < n_10 := lp_lt rfl rfl (by omega) (by omega) c_22
          refine lv_iload hx hb dX5_bear_49 (lv_at hl 0 rfl) ?_
          refine kRi (rS (As := [.int (nI j_18)]) (rest := []) ⟨hx, hb, hml, hown, hts⟩ (c_J6_bitCount l G cy (nI j_18)) L_X5_264 (preRS hN hP [] rfl) rfl ⟨Nat.le_of_ble_eq_true rfl, Nat.le_of_ble_eq_true rfl⟩ hl.1 (Nat.le_of_ble_eq_true rfl) dX5_bear_51 ⟨Nat.le_of_ble_eq_true rfl, Nat.le_of_ble_eq_true rfl⟩) (fun r_25 h_26 => ?_)
          subst h_26
          refine lv_iload hx hb dX5_bear_54 (lv_at hl 1 rfl) ?_
          refine kRi (rS (As := [.int x4_19]) (rest := [.int (zbc (nI j_18))]) ⟨hx, hb, hml, hown, hts⟩ (c_J6_bitCount l G cy x4_19) L_X5_264 (preRS hN hP [] rfl) rfl ⟨Nat.le_of_ble_eq_true rfl, Nat.le_of_ble_eq_true rfl⟩ hl.1 (Nat.le_of_ble_eq_true rfl) dX5_bear_56 ⟨Nat.le_of_ble_eq_true rfl, Nat.le_of_ble_eq_true rfl⟩) (fun r_27 h_28 => ?_)
          subst h_28
          refine lv_icmp_ge (tgt := 66) hx hb dX5_bear_59 (by decide) (fun c_29 => ?_) (fun c_29 => ?_)
          · refine lv_iconst (v := 0) hx hb dX5_bear_66 (by decide) ?_
            refine lv_istore (lv' := [(6, .int 0), (5, .int (nI j_18)), (4, .int x4_19), (3, .int (bkn tA (nI n_10) (nI k_4))), (2, .int (nI n_10)), (0, .ref qx), (1, .int (nI k_4))]) hx hb dX5_bear_67 hl (by decide) rfl (fun ls => ?_)
            clear hl
            intro hl
            refine lv_iload hx hb dX5_bear_69 (lv_at hl 1 rfl) ?_
            refine lv_iload_n hx hb dX5_bear_71 rfl (lv_at hl 4 rfl) ?_
            refine lv_iconst (v := (-1)) hx hb dX5_bear_72 (by decide) ?_
            refine lv_ixor hx hb dX5_bear_73 ?_
            refine lv_iand hx hb dX5_bear_74 ?_
            refine lv_if_ne (tgt := 101) hx hb dX5_bear_75 (by decide) (fun c_30 => ?_) (fun c_30 => ?_)
            · refine lv_iinc (v := nI (j_18 + 1)) (lv' := [(5, .int (nI (j_18 + 1))), (6, .int 0), (4, .int x4_19), (3, .int (bkn tA (nI n_10) (nI k_4))), (2, .int (nI n_10)), (0, .ref qx), (1, .int (nI k_4))]) hx hb dX5_bear_101 hl (k := 1) rfl (nI_1 _) (by decide) rfl (fun ls => ?_)
              clear hl
              intro hl
              refine lv_goto (tgt := 43) hx hb dX5_bear_104 (by decide) ?_
              exact ih_17 (j_18 + 1) x4_19 (by omega) (by omega) _ _ _ hP hD hS (lv_sub hl [0, 2, 3, 4, 5, 6] rfl)
            · refine lv_iload hx hb dX5_bear_78 (lv_at hl 0 rfl) ?_
              refine lv_if_eq (tgt := 101) hx hb dX5_bear_80 (by decide) (fun _ => ?_) (fun h9 => absurd (by decide) h9)
              refine lv_iinc (v := nI (j_18 + 1)) (lv' := [(5, .int (nI (j_18 + 1))), (6, .int 0), (4, .int x4_19), (3, .int (bkn tA (nI n_10) (nI k_4))), (2, .int (nI n_10)), (0, .ref qx), (1, .int (nI k_4))]) hx hb dX5_bear_101 hl (k := 1) rfl (nI_1 _) (by decide) rfl (fun ls => ?_)
              clear hl
              intro hl
              refine lv_goto (tgt := 43) hx hb dX5_bear_104 (by decide) ?_
              exact ih_17 (j_18 + 1) x4_19 (by omega) (by omega) _ _ _ hP hD hS (lv_sub hl [0, 2, 3, 4, 5, 6] rfl)
          · refine lv_iconst (v := 1) hx hb dX5_bear_62 (by decide) ?_
            refine lv_goto (tgt := 67) hx hb dX5_bear_63 (by decide) ?_
            refine lv_istore (lv' := [(6, .int 1), (5, .int (nI j_18)), (4, .int x4_19), (3, .int (bkn tA (nI n_10) (nI k_4))), (2, .int (nI n_10)), (0, .ref qx), (1, .int (nI k_4))]) hx hb dX5_bear_67 hl (by decide) rfl (fun ls => ?_)
            clear hl
            intro hl
            refine lv_iload hx hb dX5_bear_69 (lv_at hl 1 rfl) ?_
            refine lv_iload_n hx hb dX5_bear_71 rfl (lv_at hl 4 rfl) ?_
            refine lv_iconst (v := (-1)) hx hb dX5_bear_72 (by decide) ?_
            refine lv_ixor hx hb dX5_bear_73 ?_
            refine lv_iand hx hb dX5_bear_74 ?_
            refine lv_if_ne (tgt := 101) hx hb dX5_bear_75 (by decide) (fun c_32 => ?_) (fun c_32 => ?_)
            · refine lv_iinc (v := nI (j_18 + 1)) (lv' := [(5, .int (nI (j_18 + 1))), (6, .int 1), (4, .int x4_19), (3, .int (bkn tA (nI n_10) (nI k_4))), (2, .int (nI n_10)), (0, .ref qx), (1, .int (nI k_4))]) hx hb dX5_bear_101 hl (k := 1) rfl (nI_1 _) (by decide) rfl (fun ls => ?_)
              clear hl
              intro hl
              refine lv_goto (tgt := 43) hx hb dX5_bear_104 (by decide) ?_
              exact ih_17 (j_18 + 1) x4_19 (by omega) (by omega) _ _ _ hP hD hS (lv_sub hl [0, 2, 3, 4, 5, 6] rfl)
            · refine lv_iload hx hb dX5_bear_78 (lv_at hl 0 rfl) ?_
              refine lv_if_eq (tgt := 101) hx hb dX5_bear_80 (by decide) (fun h9 => absurd h9 (by decide)) (fun _ => ?_)
              refine lv_aload_n hx hb dX5_bear_83 rfl (lv_at hl 5 rfl) ?_
              refine va_get (D := G) (ci := 4) (v := .ref qt) (C := RX5) (T := TX5) (N := 9) hx hb hts iX_X5 hown hK hP 0 rfl rfl 0 (by decide) (hts _ m_t174) (fun _ h9 => h9) rfl dX5_bear_84 ?_
              refine lv_iload hx hb dX5_bear_87 (lv_at hl 1 rfl) ?_
              refine lv_iload_n hx hb dX5_bear_89 rfl (lv_at hl 6 rfl) ?_
              refine kRi (rV (As := [.int (nI j_18), .int (nI k_4)]) (rest := []) (b := qt) ⟨hx, hb, hml, hown, hts⟩ (c_X4_booksKnown l G cy qt tA qtw qtn qtg qta qtr qtm qtt qts (nI j_18) (nI k_4) hB hPp) L_X5_303 (preRV (q := (RX4, TX4, 13)) hN hP [2, 10] rfl 2 3 rfl rfl) rfl ⟨Nat.le_of_ble_eq_true rfl, Nat.le_of_ble_eq_true rfl⟩ hl.1 (Nat.le_of_ble_eq_true rfl) dX5_bear_90 ⟨Nat.le_of_ble_eq_true rfl, Nat.le_of_ble_eq_true rfl⟩) (fun r_34 h_35 => ?_)
              subst h_35
              refine lv_iload_n hx hb dX5_bear_93 rfl (lv_at hl 3 rfl) ?_
              refine lv_icmp_ne (tgt := 101) hx hb dX5_bear_94 (by decide) (fun c_36 => ?_) (fun c_36 => ?_)
              · refine lv_iinc (v := nI (j_18 + 1)) (lv' := [(5, .int (nI (j_18 + 1))), (6, .int 1), (4, .int x4_19), (3, .int (bkn tA (nI n_10) (nI k_4))), (2, .int (nI n_10)), (0, .ref qx), (1, .int (nI k_4))]) hx hb dX5_bear_101 hl (k := 1) rfl (nI_1 _) (by decide) rfl (fun ls => ?_)
                clear hl
                intro hl
                refine lv_goto (tgt := 43) hx hb dX5_bear_104 (by decide) ?_
                exact ih_17 (j_18 + 1) x4_19 (by omega) (by omega) _ _ _ hP hD hS (lv_sub hl [0, 2, 3, 4, 5, 6] rfl)
              · refine lv_iload hx hb dX5_bear_97 (lv_at hl 1 rfl) ?_
                refine lv_istore (lv' := [(4, .int (nI j_18)), (6, .int 1), (5, .int (nI j_18)), (3, .int (bkn tA (nI n_10) (nI k_4))), (2, .int (nI n_10)), (0, .ref qx), (1, .int (nI k_4))]) hx hb dX5_bear_99 hl (by decide) rfl (fun ls => ?_)
                clear hl
                intro hl
                refine lv_iinc (v := nI (j_18 + 1)) (lv' := [(5, .int (nI (j_18 + 1))), (4, .int (nI j_18)), (6, .int 1), (3, .int (bkn tA (nI n_10) (nI k_4))), (2, .int (nI n_10)), (0, .ref qx), (1, .int (nI k_4))]) hx hb dX5_bear_101 hl (k := 2) rfl (nI_1 _) (by decide) rfl (fun ls => ?_)
                clear hl
                intro hl
                refine lv_goto (tgt := 43) hx hb dX5_bear_104 (by decide) ?_
                exact ih_17 (j_18 + 1) (nI j_18) (by omega) (by omega) _ _ _ hP hD hS (lv_sub hl [0, 1, 3, 4, 5, 6] rfl)
    exact lp_15 ((256 - 0) + 1) 0 (nI n_10) (Nat.lt_succ_self _) (Nat.zero_le _) _ _ ls hP hD hS (lv_sub hl [0, 1, 2, 3, 4, 5] rfl)
  · refine lv_if_ne (tgt := 19) hx hb dX5_bear_9 (by decide) (fun h9 => absurd (by decide) h9) (fun _ => ?_)
    refine lv_aload_n hx hb dX5_bear_12 rfl (lv_at hl 0 rfl) ?_
    refine lv_bipush (v := (-2)) hx hb dX5_bear_13 (by decide) ?_
    refine cVi (As := [.int (-2)]) (rest := []) (b := qx) (q := (RX5, TX5, 9)) ⟨hx, hb, hml, hown, hts⟩ (c_X5_refuse2 l G cy (s.heap).size qx qt qk qp qs qa qr iKp iYe iTv fR) L_X5_56 hN hP hD hS hA [0, 1] [false, false, true, true, true, true, true, true, true, true, true] rfl (by decide +kernel) rfl 0 4 rfl rfl rfl ⟨Nat.le_of_ble_eq_true rfl, Nat.le_of_ble_eq_true rfl⟩ hl.1 (Nat.le_of_ble_eq_true rfl) dX5_bear_15 ⟨Nat.le_of_ble_eq_true rfl, Nat.le_of_ble_eq_true rfl⟩ (fun r_38 u_40 H locs h_39 => ?_)
    clear hP hD hS
    intro hP hD hS
    obtain ⟨fX_41, rfl, h_39⟩ := h_39
    have hPD := pd_as [zzO qt 3 [.int (nI (T_nb tA)), .int (nI (T_np tA)), .int (wb (T_wh tA)), .int (wb (T_gn tA)), .int (T_sd tA), .ref qtw, .ref qtn, .ref qtg, .ref qta, .ref qtr, .ref qtm, .ref qtt, .ref qts], zzI cy qtw 8 (T_wo tA), zzI cy qtn 8 (T_ne tA), zzI cy qtg 8 (T_go tA), zzI cy qta 8 (T_ag tA), zzI cy qtr 8 (T_re tA), zzI cy qtm 8 (T_me tA), zzI cy qtt 8 (T_te tA), zzI cy qts 64 (shF (T_kn tA)), zzO qx 4 [.ref qt, .ref qk, .ref qp, .ref qs, .ref qa, .ref qr, .int iKp, .int iYe, .int iTv], zzI cy qr 5 fX_41] hP hD rfl
    clear hP hD
    obtain ⟨hP, hD⟩ := hPD
    subst h_39
    exact endW (u := [zzO qx 4 [.ref qt, .ref qk, .ref qp, .ref qs, .ref qa, .ref qr, .int iKp, .int iYe, .int iTv], zzI cy qr 5 fX_41, zzO qt 3 [.int (nI (T_nb tA)), .int (nI (T_np tA)), .int (wb (T_wh tA)), .int (wb (T_gn tA)), .int (T_sd tA), .ref qtw, .ref qtn, .ref qtg, .ref qta, .ref qtr, .ref qtm, .ref qtt, .ref qts], zzI cy qtw 8 (T_wo tA), zzI cy qtn 8 (T_ne tA), zzI cy qtg 8 (T_go tA), zzI cy qta 8 (T_ag tA), zzI cy qtr 8 (T_re tA), zzI cy qtm 8 (T_me tA), zzI cy qtt 8 (T_te tA), zzI cy qts 64 (shF (T_kn tA))]) hx hb hr hlocks rfl (hP.sub [9, 10, 0, 1, 2, 3, 4, 5, 6, 7, 8] rfl) (hD.sub [9, 10, 0, 1, 2, 3, 4, 5, 6, 7, 8] (by decide +kernel) rfl) hS ⟨fX_41, rfl, trivial⟩ dX5_bear_18
set_option maxHeartbeats 4000000 in
set_option maxRecDepth 100000 in
theorem p_X5_youngest (l : Launch) (G : va_G) (cy : Nat → ClassId) (sz : Nat) (qx : Nat) (qt : Nat) (qk : Nat) (qp : Nat) (qs : Nat) (qa : Nat) (qr : Nat) (iKp : Int32) (iYe : Int32) (iTv : Int32) (fR : Nat → Int32) (tA : TA) (qtw : Nat) (qtn : Nat) (qtg : Nat) (qta : Nat) (qtr : Nat) (qtm : Nat) (qtt : Nat) (qts : Nat) (iA : Int32)  (hB : T_nb tA ≤ 8) (hPp : T_np tA ≤ 8) : MW l yX5_youngest cX5_youngest 2 (some .int) 12 0 0 G cy [zzO qx 4 [.ref qt, .ref qk, .ref qp, .ref qs, .ref qa, .ref qr, .int iKp, .int iYe, .int iTv], zzI cy qr 5 fR, zzO qt 3 [.int (nI (T_nb tA)), .int (nI (T_np tA)), .int (wb (T_wh tA)), .int (wb (T_gn tA)), .int (T_sd tA), .ref qtw, .ref qtn, .ref qtg, .ref qta, .ref qtr, .ref qtm, .ref qtt, .ref qts], zzI cy qtw 8 (T_wo tA), zzI cy qtn 8 (T_ne tA), zzI cy qtg 8 (T_go tA), zzI cy qta 8 (T_ag tA), zzI cy qtr 8 (T_re tA), zzI cy qtm 8 (T_me tA), zzI cy qtt 8 (T_te tA), zzI cy qts 64 (shF (T_kn tA))] sz [.ref qx, .int iA] (Wi G (fun r u => ∃ (fX : Nat → Int32), u = [zzO qx 4 [.ref qt, .ref qk, .ref qp, .ref qs, .ref qa, .ref qr, .int iKp, .int iYe, .int iTv], zzI cy qr 5 fX, zzO qt 3 [.int (nI (T_nb tA)), .int (nI (T_np tA)), .int (wb (T_wh tA)), .int (wb (T_gn tA)), .int (T_sd tA), .ref qtw, .ref qtn, .ref qtg, .ref qta, .ref qtr, .ref qtm, .ref qtt, .ref qts], zzI cy qtw 8 (T_wo tA), zzI cy qtn 8 (T_ne tA), zzI cy qtg 8 (T_go tA), zzI cy qta 8 (T_ag tA), zzI cy qtr 8 (T_re tA), zzI cy qtm 8 (T_me tA), zzI cy qtt 8 (T_te tA), zzI cy qts 64 (shF (T_kn tA))] ∧ (True))) := by
  refine enW RX5 (by decide) rfl (Nat.le_of_ble_eq_true rfl) (fun p e s m below meth c ls A hx hb hml hown hts hr hlocks hP hN hl hin hD hA hS => ?_)
  have hin : meth.name = _ := hin
  have hK := hN.1
  replace hl : lv_has ls 2 [(0, .ref qx), (1, .int iA)] := hl
  refine lv_aload_n hx hb dX5_youngest_0 rfl (lv_at hl 0 rfl) ?_
  refine va_get (D := G) (ci := 4) (v := .ref qt) (C := RX5) (T := TX5) (N := 9) hx hb hts iX_X5 hown hK hP 0 rfl rfl 0 (by decide) (hts _ m_t174) (fun _ h9 => h9) rfl dX5_youngest_1 ?_
  refine lv_iload_n hx hb dX5_youngest_4 rfl (lv_at hl 1 rfl) ?_
  refine kRi (rV (As := [.int iA]) (rest := []) (b := qt) ⟨hx, hb, hml, hown, hts⟩ (c_X4_isOne l G cy qt tA qtw qtn qtg qta qtr qtm qtt qts iA hPp) L_X5_192 (preRV (q := (RX4, TX4, 13)) hN hP [2] rfl 2 3 rfl rfl) rfl ⟨Nat.le_of_ble_eq_true rfl, Nat.le_of_ble_eq_true rfl⟩ hl.1 (Nat.le_of_ble_eq_true rfl) dX5_youngest_5 ⟨Nat.le_of_ble_eq_true rfl, Nat.le_of_ble_eq_true rfl⟩) (fun r_1 h_2 => ?_)
  rcases h_2 with ⟨rfl, h_3⟩ | ⟨rfl, h_3⟩
  · obtain ⟨k_4, hk_5, rfl⟩ := h_3
    refine lv_if_eq (tgt := 22) hx hb dX5_youngest_8 (by decide) (fun h9 => absurd h9 (by decide)) (fun _ => ?_)
    refine lv_aload_n hx hb dX5_youngest_11 rfl (lv_at hl 0 rfl) ?_
    refine va_get (D := G) (ci := 4) (v := .ref qt) (C := RX5) (T := TX5) (N := 9) hx hb hts iX_X5 hown hK hP 0 rfl rfl 0 (by decide) (hts _ m_t174) (fun _ h9 => h9) rfl dX5_youngest_12 ?_
    refine lv_iload_n hx hb dX5_youngest_15 rfl (lv_at hl 1 rfl) ?_
    refine kRi (rV (As := [.int (nI k_4)]) (rest := []) (b := qt) ⟨hx, hb, hml, hown, hts⟩ (c_X4_youngestBut l G cy qt tA qtw qtn qtg qta qtr qtm qtt qts (nI k_4) hPp) L_X5_306 (preRV (q := (RX4, TX4, 13)) hN hP [2, 3, 4, 5, 6, 7, 8, 9, 10] rfl 2 3 rfl rfl) rfl ⟨Nat.le_of_ble_eq_true rfl, Nat.le_of_ble_eq_true rfl⟩ hl.1 (Nat.le_of_ble_eq_true rfl) dX5_youngest_16 ⟨Nat.le_of_ble_eq_true rfl, Nat.le_of_ble_eq_true rfl⟩) (fun r_7 h_8 => ?_)
    subst h_8
    refine lv_goto (tgt := 28) hx hb dX5_youngest_19 (by decide) ?_
    exact endW (u := [zzO qx 4 [.ref qt, .ref qk, .ref qp, .ref qs, .ref qa, .ref qr, .int iKp, .int iYe, .int iTv], zzI cy qr 5 fR, zzO qt 3 [.int (nI (T_nb tA)), .int (nI (T_np tA)), .int (wb (T_wh tA)), .int (wb (T_gn tA)), .int (T_sd tA), .ref qtw, .ref qtn, .ref qtg, .ref qta, .ref qtr, .ref qtm, .ref qtt, .ref qts], zzI cy qtw 8 (T_wo tA), zzI cy qtn 8 (T_ne tA), zzI cy qtg 8 (T_go tA), zzI cy qta 8 (T_ag tA), zzI cy qtr 8 (T_re tA), zzI cy qtm 8 (T_me tA), zzI cy qtt 8 (T_te tA), zzI cy qts 64 (shF (T_kn tA))]) hx hb hr hlocks rfl (hP.sub [0, 1, 2, 3, 4, 5, 6, 7, 8, 9, 10] rfl) (hD.sub [0, 1, 2, 3, 4, 5, 6, 7, 8, 9, 10] (by decide +kernel) rfl) hS ⟨fR, rfl, trivial⟩ dX5_youngest_28
  · refine lv_if_eq (tgt := 22) hx hb dX5_youngest_8 (by decide) (fun _ => ?_) (fun h9 => absurd (by decide) h9)
    refine lv_aload_n hx hb dX5_youngest_22 rfl (lv_at hl 0 rfl) ?_
    refine lv_bipush (v := (-2)) hx hb dX5_youngest_23 (by decide) ?_
    refine cVi (As := [.int (-2)]) (rest := []) (b := qx) (q := (RX5, TX5, 9)) ⟨hx, hb, hml, hown, hts⟩ (c_X5_refuse2 l G cy (s.heap).size qx qt qk qp qs qa qr iKp iYe iTv fR) L_X5_56 hN hP hD hS hA [0, 1] [false, false, true, true, true, true, true, true, true, true, true] rfl (by decide +kernel) rfl 0 4 rfl rfl rfl ⟨Nat.le_of_ble_eq_true rfl, Nat.le_of_ble_eq_true rfl⟩ hl.1 (Nat.le_of_ble_eq_true rfl) dX5_youngest_25 ⟨Nat.le_of_ble_eq_true rfl, Nat.le_of_ble_eq_true rfl⟩ (fun r_10 u_12 H locs h_11 => ?_)
    clear hP hD hS
    intro hP hD hS
    obtain ⟨fX_13, rfl, h_11⟩ := h_11
    have hPD := pd_as [zzO qt 3 [.int (nI (T_nb tA)), .int (nI (T_np tA)), .int (wb (T_wh tA)), .int (wb (T_gn tA)), .int (T_sd tA), .ref qtw, .ref qtn, .ref qtg, .ref qta, .ref qtr, .ref qtm, .ref qtt, .ref qts], zzI cy qtw 8 (T_wo tA), zzI cy qtn 8 (T_ne tA), zzI cy qtg 8 (T_go tA), zzI cy qta 8 (T_ag tA), zzI cy qtr 8 (T_re tA), zzI cy qtm 8 (T_me tA), zzI cy qtt 8 (T_te tA), zzI cy qts 64 (shF (T_kn tA)), zzO qx 4 [.ref qt, .ref qk, .ref qp, .ref qs, .ref qa, .ref qr, .int iKp, .int iYe, .int iTv], zzI cy qr 5 fX_13] hP hD rfl
    clear hP hD
    obtain ⟨hP, hD⟩ := hPD
    subst h_11
    exact endW (u := [zzO qx 4 [.ref qt, .ref qk, .ref qp, .ref qs, .ref qa, .ref qr, .int iKp, .int iYe, .int iTv], zzI cy qr 5 fX_13, zzO qt 3 [.int (nI (T_nb tA)), .int (nI (T_np tA)), .int (wb (T_wh tA)), .int (wb (T_gn tA)), .int (T_sd tA), .ref qtw, .ref qtn, .ref qtg, .ref qta, .ref qtr, .ref qtm, .ref qtt, .ref qts], zzI cy qtw 8 (T_wo tA), zzI cy qtn 8 (T_ne tA), zzI cy qtg 8 (T_go tA), zzI cy qta 8 (T_ag tA), zzI cy qtr 8 (T_re tA), zzI cy qtm 8 (T_me tA), zzI cy qtt 8 (T_te tA), zzI cy qts 64 (shF (T_kn tA))]) hx hb hr hlocks rfl (hP.sub [9, 10, 0, 1, 2, 3, 4, 5, 6, 7, 8] rfl) (hD.sub [9, 10, 0, 1, 2, 3, 4, 5, 6, 7, 8] (by decide +kernel) rfl) hS ⟨fX_13, rfl, trivial⟩ dX5_youngest_28
set_option maxHeartbeats 4000000 in
set_option maxRecDepth 100000 in
theorem p_X5_teach (l : Launch) (G : va_G) (cy : Nat → ClassId) (sz : Nat) (qx : Nat) (qt : Nat) (qk : Nat) (qp : Nat) (qs : Nat) (qa : Nat) (qr : Nat) (iKp : Int32) (iYe : Int32) (iTv : Int32) (fR : Nat → Int32) (tA : TA) (qtw : Nat) (qtn : Nat) (qtg : Nat) (qta : Nat) (qtr : Nat) (qtm : Nat) (qtt : Nat) (qts : Nat) (iA : Int32) (iB : Int32)  (hB : T_nb tA ≤ 8) (hPp : T_np tA ≤ 8) : MW l yX5_teach cX5_teach 7 (some .int) 12 0 0 G cy [zzO qx 4 [.ref qt, .ref qk, .ref qp, .ref qs, .ref qa, .ref qr, .int iKp, .int iYe, .int iTv], zzI cy qr 5 fR, zzO qt 3 [.int (nI (T_nb tA)), .int (nI (T_np tA)), .int (wb (T_wh tA)), .int (wb (T_gn tA)), .int (T_sd tA), .ref qtw, .ref qtn, .ref qtg, .ref qta, .ref qtr, .ref qtm, .ref qtt, .ref qts], zzI cy qtw 8 (T_wo tA), zzI cy qtn 8 (T_ne tA), zzI cy qtg 8 (T_go tA), zzI cy qta 8 (T_ag tA), zzI cy qtr 8 (T_re tA), zzI cy qtm 8 (T_me tA), zzI cy qtt 8 (T_te tA), zzI cy qts 64 (shF (T_kn tA))] sz [.ref qx, .int iA, .int iB] (Wi G (fun r u => ∃ (fX : Nat → Int32), u = [zzO qx 4 [.ref qt, .ref qk, .ref qp, .ref qs, .ref qa, .ref qr, .int iKp, .int iYe, .int iTv], zzI cy qr 5 fX, zzO qt 3 [.int (nI (T_nb tA)), .int (nI (T_np tA)), .int (wb (T_wh tA)), .int (wb (T_gn tA)), .int (T_sd tA), .ref qtw, .ref qtn, .ref qtg, .ref qta, .ref qtr, .ref qtm, .ref qtt, .ref qts], zzI cy qtw 8 (T_wo tA), zzI cy qtn 8 (T_ne tA), zzI cy qtg 8 (T_go tA), zzI cy qta 8 (T_ag tA), zzI cy qtr 8 (T_re tA), zzI cy qtm 8 (T_me tA), zzI cy qtt 8 (T_te tA), zzI cy qts 64 (shF (T_kn tA))] ∧ (True))) := by
  refine enW RX5 (by decide) rfl (Nat.le_of_ble_eq_true rfl) (fun p e s m below meth c ls A hx hb hml hown hts hr hlocks hP hN hl hin hD hA hS => ?_)
  have hin : meth.name = _ := hin
  have hK := hN.1
  replace hl : lv_has ls 7 [(0, .ref qx), (1, .int iA), (2, .int iB)] := hl
  refine lv_aload_n hx hb dX5_teach_0 rfl (lv_at hl 0 rfl) ?_
  refine lv_iload_n hx hb dX5_teach_1 rfl (lv_at hl 1 rfl) ?_
  refine lv_iload_n hx hb dX5_teach_2 rfl (lv_at hl 2 rfl) ?_
  refine kRi (rV (As := [.int iA, .int iB]) (rest := []) (b := qx) ⟨hx, hb, hml, hown, hts⟩ (c_X5_isPair l G cy qx qt qk qp qs qa qr iKp iYe iTv tA qtw qtn qtg qta qtr qtm qtt qts iA iB hB hPp) L_X5_210 (preRV (q := (RX5, TX5, 9)) hN hP [0, 2] rfl 0 4 rfl rfl) rfl ⟨Nat.le_of_ble_eq_true rfl, Nat.le_of_ble_eq_true rfl⟩ hl.1 (Nat.le_of_ble_eq_true rfl) dX5_teach_3 ⟨Nat.le_of_ble_eq_true rfl, Nat.le_of_ble_eq_true rfl⟩) (fun r_1 h_2 => ?_)
  rcases h_2 with ⟨rfl, h_3⟩ | ⟨rfl, h_3⟩
  · obtain ⟨⟨k_4, hk_6, rfl⟩, ⟨k_5, hk_7, rfl⟩⟩ := h_3
    refine lv_if_ne (tgt := 16) hx hb dX5_teach_6 (by decide) (fun _ => ?_) (fun h9 => absurd h9 (by decide))
    refine lv_aload_n hx hb dX5_teach_16 rfl (lv_at hl 0 rfl) ?_
    refine va_get (D := G) (ci := 4) (v := .ref qt) (C := RX5) (T := TX5) (N := 9) hx hb hts iX_X5 hown hK hP 0 rfl rfl 0 (by decide) (hts _ m_t174) (fun _ h9 => h9) rfl dX5_teach_17 ?_
    refine va_getN (D := G) (ci := 3) (v := .int (wb (T_gn tA))) (C := RX4) (T := TX4) (N := 13) hx hb hts iX_X4 hown hK hP 2 rfl rfl 3 (by decide) (va_Nw.use rfl (hN.2.1 (RX5, 207, "EachBookOnce$Town", "gone", "I") (List.mem_of_getElem? (i := 12) rfl))) (fun _ h9 => h9) rfl dX5_teach_20 ?_
    refine lv_iload_n hx hb dX5_teach_23 rfl (lv_at hl 1 rfl) ?_
    refine kRi (rS (As := [.int (wb (T_gn tA)), .int (nI k_4)]) (rest := []) ⟨hx, hb, hml, hown, hts⟩ (c_X5_has l G cy (wb (T_gn tA)) k_4) L_X5_183 (preRS hN hP [] rfl) rfl ⟨Nat.le_of_ble_eq_true rfl, Nat.le_of_ble_eq_true rfl⟩ hl.1 (Nat.le_of_ble_eq_true rfl) dX5_teach_24 ⟨Nat.le_of_ble_eq_true rfl, Nat.le_of_ble_eq_true rfl⟩) (fun r_9 h_10 => ?_)
    rcases h_10 with ⟨rfl, h_11⟩ | ⟨rfl, h_11⟩
    · rw [bit_wb _ (by omega)] at h_11
      refine lv_if_eq (tgt := 37) hx hb dX5_teach_27 (by decide) (fun h9 => absurd h9 (by decide)) (fun _ => ?_)
      refine lv_aload_n hx hb dX5_teach_30 rfl (lv_at hl 0 rfl) ?_
      refine lv_bipush (v := (-5)) hx hb dX5_teach_31 (by decide) ?_
      refine cVi (As := [.int (-5)]) (rest := []) (b := qx) (q := (RX5, TX5, 9)) ⟨hx, hb, hml, hown, hts⟩ (c_X5_refuse5 l G cy (s.heap).size qx qt qk qp qs qa qr iKp iYe iTv fR) L_X5_56 hN hP hD hS hA [0, 1] [false, false, true, true, true, true, true, true, true, true, true] rfl (by decide +kernel) rfl 0 4 rfl rfl rfl ⟨Nat.le_of_ble_eq_true rfl, Nat.le_of_ble_eq_true rfl⟩ hl.1 (Nat.le_of_ble_eq_true rfl) dX5_teach_33 ⟨Nat.le_of_ble_eq_true rfl, Nat.le_of_ble_eq_true rfl⟩ (fun r_13 u_15 H locs h_14 => ?_)
      clear hP hD hS
      intro hP hD hS
      obtain ⟨fX_16, rfl, h_14⟩ := h_14
      have hPD := pd_as [zzO qt 3 [.int (nI (T_nb tA)), .int (nI (T_np tA)), .int (wb (T_wh tA)), .int (wb (T_gn tA)), .int (T_sd tA), .ref qtw, .ref qtn, .ref qtg, .ref qta, .ref qtr, .ref qtm, .ref qtt, .ref qts], zzI cy qtw 8 (T_wo tA), zzI cy qtn 8 (T_ne tA), zzI cy qtg 8 (T_go tA), zzI cy qta 8 (T_ag tA), zzI cy qtr 8 (T_re tA), zzI cy qtm 8 (T_me tA), zzI cy qtt 8 (T_te tA), zzI cy qts 64 (shF (T_kn tA)), zzO qx 4 [.ref qt, .ref qk, .ref qp, .ref qs, .ref qa, .ref qr, .int iKp, .int iYe, .int iTv], zzI cy qr 5 fX_16] hP hD rfl
      clear hP hD
      obtain ⟨hP, hD⟩ := hPD
      subst h_14
      exact endW (u := [zzO qx 4 [.ref qt, .ref qk, .ref qp, .ref qs, .ref qa, .ref qr, .int iKp, .int iYe, .int iTv], zzI cy qr 5 fX_16, zzO qt 3 [.int (nI (T_nb tA)), .int (nI (T_np tA)), .int (wb (T_wh tA)), .int (wb (T_gn tA)), .int (T_sd tA), .ref qtw, .ref qtn, .ref qtg, .ref qta, .ref qtr, .ref qtm, .ref qtt, .ref qts], zzI cy qtw 8 (T_wo tA), zzI cy qtn 8 (T_ne tA), zzI cy qtg 8 (T_go tA), zzI cy qta 8 (T_ag tA), zzI cy qtr 8 (T_re tA), zzI cy qtm 8 (T_me tA), zzI cy qtt 8 (T_te tA), zzI cy qts 64 (shF (T_kn tA))]) hx hb hr hlocks rfl (hP.sub [9, 10, 0, 1, 2, 3, 4, 5, 6, 7, 8] rfl) (hD.sub [9, 10, 0, 1, 2, 3, 4, 5, 6, 7, 8] (by decide +kernel) rfl) hS ⟨fX_16, rfl, trivial⟩ dX5_teach_36
    · rw [bit_wb _ (by omega)] at h_11
      refine lv_if_eq (tgt := 37) hx hb dX5_teach_27 (by decide) (fun _ => ?_) (fun h9 => absurd (by decide) h9)
      refine lv_iconst (v := (-1)) hx hb dX5_teach_37 (by decide) ?_
      refine lv_istore_n (lv' := [(3, .int (-1)), (0, .ref qx), (1, .int (nI k_4)), (2, .int (nI k_5))]) hx hb dX5_teach_38 rfl hl (by decide) rfl (fun ls => ?_)
      clear hl
      intro hl
      refine lv_iconst (v := 0) hx hb dX5_teach_39 (by decide) ?_
      refine lv_istore (lv' := [(4, .int 0), (3, .int (-1)), (0, .ref qx), (1, .int (nI k_4)), (2, .int (nI k_5))]) hx hb dX5_teach_40 hl (by decide) rfl (fun ls => ?_)
      clear hl
      intro hl
      refine lv_iconst (v := 0) hx hb dX5_teach_42 (by decide) ?_
      refine lv_istore (lv' := [(5, .int 0), (4, .int 0), (3, .int (-1)), (0, .ref qx), (1, .int (nI k_4)), (2, .int (nI k_5))]) hx hb dX5_teach_43 hl (by decide) rfl (fun ls => ?_)
      clear hl
      intro hl
      have lp_18 : ∀ (n_19 : Nat) (j_21 : Nat) (x3_22 : Int32) (x4_23 : Int32), 8 - j_21 < n_19 → j_21 ≤ T_np tA → ∀ (H : Heap) (locs : List Loc) (ls : Array Slot), va_P G CL [zzO qx 4 [.ref qt, .ref qk, .ref qp, .ref qs, .ref qa, .ref qr, .int iKp, .int iYe, .int iTv], zzI cy qr 5 fR, zzO qt 3 [.int (nI (T_nb tA)), .int (nI (T_np tA)), .int (wb (T_wh tA)), .int (wb (T_gn tA)), .int (T_sd tA), .ref qtw, .ref qtn, .ref qtg, .ref qta, .ref qtr, .ref qtm, .ref qtt, .ref qts], zzI cy qtw 8 (T_wo tA), zzI cy qtn 8 (T_ne tA), zzI cy qtg 8 (T_go tA), zzI cy qta 8 (T_ag tA), zzI cy qtr 8 (T_re tA), zzI cy qtm 8 (T_me tA), zzI cy qtt 8 (T_te tA), zzI cy qts 64 (shF (T_kn tA))] H → va_D A [zzO qx 4 [.ref qt, .ref qk, .ref qp, .ref qs, .ref qa, .ref qr, .int iKp, .int iYe, .int iTv], zzI cy qr 5 fR, zzO qt 3 [.int (nI (T_nb tA)), .int (nI (T_np tA)), .int (wb (T_wh tA)), .int (wb (T_gn tA)), .int (T_sd tA), .ref qtw, .ref qtn, .ref qtg, .ref qta, .ref qtr, .ref qtm, .ref qtt, .ref qts], zzI cy qtw 8 (T_wo tA), zzI cy qtn 8 (T_ne tA), zzI cy qtg 8 (T_go tA), zzI cy qta 8 (T_ag tA), zzI cy qtr 8 (T_re tA), zzI cy qtm 8 (T_me tA), zzI cy qtt 8 (T_te tA), zzI cy qts 64 (shF (T_kn tA))] → va_S A s.heap H locs → lv_has ls 7 [(5, .int (nI j_21)), (4, .int x4_23), (3, .int x3_22), (0, .ref qx), (1, .int (nI k_4)), (2, .int (nI k_5))] → W p l e (Rm 12 0 0) s m (List.toArray (α := Value) [.ref qx, .int (nI k_4), .int (nI k_5)]) below meth c H locs 0 0 (MQ below ((Wi G (fun r u => ∃ (fX : Nat → Int32), u = [zzO qx 4 [.ref qt, .ref qk, .ref qp, .ref qs, .ref qa, .ref qr, .int iKp, .int iYe, .int iTv], zzI cy qr 5 fX, zzO qt 3 [.int (nI (T_nb tA)), .int (nI (T_np tA)), .int (wb (T_wh tA)), .int (wb (T_gn tA)), .int (T_sd tA), .ref qtw, .ref qtn, .ref qtg, .ref qta, .ref qtr, .ref qtm, .ref qtt, .ref qts], zzI cy qtw 8 (T_wo tA), zzI cy qtn 8 (T_ne tA), zzI cy qtg 8 (T_go tA), zzI cy qta 8 (T_ag tA), zzI cy qtr 8 (T_re tA), zzI cy qtm 8 (T_me tA), zzI cy qtt 8 (T_te tA), zzI cy qts 64 (shF (T_kn tA))] ∧ (True))) A) (List.toArray (α := Value) [.ref qx, .int (nI k_4), .int (nI k_5)]) s 0 0 A) (F0 m 45 ls []) := by
        intro n_19
        induction n_19 with
        | zero => intro j_21 x3_22 x4_23 hm9; exact absurd hm9 (Nat.not_lt_zero _)
        | succ n_19 ih_20 =>
          intro j_21 x3_22 x4_23 hm_25 hj_24 H locs ls hP hD hS hl
          refine lv_iload hx hb dX5_teach_45 (lv_at hl 0 rfl) ?_
          refine lv_aload_n hx hb dX5_teach_47 rfl (lv_at hl 3 rfl) ?_
          refine va_get (D := G) (ci := 4) (v := .ref qt) (C := RX5) (T := TX5) (N := 9) hx hb hts iX_X5 hown hK hP 0 rfl rfl 0 (by decide) (hts _ m_t174) (fun _ h9 => h9) rfl dX5_teach_48 ?_
          refine va_getN (D := G) (ci := 3) (v := .int (nI (T_np tA))) (C := RX4) (T := TX4) (N := 13) hx hb hts iX_X4 hown hK hP 2 rfl rfl 1 (by decide) (va_Nw.use rfl (hN.2.1 (RX5, 141, "EachBookOnce$Town", "people", "I") (List.mem_of_getElem? (i := 7) rfl))) (fun _ h9 => h9) rfl dX5_teach_51 ?_
          refine lv_icmp_ge (tgt := 115) hx hb dX5_teach_54 (by decide) (fun c_26 => ?_) (fun c_26 => ?_)
          · have hlt_27 : j_21 = T_np tA := Nat.le_antisymm (by omega) (lp_ge rfl rfl (by omega) (by omega) c_26)
            refine lv_iload_n hx hb dX5_teach_115 rfl (lv_at hl 2 rfl) ?_
            exact endW (u := [zzO qx 4 [.ref qt, .ref qk, .ref qp, .ref qs, .ref qa, .ref qr, .int iKp, .int iYe, .int iTv], zzI cy qr 5 fR, zzO qt 3 [.int (nI (T_nb tA)), .int (nI (T_np tA)), .int (wb (T_wh tA)), .int (wb (T_gn tA)), .int (T_sd tA), .ref qtw, .ref qtn, .ref qtg, .ref qta, .ref qtr, .ref qtm, .ref qtt, .ref qts], zzI cy qtw 8 (T_wo tA), zzI cy qtn 8 (T_ne tA), zzI cy qtg 8 (T_go tA), zzI cy qta 8 (T_ag tA), zzI cy qtr 8 (T_re tA), zzI cy qtm 8 (T_me tA), zzI cy qtt 8 (T_te tA), zzI cy qts 64 (shF (T_kn tA))]) hx hb hr hlocks rfl (hP.sub [0, 1, 2, 3, 4, 5, 6, 7, 8, 9, 10] rfl) (hD.sub [0, 1, 2, 3, 4, 5, 6, 7, 8, 9, 10] (by decide +kernel) rfl) hS ⟨fR, rfl, trivial⟩ dX5_teach_116
          · have hlt_28 : j_21 < T_np tA := lp_lt rfl rfl (by omega) (by omega) c_26
            refine lv_iload hx hb dX5_teach_57 (lv_at hl 0 rfl) ?_
            refine lv_iload_n hx hb dX5_teach_59 rfl (lv_at hl 4 rfl) ?_
            refine lv_icmp_eq (tgt := 78) hx hb dX5_teach_60 (by decide) (fun c_29 => ?_) (fun c_29 => ?_)
            · refine lv_iconst (v := 0) hx hb dX5_teach_78 (by decide) ?_
              refine lv_goto (tgt := 93) hx hb dX5_teach_79 (by decide) ?_
              refine lv_istore (lv' := [(6, .int 0), (5, .int (nI j_21)), (4, .int x4_23), (3, .int x3_22), (0, .ref qx), (1, .int (nI k_4)), (2, .int (nI k_5))]) hx hb dX5_teach_93 hl (by decide) rfl (fun ls => ?_)
              clear hl
              intro hl
              refine lv_iload hx hb dX5_teach_95 (lv_at hl 0 rfl) ?_
              refine lv_iload hx hb dX5_teach_97 (lv_at hl 2 rfl) ?_
              refine lv_icmp_le (tgt := 109) hx hb dX5_teach_99 (by decide) (fun c_30 => ?_) (fun c_30 => ?_)
              · refine lv_iinc (v := nI (j_21 + 1)) (lv' := [(5, .int (nI (j_21 + 1))), (6, .int 0), (4, .int x4_23), (3, .int x3_22), (0, .ref qx), (1, .int (nI k_4)), (2, .int (nI k_5))]) hx hb dX5_teach_109 hl (k := 1) rfl (nI_1 _) (by decide) rfl (fun ls => ?_)
                clear hl
                intro hl
                refine lv_goto (tgt := 45) hx hb dX5_teach_112 (by decide) ?_
                exact ih_20 (j_21 + 1) x3_22 x4_23 (by omega) (by omega) _ _ _ hP hD hS (lv_sub hl [0, 2, 3, 4, 5, 6] rfl)
              · refine lv_iload hx hb dX5_teach_102 (lv_at hl 1 rfl) ?_
                refine lv_istore_n (lv' := [(3, .int (nI j_21)), (6, .int 0), (5, .int (nI j_21)), (4, .int x4_23), (0, .ref qx), (1, .int (nI k_4)), (2, .int (nI k_5))]) hx hb dX5_teach_104 rfl hl (by decide) rfl (fun ls => ?_)
                clear hl
                intro hl
                refine lv_iload hx hb dX5_teach_105 (lv_at hl 1 rfl) ?_
                refine lv_istore (lv' := [(4, .int 0), (3, .int (nI j_21)), (6, .int 0), (5, .int (nI j_21)), (0, .ref qx), (1, .int (nI k_4)), (2, .int (nI k_5))]) hx hb dX5_teach_107 hl (by decide) rfl (fun ls => ?_)
                clear hl
                intro hl
                refine lv_iinc (v := nI (j_21 + 1)) (lv' := [(5, .int (nI (j_21 + 1))), (4, .int 0), (3, .int (nI j_21)), (6, .int 0), (0, .ref qx), (1, .int (nI k_4)), (2, .int (nI k_5))]) hx hb dX5_teach_109 hl (k := 3) rfl (nI_1 _) (by decide) rfl (fun ls => ?_)
                clear hl
                intro hl
                refine lv_goto (tgt := 45) hx hb dX5_teach_112 (by decide) ?_
                exact ih_20 (j_21 + 1) (nI j_21) 0 (by omega) (by omega) _ _ _ hP hD hS (lv_sub hl [0, 1, 2, 4, 5, 6] rfl)
            · refine lv_aload_n hx hb dX5_teach_63 rfl (lv_at hl 3 rfl) ?_
              refine va_get (D := G) (ci := 4) (v := .ref qt) (C := RX5) (T := TX5) (N := 9) hx hb hts iX_X5 hown hK hP 0 rfl rfl 0 (by decide) (hts _ m_t174) (fun _ h9 => h9) rfl dX5_teach_64 ?_
              refine va_getN (D := G) (ci := 3) (v := .int (wb (T_gn tA))) (C := RX4) (T := TX4) (N := 13) hx hb hts iX_X4 hown hK hP 2 rfl rfl 3 (by decide) (va_Nw.use rfl (hN.2.1 (RX5, 207, "EachBookOnce$Town", "gone", "I") (List.mem_of_getElem? (i := 12) rfl))) (fun _ h9 => h9) rfl dX5_teach_67 ?_
              refine lv_iload hx hb dX5_teach_70 (lv_at hl 0 rfl) ?_
              refine kRi (rS (As := [.int (wb (T_gn tA)), .int (nI j_21)]) (rest := []) ⟨hx, hb, hml, hown, hts⟩ (c_X5_has l G cy (wb (T_gn tA)) j_21) L_X5_183 (preRS hN hP [] rfl) rfl ⟨Nat.le_of_ble_eq_true rfl, Nat.le_of_ble_eq_true rfl⟩ hl.1 (Nat.le_of_ble_eq_true rfl) dX5_teach_72 ⟨Nat.le_of_ble_eq_true rfl, Nat.le_of_ble_eq_true rfl⟩) (fun r_31 h_32 => ?_)
              rcases h_32 with ⟨rfl, h_33⟩ | ⟨rfl, h_33⟩
              · rw [bit_wb _ (by omega)] at h_33
                refine lv_if_eq (tgt := 82) hx hb dX5_teach_75 (by decide) (fun h9 => absurd h9 (by decide)) (fun _ => ?_)
                refine lv_iconst (v := 0) hx hb dX5_teach_78 (by decide) ?_
                refine lv_goto (tgt := 93) hx hb dX5_teach_79 (by decide) ?_
                refine lv_istore (lv' := [(6, .int 0), (5, .int (nI j_21)), (4, .int x4_23), (3, .int x3_22), (0, .ref qx), (1, .int (nI k_4)), (2, .int (nI k_5))]) hx hb dX5_teach_93 hl (by decide) rfl (fun ls => ?_)
                clear hl
                intro hl
                refine lv_iload hx hb dX5_teach_95 (lv_at hl 0 rfl) ?_
                refine lv_iload hx hb dX5_teach_97 (lv_at hl 2 rfl) ?_
                refine lv_icmp_le (tgt := 109) hx hb dX5_teach_99 (by decide) (fun c_35 => ?_) (fun c_35 => ?_)
                · refine lv_iinc (v := nI (j_21 + 1)) (lv' := [(5, .int (nI (j_21 + 1))), (6, .int 0), (4, .int x4_23), (3, .int x3_22), (0, .ref qx), (1, .int (nI k_4)), (2, .int (nI k_5))]) hx hb dX5_teach_109 hl (k := 1) rfl (nI_1 _) (by decide) rfl (fun ls => ?_)
                  clear hl
                  intro hl
                  refine lv_goto (tgt := 45) hx hb dX5_teach_112 (by decide) ?_
                  exact ih_20 (j_21 + 1) x3_22 x4_23 (by omega) (by omega) _ _ _ hP hD hS (lv_sub hl [0, 2, 3, 4, 5, 6] rfl)
                · refine lv_iload hx hb dX5_teach_102 (lv_at hl 1 rfl) ?_
                  refine lv_istore_n (lv' := [(3, .int (nI j_21)), (6, .int 0), (5, .int (nI j_21)), (4, .int x4_23), (0, .ref qx), (1, .int (nI k_4)), (2, .int (nI k_5))]) hx hb dX5_teach_104 rfl hl (by decide) rfl (fun ls => ?_)
                  clear hl
                  intro hl
                  refine lv_iload hx hb dX5_teach_105 (lv_at hl 1 rfl) ?_
                  refine lv_istore (lv' := [(4, .int 0), (3, .int (nI j_21)), (6, .int 0), (5, .int (nI j_21)), (0, .ref qx), (1, .int (nI k_4)), (2, .int (nI k_5))]) hx hb dX5_teach_107 hl (by decide) rfl (fun ls => ?_)
                  clear hl
                  intro hl
                  refine lv_iinc (v := nI (j_21 + 1)) (lv' := [(5, .int (nI (j_21 + 1))), (4, .int 0), (3, .int (nI j_21)), (6, .int 0), (0, .ref qx), (1, .int (nI k_4)), (2, .int (nI k_5))]) hx hb dX5_teach_109 hl (k := 3) rfl (nI_1 _) (by decide) rfl (fun ls => ?_)
                  clear hl
                  intro hl
                  refine lv_goto (tgt := 45) hx hb dX5_teach_112 (by decide) ?_
                  exact ih_20 (j_21 + 1) (nI j_21) 0 (by omega) (by omega) _ _ _ hP hD hS (lv_sub hl [0, 1, 2, 4, 5, 6] rfl)
              · rw [bit_wb _ (by omega)] at h_33
                refine lv_if_eq (tgt := 82) hx hb dX5_teach_75 (by decide) (fun _ => ?_) (fun h9 => absurd (by decide) h9)
                refine lv_aload_n hx hb dX5_teach_82 rfl (lv_at hl 3 rfl) ?_
                refine va_get (D := G) (ci := 4) (v := .ref qt) (C := RX5) (T := TX5) (N := 9) hx hb hts iX_X5 hown hK hP 0 rfl rfl 0 (by decide) (hts _ m_t174) (fun _ h9 => h9) rfl dX5_teach_83 ?_
                refine lv_iload_n hx hb dX5_teach_86 rfl (lv_at hl 4 rfl) ?_
                refine lv_iload hx hb dX5_teach_87 (lv_at hl 0 rfl) ?_
                refine lv_iload_n hx hb dX5_teach_89 rfl (lv_at hl 5 rfl) ?_
                refine kRi (rV (As := [.int (nI k_4), .int (nI j_21), .int (nI k_5)]) (rest := []) (b := qt) ⟨hx, hb, hml, hown, hts⟩ (c_X4_gainByTelling l G cy qt tA qtw qtn qtg qta qtr qtm qtt qts k_4 j_21 k_5 (by first | omega | (simp only [nb_sr, np_sr, nb_wr, np_wr, nb_rd, np_rd, nb_ch, np_ch, nb_zr, np_zr, nb_za, np_za, nb_ey, np_ey, nb_hf, np_hf, nb_dd, np_dd, nb_so, np_so, nb_skn, np_skn, nb_swh, np_swh, nb_sgn, np_sgn, nb_ssd, np_ssd, nb_sgo, np_sgo, nb_sag, np_sag]; omega)) (by first | omega | (simp only [nb_sr, np_sr, nb_wr, np_wr, nb_rd, np_rd, nb_ch, np_ch, nb_zr, np_zr, nb_za, np_za, nb_ey, np_ey, nb_hf, np_hf, nb_dd, np_dd, nb_so, np_so, nb_skn, np_skn, nb_swh, np_swh, nb_sgn, np_sgn, nb_ssd, np_ssd, nb_sgo, np_sgo, nb_sag, np_sag]; omega)) (by first | omega | (simp only [nb_sr, np_sr, nb_wr, np_wr, nb_rd, np_rd, nb_ch, np_ch, nb_zr, np_zr, nb_za, np_za, nb_ey, np_ey, nb_hf, np_hf, nb_dd, np_dd, nb_so, np_so, nb_skn, np_skn, nb_swh, np_swh, nb_sgn, np_sgn, nb_ssd, np_ssd, nb_sgo, np_sgo, nb_sag, np_sag]; omega))) L_X5_238 (preRV (q := (RX4, TX4, 13)) hN hP [2, 9, 10] rfl 2 3 rfl rfl) rfl ⟨Nat.le_of_ble_eq_true rfl, Nat.le_of_ble_eq_true rfl⟩ hl.1 (Nat.le_of_ble_eq_true rfl) dX5_teach_90 ⟨Nat.le_of_ble_eq_true rfl, Nat.le_of_ble_eq_true rfl⟩) (fun r_37 h_38 => ?_)
                subst h_38
                refine lv_istore (lv' := [(6, .int (zgt tA k_4 j_21 k_5)), (5, .int (nI j_21)), (4, .int x4_23), (3, .int x3_22), (0, .ref qx), (1, .int (nI k_4)), (2, .int (nI k_5))]) hx hb dX5_teach_93 hl (by decide) rfl (fun ls => ?_)
                clear hl
                intro hl
                refine lv_iload hx hb dX5_teach_95 (lv_at hl 0 rfl) ?_
                refine lv_iload hx hb dX5_teach_97 (lv_at hl 2 rfl) ?_
                refine lv_icmp_le (tgt := 109) hx hb dX5_teach_99 (by decide) (fun c_39 => ?_) (fun c_39 => ?_)
                · refine lv_iinc (v := nI (j_21 + 1)) (lv' := [(5, .int (nI (j_21 + 1))), (6, .int (zgt tA k_4 j_21 k_5)), (4, .int x4_23), (3, .int x3_22), (0, .ref qx), (1, .int (nI k_4)), (2, .int (nI k_5))]) hx hb dX5_teach_109 hl (k := 1) rfl (nI_1 _) (by decide) rfl (fun ls => ?_)
                  clear hl
                  intro hl
                  refine lv_goto (tgt := 45) hx hb dX5_teach_112 (by decide) ?_
                  exact ih_20 (j_21 + 1) x3_22 x4_23 (by omega) (by omega) _ _ _ hP hD hS (lv_sub hl [0, 2, 3, 4, 5, 6] rfl)
                · refine lv_iload hx hb dX5_teach_102 (lv_at hl 1 rfl) ?_
                  refine lv_istore_n (lv' := [(3, .int (nI j_21)), (6, .int (zgt tA k_4 j_21 k_5)), (5, .int (nI j_21)), (4, .int x4_23), (0, .ref qx), (1, .int (nI k_4)), (2, .int (nI k_5))]) hx hb dX5_teach_104 rfl hl (by decide) rfl (fun ls => ?_)
                  clear hl
                  intro hl
                  refine lv_iload hx hb dX5_teach_105 (lv_at hl 1 rfl) ?_
                  refine lv_istore (lv' := [(4, .int (zgt tA k_4 j_21 k_5)), (3, .int (nI j_21)), (6, .int (zgt tA k_4 j_21 k_5)), (5, .int (nI j_21)), (0, .ref qx), (1, .int (nI k_4)), (2, .int (nI k_5))]) hx hb dX5_teach_107 hl (by decide) rfl (fun ls => ?_)
                  clear hl
                  intro hl
                  refine lv_iinc (v := nI (j_21 + 1)) (lv' := [(5, .int (nI (j_21 + 1))), (4, .int (zgt tA k_4 j_21 k_5)), (3, .int (nI j_21)), (6, .int (zgt tA k_4 j_21 k_5)), (0, .ref qx), (1, .int (nI k_4)), (2, .int (nI k_5))]) hx hb dX5_teach_109 hl (k := 3) rfl (nI_1 _) (by decide) rfl (fun ls => ?_)
                  clear hl
                  intro hl
                  refine lv_goto (tgt := 45) hx hb dX5_teach_112 (by decide) ?_
                  exact ih_20 (j_21 + 1) (nI j_21) (zgt tA k_4 j_21 k_5) (by omega) (by omega) _ _ _ hP hD hS (lv_sub hl [0, 1, 2, 4, 5, 6] rfl)
      exact lp_18 ((8 - 0) + 1) 0 (-1) 0 (Nat.lt_succ_self _) (Nat.zero_le _) _ _ ls hP hD hS (lv_sub hl [0, 1, 2, 3, 4, 5] rfl)
  · refine lv_if_ne (tgt := 16) hx hb dX5_teach_6 (by decide) (fun h9 => absurd (by decide) h9) (fun _ => ?_)
    refine lv_aload_n hx hb dX5_teach_9 rfl (lv_at hl 0 rfl) ?_
    refine lv_bipush (v := (-2)) hx hb dX5_teach_10 (by decide) ?_
    refine cVi (As := [.int (-2)]) (rest := []) (b := qx) (q := (RX5, TX5, 9)) ⟨hx, hb, hml, hown, hts⟩ (c_X5_refuse2 l G cy (s.heap).size qx qt qk qp qs qa qr iKp iYe iTv fR) L_X5_56 hN hP hD hS hA [0, 1] [false, false, true, true, true, true, true, true, true, true, true] rfl (by decide +kernel) rfl 0 4 rfl rfl rfl ⟨Nat.le_of_ble_eq_true rfl, Nat.le_of_ble_eq_true rfl⟩ hl.1 (Nat.le_of_ble_eq_true rfl) dX5_teach_12 ⟨Nat.le_of_ble_eq_true rfl, Nat.le_of_ble_eq_true rfl⟩ (fun r_41 u_43 H locs h_42 => ?_)
    clear hP hD hS
    intro hP hD hS
    obtain ⟨fX_44, rfl, h_42⟩ := h_42
    have hPD := pd_as [zzO qt 3 [.int (nI (T_nb tA)), .int (nI (T_np tA)), .int (wb (T_wh tA)), .int (wb (T_gn tA)), .int (T_sd tA), .ref qtw, .ref qtn, .ref qtg, .ref qta, .ref qtr, .ref qtm, .ref qtt, .ref qts], zzI cy qtw 8 (T_wo tA), zzI cy qtn 8 (T_ne tA), zzI cy qtg 8 (T_go tA), zzI cy qta 8 (T_ag tA), zzI cy qtr 8 (T_re tA), zzI cy qtm 8 (T_me tA), zzI cy qtt 8 (T_te tA), zzI cy qts 64 (shF (T_kn tA)), zzO qx 4 [.ref qt, .ref qk, .ref qp, .ref qs, .ref qa, .ref qr, .int iKp, .int iYe, .int iTv], zzI cy qr 5 fX_44] hP hD rfl
    clear hP hD
    obtain ⟨hP, hD⟩ := hPD
    subst h_42
    exact endW (u := [zzO qx 4 [.ref qt, .ref qk, .ref qp, .ref qs, .ref qa, .ref qr, .int iKp, .int iYe, .int iTv], zzI cy qr 5 fX_44, zzO qt 3 [.int (nI (T_nb tA)), .int (nI (T_np tA)), .int (wb (T_wh tA)), .int (wb (T_gn tA)), .int (T_sd tA), .ref qtw, .ref qtn, .ref qtg, .ref qta, .ref qtr, .ref qtm, .ref qtt, .ref qts], zzI cy qtw 8 (T_wo tA), zzI cy qtn 8 (T_ne tA), zzI cy qtg 8 (T_go tA), zzI cy qta 8 (T_ag tA), zzI cy qtr 8 (T_re tA), zzI cy qtm 8 (T_me tA), zzI cy qtt 8 (T_te tA), zzI cy qts 64 (shF (T_kn tA))]) hx hb hr hlocks rfl (hP.sub [9, 10, 0, 1, 2, 3, 4, 5, 6, 7, 8] rfl) (hD.sub [9, 10, 0, 1, 2, 3, 4, 5, 6, 7, 8] (by decide +kernel) rfl) hS ⟨fX_44, rfl, trivial⟩ dX5_teach_15
set_option maxHeartbeats 4000000 in
set_option maxRecDepth 100000 in
theorem p_X5_needs (l : Launch) (G : va_G) (cy : Nat → ClassId) (sz : Nat) (qx : Nat) (qt : Nat) (qk : Nat) (qp : Nat) (qs : Nat) (qa : Nat) (qr : Nat) (iKp : Int32) (iYe : Int32) (iTv : Int32) (fR : Nat → Int32) (tA : TA) (qtw : Nat) (qtn : Nat) (qtg : Nat) (qta : Nat) (qtr : Nat) (qtm : Nat) (qtt : Nat) (qts : Nat) (iA : Int32) (iB : Int32)  (hB : T_nb tA ≤ 8) (hPp : T_np tA ≤ 8) : MW l yX5_needs cX5_needs 3 (some .int) 12 0 0 G cy [zzO qx 4 [.ref qt, .ref qk, .ref qp, .ref qs, .ref qa, .ref qr, .int iKp, .int iYe, .int iTv], zzI cy qr 5 fR, zzO qt 3 [.int (nI (T_nb tA)), .int (nI (T_np tA)), .int (wb (T_wh tA)), .int (wb (T_gn tA)), .int (T_sd tA), .ref qtw, .ref qtn, .ref qtg, .ref qta, .ref qtr, .ref qtm, .ref qtt, .ref qts], zzI cy qtw 8 (T_wo tA), zzI cy qtn 8 (T_ne tA), zzI cy qtg 8 (T_go tA), zzI cy qta 8 (T_ag tA), zzI cy qtr 8 (T_re tA), zzI cy qtm 8 (T_me tA), zzI cy qtt 8 (T_te tA), zzI cy qts 64 (shF (T_kn tA))] sz [.ref qx, .int iA, .int iB] (Wi G (fun r u => ∃ (fX : Nat → Int32), u = [zzO qx 4 [.ref qt, .ref qk, .ref qp, .ref qs, .ref qa, .ref qr, .int iKp, .int iYe, .int iTv], zzI cy qr 5 fX, zzO qt 3 [.int (nI (T_nb tA)), .int (nI (T_np tA)), .int (wb (T_wh tA)), .int (wb (T_gn tA)), .int (T_sd tA), .ref qtw, .ref qtn, .ref qtg, .ref qta, .ref qtr, .ref qtm, .ref qtt, .ref qts], zzI cy qtw 8 (T_wo tA), zzI cy qtn 8 (T_ne tA), zzI cy qtg 8 (T_go tA), zzI cy qta 8 (T_ag tA), zzI cy qtr 8 (T_re tA), zzI cy qtm 8 (T_me tA), zzI cy qtt 8 (T_te tA), zzI cy qts 64 (shF (T_kn tA))] ∧ (True))) := by
  refine enW RX5 (by decide) rfl (Nat.le_of_ble_eq_true rfl) (fun p e s m below meth c ls A hx hb hml hown hts hr hlocks hP hN hl hin hD hA hS => ?_)
  have hin : meth.name = _ := hin
  have hK := hN.1
  replace hl : lv_has ls 3 [(0, .ref qx), (1, .int iA), (2, .int iB)] := hl
  refine lv_aload_n hx hb dX5_needs_0 rfl (lv_at hl 0 rfl) ?_
  refine va_get (D := G) (ci := 4) (v := .ref qt) (C := RX5) (T := TX5) (N := 9) hx hb hts iX_X5 hown hK hP 0 rfl rfl 0 (by decide) (hts _ m_t174) (fun _ h9 => h9) rfl dX5_needs_1 ?_
  refine lv_iload_n hx hb dX5_needs_4 rfl (lv_at hl 1 rfl) ?_
  refine kRi (rV (As := [.int iA]) (rest := []) (b := qt) ⟨hx, hb, hml, hown, hts⟩ (c_X4_isBook l G cy qt tA qtw qtn qtg qta qtr qtm qtt qts iA hB) L_X5_168 (preRV (q := (RX4, TX4, 13)) hN hP [2] rfl 2 3 rfl rfl) rfl ⟨Nat.le_of_ble_eq_true rfl, Nat.le_of_ble_eq_true rfl⟩ hl.1 (Nat.le_of_ble_eq_true rfl) dX5_needs_5 ⟨Nat.le_of_ble_eq_true rfl, Nat.le_of_ble_eq_true rfl⟩) (fun r_1 h_2 => ?_)
  rcases h_2 with ⟨rfl, h_3⟩ | ⟨rfl, h_3⟩
  · obtain ⟨k_4, hk_5, rfl⟩ := h_3
    refine lv_if_ne (tgt := 18) hx hb dX5_needs_8 (by decide) (fun _ => ?_) (fun h9 => absurd h9 (by decide))
    refine lv_iload_n hx hb dX5_needs_18 rfl (lv_at hl 2 rfl) ?_
    refine lv_if_eq (tgt := 33) hx hb dX5_needs_19 (by decide) (fun c_7 => ?_) (fun c_7 => ?_)
    · refine lv_aload_n hx hb dX5_needs_33 rfl (lv_at hl 0 rfl) ?_
      refine va_get (D := G) (ci := 4) (v := .ref qt) (C := RX5) (T := TX5) (N := 9) hx hb hts iX_X5 hown hK hP 0 rfl rfl 0 (by decide) (hts _ m_t174) (fun _ h9 => h9) rfl dX5_needs_34 ?_
      refine lv_iload_n hx hb dX5_needs_37 rfl (lv_at hl 1 rfl) ?_
      refine kRi (rV (As := [.int (nI k_4)]) (rest := []) (b := qt) ⟨hx, hb, hml, hown, hts⟩ (c_X4_allNeededBy l G cy qt tA qtw qtn qtg qta qtr qtm qtt qts k_4 (by first | omega | (simp only [nb_sr, np_sr, nb_wr, np_wr, nb_rd, np_rd, nb_ch, np_ch, nb_zr, np_zr, nb_za, np_za, nb_ey, np_ey, nb_hf, np_hf, nb_dd, np_dd, nb_so, np_so, nb_skn, np_skn, nb_swh, np_swh, nb_sgn, np_sgn, nb_ssd, np_ssd, nb_sgo, np_sgo, nb_sag, np_sag]; omega))) L_X5_312 (preRV (q := (RX4, TX4, 13)) hN hP [2, 3, 4, 5, 6, 7, 8, 9, 10] rfl 2 3 rfl rfl) rfl ⟨Nat.le_of_ble_eq_true rfl, Nat.le_of_ble_eq_true rfl⟩ hl.1 (Nat.le_of_ble_eq_true rfl) dX5_needs_38 ⟨Nat.le_of_ble_eq_true rfl, Nat.le_of_ble_eq_true rfl⟩) (fun r_8 h_9 => ?_)
      subst h_9
      exact endW (u := [zzO qx 4 [.ref qt, .ref qk, .ref qp, .ref qs, .ref qa, .ref qr, .int iKp, .int iYe, .int iTv], zzI cy qr 5 fR, zzO qt 3 [.int (nI (T_nb tA)), .int (nI (T_np tA)), .int (wb (T_wh tA)), .int (wb (T_gn tA)), .int (T_sd tA), .ref qtw, .ref qtn, .ref qtg, .ref qta, .ref qtr, .ref qtm, .ref qtt, .ref qts], zzI cy qtw 8 (T_wo tA), zzI cy qtn 8 (T_ne tA), zzI cy qtg 8 (T_go tA), zzI cy qta 8 (T_ag tA), zzI cy qtr 8 (T_re tA), zzI cy qtm 8 (T_me tA), zzI cy qtt 8 (T_te tA), zzI cy qts 64 (shF (T_kn tA))]) hx hb hr hlocks rfl (hP.sub [0, 1, 2, 3, 4, 5, 6, 7, 8, 9, 10] rfl) (hD.sub [0, 1, 2, 3, 4, 5, 6, 7, 8, 9, 10] (by decide +kernel) rfl) hS ⟨fR, rfl, trivial⟩ dX5_needs_41
    · refine lv_aload_n hx hb dX5_needs_22 rfl (lv_at hl 0 rfl) ?_
      refine va_get (D := G) (ci := 4) (v := .ref qt) (C := RX5) (T := TX5) (N := 9) hx hb hts iX_X5 hown hK hP 0 rfl rfl 0 (by decide) (hts _ m_t174) (fun _ h9 => h9) rfl dX5_needs_23 ?_
      refine lv_iload_n hx hb dX5_needs_26 rfl (lv_at hl 1 rfl) ?_
      refine kRi (rV (As := [.int (nI k_4)]) (rest := []) (b := qt) ⟨hx, hb, hml, hown, hts⟩ (c_X4_allThatNeed l G cy qt tA qtw qtn qtg qta qtr qtm qtt qts k_4 hB (by first | omega | (simp only [nb_sr, np_sr, nb_wr, np_wr, nb_rd, np_rd, nb_ch, np_ch, nb_zr, np_zr, nb_za, np_za, nb_ey, np_ey, nb_hf, np_hf, nb_dd, np_dd, nb_so, np_so, nb_skn, np_skn, nb_swh, np_swh, nb_sgn, np_sgn, nb_ssd, np_ssd, nb_sgo, np_sgo, nb_sag, np_sag]; omega))) L_X5_309 (preRV (q := (RX4, TX4, 13)) hN hP [2, 3, 4, 5, 6, 7, 8, 9, 10] rfl 2 3 rfl rfl) rfl ⟨Nat.le_of_ble_eq_true rfl, Nat.le_of_ble_eq_true rfl⟩ hl.1 (Nat.le_of_ble_eq_true rfl) dX5_needs_27 ⟨Nat.le_of_ble_eq_true rfl, Nat.le_of_ble_eq_true rfl⟩) (fun r_10 h_11 => ?_)
      subst h_11
      refine lv_goto (tgt := 41) hx hb dX5_needs_30 (by decide) ?_
      exact endW (u := [zzO qx 4 [.ref qt, .ref qk, .ref qp, .ref qs, .ref qa, .ref qr, .int iKp, .int iYe, .int iTv], zzI cy qr 5 fR, zzO qt 3 [.int (nI (T_nb tA)), .int (nI (T_np tA)), .int (wb (T_wh tA)), .int (wb (T_gn tA)), .int (T_sd tA), .ref qtw, .ref qtn, .ref qtg, .ref qta, .ref qtr, .ref qtm, .ref qtt, .ref qts], zzI cy qtw 8 (T_wo tA), zzI cy qtn 8 (T_ne tA), zzI cy qtg 8 (T_go tA), zzI cy qta 8 (T_ag tA), zzI cy qtr 8 (T_re tA), zzI cy qtm 8 (T_me tA), zzI cy qtt 8 (T_te tA), zzI cy qts 64 (shF (T_kn tA))]) hx hb hr hlocks rfl (hP.sub [0, 1, 2, 3, 4, 5, 6, 7, 8, 9, 10] rfl) (hD.sub [0, 1, 2, 3, 4, 5, 6, 7, 8, 9, 10] (by decide +kernel) rfl) hS ⟨fR, rfl, trivial⟩ dX5_needs_41
  · refine lv_if_ne (tgt := 18) hx hb dX5_needs_8 (by decide) (fun h9 => absurd (by decide) h9) (fun _ => ?_)
    refine lv_aload_n hx hb dX5_needs_11 rfl (lv_at hl 0 rfl) ?_
    refine lv_bipush (v := (-2)) hx hb dX5_needs_12 (by decide) ?_
    refine cVi (As := [.int (-2)]) (rest := []) (b := qx) (q := (RX5, TX5, 9)) ⟨hx, hb, hml, hown, hts⟩ (c_X5_refuse2 l G cy (s.heap).size qx qt qk qp qs qa qr iKp iYe iTv fR) L_X5_56 hN hP hD hS hA [0, 1] [false, false, true, true, true, true, true, true, true, true, true] rfl (by decide +kernel) rfl 0 4 rfl rfl rfl ⟨Nat.le_of_ble_eq_true rfl, Nat.le_of_ble_eq_true rfl⟩ hl.1 (Nat.le_of_ble_eq_true rfl) dX5_needs_14 ⟨Nat.le_of_ble_eq_true rfl, Nat.le_of_ble_eq_true rfl⟩ (fun r_13 u_15 H locs h_14 => ?_)
    clear hP hD hS
    intro hP hD hS
    obtain ⟨fX_16, rfl, h_14⟩ := h_14
    have hPD := pd_as [zzO qt 3 [.int (nI (T_nb tA)), .int (nI (T_np tA)), .int (wb (T_wh tA)), .int (wb (T_gn tA)), .int (T_sd tA), .ref qtw, .ref qtn, .ref qtg, .ref qta, .ref qtr, .ref qtm, .ref qtt, .ref qts], zzI cy qtw 8 (T_wo tA), zzI cy qtn 8 (T_ne tA), zzI cy qtg 8 (T_go tA), zzI cy qta 8 (T_ag tA), zzI cy qtr 8 (T_re tA), zzI cy qtm 8 (T_me tA), zzI cy qtt 8 (T_te tA), zzI cy qts 64 (shF (T_kn tA)), zzO qx 4 [.ref qt, .ref qk, .ref qp, .ref qs, .ref qa, .ref qr, .int iKp, .int iYe, .int iTv], zzI cy qr 5 fX_16] hP hD rfl
    clear hP hD
    obtain ⟨hP, hD⟩ := hPD
    subst h_14
    exact endW (u := [zzO qx 4 [.ref qt, .ref qk, .ref qp, .ref qs, .ref qa, .ref qr, .int iKp, .int iYe, .int iTv], zzI cy qr 5 fX_16, zzO qt 3 [.int (nI (T_nb tA)), .int (nI (T_np tA)), .int (wb (T_wh tA)), .int (wb (T_gn tA)), .int (T_sd tA), .ref qtw, .ref qtn, .ref qtg, .ref qta, .ref qtr, .ref qtm, .ref qtt, .ref qts], zzI cy qtw 8 (T_wo tA), zzI cy qtn 8 (T_ne tA), zzI cy qtg 8 (T_go tA), zzI cy qta 8 (T_ag tA), zzI cy qtr 8 (T_re tA), zzI cy qtm 8 (T_me tA), zzI cy qtt 8 (T_te tA), zzI cy qts 64 (shF (T_kn tA))]) hx hb hr hlocks rfl (hP.sub [9, 10, 0, 1, 2, 3, 4, 5, 6, 7, 8] rfl) (hD.sub [9, 10, 0, 1, 2, 3, 4, 5, 6, 7, 8] (by decide +kernel) rfl) hS ⟨fX_16, rfl, trivial⟩ dX5_needs_17
set_option maxHeartbeats 4000000 in
set_option maxRecDepth 100000 in
theorem p_X5_next (l : Launch) (G : va_G) (cy : Nat → ClassId) (qx : Nat) (qt : Nat) (qk : Nat) (qp : Nat) (qs : Nat) (qa : Nat) (qr : Nat) (iKp : Int32) (iYe : Int32) (iTv : Int32) (tA : TA) (qtw : Nat) (qtn : Nat) (qtg : Nat) (qta : Nat) (qtr : Nat) (qtm : Nat) (qtt : Nat) (qts : Nat)  (hB : T_nb tA ≤ 8) (hPp : T_np tA ≤ 8) : MR l yX5_next cX5_next 5 (some .int) 12 G cy [zzO qx 4 [.ref qt, .ref qk, .ref qp, .ref qs, .ref qa, .ref qr, .int iKp, .int iYe, .int iTv], zzO qt 3 [.int (nI (T_nb tA)), .int (nI (T_np tA)), .int (wb (T_wh tA)), .int (wb (T_gn tA)), .int (T_sd tA), .ref qtw, .ref qtn, .ref qtg, .ref qta, .ref qtr, .ref qtm, .ref qtt, .ref qts], zzI cy qtw 8 (T_wo tA), zzI cy qtn 8 (T_ne tA), zzI cy qtg 8 (T_go tA), zzI cy qta 8 (T_ag tA), zzI cy qtr 8 (T_re tA), zzI cy qtm 8 (T_me tA), zzI cy qtt 8 (T_te tA), zzI cy qts 64 (shF (T_kn tA))] [.ref qx] (vp_Si (fun r => True)) := by
  refine enR RX5 (by decide) rfl (Nat.le_of_ble_eq_true rfl) (fun p e s m below meth c ls hx hb hml hown hts hr hlocks hP hN hl => ?_)
  have hK := hN.1
  replace hl : lv_has ls 5 [(0, .ref qx)] := hl
  refine lv_iconst (v := (-1)) hx hb dX5_next_0 (by decide) ?_
  refine lv_istore_n (lv' := [(1, .int (-1)), (0, .ref qx)]) hx hb dX5_next_1 rfl hl (by decide) rfl (fun ls => ?_)
  clear hl
  intro hl
  refine lv_iconst (v := 0) hx hb dX5_next_2 (by decide) ?_
  refine lv_istore_n (lv' := [(2, .int 0), (1, .int (-1)), (0, .ref qx)]) hx hb dX5_next_3 rfl hl (by decide) rfl (fun ls => ?_)
  clear hl
  intro hl
  refine lv_iconst (v := 0) hx hb dX5_next_4 (by decide) ?_
  refine lv_istore_n (lv' := [(3, .int 0), (2, .int 0), (1, .int (-1)), (0, .ref qx)]) hx hb dX5_next_5 rfl hl (by decide) rfl (fun ls => ?_)
  clear hl
  intro hl
  have lp_1 : ∀ (n_2 : Nat) (j_4 : Nat) (x1_5 : Int32) (x2_6 : Int32), 8 - j_4 < n_2 → j_4 ≤ T_nb tA → ∀ (ls : Array Slot), lv_has ls 5 [(3, .int (nI j_4)), (2, .int x2_6), (1, .int x1_5), (0, .ref qx)] → W p l e (Rm 12 0 0) s m (List.toArray (α := Value) [.ref qx]) below meth c s.heap [] 0 0 (MQ below (vp_Si (fun r => True)) (List.toArray (α := Value) [.ref qx]) s 0 0 (fun _ => False)) (F0 m 6 ls []) := by
    intro n_2
    induction n_2 with
    | zero => intro j_4 x1_5 x2_6 hm9; exact absurd hm9 (Nat.not_lt_zero _)
    | succ n_2 ih_3 =>
      intro j_4 x1_5 x2_6 hm_8 hj_7 ls hl
      refine lv_iload_n hx hb dX5_next_6 rfl (lv_at hl 0 rfl) ?_
      refine lv_aload_n hx hb dX5_next_7 rfl (lv_at hl 3 rfl) ?_
      refine va_get (D := G) (ci := 4) (v := .ref qt) (C := RX5) (T := TX5) (N := 9) hx hb hts iX_X5 hown hK hP 0 rfl rfl 0 (by decide) (hts _ m_t174) (fun _ h9 => h9) rfl dX5_next_8 ?_
      refine va_getN (D := G) (ci := 3) (v := .int (nI (T_nb tA))) (C := RX4) (T := TX4) (N := 13) hx hb hts iX_X4 hown hK hP 1 rfl rfl 0 (by decide) (va_Nw.use rfl (hN.2.1 (RX5, 127, "EachBookOnce$Town", "books", "I") (List.mem_of_getElem? (i := 3) rfl))) (fun _ h9 => h9) rfl dX5_next_11 ?_
      refine lv_icmp_ge (tgt := 62) hx hb dX5_next_14 (by decide) (fun c_9 => ?_) (fun c_9 => ?_)
      · have hlt_10 : j_4 = T_nb tA := Nat.le_antisymm (by omega) (lp_ge rfl rfl (by omega) (by omega) c_9)
        refine lv_iload_n hx hb dX5_next_62 rfl (lv_at hl 2 rfl) ?_
        exact endR hx hb hr hlocks rfl trivial dX5_next_63
      · have hlt_11 : j_4 < T_nb tA := lp_lt rfl rfl (by omega) (by omega) c_9
        refine lv_aload_n hx hb dX5_next_17 rfl (lv_at hl 3 rfl) ?_
        refine va_get (D := G) (ci := 4) (v := .ref qt) (C := RX5) (T := TX5) (N := 9) hx hb hts iX_X5 hown hK hP 0 rfl rfl 0 (by decide) (hts _ m_t174) (fun _ h9 => h9) rfl dX5_next_18 ?_
        refine va_getN (D := G) (ci := 3) (v := .int (wb (T_wh tA))) (C := RX4) (T := TX4) (N := 13) hx hb hts iX_X4 hown hK hP 1 rfl rfl 2 (by decide) (va_Nw.use rfl (hN.2.1 (RX5, 180, "EachBookOnce$Town", "white", "I") (List.mem_of_getElem? (i := 10) rfl))) (fun _ h9 => h9) rfl dX5_next_21 ?_
        refine lv_iload_n hx hb dX5_next_24 rfl (lv_at hl 0 rfl) ?_
        refine kRi (rS (As := [.int (wb (T_wh tA)), .int (nI j_4)]) (rest := []) ⟨hx, hb, hml, hown, hts⟩ (c_X5_has l G cy (wb (T_wh tA)) j_4) L_X5_183 (preRS hN hP [] rfl) rfl ⟨Nat.le_of_ble_eq_true rfl, Nat.le_of_ble_eq_true rfl⟩ hl.1 (Nat.le_of_ble_eq_true rfl) dX5_next_25 ⟨Nat.le_of_ble_eq_true rfl, Nat.le_of_ble_eq_true rfl⟩) (fun r_12 h_13 => ?_)
        rcases h_13 with ⟨rfl, h_14⟩ | ⟨rfl, h_14⟩
        · rw [bit_wb _ (by omega)] at h_14
          refine lv_if_eq (tgt := 35) hx hb dX5_next_28 (by decide) (fun h9 => absurd h9 (by decide)) (fun _ => ?_)
          refine lv_iconst (v := 0) hx hb dX5_next_31 (by decide) ?_
          refine lv_goto (tgt := 43) hx hb dX5_next_32 (by decide) ?_
          refine lv_istore (lv' := [(4, .int 0), (3, .int (nI j_4)), (2, .int x2_6), (1, .int x1_5), (0, .ref qx)]) hx hb dX5_next_43 hl (by decide) rfl (fun ls => ?_)
          clear hl
          intro hl
          refine lv_iload hx hb dX5_next_45 (lv_at hl 0 rfl) ?_
          refine lv_iload_n hx hb dX5_next_47 rfl (lv_at hl 2 rfl) ?_
          refine lv_icmp_le (tgt := 56) hx hb dX5_next_48 (by decide) (fun c_16 => ?_) (fun c_16 => ?_)
          · refine lv_iinc (v := nI (j_4 + 1)) (lv' := [(3, .int (nI (j_4 + 1))), (4, .int 0), (2, .int x2_6), (1, .int x1_5), (0, .ref qx)]) hx hb dX5_next_56 hl (k := 1) rfl (nI_1 _) (by decide) rfl (fun ls => ?_)
            clear hl
            intro hl
            refine lv_goto (tgt := 6) hx hb dX5_next_59 (by decide) ?_
            exact ih_3 (j_4 + 1) x1_5 x2_6 (by omega) (by omega) _ (lv_sub hl [0, 2, 3, 4] rfl)
          · refine lv_iload_n hx hb dX5_next_51 rfl (lv_at hl 1 rfl) ?_
            refine lv_istore_n (lv' := [(1, .int (nI j_4)), (4, .int 0), (3, .int (nI j_4)), (2, .int x2_6), (0, .ref qx)]) hx hb dX5_next_52 rfl hl (by decide) rfl (fun ls => ?_)
            clear hl
            intro hl
            refine lv_iload hx hb dX5_next_53 (lv_at hl 1 rfl) ?_
            refine lv_istore_n (lv' := [(2, .int 0), (1, .int (nI j_4)), (4, .int 0), (3, .int (nI j_4)), (0, .ref qx)]) hx hb dX5_next_55 rfl hl (by decide) rfl (fun ls => ?_)
            clear hl
            intro hl
            refine lv_iinc (v := nI (j_4 + 1)) (lv' := [(3, .int (nI (j_4 + 1))), (2, .int 0), (1, .int (nI j_4)), (4, .int 0), (0, .ref qx)]) hx hb dX5_next_56 hl (k := 3) rfl (nI_1 _) (by decide) rfl (fun ls => ?_)
            clear hl
            intro hl
            refine lv_goto (tgt := 6) hx hb dX5_next_59 (by decide) ?_
            exact ih_3 (j_4 + 1) (nI j_4) 0 (by omega) (by omega) _ (lv_sub hl [0, 1, 2, 4] rfl)
        · rw [bit_wb _ (by omega)] at h_14
          refine lv_if_eq (tgt := 35) hx hb dX5_next_28 (by decide) (fun _ => ?_) (fun h9 => absurd (by decide) h9)
          refine lv_aload_n hx hb dX5_next_35 rfl (lv_at hl 3 rfl) ?_
          refine va_get (D := G) (ci := 4) (v := .ref qt) (C := RX5) (T := TX5) (N := 9) hx hb hts iX_X5 hown hK hP 0 rfl rfl 0 (by decide) (hts _ m_t174) (fun _ h9 => h9) rfl dX5_next_36 ?_
          refine lv_iload_n hx hb dX5_next_39 rfl (lv_at hl 0 rfl) ?_
          refine kRi (rV (As := [.int (nI j_4)]) (rest := []) (b := qt) ⟨hx, hb, hml, hown, hts⟩ (c_X4_gainByReading l G cy qt tA qtw qtn qtg qta qtr qtm qtt qts j_4 hPp (by first | omega | (simp only [nb_sr, np_sr, nb_wr, np_wr, nb_rd, np_rd, nb_ch, np_ch, nb_zr, np_zr, nb_za, np_za, nb_ey, np_ey, nb_hf, np_hf, nb_dd, np_dd, nb_so, np_so, nb_skn, np_skn, nb_swh, np_swh, nb_sgn, np_sgn, nb_ssd, np_ssd, nb_sgo, np_sgo, nb_sag, np_sag]; omega))) L_X5_315 (preRV (q := (RX4, TX4, 13)) hN hP [1, 2, 3, 4, 5, 6, 7, 8, 9] rfl 1 3 rfl rfl) rfl ⟨Nat.le_of_ble_eq_true rfl, Nat.le_of_ble_eq_true rfl⟩ hl.1 (Nat.le_of_ble_eq_true rfl) dX5_next_40 ⟨Nat.le_of_ble_eq_true rfl, Nat.le_of_ble_eq_true rfl⟩) (fun r_18 h_19 => ?_)
          subst h_19
          refine lv_istore (lv' := [(4, .int (zgb tA j_4)), (3, .int (nI j_4)), (2, .int x2_6), (1, .int x1_5), (0, .ref qx)]) hx hb dX5_next_43 hl (by decide) rfl (fun ls => ?_)
          clear hl
          intro hl
          refine lv_iload hx hb dX5_next_45 (lv_at hl 0 rfl) ?_
          refine lv_iload_n hx hb dX5_next_47 rfl (lv_at hl 2 rfl) ?_
          refine lv_icmp_le (tgt := 56) hx hb dX5_next_48 (by decide) (fun c_20 => ?_) (fun c_20 => ?_)
          · refine lv_iinc (v := nI (j_4 + 1)) (lv' := [(3, .int (nI (j_4 + 1))), (4, .int (zgb tA j_4)), (2, .int x2_6), (1, .int x1_5), (0, .ref qx)]) hx hb dX5_next_56 hl (k := 1) rfl (nI_1 _) (by decide) rfl (fun ls => ?_)
            clear hl
            intro hl
            refine lv_goto (tgt := 6) hx hb dX5_next_59 (by decide) ?_
            exact ih_3 (j_4 + 1) x1_5 x2_6 (by omega) (by omega) _ (lv_sub hl [0, 2, 3, 4] rfl)
          · refine lv_iload_n hx hb dX5_next_51 rfl (lv_at hl 1 rfl) ?_
            refine lv_istore_n (lv' := [(1, .int (nI j_4)), (4, .int (zgb tA j_4)), (3, .int (nI j_4)), (2, .int x2_6), (0, .ref qx)]) hx hb dX5_next_52 rfl hl (by decide) rfl (fun ls => ?_)
            clear hl
            intro hl
            refine lv_iload hx hb dX5_next_53 (lv_at hl 1 rfl) ?_
            refine lv_istore_n (lv' := [(2, .int (zgb tA j_4)), (1, .int (nI j_4)), (4, .int (zgb tA j_4)), (3, .int (nI j_4)), (0, .ref qx)]) hx hb dX5_next_55 rfl hl (by decide) rfl (fun ls => ?_)
            clear hl
            intro hl
            refine lv_iinc (v := nI (j_4 + 1)) (lv' := [(3, .int (nI (j_4 + 1))), (2, .int (zgb tA j_4)), (1, .int (nI j_4)), (4, .int (zgb tA j_4)), (0, .ref qx)]) hx hb dX5_next_56 hl (k := 3) rfl (nI_1 _) (by decide) rfl (fun ls => ?_)
            clear hl
            intro hl
            refine lv_goto (tgt := 6) hx hb dX5_next_59 (by decide) ?_
            exact ih_3 (j_4 + 1) (nI j_4) (zgb tA j_4) (by omega) (by omega) _ (lv_sub hl [0, 1, 2, 4] rfl)
  exact lp_1 ((8 - 0) + 1) 0 (-1) 0 (Nat.lt_succ_self _) (Nat.zero_le _) ls (lv_sub hl [0, 1, 2, 3] rfl)
set_option maxHeartbeats 4000000 in
set_option maxRecDepth 100000 in
theorem p_X5_two (l : Launch) (G : va_G) (cy : Nat → ClassId) (sz : Nat) (qx : Nat) (qt : Nat) (qk : Nat) (qp : Nat) (qs : Nat) (qa : Nat) (qr : Nat) (iKp : Int32) (iYe : Int32) (iTv : Int32) (fR : Nat → Int32) (tA : TA) (qtw : Nat) (qtn : Nat) (qtg : Nat) (qta : Nat) (qtr : Nat) (qtm : Nat) (qtt : Nat) (qts : Nat) (iA : Int32) (iB : Int32)  (hB : T_nb tA ≤ 8) (hPp : T_np tA ≤ 8) : MW l yX5_two cX5_two 3 (some .int) 12 0 0 G cy [zzO qx 4 [.ref qt, .ref qk, .ref qp, .ref qs, .ref qa, .ref qr, .int iKp, .int iYe, .int iTv], zzI cy qr 5 fR, zzO qt 3 [.int (nI (T_nb tA)), .int (nI (T_np tA)), .int (wb (T_wh tA)), .int (wb (T_gn tA)), .int (T_sd tA), .ref qtw, .ref qtn, .ref qtg, .ref qta, .ref qtr, .ref qtm, .ref qtt, .ref qts], zzI cy qtw 8 (T_wo tA), zzI cy qtn 8 (T_ne tA), zzI cy qtg 8 (T_go tA), zzI cy qta 8 (T_ag tA), zzI cy qtr 8 (T_re tA), zzI cy qtm 8 (T_me tA), zzI cy qtt 8 (T_te tA), zzI cy qts 64 (shF (T_kn tA))] sz [.ref qx, .int iA, .int iB] (Wi G (fun r u => ∃ (fX : Nat → Int32), u = [zzO qx 4 [.ref qt, .ref qk, .ref qp, .ref qs, .ref qa, .ref qr, .int iKp, .int iYe, .int iTv], zzI cy qr 5 fX, zzO qt 3 [.int (nI (T_nb tA)), .int (nI (T_np tA)), .int (wb (T_wh tA)), .int (wb (T_gn tA)), .int (T_sd tA), .ref qtw, .ref qtn, .ref qtg, .ref qta, .ref qtr, .ref qtm, .ref qtt, .ref qts], zzI cy qtw 8 (T_wo tA), zzI cy qtn 8 (T_ne tA), zzI cy qtg 8 (T_go tA), zzI cy qta 8 (T_ag tA), zzI cy qtr 8 (T_re tA), zzI cy qtm 8 (T_me tA), zzI cy qtt 8 (T_te tA), zzI cy qts 64 (shF (T_kn tA))] ∧ (True))) := by
  refine enW RX5 (by decide) rfl (Nat.le_of_ble_eq_true rfl) (fun p e s m below meth c ls A hx hb hml hown hts hr hlocks hP hN hl hin hD hA hS => ?_)
  have hin : meth.name = _ := hin
  have hK := hN.1
  replace hl : lv_has ls 3 [(0, .ref qx), (1, .int iA), (2, .int iB)] := hl
  refine lv_aload_n hx hb dX5_two_0 rfl (lv_at hl 0 rfl) ?_
  refine va_get (D := G) (ci := 4) (v := .ref qt) (C := RX5) (T := TX5) (N := 9) hx hb hts iX_X5 hown hK hP 0 rfl rfl 0 (by decide) (hts _ m_t174) (fun _ h9 => h9) rfl dX5_two_1 ?_
  refine lv_iload_n hx hb dX5_two_4 rfl (lv_at hl 1 rfl) ?_
  refine kRi (rV (As := [.int iA]) (rest := []) (b := qt) ⟨hx, hb, hml, hown, hts⟩ (c_X4_isOne l G cy qt tA qtw qtn qtg qta qtr qtm qtt qts iA hPp) L_X5_192 (preRV (q := (RX4, TX4, 13)) hN hP [2] rfl 2 3 rfl rfl) rfl ⟨Nat.le_of_ble_eq_true rfl, Nat.le_of_ble_eq_true rfl⟩ hl.1 (Nat.le_of_ble_eq_true rfl) dX5_two_5 ⟨Nat.le_of_ble_eq_true rfl, Nat.le_of_ble_eq_true rfl⟩) (fun r_1 h_2 => ?_)
  rcases h_2 with ⟨rfl, h_3⟩ | ⟨rfl, h_3⟩
  · obtain ⟨k_4, hk_5, rfl⟩ := h_3
    refine lv_if_eq (tgt := 22) hx hb dX5_two_8 (by decide) (fun h9 => absurd h9 (by decide)) (fun _ => ?_)
    refine lv_aload_n hx hb dX5_two_11 rfl (lv_at hl 0 rfl) ?_
    refine va_get (D := G) (ci := 4) (v := .ref qt) (C := RX5) (T := TX5) (N := 9) hx hb hts iX_X5 hown hK hP 0 rfl rfl 0 (by decide) (hts _ m_t174) (fun _ h9 => h9) rfl dX5_two_12 ?_
    refine lv_iload_n hx hb dX5_two_15 rfl (lv_at hl 2 rfl) ?_
    refine kRi (rV (As := [.int iB]) (rest := []) (b := qt) ⟨hx, hb, hml, hown, hts⟩ (c_X4_isOne l G cy qt tA qtw qtn qtg qta qtr qtm qtt qts iB hPp) L_X5_192 (preRV (q := (RX4, TX4, 13)) hN hP [2] rfl 2 3 rfl rfl) rfl ⟨Nat.le_of_ble_eq_true rfl, Nat.le_of_ble_eq_true rfl⟩ hl.1 (Nat.le_of_ble_eq_true rfl) dX5_two_16 ⟨Nat.le_of_ble_eq_true rfl, Nat.le_of_ble_eq_true rfl⟩) (fun r_7 h_8 => ?_)
    rcases h_8 with ⟨rfl, h_9⟩ | ⟨rfl, h_9⟩
    · obtain ⟨k_10, hk_11, rfl⟩ := h_9
      refine lv_if_ne (tgt := 29) hx hb dX5_two_19 (by decide) (fun _ => ?_) (fun h9 => absurd h9 (by decide))
      refine lv_aload_n hx hb dX5_two_29 rfl (lv_at hl 0 rfl) ?_
      refine va_get (D := G) (ci := 4) (v := .ref qt) (C := RX5) (T := TX5) (N := 9) hx hb hts iX_X5 hown hK hP 0 rfl rfl 0 (by decide) (hts _ m_t174) (fun _ h9 => h9) rfl dX5_two_30 ?_
      refine lv_aload_n hx hb dX5_two_33 rfl (lv_at hl 0 rfl) ?_
      refine va_get (D := G) (ci := 4) (v := .ref qt) (C := RX5) (T := TX5) (N := 9) hx hb hts iX_X5 hown hK hP 0 rfl rfl 0 (by decide) (hts _ m_t174) (fun _ h9 => h9) rfl dX5_two_34 ?_
      refine kRi (rV (As := []) (rest := [.ref qt]) (b := qt) ⟨hx, hb, hml, hown, hts⟩ (c_X4_setThere l G cy qt tA qtw qtn qtg qta qtr qtm qtt qts hPp) L_X5_269 (preRV (q := (RX4, TX4, 13)) hN hP [2] rfl 2 3 rfl rfl) rfl ⟨Nat.le_of_ble_eq_true rfl, Nat.le_of_ble_eq_true rfl⟩ hl.1 (Nat.le_of_ble_eq_true rfl) dX5_two_37 ⟨Nat.le_of_ble_eq_true rfl, Nat.le_of_ble_eq_true rfl⟩) (fun r_13 h_14 => ?_)
      subst h_14
      refine lv_iconst (v := 1) hx hb dX5_two_40 (by decide) ?_
      refine lv_iload_n hx hb dX5_two_41 rfl (lv_at hl 1 rfl) ?_
      refine lv_ishl hx hb dX5_two_42 ?_
      refine lv_iconst (v := 1) hx hb dX5_two_43 (by decide) ?_
      refine lv_iload_n hx hb dX5_two_44 rfl (lv_at hl 2 rfl) ?_
      refine lv_ishl hx hb dX5_two_45 ?_
      refine lv_ior hx hb dX5_two_46 ?_
      refine lv_iand hx hb dX5_two_47 ?_
      refine kRi (rV (As := [.int ((zthere tA) &&& ((1 <<< ((nI k_4) &&& 31)) ||| (1 <<< ((nI k_10) &&& 31))))]) (rest := []) (b := qt) ⟨hx, hb, hml, hown, hts⟩ (c_X4_worthAmong l G cy qt tA qtw qtn qtg qta qtr qtm qtt qts ((zthere tA) &&& ((1 <<< ((nI k_4) &&& 31)) ||| (1 <<< ((nI k_10) &&& 31)))) hB hPp) L_X5_300 (preRV (q := (RX4, TX4, 13)) hN hP [2, 3, 10] rfl 2 3 rfl rfl) rfl ⟨Nat.le_of_ble_eq_true rfl, Nat.le_of_ble_eq_true rfl⟩ hl.1 (Nat.le_of_ble_eq_true rfl) dX5_two_48 ⟨Nat.le_of_ble_eq_true rfl, Nat.le_of_ble_eq_true rfl⟩) (fun r_15 h_16 => ?_)
      subst h_16
      exact endW (u := [zzO qx 4 [.ref qt, .ref qk, .ref qp, .ref qs, .ref qa, .ref qr, .int iKp, .int iYe, .int iTv], zzI cy qr 5 fR, zzO qt 3 [.int (nI (T_nb tA)), .int (nI (T_np tA)), .int (wb (T_wh tA)), .int (wb (T_gn tA)), .int (T_sd tA), .ref qtw, .ref qtn, .ref qtg, .ref qta, .ref qtr, .ref qtm, .ref qtt, .ref qts], zzI cy qtw 8 (T_wo tA), zzI cy qtn 8 (T_ne tA), zzI cy qtg 8 (T_go tA), zzI cy qta 8 (T_ag tA), zzI cy qtr 8 (T_re tA), zzI cy qtm 8 (T_me tA), zzI cy qtt 8 (T_te tA), zzI cy qts 64 (shF (T_kn tA))]) hx hb hr hlocks rfl (hP.sub [0, 1, 2, 3, 4, 5, 6, 7, 8, 9, 10] rfl) (hD.sub [0, 1, 2, 3, 4, 5, 6, 7, 8, 9, 10] (by decide +kernel) rfl) hS ⟨fR, rfl, trivial⟩ dX5_two_51
    · refine lv_if_ne (tgt := 29) hx hb dX5_two_19 (by decide) (fun h9 => absurd (by decide) h9) (fun _ => ?_)
      refine lv_aload_n hx hb dX5_two_22 rfl (lv_at hl 0 rfl) ?_
      refine lv_bipush (v := (-2)) hx hb dX5_two_23 (by decide) ?_
      refine cVi (As := [.int (-2)]) (rest := []) (b := qx) (q := (RX5, TX5, 9)) ⟨hx, hb, hml, hown, hts⟩ (c_X5_refuse2 l G cy (s.heap).size qx qt qk qp qs qa qr iKp iYe iTv fR) L_X5_56 hN hP hD hS hA [0, 1] [false, false, true, true, true, true, true, true, true, true, true] rfl (by decide +kernel) rfl 0 4 rfl rfl rfl ⟨Nat.le_of_ble_eq_true rfl, Nat.le_of_ble_eq_true rfl⟩ hl.1 (Nat.le_of_ble_eq_true rfl) dX5_two_25 ⟨Nat.le_of_ble_eq_true rfl, Nat.le_of_ble_eq_true rfl⟩ (fun r_18 u_20 H locs h_19 => ?_)
      clear hP hD hS
      intro hP hD hS
      obtain ⟨fX_21, rfl, h_19⟩ := h_19
      have hPD := pd_as [zzO qt 3 [.int (nI (T_nb tA)), .int (nI (T_np tA)), .int (wb (T_wh tA)), .int (wb (T_gn tA)), .int (T_sd tA), .ref qtw, .ref qtn, .ref qtg, .ref qta, .ref qtr, .ref qtm, .ref qtt, .ref qts], zzI cy qtw 8 (T_wo tA), zzI cy qtn 8 (T_ne tA), zzI cy qtg 8 (T_go tA), zzI cy qta 8 (T_ag tA), zzI cy qtr 8 (T_re tA), zzI cy qtm 8 (T_me tA), zzI cy qtt 8 (T_te tA), zzI cy qts 64 (shF (T_kn tA)), zzO qx 4 [.ref qt, .ref qk, .ref qp, .ref qs, .ref qa, .ref qr, .int iKp, .int iYe, .int iTv], zzI cy qr 5 fX_21] hP hD rfl
      clear hP hD
      obtain ⟨hP, hD⟩ := hPD
      subst h_19
      exact endW (u := [zzO qx 4 [.ref qt, .ref qk, .ref qp, .ref qs, .ref qa, .ref qr, .int iKp, .int iYe, .int iTv], zzI cy qr 5 fX_21, zzO qt 3 [.int (nI (T_nb tA)), .int (nI (T_np tA)), .int (wb (T_wh tA)), .int (wb (T_gn tA)), .int (T_sd tA), .ref qtw, .ref qtn, .ref qtg, .ref qta, .ref qtr, .ref qtm, .ref qtt, .ref qts], zzI cy qtw 8 (T_wo tA), zzI cy qtn 8 (T_ne tA), zzI cy qtg 8 (T_go tA), zzI cy qta 8 (T_ag tA), zzI cy qtr 8 (T_re tA), zzI cy qtm 8 (T_me tA), zzI cy qtt 8 (T_te tA), zzI cy qts 64 (shF (T_kn tA))]) hx hb hr hlocks rfl (hP.sub [9, 10, 0, 1, 2, 3, 4, 5, 6, 7, 8] rfl) (hD.sub [9, 10, 0, 1, 2, 3, 4, 5, 6, 7, 8] (by decide +kernel) rfl) hS ⟨fX_21, rfl, trivial⟩ dX5_two_28
  · refine lv_if_eq (tgt := 22) hx hb dX5_two_8 (by decide) (fun _ => ?_) (fun h9 => absurd (by decide) h9)
    refine lv_aload_n hx hb dX5_two_22 rfl (lv_at hl 0 rfl) ?_
    refine lv_bipush (v := (-2)) hx hb dX5_two_23 (by decide) ?_
    refine cVi (As := [.int (-2)]) (rest := []) (b := qx) (q := (RX5, TX5, 9)) ⟨hx, hb, hml, hown, hts⟩ (c_X5_refuse2 l G cy (s.heap).size qx qt qk qp qs qa qr iKp iYe iTv fR) L_X5_56 hN hP hD hS hA [0, 1] [false, false, true, true, true, true, true, true, true, true, true] rfl (by decide +kernel) rfl 0 4 rfl rfl rfl ⟨Nat.le_of_ble_eq_true rfl, Nat.le_of_ble_eq_true rfl⟩ hl.1 (Nat.le_of_ble_eq_true rfl) dX5_two_25 ⟨Nat.le_of_ble_eq_true rfl, Nat.le_of_ble_eq_true rfl⟩ (fun r_23 u_25 H locs h_24 => ?_)
    clear hP hD hS
    intro hP hD hS
    obtain ⟨fX_26, rfl, h_24⟩ := h_24
    have hPD := pd_as [zzO qt 3 [.int (nI (T_nb tA)), .int (nI (T_np tA)), .int (wb (T_wh tA)), .int (wb (T_gn tA)), .int (T_sd tA), .ref qtw, .ref qtn, .ref qtg, .ref qta, .ref qtr, .ref qtm, .ref qtt, .ref qts], zzI cy qtw 8 (T_wo tA), zzI cy qtn 8 (T_ne tA), zzI cy qtg 8 (T_go tA), zzI cy qta 8 (T_ag tA), zzI cy qtr 8 (T_re tA), zzI cy qtm 8 (T_me tA), zzI cy qtt 8 (T_te tA), zzI cy qts 64 (shF (T_kn tA)), zzO qx 4 [.ref qt, .ref qk, .ref qp, .ref qs, .ref qa, .ref qr, .int iKp, .int iYe, .int iTv], zzI cy qr 5 fX_26] hP hD rfl
    clear hP hD
    obtain ⟨hP, hD⟩ := hPD
    subst h_24
    exact endW (u := [zzO qx 4 [.ref qt, .ref qk, .ref qp, .ref qs, .ref qa, .ref qr, .int iKp, .int iYe, .int iTv], zzI cy qr 5 fX_26, zzO qt 3 [.int (nI (T_nb tA)), .int (nI (T_np tA)), .int (wb (T_wh tA)), .int (wb (T_gn tA)), .int (T_sd tA), .ref qtw, .ref qtn, .ref qtg, .ref qta, .ref qtr, .ref qtm, .ref qtt, .ref qts], zzI cy qtw 8 (T_wo tA), zzI cy qtn 8 (T_ne tA), zzI cy qtg 8 (T_go tA), zzI cy qta 8 (T_ag tA), zzI cy qtr 8 (T_re tA), zzI cy qtm 8 (T_me tA), zzI cy qtt 8 (T_te tA), zzI cy qts 64 (shF (T_kn tA))]) hx hb hr hlocks rfl (hP.sub [9, 10, 0, 1, 2, 3, 4, 5, 6, 7, 8] rfl) (hD.sub [9, 10, 0, 1, 2, 3, 4, 5, 6, 7, 8] (by decide +kernel) rfl) hS ⟨fX_26, rfl, trivial⟩ dX5_two_28
set_option maxHeartbeats 4000000 in
set_option maxRecDepth 100000 in
theorem p_X5_gains (l : Launch) (G : va_G) (cy : Nat → ClassId) (sz : Nat) (qx : Nat) (qt : Nat) (qk : Nat) (qp : Nat) (qs : Nat) (qa : Nat) (qr : Nat) (iKp : Int32) (iYe : Int32) (iTv : Int32) (fR : Nat → Int32) (qsh : Nat) (qss : Nat) (qsa : Nat) (qse : Nat) (fH : Nat → Int32) (fA : Nat → Int32) (tA : TA) (qtw : Nat) (qtn : Nat) (qtg : Nat) (qta : Nat) (qtr : Nat) (qtm : Nat) (qtt : Nat) (qts : Nat) (qu : Nat) (qv : Nat) (iL : Int32) (iBs : Int32) (tU : TA) (quw : Nat) (qun : Nat) (qug : Nat) (qua : Nat) (qur : Nat) (qum : Nat) (qut : Nat) (qus : Nat) (iA : Int32) (iB : Int32)  (hB : T_nb tA ≤ 8) (hPp : T_np tA ≤ 8) : MW l yX5_gains cX5_gains 5 (some .int) 12 0 0 G cy [zzO qx 4 [.ref qt, .ref qk, .ref qp, .ref qs, .ref qa, .ref qr, .int iKp, .int iYe, .int iTv], zzI cy qr 5 fR, zzO qs 1 [.ref qsh, .ref qss, .ref qsa, .ref qse], zzI cy qsh 8 fH, zzI cy qsa 8 fA, zzO qt 3 [.int (nI (T_nb tA)), .int (nI (T_np tA)), .int (wb (T_wh tA)), .int (wb (T_gn tA)), .int (T_sd tA), .ref qtw, .ref qtn, .ref qtg, .ref qta, .ref qtr, .ref qtm, .ref qtt, .ref qts], zzI cy qtw 8 (T_wo tA), zzI cy qtn 8 (T_ne tA), zzI cy qtg 8 (T_go tA), zzI cy qta 8 (T_ag tA), zzI cy qtr 8 (T_re tA), zzI cy qtm 8 (T_me tA), zzI cy qtt 8 (T_te tA), zzI cy qts 64 (shF (T_kn tA)), zzO qp 0 [.ref qu, .ref qv, .int iL, .int iBs], zzO qu 3 [.int (nI (T_nb tU)), .int (nI (T_np tU)), .int (wb (T_wh tU)), .int (wb (T_gn tU)), .int (T_sd tU), .ref quw, .ref qun, .ref qug, .ref qua, .ref qur, .ref qum, .ref qut, .ref qus], zzI cy quw 8 (T_wo tU), zzI cy qun 8 (T_ne tU), zzI cy qug 8 (T_go tU), zzI cy qua 8 (T_ag tU), zzI cy qur 8 (T_re tU), zzI cy qum 8 (T_me tU), zzI cy qut 8 (T_te tU), zzI cy qus 64 (shF (T_kn tU))] sz [.ref qx, .int iA, .int iB] (Wi G (fun r u => ∃ (fX : Nat → Int32) (iX : Int32) (iY : Int32) (tX : TA), u = [zzO qx 4 [.ref qt, .ref qk, .ref qp, .ref qs, .ref qa, .ref qr, .int iKp, .int iYe, .int iTv], zzI cy qr 5 fX, zzO qs 1 [.ref qsh, .ref qss, .ref qsa, .ref qse], zzI cy qsh 8 fH, zzI cy qsa 8 fA, zzO qt 3 [.int (nI (T_nb tA)), .int (nI (T_np tA)), .int (wb (T_wh tA)), .int (wb (T_gn tA)), .int (T_sd tA), .ref qtw, .ref qtn, .ref qtg, .ref qta, .ref qtr, .ref qtm, .ref qtt, .ref qts], zzI cy qtw 8 (T_wo tA), zzI cy qtn 8 (T_ne tA), zzI cy qtg 8 (T_go tA), zzI cy qta 8 (T_ag tA), zzI cy qtr 8 (T_re tA), zzI cy qtm 8 (T_me tA), zzI cy qtt 8 (T_te tA), zzI cy qts 64 (shF (T_kn tA)), zzO qp 0 [.ref qu, .ref qv, .int iX, .int iY], zzO qu 3 [.int (nI (T_nb tX)), .int (nI (T_np tX)), .int (wb (T_wh tX)), .int (wb (T_gn tX)), .int (T_sd tX), .ref quw, .ref qun, .ref qug, .ref qua, .ref qur, .ref qum, .ref qut, .ref qus], zzI cy quw 8 (T_wo tX), zzI cy qun 8 (T_ne tX), zzI cy qug 8 (T_go tX), zzI cy qua 8 (T_ag tX), zzI cy qur 8 (T_re tX), zzI cy qum 8 (T_me tX), zzI cy qut 8 (T_te tX), zzI cy qus 64 (shF (T_kn tX))] ∧ (True))) := by
  refine enW RX5 (by decide) rfl (Nat.le_of_ble_eq_true rfl) (fun p e s m below meth c ls A hx hb hml hown hts hr hlocks hP hN hl hin hD hA hS => ?_)
  have hin : meth.name = _ := hin
  have hK := hN.1
  replace hl : lv_has ls 5 [(0, .ref qx), (1, .int iA), (2, .int iB)] := hl
  refine lv_iload_n hx hb dX5_gains_0 rfl (lv_at hl 2 rfl) ?_
  refine lv_i2l (v := iB.toInt64) hx hb dX5_gains_1 rfl ?_
  refine lv_lconst (v := 1) hx hb dX5_gains_2 (by decide) ?_
  refine lv_ldc2 hx hb hown (hts _ m_t644) dX5_gains_3 ?_
  refine kRi (rS (As := [.long iB.toInt64, .long 1, .long 60]) (rest := []) ⟨hx, hb, hml, hown, hts⟩ (c_X5_within l G cy iB.toInt64 1 60) L_X5_50 (preRS hN hP [] rfl) rfl ⟨Nat.le_of_ble_eq_true rfl, Nat.le_of_ble_eq_true rfl⟩ hl.1 (Nat.le_of_ble_eq_true rfl) dX5_gains_6 ⟨Nat.le_of_ble_eq_true rfl, Nat.le_of_ble_eq_true rfl⟩) (fun r_1 h_2 => ?_)
  rcases h_2 with ⟨rfl, h_3⟩ | ⟨rfl, h_3⟩
  · obtain ⟨k_4, hk_5, hk_6, rfl⟩ := iv_nI 1 60 (by decide) (by decide) h_3
    refine lv_if_eq (tgt := 20) hx hb dX5_gains_9 (by decide) (fun h9 => absurd h9 (by decide)) (fun _ => ?_)
    refine lv_aload_n hx hb dX5_gains_12 rfl (lv_at hl 0 rfl) ?_
    refine lv_iload_n hx hb dX5_gains_13 rfl (lv_at hl 1 rfl) ?_
    refine kRi (rV (As := [.int iA]) (rest := []) (b := qx) ⟨hx, hb, hml, hown, hts⟩ (c_X5_ruleFit l G cy qx qt qk qp qs qa qr iKp iYe iTv qsh qss qsa qse fH iA) L_X5_100 (preRV (q := (RX5, TX5, 9)) hN hP [0, 2, 3] rfl 0 4 rfl rfl) rfl ⟨Nat.le_of_ble_eq_true rfl, Nat.le_of_ble_eq_true rfl⟩ hl.1 (Nat.le_of_ble_eq_true rfl) dX5_gains_14 ⟨Nat.le_of_ble_eq_true rfl, Nat.le_of_ble_eq_true rfl⟩) (fun r_8 h_9 => ?_)
    rcases h_9 with ⟨rfl, h_10⟩ | ⟨rfl, h_10⟩ | ⟨rfl, h_10⟩ | ⟨rfl, h_10⟩
    · refine lv_goto (tgt := 22) hx hb dX5_gains_17 (by decide) ?_
      refine lv_istore_n (lv' := [(3, .int (-2)), (0, .ref qx), (1, .int iA), (2, .int (nI k_4))]) hx hb dX5_gains_22 rfl hl (by decide) rfl (fun ls => ?_)
      clear hl
      intro hl
      refine lv_iload_n hx hb dX5_gains_23 rfl (lv_at hl 0 rfl) ?_
      refine lv_if_eq (tgt := 37) hx hb dX5_gains_24 (by decide) (fun h9 => absurd h9 (by decide)) (fun _ => ?_)
      refine lv_aload_n hx hb dX5_gains_27 rfl (lv_at hl 1 rfl) ?_
      refine lv_iload_n hx hb dX5_gains_28 rfl (lv_at hl 0 rfl) ?_
      refine cVi (As := [.int (-2)]) (rest := []) (b := qx) (q := (RX5, TX5, 9)) ⟨hx, hb, hml, hown, hts⟩ (c_X5_refuse2 l G cy (s.heap).size qx qt qk qp qs qa qr iKp iYe iTv fR) L_X5_56 hN hP hD hS hA [0, 1] [false, false, true, true, true, true, true, true, true, true, true, true, true, true, true, true, true, true, true, true, true, true, true, true] rfl (by decide +kernel) rfl 0 4 rfl rfl rfl ⟨Nat.le_of_ble_eq_true rfl, Nat.le_of_ble_eq_true rfl⟩ hl.1 (Nat.le_of_ble_eq_true rfl) dX5_gains_29 ⟨Nat.le_of_ble_eq_true rfl, Nat.le_of_ble_eq_true rfl⟩ (fun r_12 u_14 H locs h_13 => ?_)
      clear hP hD hS
      intro hP hD hS
      obtain ⟨fX_15, rfl, h_13⟩ := h_13
      have hPD := pd_as [zzO qs 1 [.ref qsh, .ref qss, .ref qsa, .ref qse], zzI cy qsh 8 fH, zzI cy qsa 8 fA, zzO qt 3 [.int (nI (T_nb tA)), .int (nI (T_np tA)), .int (wb (T_wh tA)), .int (wb (T_gn tA)), .int (T_sd tA), .ref qtw, .ref qtn, .ref qtg, .ref qta, .ref qtr, .ref qtm, .ref qtt, .ref qts], zzI cy qtw 8 (T_wo tA), zzI cy qtn 8 (T_ne tA), zzI cy qtg 8 (T_go tA), zzI cy qta 8 (T_ag tA), zzI cy qtr 8 (T_re tA), zzI cy qtm 8 (T_me tA), zzI cy qtt 8 (T_te tA), zzI cy qts 64 (shF (T_kn tA)), zzO qp 0 [.ref qu, .ref qv, .int iL, .int iBs], zzO qu 3 [.int (nI (T_nb tU)), .int (nI (T_np tU)), .int (wb (T_wh tU)), .int (wb (T_gn tU)), .int (T_sd tU), .ref quw, .ref qun, .ref qug, .ref qua, .ref qur, .ref qum, .ref qut, .ref qus], zzI cy quw 8 (T_wo tU), zzI cy qun 8 (T_ne tU), zzI cy qug 8 (T_go tU), zzI cy qua 8 (T_ag tU), zzI cy qur 8 (T_re tU), zzI cy qum 8 (T_me tU), zzI cy qut 8 (T_te tU), zzI cy qus 64 (shF (T_kn tU)), zzO qx 4 [.ref qt, .ref qk, .ref qp, .ref qs, .ref qa, .ref qr, .int iKp, .int iYe, .int iTv], zzI cy qr 5 fX_15] hP hD rfl
      clear hP hD
      obtain ⟨hP, hD⟩ := hPD
      subst h_13
      refine lv_ldcw hx hb hown (hts _ m_t705) dX5_gains_32 ?_
      refine lv_isub hx hb dX5_gains_35 ?_
      refine lv_seti (v := (-1000002)) (by decide) ?_
      exact endW (u := [zzO qx 4 [.ref qt, .ref qk, .ref qp, .ref qs, .ref qa, .ref qr, .int iKp, .int iYe, .int iTv], zzI cy qr 5 fX_15, zzO qs 1 [.ref qsh, .ref qss, .ref qsa, .ref qse], zzI cy qsh 8 fH, zzI cy qsa 8 fA, zzO qt 3 [.int (nI (T_nb tA)), .int (nI (T_np tA)), .int (wb (T_wh tA)), .int (wb (T_gn tA)), .int (T_sd tA), .ref qtw, .ref qtn, .ref qtg, .ref qta, .ref qtr, .ref qtm, .ref qtt, .ref qts], zzI cy qtw 8 (T_wo tA), zzI cy qtn 8 (T_ne tA), zzI cy qtg 8 (T_go tA), zzI cy qta 8 (T_ag tA), zzI cy qtr 8 (T_re tA), zzI cy qtm 8 (T_me tA), zzI cy qtt 8 (T_te tA), zzI cy qts 64 (shF (T_kn tA)), zzO qp 0 [.ref qu, .ref qv, .int iL, .int iBs], zzO qu 3 [.int (nI (T_nb tU)), .int (nI (T_np tU)), .int (wb (T_wh tU)), .int (wb (T_gn tU)), .int (T_sd tU), .ref quw, .ref qun, .ref qug, .ref qua, .ref qur, .ref qum, .ref qut, .ref qus], zzI cy quw 8 (T_wo tU), zzI cy qun 8 (T_ne tU), zzI cy qug 8 (T_go tU), zzI cy qua 8 (T_ag tU), zzI cy qur 8 (T_re tU), zzI cy qum 8 (T_me tU), zzI cy qut 8 (T_te tU), zzI cy qus 64 (shF (T_kn tU))]) hx hb hr hlocks rfl (hP.sub [22, 23, 0, 1, 2, 3, 4, 5, 6, 7, 8, 9, 10, 11, 12, 13, 14, 15, 16, 17, 18, 19, 20, 21] rfl) (hD.sub [22, 23, 0, 1, 2, 3, 4, 5, 6, 7, 8, 9, 10, 11, 12, 13, 14, 15, 16, 17, 18, 19, 20, 21] (by decide +kernel) rfl) hS ⟨fX_15, iL, iBs, tU, rfl, trivial⟩ dX5_gains_36
    · obtain ⟨k_16, hk_17, rfl, h_18⟩ := h_10
      refine lv_goto (tgt := 22) hx hb dX5_gains_17 (by decide) ?_
      refine lv_istore_n (lv' := [(3, .int (-3)), (0, .ref qx), (1, .int (nI k_16)), (2, .int (nI k_4))]) hx hb dX5_gains_22 rfl hl (by decide) rfl (fun ls => ?_)
      clear hl
      intro hl
      refine lv_iload_n hx hb dX5_gains_23 rfl (lv_at hl 0 rfl) ?_
      refine lv_if_eq (tgt := 37) hx hb dX5_gains_24 (by decide) (fun h9 => absurd h9 (by decide)) (fun _ => ?_)
      refine lv_aload_n hx hb dX5_gains_27 rfl (lv_at hl 1 rfl) ?_
      refine lv_iload_n hx hb dX5_gains_28 rfl (lv_at hl 0 rfl) ?_
      refine cVi (As := [.int (-3)]) (rest := []) (b := qx) (q := (RX5, TX5, 9)) ⟨hx, hb, hml, hown, hts⟩ (c_X5_refuse3 l G cy (s.heap).size qx qt qk qp qs qa qr iKp iYe iTv fR) L_X5_56 hN hP hD hS hA [0, 1] [false, false, true, true, true, true, true, true, true, true, true, true, true, true, true, true, true, true, true, true, true, true, true, true] rfl (by decide +kernel) rfl 0 4 rfl rfl rfl ⟨Nat.le_of_ble_eq_true rfl, Nat.le_of_ble_eq_true rfl⟩ hl.1 (Nat.le_of_ble_eq_true rfl) dX5_gains_29 ⟨Nat.le_of_ble_eq_true rfl, Nat.le_of_ble_eq_true rfl⟩ (fun r_20 u_22 H locs h_21 => ?_)
      clear hP hD hS
      intro hP hD hS
      obtain ⟨fX_23, rfl, h_21⟩ := h_21
      have hPD := pd_as [zzO qs 1 [.ref qsh, .ref qss, .ref qsa, .ref qse], zzI cy qsh 8 fH, zzI cy qsa 8 fA, zzO qt 3 [.int (nI (T_nb tA)), .int (nI (T_np tA)), .int (wb (T_wh tA)), .int (wb (T_gn tA)), .int (T_sd tA), .ref qtw, .ref qtn, .ref qtg, .ref qta, .ref qtr, .ref qtm, .ref qtt, .ref qts], zzI cy qtw 8 (T_wo tA), zzI cy qtn 8 (T_ne tA), zzI cy qtg 8 (T_go tA), zzI cy qta 8 (T_ag tA), zzI cy qtr 8 (T_re tA), zzI cy qtm 8 (T_me tA), zzI cy qtt 8 (T_te tA), zzI cy qts 64 (shF (T_kn tA)), zzO qp 0 [.ref qu, .ref qv, .int iL, .int iBs], zzO qu 3 [.int (nI (T_nb tU)), .int (nI (T_np tU)), .int (wb (T_wh tU)), .int (wb (T_gn tU)), .int (T_sd tU), .ref quw, .ref qun, .ref qug, .ref qua, .ref qur, .ref qum, .ref qut, .ref qus], zzI cy quw 8 (T_wo tU), zzI cy qun 8 (T_ne tU), zzI cy qug 8 (T_go tU), zzI cy qua 8 (T_ag tU), zzI cy qur 8 (T_re tU), zzI cy qum 8 (T_me tU), zzI cy qut 8 (T_te tU), zzI cy qus 64 (shF (T_kn tU)), zzO qx 4 [.ref qt, .ref qk, .ref qp, .ref qs, .ref qa, .ref qr, .int iKp, .int iYe, .int iTv], zzI cy qr 5 fX_23] hP hD rfl
      clear hP hD
      obtain ⟨hP, hD⟩ := hPD
      subst h_21
      refine lv_ldcw hx hb hown (hts _ m_t705) dX5_gains_32 ?_
      refine lv_isub hx hb dX5_gains_35 ?_
      refine lv_seti (v := (-1000003)) (by decide) ?_
      exact endW (u := [zzO qx 4 [.ref qt, .ref qk, .ref qp, .ref qs, .ref qa, .ref qr, .int iKp, .int iYe, .int iTv], zzI cy qr 5 fX_23, zzO qs 1 [.ref qsh, .ref qss, .ref qsa, .ref qse], zzI cy qsh 8 fH, zzI cy qsa 8 fA, zzO qt 3 [.int (nI (T_nb tA)), .int (nI (T_np tA)), .int (wb (T_wh tA)), .int (wb (T_gn tA)), .int (T_sd tA), .ref qtw, .ref qtn, .ref qtg, .ref qta, .ref qtr, .ref qtm, .ref qtt, .ref qts], zzI cy qtw 8 (T_wo tA), zzI cy qtn 8 (T_ne tA), zzI cy qtg 8 (T_go tA), zzI cy qta 8 (T_ag tA), zzI cy qtr 8 (T_re tA), zzI cy qtm 8 (T_me tA), zzI cy qtt 8 (T_te tA), zzI cy qts 64 (shF (T_kn tA)), zzO qp 0 [.ref qu, .ref qv, .int iL, .int iBs], zzO qu 3 [.int (nI (T_nb tU)), .int (nI (T_np tU)), .int (wb (T_wh tU)), .int (wb (T_gn tU)), .int (T_sd tU), .ref quw, .ref qun, .ref qug, .ref qua, .ref qur, .ref qum, .ref qut, .ref qus], zzI cy quw 8 (T_wo tU), zzI cy qun 8 (T_ne tU), zzI cy qug 8 (T_go tU), zzI cy qua 8 (T_ag tU), zzI cy qur 8 (T_re tU), zzI cy qum 8 (T_me tU), zzI cy qut 8 (T_te tU), zzI cy qus 64 (shF (T_kn tU))]) hx hb hr hlocks rfl (hP.sub [22, 23, 0, 1, 2, 3, 4, 5, 6, 7, 8, 9, 10, 11, 12, 13, 14, 15, 16, 17, 18, 19, 20, 21] rfl) (hD.sub [22, 23, 0, 1, 2, 3, 4, 5, 6, 7, 8, 9, 10, 11, 12, 13, 14, 15, 16, 17, 18, 19, 20, 21] (by decide +kernel) rfl) hS ⟨fX_23, iL, iBs, tU, rfl, trivial⟩ dX5_gains_36
    · obtain ⟨k_24, hk_25, rfl, h_26, h_27⟩ := h_10
      refine lv_goto (tgt := 22) hx hb dX5_gains_17 (by decide) ?_
      refine lv_istore_n (lv' := [(3, .int 0), (0, .ref qx), (1, .int (nI k_24)), (2, .int (nI k_4))]) hx hb dX5_gains_22 rfl hl (by decide) rfl (fun ls => ?_)
      clear hl
      intro hl
      refine lv_iload_n hx hb dX5_gains_23 rfl (lv_at hl 0 rfl) ?_
      refine lv_if_eq (tgt := 37) hx hb dX5_gains_24 (by decide) (fun _ => ?_) (fun h9 => absurd (by decide) h9)
      refine lv_aload_n hx hb dX5_gains_37 rfl (lv_at hl 1 rfl) ?_
      refine va_get (D := G) (ci := 4) (v := .ref qp) (C := RX5) (T := TX5) (N := 9) hx hb hts iX_X5 hown hK hP 0 rfl rfl 2 (by decide) (hts _ m_t176) (fun _ h9 => h9) rfl dX5_gains_38 ?_
      refine lv_aload_n hx hb dX5_gains_41 rfl (lv_at hl 1 rfl) ?_
      refine va_get (D := G) (ci := 4) (v := .ref qp) (C := RX5) (T := TX5) (N := 9) hx hb hts iX_X5 hown hK hP 0 rfl rfl 2 (by decide) (hts _ m_t176) (fun _ h9 => h9) rfl dX5_gains_42 ?_
      refine lv_aload_n hx hb dX5_gains_45 rfl (lv_at hl 1 rfl) ?_
      refine va_get (D := G) (ci := 4) (v := .ref qt) (C := RX5) (T := TX5) (N := 9) hx hb hts iX_X5 hown hK hP 0 rfl rfl 0 (by decide) (hts _ m_t174) (fun _ h9 => h9) rfl dX5_gains_46 ?_
      refine cVq (As := [.ref qt]) (rest := [.ref qp]) (b := qp) (q := (RX0, TX0, 4)) ⟨hx, hb, hml, hown, hts⟩ (c_X0_trialOf l G cy (s.heap).size qp qu (.ref qv) (.int iL) (.int iBs) tU quw qun qug qua qur qum qut qus qt tA qtw qtn qtg qta qtr qtm qtt qts) L_X5_115 hN hP hD hS hA [14, 15, 16, 17, 18, 19, 20, 21, 22, 23, 5, 6, 7, 8, 9, 10, 11, 12, 13] [true, true, true, true, true, false, false, false, false, false, false, false, false, false, false, false, false, false, false, false, false, false, false, false] rfl (by decide +kernel) rfl 14 0 rfl rfl rfl ⟨Nat.le_of_ble_eq_true rfl, Nat.le_of_ble_eq_true rfl⟩ hl.1 (Nat.le_of_ble_eq_true rfl) dX5_gains_49 ⟨Nat.le_of_ble_eq_true rfl, Nat.le_of_ble_eq_true rfl⟩ (fun r_29 u_31 H locs h_30 => ?_)
      clear hP hD hS
      intro hP hD hS
      obtain ⟨rfl, h_30⟩ := h_30
      have hPD := pd_as [zzO qx 4 [.ref qt, .ref qk, .ref qp, .ref qs, .ref qa, .ref qr, .int iKp, .int iYe, .int iTv], zzI cy qr 5 fR, zzO qs 1 [.ref qsh, .ref qss, .ref qsa, .ref qse], zzI cy qsh 8 fH, zzI cy qsa 8 fA, zzO qp 0 [.ref qu, .ref qv, .int iL, .int iBs], zzO qu 3 [.int (nI (T_nb tA)), .int (nI (T_np tA)), .int (wb (T_wh tA)), .int (wb (T_gn tA)), .int (T_sd tA), .ref quw, .ref qun, .ref qug, .ref qua, .ref qur, .ref qum, .ref qut, .ref qus], zzI cy quw 8 (T_wo tA), zzI cy qun 8 (T_ne tA), zzI cy qug 8 (T_go tA), zzI cy qua 8 (T_ag tA), zzI cy qur 8 (T_re tA), zzI cy qum 8 (T_me tA), zzI cy qut 8 (T_te tA), zzI cy qus 64 (shF (T_kn tA)), zzO qt 3 [.int (nI (T_nb tA)), .int (nI (T_np tA)), .int (wb (T_wh tA)), .int (wb (T_gn tA)), .int (T_sd tA), .ref qtw, .ref qtn, .ref qtg, .ref qta, .ref qtr, .ref qtm, .ref qtt, .ref qts], zzI cy qtw 8 (T_wo tA), zzI cy qtn 8 (T_ne tA), zzI cy qtg 8 (T_go tA), zzI cy qta 8 (T_ag tA), zzI cy qtr 8 (T_re tA), zzI cy qtm 8 (T_me tA), zzI cy qtt 8 (T_te tA), zzI cy qts 64 (shF (T_kn tA))] hP hD rfl
      clear hP hD
      obtain ⟨hP, hD⟩ := hPD
      have h_30 := h_30.symm
      subst h_30
      refine lv_aload_n hx hb dX5_gains_52 rfl (lv_at hl 1 rfl) ?_
      refine va_get (D := G) (ci := 4) (v := .ref qs) (C := RX5) (T := TX5) (N := 9) hx hb hts iX_X5 hown hK hP 0 rfl rfl 3 (by decide) (hts _ m_t177) (fun _ h9 => h9) rfl dX5_gains_53 ?_
      refine lv_iload_n hx hb dX5_gains_56 rfl (lv_at hl 2 rfl) ?_
      refine kRi (rV (As := [.int (nI k_24)]) (rest := [.ref qu, .ref qp]) (b := qs) ⟨hx, hb, hml, hown, hts⟩ (c_X2_kindIn l G cy qs qsh qss qsa qse fH k_24 (by first | omega | (simp only [nb_sr, np_sr, nb_wr, np_wr, nb_rd, np_rd, nb_ch, np_ch, nb_zr, np_zr, nb_za, np_za, nb_ey, np_ey, nb_hf, np_hf, nb_dd, np_dd, nb_so, np_so, nb_skn, np_skn, nb_swh, np_swh, nb_sgn, np_sgn, nb_ssd, np_ssd, nb_sgo, np_sgo, nb_sag, np_sag]; omega))) L_X5_103 (preRV (q := (RX2, TX2, 4)) hN hP [2, 3] rfl 2 1 rfl rfl) rfl ⟨Nat.le_of_ble_eq_true rfl, Nat.le_of_ble_eq_true rfl⟩ hl.1 (Nat.le_of_ble_eq_true rfl) dX5_gains_57 ⟨Nat.le_of_ble_eq_true rfl, Nat.le_of_ble_eq_true rfl⟩) (fun r_32 h_33 => ?_)
      subst h_33
      refine lv_aload_n hx hb dX5_gains_60 rfl (lv_at hl 1 rfl) ?_
      refine va_get (D := G) (ci := 4) (v := .ref qs) (C := RX5) (T := TX5) (N := 9) hx hb hts iX_X5 hown hK hP 0 rfl rfl 3 (by decide) (hts _ m_t177) (fun _ h9 => h9) rfl dX5_gains_61 ?_
      refine va_getN (D := G) (ci := 1) (v := .ref qsa) (C := RX2) (T := TX2) (N := 4) hx hb hts iX_X2 hown hK hP 2 rfl rfl 2 (by decide) (va_Nw.use rfl (hN.2.1 (RX5, 112, "EachBookOnce$Shelves", "amount", "[I") (List.mem_of_getElem? (i := 28) rfl))) (fun _ h9 => h9) rfl dX5_gains_64 ?_
      refine lv_iload_n hx hb dX5_gains_67 rfl (lv_at hl 2 rfl) ?_
      refine va_iald hx hb hK hP 4 0 rfl rfl (in8 (by omega)) dX5_gains_68 ?_
      refine lv_seti (v := fA k_24) (congrArg fA (cl8 (by omega))) ?_
      refine lv_iload_n hx hb dX5_gains_69 rfl (lv_at hl 3 rfl) ?_
      refine cVi (As := [.ref qu, .int ((fH k_24) - 10), .int (fA k_24), .int (nI k_4)]) (rest := []) (b := qp) (q := (RX0, TX0, 4)) ⟨hx, hb, hml, hown, hts⟩ (c_X0_sumOfRun l G cy (H).size qp qu (.ref qv) iL iBs tA quw qun qug qua qur qum qut qus ((fH k_24) - 10) (fA k_24) k_4 hB hPp (by first | omega | (simp only [nb_sr, np_sr, nb_wr, np_wr, nb_rd, np_rd, nb_ch, np_ch, nb_zr, np_zr, nb_za, np_za, nb_ey, np_ey, nb_hf, np_hf, nb_dd, np_dd, nb_so, np_so, nb_skn, np_skn, nb_swh, np_swh, nb_sgn, np_sgn, nb_ssd, np_ssd, nb_sgo, np_sgo, nb_sag, np_sag]; omega))) L_X5_254 hN hP hD hS hA [5, 6, 7, 8, 9, 10, 11, 12, 13, 14] [true, true, true, true, true, false, false, false, false, false, false, false, false, false, false, true, true, true, true, true, true, true, true, true] rfl (by decide +kernel) rfl 5 0 rfl rfl rfl ⟨Nat.le_of_ble_eq_true rfl, Nat.le_of_ble_eq_true rfl⟩ hl.1 (Nat.le_of_ble_eq_true rfl) dX5_gains_70 ⟨Nat.le_of_ble_eq_true rfl, Nat.le_of_ble_eq_true rfl⟩ (fun r_34 u_36 H locs h_35 => ?_)
      clear hP hD hS
      intro hP hD hS
      obtain ⟨rfl, h_35⟩ := h_35
      have hPD := pd_as [zzO qx 4 [.ref qt, .ref qk, .ref qp, .ref qs, .ref qa, .ref qr, .int iKp, .int iYe, .int iTv], zzI cy qr 5 fR, zzO qs 1 [.ref qsh, .ref qss, .ref qsa, .ref qse], zzI cy qsh 8 fH, zzI cy qsa 8 fA, zzO qt 3 [.int (nI (T_nb tA)), .int (nI (T_np tA)), .int (wb (T_wh tA)), .int (wb (T_gn tA)), .int (T_sd tA), .ref qtw, .ref qtn, .ref qtg, .ref qta, .ref qtr, .ref qtm, .ref qtt, .ref qts], zzI cy qtw 8 (T_wo tA), zzI cy qtn 8 (T_ne tA), zzI cy qtg 8 (T_go tA), zzI cy qta 8 (T_ag tA), zzI cy qtr 8 (T_re tA), zzI cy qtm 8 (T_me tA), zzI cy qtt 8 (T_te tA), zzI cy qts 64 (shF (T_kn tA)), zzO qp 0 [.ref qu, .ref qv, .int ((srG ((fH k_24) - 10) (fA k_24) k_4 tA iL 0).2.1), .int iBs], zzO qu 3 [.int (nI (T_nb ((srG ((fH k_24) - 10) (fA k_24) k_4 tA iL 0).1))), .int (nI (T_np ((srG ((fH k_24) - 10) (fA k_24) k_4 tA iL 0).1))), .int (wb (T_wh ((srG ((fH k_24) - 10) (fA k_24) k_4 tA iL 0).1))), .int (wb (T_gn ((srG ((fH k_24) - 10) (fA k_24) k_4 tA iL 0).1))), .int (T_sd ((srG ((fH k_24) - 10) (fA k_24) k_4 tA iL 0).1)), .ref quw, .ref qun, .ref qug, .ref qua, .ref qur, .ref qum, .ref qut, .ref qus], zzI cy quw 8 (T_wo ((srG ((fH k_24) - 10) (fA k_24) k_4 tA iL 0).1)), zzI cy qun 8 (T_ne ((srG ((fH k_24) - 10) (fA k_24) k_4 tA iL 0).1)), zzI cy qug 8 (T_go ((srG ((fH k_24) - 10) (fA k_24) k_4 tA iL 0).1)), zzI cy qua 8 (T_ag ((srG ((fH k_24) - 10) (fA k_24) k_4 tA iL 0).1)), zzI cy qur 8 (T_re ((srG ((fH k_24) - 10) (fA k_24) k_4 tA iL 0).1)), zzI cy qum 8 (T_me ((srG ((fH k_24) - 10) (fA k_24) k_4 tA iL 0).1)), zzI cy qut 8 (T_te ((srG ((fH k_24) - 10) (fA k_24) k_4 tA iL 0).1)), zzI cy qus 64 (shF (T_kn ((srG ((fH k_24) - 10) (fA k_24) k_4 tA iL 0).1)))] hP hD rfl
      clear hP hD
      obtain ⟨hP, hD⟩ := hPD
      subst h_35
      refine lv_istore (lv' := [(4, .int ((srG ((fH k_24) - 10) (fA k_24) k_4 tA iL 0).2.2)), (3, .int 0), (0, .ref qx), (1, .int (nI k_24)), (2, .int (nI k_4))]) hx hb dX5_gains_73 hl (by decide) rfl (fun ls => ?_)
      clear hl
      intro hl
      refine lv_iload hx hb dX5_gains_75 (lv_at hl 0 rfl) ?_
      refine lv_aload_n hx hb dX5_gains_77 rfl (lv_at hl 2 rfl) ?_
      refine va_get (D := G) (ci := 4) (v := .ref qp) (C := RX5) (T := TX5) (N := 9) hx hb hts iX_X5 hown hK hP 0 rfl rfl 2 (by decide) (hts _ m_t176) (fun _ h9 => h9) rfl dX5_gains_78 ?_
      refine lv_aload_n hx hb dX5_gains_81 rfl (lv_at hl 2 rfl) ?_
      refine va_get (D := G) (ci := 4) (v := .ref qt) (C := RX5) (T := TX5) (N := 9) hx hb hts iX_X5 hown hK hP 0 rfl rfl 0 (by decide) (hts _ m_t174) (fun _ h9 => h9) rfl dX5_gains_82 ?_
      refine cVq (As := [.ref qt]) (rest := [.int ((srG ((fH k_24) - 10) (fA k_24) k_4 tA iL 0).2.2)]) (b := qp) (q := (RX0, TX0, 4)) ⟨hx, hb, hml, hown, hts⟩ (c_X0_trialOf l G cy (H).size qp qu (.ref qv) (.int ((srG ((fH k_24) - 10) (fA k_24) k_4 tA iL 0).2.1)) (.int iBs) ((srG ((fH k_24) - 10) (fA k_24) k_4 tA iL 0).1) quw qun qug qua qur qum qut qus qt tA qtw qtn qtg qta qtr qtm qtt qts) L_X5_115 hN hP hD hS hA [14, 15, 16, 17, 18, 19, 20, 21, 22, 23, 5, 6, 7, 8, 9, 10, 11, 12, 13] [true, true, true, true, true, false, false, false, false, false, false, false, false, false, false, false, false, false, false, false, false, false, false, false] rfl (by decide +kernel) rfl 14 0 rfl rfl rfl ⟨Nat.le_of_ble_eq_true rfl, Nat.le_of_ble_eq_true rfl⟩ hl.1 (Nat.le_of_ble_eq_true rfl) dX5_gains_85 ⟨Nat.le_of_ble_eq_true rfl, Nat.le_of_ble_eq_true rfl⟩ (fun r_37 u_39 H locs h_38 => ?_)
      clear hP hD hS
      intro hP hD hS
      obtain ⟨rfl, h_38⟩ := h_38
      have hPD := pd_as [zzO qx 4 [.ref qt, .ref qk, .ref qp, .ref qs, .ref qa, .ref qr, .int iKp, .int iYe, .int iTv], zzI cy qr 5 fR, zzO qs 1 [.ref qsh, .ref qss, .ref qsa, .ref qse], zzI cy qsh 8 fH, zzI cy qsa 8 fA, zzO qp 0 [.ref qu, .ref qv, .int ((srG ((fH k_24) - 10) (fA k_24) k_4 tA iL 0).2.1), .int iBs], zzO qu 3 [.int (nI (T_nb tA)), .int (nI (T_np tA)), .int (wb (T_wh tA)), .int (wb (T_gn tA)), .int (T_sd tA), .ref quw, .ref qun, .ref qug, .ref qua, .ref qur, .ref qum, .ref qut, .ref qus], zzI cy quw 8 (T_wo tA), zzI cy qun 8 (T_ne tA), zzI cy qug 8 (T_go tA), zzI cy qua 8 (T_ag tA), zzI cy qur 8 (T_re tA), zzI cy qum 8 (T_me tA), zzI cy qut 8 (T_te tA), zzI cy qus 64 (shF (T_kn tA)), zzO qt 3 [.int (nI (T_nb tA)), .int (nI (T_np tA)), .int (wb (T_wh tA)), .int (wb (T_gn tA)), .int (T_sd tA), .ref qtw, .ref qtn, .ref qtg, .ref qta, .ref qtr, .ref qtm, .ref qtt, .ref qts], zzI cy qtw 8 (T_wo tA), zzI cy qtn 8 (T_ne tA), zzI cy qtg 8 (T_go tA), zzI cy qta 8 (T_ag tA), zzI cy qtr 8 (T_re tA), zzI cy qtm 8 (T_me tA), zzI cy qtt 8 (T_te tA), zzI cy qts 64 (shF (T_kn tA))] hP hD rfl
      clear hP hD
      obtain ⟨hP, hD⟩ := hPD
      have h_38 := h_38.symm
      subst h_38
      refine lv_iload_n hx hb dX5_gains_88 rfl (lv_at hl 4 rfl) ?_
      refine cSi (As := [.ref qu, .int (nI k_4)]) (rest := [.int ((srG ((fH k_24) - 10) (fA k_24) k_4 tA iL 0).2.2)]) ⟨hx, hb, hml, hown, hts⟩ (c_X0_sumOfRest l G cy (H).size qu tA quw qun qug qua qur qum qut qus k_4 hB hPp (by first | omega | (simp only [nb_sr, np_sr, nb_wr, np_wr, nb_rd, np_rd, nb_ch, np_ch, nb_zr, np_zr, nb_za, np_za, nb_ey, np_ey, nb_hf, np_hf, nb_dd, np_dd, nb_so, np_so, nb_skn, np_skn, nb_swh, np_swh, nb_sgn, np_sgn, nb_ssd, np_ssd, nb_sgo, np_sgo, nb_sag, np_sag]; omega))) L_X5_318 hN hP hD hS hA [6, 7, 8, 9, 10, 11, 12, 13, 14] [true, true, true, true, true, true, false, false, false, false, false, false, false, false, false, true, true, true, true, true, true, true, true, true] rfl (by decide +kernel) rfl rfl ⟨Nat.le_of_ble_eq_true rfl, Nat.le_of_ble_eq_true rfl⟩ hl.1 (Nat.le_of_ble_eq_true rfl) dX5_gains_89 ⟨Nat.le_of_ble_eq_true rfl, Nat.le_of_ble_eq_true rfl⟩ (fun r_40 u_42 H locs h_41 => ?_)
      clear hP hD hS
      intro hP hD hS
      obtain ⟨rfl, h_41⟩ := h_41
      have hPD := pd_as [zzO qx 4 [.ref qt, .ref qk, .ref qp, .ref qs, .ref qa, .ref qr, .int iKp, .int iYe, .int iTv], zzI cy qr 5 fR, zzO qs 1 [.ref qsh, .ref qss, .ref qsa, .ref qse], zzI cy qsh 8 fH, zzI cy qsa 8 fA, zzO qp 0 [.ref qu, .ref qv, .int ((srG ((fH k_24) - 10) (fA k_24) k_4 tA iL 0).2.1), .int iBs], zzO qt 3 [.int (nI (T_nb tA)), .int (nI (T_np tA)), .int (wb (T_wh tA)), .int (wb (T_gn tA)), .int (T_sd tA), .ref qtw, .ref qtn, .ref qtg, .ref qta, .ref qtr, .ref qtm, .ref qtt, .ref qts], zzI cy qtw 8 (T_wo tA), zzI cy qtn 8 (T_ne tA), zzI cy qtg 8 (T_go tA), zzI cy qta 8 (T_ag tA), zzI cy qtr 8 (T_re tA), zzI cy qtm 8 (T_me tA), zzI cy qtt 8 (T_te tA), zzI cy qts 64 (shF (T_kn tA)), zzO qu 3 [.int (nI (T_nb ((soG k_4 tA 0).1))), .int (nI (T_np ((soG k_4 tA 0).1))), .int (wb (T_wh ((soG k_4 tA 0).1))), .int (wb (T_gn ((soG k_4 tA 0).1))), .int (T_sd ((soG k_4 tA 0).1)), .ref quw, .ref qun, .ref qug, .ref qua, .ref qur, .ref qum, .ref qut, .ref qus], zzI cy quw 8 (T_wo ((soG k_4 tA 0).1)), zzI cy qun 8 (T_ne ((soG k_4 tA 0).1)), zzI cy qug 8 (T_go ((soG k_4 tA 0).1)), zzI cy qua 8 (T_ag ((soG k_4 tA 0).1)), zzI cy qur 8 (T_re ((soG k_4 tA 0).1)), zzI cy qum 8 (T_me ((soG k_4 tA 0).1)), zzI cy qut 8 (T_te ((soG k_4 tA 0).1)), zzI cy qus 64 (shF (T_kn ((soG k_4 tA 0).1)))] hP hD rfl
      clear hP hD
      obtain ⟨hP, hD⟩ := hPD
      subst h_41
      refine lv_isub hx hb dX5_gains_92 ?_
      exact endW (u := [zzO qx 4 [.ref qt, .ref qk, .ref qp, .ref qs, .ref qa, .ref qr, .int iKp, .int iYe, .int iTv], zzI cy qr 5 fR, zzO qs 1 [.ref qsh, .ref qss, .ref qsa, .ref qse], zzI cy qsh 8 fH, zzI cy qsa 8 fA, zzO qt 3 [.int (nI (T_nb tA)), .int (nI (T_np tA)), .int (wb (T_wh tA)), .int (wb (T_gn tA)), .int (T_sd tA), .ref qtw, .ref qtn, .ref qtg, .ref qta, .ref qtr, .ref qtm, .ref qtt, .ref qts], zzI cy qtw 8 (T_wo tA), zzI cy qtn 8 (T_ne tA), zzI cy qtg 8 (T_go tA), zzI cy qta 8 (T_ag tA), zzI cy qtr 8 (T_re tA), zzI cy qtm 8 (T_me tA), zzI cy qtt 8 (T_te tA), zzI cy qts 64 (shF (T_kn tA)), zzO qp 0 [.ref qu, .ref qv, .int ((srG ((fH k_24) - 10) (fA k_24) k_4 tA iL 0).2.1), .int iBs], zzO qu 3 [.int (nI (T_nb ((soG k_4 tA 0).1))), .int (nI (T_np ((soG k_4 tA 0).1))), .int (wb (T_wh ((soG k_4 tA 0).1))), .int (wb (T_gn ((soG k_4 tA 0).1))), .int (T_sd ((soG k_4 tA 0).1)), .ref quw, .ref qun, .ref qug, .ref qua, .ref qur, .ref qum, .ref qut, .ref qus], zzI cy quw 8 (T_wo ((soG k_4 tA 0).1)), zzI cy qun 8 (T_ne ((soG k_4 tA 0).1)), zzI cy qug 8 (T_go ((soG k_4 tA 0).1)), zzI cy qua 8 (T_ag ((soG k_4 tA 0).1)), zzI cy qur 8 (T_re ((soG k_4 tA 0).1)), zzI cy qum 8 (T_me ((soG k_4 tA 0).1)), zzI cy qut 8 (T_te ((soG k_4 tA 0).1)), zzI cy qus 64 (shF (T_kn ((soG k_4 tA 0).1)))]) hx hb hr hlocks rfl (hP.sub [0, 1, 2, 3, 4, 6, 7, 8, 9, 10, 11, 12, 13, 14, 5, 15, 16, 17, 18, 19, 20, 21, 22, 23] rfl) (hD.sub [0, 1, 2, 3, 4, 6, 7, 8, 9, 10, 11, 12, 13, 14, 5, 15, 16, 17, 18, 19, 20, 21, 22, 23] (by decide +kernel) rfl) hS ⟨fR, (srG ((fH k_24) - 10) (fA k_24) k_4 tA iL 0).2.1, iBs, ((soG k_4 tA 0).1), rfl, trivial⟩ dX5_gains_93
    · obtain ⟨k_43, hk_44, rfl, h_45, h_46⟩ := h_10
      refine lv_goto (tgt := 22) hx hb dX5_gains_17 (by decide) ?_
      refine lv_istore_n (lv' := [(3, .int (-4)), (0, .ref qx), (1, .int (nI k_43)), (2, .int (nI k_4))]) hx hb dX5_gains_22 rfl hl (by decide) rfl (fun ls => ?_)
      clear hl
      intro hl
      refine lv_iload_n hx hb dX5_gains_23 rfl (lv_at hl 0 rfl) ?_
      refine lv_if_eq (tgt := 37) hx hb dX5_gains_24 (by decide) (fun h9 => absurd h9 (by decide)) (fun _ => ?_)
      refine lv_aload_n hx hb dX5_gains_27 rfl (lv_at hl 1 rfl) ?_
      refine lv_iload_n hx hb dX5_gains_28 rfl (lv_at hl 0 rfl) ?_
      refine cVi (As := [.int (-4)]) (rest := []) (b := qx) (q := (RX5, TX5, 9)) ⟨hx, hb, hml, hown, hts⟩ (c_X5_refuse4 l G cy (s.heap).size qx qt qk qp qs qa qr iKp iYe iTv fR) L_X5_56 hN hP hD hS hA [0, 1] [false, false, true, true, true, true, true, true, true, true, true, true, true, true, true, true, true, true, true, true, true, true, true, true] rfl (by decide +kernel) rfl 0 4 rfl rfl rfl ⟨Nat.le_of_ble_eq_true rfl, Nat.le_of_ble_eq_true rfl⟩ hl.1 (Nat.le_of_ble_eq_true rfl) dX5_gains_29 ⟨Nat.le_of_ble_eq_true rfl, Nat.le_of_ble_eq_true rfl⟩ (fun r_48 u_50 H locs h_49 => ?_)
      clear hP hD hS
      intro hP hD hS
      obtain ⟨fX_51, rfl, h_49⟩ := h_49
      have hPD := pd_as [zzO qs 1 [.ref qsh, .ref qss, .ref qsa, .ref qse], zzI cy qsh 8 fH, zzI cy qsa 8 fA, zzO qt 3 [.int (nI (T_nb tA)), .int (nI (T_np tA)), .int (wb (T_wh tA)), .int (wb (T_gn tA)), .int (T_sd tA), .ref qtw, .ref qtn, .ref qtg, .ref qta, .ref qtr, .ref qtm, .ref qtt, .ref qts], zzI cy qtw 8 (T_wo tA), zzI cy qtn 8 (T_ne tA), zzI cy qtg 8 (T_go tA), zzI cy qta 8 (T_ag tA), zzI cy qtr 8 (T_re tA), zzI cy qtm 8 (T_me tA), zzI cy qtt 8 (T_te tA), zzI cy qts 64 (shF (T_kn tA)), zzO qp 0 [.ref qu, .ref qv, .int iL, .int iBs], zzO qu 3 [.int (nI (T_nb tU)), .int (nI (T_np tU)), .int (wb (T_wh tU)), .int (wb (T_gn tU)), .int (T_sd tU), .ref quw, .ref qun, .ref qug, .ref qua, .ref qur, .ref qum, .ref qut, .ref qus], zzI cy quw 8 (T_wo tU), zzI cy qun 8 (T_ne tU), zzI cy qug 8 (T_go tU), zzI cy qua 8 (T_ag tU), zzI cy qur 8 (T_re tU), zzI cy qum 8 (T_me tU), zzI cy qut 8 (T_te tU), zzI cy qus 64 (shF (T_kn tU)), zzO qx 4 [.ref qt, .ref qk, .ref qp, .ref qs, .ref qa, .ref qr, .int iKp, .int iYe, .int iTv], zzI cy qr 5 fX_51] hP hD rfl
      clear hP hD
      obtain ⟨hP, hD⟩ := hPD
      subst h_49
      refine lv_ldcw hx hb hown (hts _ m_t705) dX5_gains_32 ?_
      refine lv_isub hx hb dX5_gains_35 ?_
      refine lv_seti (v := (-1000004)) (by decide) ?_
      exact endW (u := [zzO qx 4 [.ref qt, .ref qk, .ref qp, .ref qs, .ref qa, .ref qr, .int iKp, .int iYe, .int iTv], zzI cy qr 5 fX_51, zzO qs 1 [.ref qsh, .ref qss, .ref qsa, .ref qse], zzI cy qsh 8 fH, zzI cy qsa 8 fA, zzO qt 3 [.int (nI (T_nb tA)), .int (nI (T_np tA)), .int (wb (T_wh tA)), .int (wb (T_gn tA)), .int (T_sd tA), .ref qtw, .ref qtn, .ref qtg, .ref qta, .ref qtr, .ref qtm, .ref qtt, .ref qts], zzI cy qtw 8 (T_wo tA), zzI cy qtn 8 (T_ne tA), zzI cy qtg 8 (T_go tA), zzI cy qta 8 (T_ag tA), zzI cy qtr 8 (T_re tA), zzI cy qtm 8 (T_me tA), zzI cy qtt 8 (T_te tA), zzI cy qts 64 (shF (T_kn tA)), zzO qp 0 [.ref qu, .ref qv, .int iL, .int iBs], zzO qu 3 [.int (nI (T_nb tU)), .int (nI (T_np tU)), .int (wb (T_wh tU)), .int (wb (T_gn tU)), .int (T_sd tU), .ref quw, .ref qun, .ref qug, .ref qua, .ref qur, .ref qum, .ref qut, .ref qus], zzI cy quw 8 (T_wo tU), zzI cy qun 8 (T_ne tU), zzI cy qug 8 (T_go tU), zzI cy qua 8 (T_ag tU), zzI cy qur 8 (T_re tU), zzI cy qum 8 (T_me tU), zzI cy qut 8 (T_te tU), zzI cy qus 64 (shF (T_kn tU))]) hx hb hr hlocks rfl (hP.sub [22, 23, 0, 1, 2, 3, 4, 5, 6, 7, 8, 9, 10, 11, 12, 13, 14, 15, 16, 17, 18, 19, 20, 21] rfl) (hD.sub [22, 23, 0, 1, 2, 3, 4, 5, 6, 7, 8, 9, 10, 11, 12, 13, 14, 15, 16, 17, 18, 19, 20, 21] (by decide +kernel) rfl) hS ⟨fX_51, iL, iBs, tU, rfl, trivial⟩ dX5_gains_36
  · refine lv_if_eq (tgt := 20) hx hb dX5_gains_9 (by decide) (fun _ => ?_) (fun h9 => absurd (by decide) h9)
    refine lv_bipush (v := (-2)) hx hb dX5_gains_20 (by decide) ?_
    refine lv_istore_n (lv' := [(3, .int (-2)), (0, .ref qx), (1, .int iA), (2, .int iB)]) hx hb dX5_gains_22 rfl hl (by decide) rfl (fun ls => ?_)
    clear hl
    intro hl
    refine lv_iload_n hx hb dX5_gains_23 rfl (lv_at hl 0 rfl) ?_
    refine lv_if_eq (tgt := 37) hx hb dX5_gains_24 (by decide) (fun h9 => absurd h9 (by decide)) (fun _ => ?_)
    refine lv_aload_n hx hb dX5_gains_27 rfl (lv_at hl 1 rfl) ?_
    refine lv_iload_n hx hb dX5_gains_28 rfl (lv_at hl 0 rfl) ?_
    refine cVi (As := [.int (-2)]) (rest := []) (b := qx) (q := (RX5, TX5, 9)) ⟨hx, hb, hml, hown, hts⟩ (c_X5_refuse2 l G cy (s.heap).size qx qt qk qp qs qa qr iKp iYe iTv fR) L_X5_56 hN hP hD hS hA [0, 1] [false, false, true, true, true, true, true, true, true, true, true, true, true, true, true, true, true, true, true, true, true, true, true, true] rfl (by decide +kernel) rfl 0 4 rfl rfl rfl ⟨Nat.le_of_ble_eq_true rfl, Nat.le_of_ble_eq_true rfl⟩ hl.1 (Nat.le_of_ble_eq_true rfl) dX5_gains_29 ⟨Nat.le_of_ble_eq_true rfl, Nat.le_of_ble_eq_true rfl⟩ (fun r_54 u_56 H locs h_55 => ?_)
    clear hP hD hS
    intro hP hD hS
    obtain ⟨fX_57, rfl, h_55⟩ := h_55
    have hPD := pd_as [zzO qs 1 [.ref qsh, .ref qss, .ref qsa, .ref qse], zzI cy qsh 8 fH, zzI cy qsa 8 fA, zzO qt 3 [.int (nI (T_nb tA)), .int (nI (T_np tA)), .int (wb (T_wh tA)), .int (wb (T_gn tA)), .int (T_sd tA), .ref qtw, .ref qtn, .ref qtg, .ref qta, .ref qtr, .ref qtm, .ref qtt, .ref qts], zzI cy qtw 8 (T_wo tA), zzI cy qtn 8 (T_ne tA), zzI cy qtg 8 (T_go tA), zzI cy qta 8 (T_ag tA), zzI cy qtr 8 (T_re tA), zzI cy qtm 8 (T_me tA), zzI cy qtt 8 (T_te tA), zzI cy qts 64 (shF (T_kn tA)), zzO qp 0 [.ref qu, .ref qv, .int iL, .int iBs], zzO qu 3 [.int (nI (T_nb tU)), .int (nI (T_np tU)), .int (wb (T_wh tU)), .int (wb (T_gn tU)), .int (T_sd tU), .ref quw, .ref qun, .ref qug, .ref qua, .ref qur, .ref qum, .ref qut, .ref qus], zzI cy quw 8 (T_wo tU), zzI cy qun 8 (T_ne tU), zzI cy qug 8 (T_go tU), zzI cy qua 8 (T_ag tU), zzI cy qur 8 (T_re tU), zzI cy qum 8 (T_me tU), zzI cy qut 8 (T_te tU), zzI cy qus 64 (shF (T_kn tU)), zzO qx 4 [.ref qt, .ref qk, .ref qp, .ref qs, .ref qa, .ref qr, .int iKp, .int iYe, .int iTv], zzI cy qr 5 fX_57] hP hD rfl
    clear hP hD
    obtain ⟨hP, hD⟩ := hPD
    subst h_55
    refine lv_ldcw hx hb hown (hts _ m_t705) dX5_gains_32 ?_
    refine lv_isub hx hb dX5_gains_35 ?_
    refine lv_seti (v := (-1000002)) (by decide) ?_
    exact endW (u := [zzO qx 4 [.ref qt, .ref qk, .ref qp, .ref qs, .ref qa, .ref qr, .int iKp, .int iYe, .int iTv], zzI cy qr 5 fX_57, zzO qs 1 [.ref qsh, .ref qss, .ref qsa, .ref qse], zzI cy qsh 8 fH, zzI cy qsa 8 fA, zzO qt 3 [.int (nI (T_nb tA)), .int (nI (T_np tA)), .int (wb (T_wh tA)), .int (wb (T_gn tA)), .int (T_sd tA), .ref qtw, .ref qtn, .ref qtg, .ref qta, .ref qtr, .ref qtm, .ref qtt, .ref qts], zzI cy qtw 8 (T_wo tA), zzI cy qtn 8 (T_ne tA), zzI cy qtg 8 (T_go tA), zzI cy qta 8 (T_ag tA), zzI cy qtr 8 (T_re tA), zzI cy qtm 8 (T_me tA), zzI cy qtt 8 (T_te tA), zzI cy qts 64 (shF (T_kn tA)), zzO qp 0 [.ref qu, .ref qv, .int iL, .int iBs], zzO qu 3 [.int (nI (T_nb tU)), .int (nI (T_np tU)), .int (wb (T_wh tU)), .int (wb (T_gn tU)), .int (T_sd tU), .ref quw, .ref qun, .ref qug, .ref qua, .ref qur, .ref qum, .ref qut, .ref qus], zzI cy quw 8 (T_wo tU), zzI cy qun 8 (T_ne tU), zzI cy qug 8 (T_go tU), zzI cy qua 8 (T_ag tU), zzI cy qur 8 (T_re tU), zzI cy qum 8 (T_me tU), zzI cy qut 8 (T_te tU), zzI cy qus 64 (shF (T_kn tU))]) hx hb hr hlocks rfl (hP.sub [22, 23, 0, 1, 2, 3, 4, 5, 6, 7, 8, 9, 10, 11, 12, 13, 14, 15, 16, 17, 18, 19, 20, 21] rfl) (hD.sub [22, 23, 0, 1, 2, 3, 4, 5, 6, 7, 8, 9, 10, 11, 12, 13, 14, 15, 16, 17, 18, 19, 20, 21] (by decide +kernel) rfl) hS ⟨fX_57, iL, iBs, tU, rfl, trivial⟩ dX5_gains_36
set_option maxHeartbeats 4000000 in
set_option maxRecDepth 100000 in
theorem p_X5_judge (l : Launch) (G : va_G) (cy : Nat → ClassId) (sz : Nat) (qx : Nat) (qt : Nat) (qk : Nat) (qp : Nat) (qs : Nat) (qa : Nat) (qr : Nat) (iKp : Int32) (iYe : Int32) (iTv : Int32) (fR : Nat → Int32) (qsh : Nat) (qss : Nat) (qsa : Nat) (qse : Nat) (fH : Nat → Int32) (fS : Nat → Int32) (gE : Nat → Int64) (tA : TA) (qtw : Nat) (qtn : Nat) (qtg : Nat) (qta : Nat) (qtr : Nat) (qtm : Nat) (qtt : Nat) (qts : Nat) (qu : Nat) (qv : Nat) (iL : Int32) (iBs : Int32) (tU : TA) (quw : Nat) (qun : Nat) (qug : Nat) (qua : Nat) (qur : Nat) (qum : Nat) (qut : Nat) (qus : Nat) (iA : Int32) (iB : Int32)  (hB : T_nb tA ≤ 8) (hPp : T_np tA ≤ 8) (hSz : ∀ s, s < 8 → ∃ n : Nat, n ≤ 40 ∧ fS s = nI n) : MW l yX5_judge cX5_judge 4 (some .int) 12 0 0 G cy [zzO qx 4 [.ref qt, .ref qk, .ref qp, .ref qs, .ref qa, .ref qr, .int iKp, .int iYe, .int iTv], zzI cy qr 5 fR, zzO qs 1 [.ref qsh, .ref qss, .ref qsa, .ref qse], zzI cy qsh 8 fH, zzI cy qss 8 fS, zzJ cy qse 320 gE, zzO qt 3 [.int (nI (T_nb tA)), .int (nI (T_np tA)), .int (wb (T_wh tA)), .int (wb (T_gn tA)), .int (T_sd tA), .ref qtw, .ref qtn, .ref qtg, .ref qta, .ref qtr, .ref qtm, .ref qtt, .ref qts], zzI cy qtw 8 (T_wo tA), zzI cy qtn 8 (T_ne tA), zzI cy qtg 8 (T_go tA), zzI cy qta 8 (T_ag tA), zzI cy qtr 8 (T_re tA), zzI cy qtm 8 (T_me tA), zzI cy qtt 8 (T_te tA), zzI cy qts 64 (shF (T_kn tA)), zzO qp 0 [.ref qu, .ref qv, .int iL, .int iBs], zzO qu 3 [.int (nI (T_nb tU)), .int (nI (T_np tU)), .int (wb (T_wh tU)), .int (wb (T_gn tU)), .int (T_sd tU), .ref quw, .ref qun, .ref qug, .ref qua, .ref qur, .ref qum, .ref qut, .ref qus], zzI cy quw 8 (T_wo tU), zzI cy qun 8 (T_ne tU), zzI cy qug 8 (T_go tU), zzI cy qua 8 (T_ag tU), zzI cy qur 8 (T_re tU), zzI cy qum 8 (T_me tU), zzI cy qut 8 (T_te tU), zzI cy qus 64 (shF (T_kn tU))] sz [.ref qx, .int iA, .int iB] (Wi G (fun r u => ∃ (fX : Nat → Int32) (tX : TA), u = [zzO qx 4 [.ref qt, .ref qk, .ref qp, .ref qs, .ref qa, .ref qr, .int iKp, .int iYe, .int iTv], zzI cy qr 5 fX, zzO qs 1 [.ref qsh, .ref qss, .ref qsa, .ref qse], zzI cy qsh 8 fH, zzI cy qss 8 fS, zzJ cy qse 320 gE, zzO qt 3 [.int (nI (T_nb tA)), .int (nI (T_np tA)), .int (wb (T_wh tA)), .int (wb (T_gn tA)), .int (T_sd tA), .ref qtw, .ref qtn, .ref qtg, .ref qta, .ref qtr, .ref qtm, .ref qtt, .ref qts], zzI cy qtw 8 (T_wo tA), zzI cy qtn 8 (T_ne tA), zzI cy qtg 8 (T_go tA), zzI cy qta 8 (T_ag tA), zzI cy qtr 8 (T_re tA), zzI cy qtm 8 (T_me tA), zzI cy qtt 8 (T_te tA), zzI cy qts 64 (shF (T_kn tA)), zzO qp 0 [.ref qu, .ref qv, .int iL, .int iBs], zzO qu 3 [.int (nI (T_nb tX)), .int (nI (T_np tX)), .int (wb (T_wh tX)), .int (wb (T_gn tX)), .int (T_sd tX), .ref quw, .ref qun, .ref qug, .ref qua, .ref qur, .ref qum, .ref qut, .ref qus], zzI cy quw 8 (T_wo tX), zzI cy qun 8 (T_ne tX), zzI cy qug 8 (T_go tX), zzI cy qua 8 (T_ag tX), zzI cy qur 8 (T_re tX), zzI cy qum 8 (T_me tX), zzI cy qut 8 (T_te tX), zzI cy qus 64 (shF (T_kn tX))] ∧ (True))) := by
  refine enW RX5 (by decide) rfl (Nat.le_of_ble_eq_true rfl) (fun p e s m below meth c ls A hx hb hml hown hts hr hlocks hP hN hl hin hD hA hS => ?_)
  have hin : meth.name = _ := hin
  have hK := hN.1
  replace hl : lv_has ls 4 [(0, .ref qx), (1, .int iA), (2, .int iB)] := hl
  refine lv_aload_n hx hb dX5_judge_0 rfl (lv_at hl 0 rfl) ?_
  refine lv_iload_n hx hb dX5_judge_1 rfl (lv_at hl 1 rfl) ?_
  refine lv_iload_n hx hb dX5_judge_2 rfl (lv_at hl 2 rfl) ?_
  refine kRi (rV (As := [.int iA, .int iB]) (rest := []) (b := qx) ⟨hx, hb, hml, hown, hts⟩ (c_X5_toldFit l G cy qx qt qk qp qs qa qr iKp iYe iTv qsh qss qsa qse fH fS iA iB) L_X5_321 (preRV (q := (RX5, TX5, 9)) hN hP [0, 2, 3, 4] rfl 0 4 rfl rfl) rfl ⟨Nat.le_of_ble_eq_true rfl, Nat.le_of_ble_eq_true rfl⟩ hl.1 (Nat.le_of_ble_eq_true rfl) dX5_judge_3 ⟨Nat.le_of_ble_eq_true rfl, Nat.le_of_ble_eq_true rfl⟩) (fun r_1 h_2 => ?_)
  rcases h_2 with ⟨rfl, h_3⟩ | ⟨rfl, h_3⟩ | ⟨rfl, h_3⟩ | ⟨rfl, h_3⟩
  · refine lv_istore_n (lv' := [(3, .int (-2)), (0, .ref qx), (1, .int iA), (2, .int iB)]) hx hb dX5_judge_6 rfl hl (by decide) rfl (fun ls => ?_)
    clear hl
    intro hl
    refine lv_iload_n hx hb dX5_judge_7 rfl (lv_at hl 0 rfl) ?_
    refine lv_if_ne (tgt := 20) hx hb dX5_judge_8 (by decide) (fun _ => ?_) (fun h9 => absurd h9 (by decide))
    refine lv_aload_n hx hb dX5_judge_20 rfl (lv_at hl 1 rfl) ?_
    refine lv_iload_n hx hb dX5_judge_21 rfl (lv_at hl 0 rfl) ?_
    refine cVi (As := [.int (-2)]) (rest := []) (b := qx) (q := (RX5, TX5, 9)) ⟨hx, hb, hml, hown, hts⟩ (c_X5_refuse2 l G cy (s.heap).size qx qt qk qp qs qa qr iKp iYe iTv fR) L_X5_56 hN hP hD hS hA [0, 1] [false, false, true, true, true, true, true, true, true, true, true, true, true, true, true, true, true, true, true, true, true, true, true, true, true] rfl (by decide +kernel) rfl 0 4 rfl rfl rfl ⟨Nat.le_of_ble_eq_true rfl, Nat.le_of_ble_eq_true rfl⟩ hl.1 (Nat.le_of_ble_eq_true rfl) dX5_judge_22 ⟨Nat.le_of_ble_eq_true rfl, Nat.le_of_ble_eq_true rfl⟩ (fun r_5 u_7 H locs h_6 => ?_)
    clear hP hD hS
    intro hP hD hS
    obtain ⟨fX_8, rfl, h_6⟩ := h_6
    have hPD := pd_as [zzO qs 1 [.ref qsh, .ref qss, .ref qsa, .ref qse], zzI cy qsh 8 fH, zzI cy qss 8 fS, zzJ cy qse 320 gE, zzO qt 3 [.int (nI (T_nb tA)), .int (nI (T_np tA)), .int (wb (T_wh tA)), .int (wb (T_gn tA)), .int (T_sd tA), .ref qtw, .ref qtn, .ref qtg, .ref qta, .ref qtr, .ref qtm, .ref qtt, .ref qts], zzI cy qtw 8 (T_wo tA), zzI cy qtn 8 (T_ne tA), zzI cy qtg 8 (T_go tA), zzI cy qta 8 (T_ag tA), zzI cy qtr 8 (T_re tA), zzI cy qtm 8 (T_me tA), zzI cy qtt 8 (T_te tA), zzI cy qts 64 (shF (T_kn tA)), zzO qp 0 [.ref qu, .ref qv, .int iL, .int iBs], zzO qu 3 [.int (nI (T_nb tU)), .int (nI (T_np tU)), .int (wb (T_wh tU)), .int (wb (T_gn tU)), .int (T_sd tU), .ref quw, .ref qun, .ref qug, .ref qua, .ref qur, .ref qum, .ref qut, .ref qus], zzI cy quw 8 (T_wo tU), zzI cy qun 8 (T_ne tU), zzI cy qug 8 (T_go tU), zzI cy qua 8 (T_ag tU), zzI cy qur 8 (T_re tU), zzI cy qum 8 (T_me tU), zzI cy qut 8 (T_te tU), zzI cy qus 64 (shF (T_kn tU)), zzO qx 4 [.ref qt, .ref qk, .ref qp, .ref qs, .ref qa, .ref qr, .int iKp, .int iYe, .int iTv], zzI cy qr 5 fX_8] hP hD rfl
    clear hP hD
    obtain ⟨hP, hD⟩ := hPD
    subst h_6
    exact endW (u := [zzO qx 4 [.ref qt, .ref qk, .ref qp, .ref qs, .ref qa, .ref qr, .int iKp, .int iYe, .int iTv], zzI cy qr 5 fX_8, zzO qs 1 [.ref qsh, .ref qss, .ref qsa, .ref qse], zzI cy qsh 8 fH, zzI cy qss 8 fS, zzJ cy qse 320 gE, zzO qt 3 [.int (nI (T_nb tA)), .int (nI (T_np tA)), .int (wb (T_wh tA)), .int (wb (T_gn tA)), .int (T_sd tA), .ref qtw, .ref qtn, .ref qtg, .ref qta, .ref qtr, .ref qtm, .ref qtt, .ref qts], zzI cy qtw 8 (T_wo tA), zzI cy qtn 8 (T_ne tA), zzI cy qtg 8 (T_go tA), zzI cy qta 8 (T_ag tA), zzI cy qtr 8 (T_re tA), zzI cy qtm 8 (T_me tA), zzI cy qtt 8 (T_te tA), zzI cy qts 64 (shF (T_kn tA)), zzO qp 0 [.ref qu, .ref qv, .int iL, .int iBs], zzO qu 3 [.int (nI (T_nb tU)), .int (nI (T_np tU)), .int (wb (T_wh tU)), .int (wb (T_gn tU)), .int (T_sd tU), .ref quw, .ref qun, .ref qug, .ref qua, .ref qur, .ref qum, .ref qut, .ref qus], zzI cy quw 8 (T_wo tU), zzI cy qun 8 (T_ne tU), zzI cy qug 8 (T_go tU), zzI cy qua 8 (T_ag tU), zzI cy qur 8 (T_re tU), zzI cy qum 8 (T_me tU), zzI cy qut 8 (T_te tU), zzI cy qus 64 (shF (T_kn tU))]) hx hb hr hlocks rfl (hP.sub [23, 24, 0, 1, 2, 3, 4, 5, 6, 7, 8, 9, 10, 11, 12, 13, 14, 15, 16, 17, 18, 19, 20, 21, 22] rfl) (hD.sub [23, 24, 0, 1, 2, 3, 4, 5, 6, 7, 8, 9, 10, 11, 12, 13, 14, 15, 16, 17, 18, 19, 20, 21, 22] (by decide +kernel) rfl) hS ⟨fX_8, tU, rfl, trivial⟩ dX5_judge_25
  · refine lv_istore_n (lv' := [(3, .int (-3)), (0, .ref qx), (1, .int iA), (2, .int iB)]) hx hb dX5_judge_6 rfl hl (by decide) rfl (fun ls => ?_)
    clear hl
    intro hl
    refine lv_iload_n hx hb dX5_judge_7 rfl (lv_at hl 0 rfl) ?_
    refine lv_if_ne (tgt := 20) hx hb dX5_judge_8 (by decide) (fun _ => ?_) (fun h9 => absurd h9 (by decide))
    refine lv_aload_n hx hb dX5_judge_20 rfl (lv_at hl 1 rfl) ?_
    refine lv_iload_n hx hb dX5_judge_21 rfl (lv_at hl 0 rfl) ?_
    refine cVi (As := [.int (-3)]) (rest := []) (b := qx) (q := (RX5, TX5, 9)) ⟨hx, hb, hml, hown, hts⟩ (c_X5_refuse3 l G cy (s.heap).size qx qt qk qp qs qa qr iKp iYe iTv fR) L_X5_56 hN hP hD hS hA [0, 1] [false, false, true, true, true, true, true, true, true, true, true, true, true, true, true, true, true, true, true, true, true, true, true, true, true] rfl (by decide +kernel) rfl 0 4 rfl rfl rfl ⟨Nat.le_of_ble_eq_true rfl, Nat.le_of_ble_eq_true rfl⟩ hl.1 (Nat.le_of_ble_eq_true rfl) dX5_judge_22 ⟨Nat.le_of_ble_eq_true rfl, Nat.le_of_ble_eq_true rfl⟩ (fun r_10 u_12 H locs h_11 => ?_)
    clear hP hD hS
    intro hP hD hS
    obtain ⟨fX_13, rfl, h_11⟩ := h_11
    have hPD := pd_as [zzO qs 1 [.ref qsh, .ref qss, .ref qsa, .ref qse], zzI cy qsh 8 fH, zzI cy qss 8 fS, zzJ cy qse 320 gE, zzO qt 3 [.int (nI (T_nb tA)), .int (nI (T_np tA)), .int (wb (T_wh tA)), .int (wb (T_gn tA)), .int (T_sd tA), .ref qtw, .ref qtn, .ref qtg, .ref qta, .ref qtr, .ref qtm, .ref qtt, .ref qts], zzI cy qtw 8 (T_wo tA), zzI cy qtn 8 (T_ne tA), zzI cy qtg 8 (T_go tA), zzI cy qta 8 (T_ag tA), zzI cy qtr 8 (T_re tA), zzI cy qtm 8 (T_me tA), zzI cy qtt 8 (T_te tA), zzI cy qts 64 (shF (T_kn tA)), zzO qp 0 [.ref qu, .ref qv, .int iL, .int iBs], zzO qu 3 [.int (nI (T_nb tU)), .int (nI (T_np tU)), .int (wb (T_wh tU)), .int (wb (T_gn tU)), .int (T_sd tU), .ref quw, .ref qun, .ref qug, .ref qua, .ref qur, .ref qum, .ref qut, .ref qus], zzI cy quw 8 (T_wo tU), zzI cy qun 8 (T_ne tU), zzI cy qug 8 (T_go tU), zzI cy qua 8 (T_ag tU), zzI cy qur 8 (T_re tU), zzI cy qum 8 (T_me tU), zzI cy qut 8 (T_te tU), zzI cy qus 64 (shF (T_kn tU)), zzO qx 4 [.ref qt, .ref qk, .ref qp, .ref qs, .ref qa, .ref qr, .int iKp, .int iYe, .int iTv], zzI cy qr 5 fX_13] hP hD rfl
    clear hP hD
    obtain ⟨hP, hD⟩ := hPD
    subst h_11
    exact endW (u := [zzO qx 4 [.ref qt, .ref qk, .ref qp, .ref qs, .ref qa, .ref qr, .int iKp, .int iYe, .int iTv], zzI cy qr 5 fX_13, zzO qs 1 [.ref qsh, .ref qss, .ref qsa, .ref qse], zzI cy qsh 8 fH, zzI cy qss 8 fS, zzJ cy qse 320 gE, zzO qt 3 [.int (nI (T_nb tA)), .int (nI (T_np tA)), .int (wb (T_wh tA)), .int (wb (T_gn tA)), .int (T_sd tA), .ref qtw, .ref qtn, .ref qtg, .ref qta, .ref qtr, .ref qtm, .ref qtt, .ref qts], zzI cy qtw 8 (T_wo tA), zzI cy qtn 8 (T_ne tA), zzI cy qtg 8 (T_go tA), zzI cy qta 8 (T_ag tA), zzI cy qtr 8 (T_re tA), zzI cy qtm 8 (T_me tA), zzI cy qtt 8 (T_te tA), zzI cy qts 64 (shF (T_kn tA)), zzO qp 0 [.ref qu, .ref qv, .int iL, .int iBs], zzO qu 3 [.int (nI (T_nb tU)), .int (nI (T_np tU)), .int (wb (T_wh tU)), .int (wb (T_gn tU)), .int (T_sd tU), .ref quw, .ref qun, .ref qug, .ref qua, .ref qur, .ref qum, .ref qut, .ref qus], zzI cy quw 8 (T_wo tU), zzI cy qun 8 (T_ne tU), zzI cy qug 8 (T_go tU), zzI cy qua 8 (T_ag tU), zzI cy qur 8 (T_re tU), zzI cy qum 8 (T_me tU), zzI cy qut 8 (T_te tU), zzI cy qus 64 (shF (T_kn tU))]) hx hb hr hlocks rfl (hP.sub [23, 24, 0, 1, 2, 3, 4, 5, 6, 7, 8, 9, 10, 11, 12, 13, 14, 15, 16, 17, 18, 19, 20, 21, 22] rfl) (hD.sub [23, 24, 0, 1, 2, 3, 4, 5, 6, 7, 8, 9, 10, 11, 12, 13, 14, 15, 16, 17, 18, 19, 20, 21, 22] (by decide +kernel) rfl) hS ⟨fX_13, tU, rfl, trivial⟩ dX5_judge_25
  · refine lv_istore_n (lv' := [(3, .int 0), (0, .ref qx), (1, .int iA), (2, .int iB)]) hx hb dX5_judge_6 rfl hl (by decide) rfl (fun ls => ?_)
    clear hl
    intro hl
    refine lv_iload_n hx hb dX5_judge_7 rfl (lv_at hl 0 rfl) ?_
    refine lv_if_ne (tgt := 20) hx hb dX5_judge_8 (by decide) (fun h9 => absurd (by decide) h9) (fun _ => ?_)
    refine lv_aload_n hx hb dX5_judge_11 rfl (lv_at hl 1 rfl) ?_
    refine lv_iload_n hx hb dX5_judge_12 rfl (lv_at hl 2 rfl) ?_
    refine lv_iload_n hx hb dX5_judge_13 rfl (lv_at hl 3 rfl) ?_
    obtain ⟨h_15, k_16, hk_17, rfl, h_18, h_19⟩ := h_3
    obtain ⟨k_23, hk_24, hk_25, rfl⟩ := iv_nI 0 20 (by decide) (by decide) h_15
    refine cVi (As := [.int (nI k_16), .int (nI k_23)]) (rest := []) (b := qx) (q := (RX5, TX5, 9)) ⟨hx, hb, hml, hown, hts⟩ (c_X5_firstWrong l G cy (s.heap).size qx qt qk qp qs qa qr iKp iYe iTv qu qv iL iBs tU quw qun qug qua qur qum qut qus tA qtw qtn qtg qta qtr qtm qtt qts qsh qss qsa qse gE k_16 k_23 hB hPp (by first | omega | (simp only [nb_sr, np_sr, nb_wr, np_wr, nb_rd, np_rd, nb_ch, np_ch, nb_zr, np_zr, nb_za, np_za, nb_ey, np_ey, nb_hf, np_hf, nb_dd, np_dd, nb_so, np_so, nb_skn, np_skn, nb_swh, np_swh, nb_sgn, np_sgn, nb_ssd, np_ssd, nb_sgo, np_sgo, nb_sag, np_sag]; omega)) (by first | omega | (simp only [nb_sr, np_sr, nb_wr, np_wr, nb_rd, np_rd, nb_ch, np_ch, nb_zr, np_zr, nb_za, np_za, nb_ey, np_ey, nb_hf, np_hf, nb_dd, np_dd, nb_so, np_so, nb_skn, np_skn, nb_swh, np_swh, nb_sgn, np_sgn, nb_ssd, np_ssd, nb_sgo, np_sgo, nb_sag, np_sag]; omega))) L_X5_324 hN hP hD hS hA [0, 15, 16, 17, 18, 19, 20, 21, 22, 23, 24, 6, 7, 8, 9, 10, 11, 12, 13, 14, 2, 5] [false, true, false, true, true, false, false, false, false, false, false, false, false, false, false, false, false, false, false, false, false, false, false, false, false] rfl (by decide +kernel) rfl 0 4 rfl rfl rfl ⟨Nat.le_of_ble_eq_true rfl, Nat.le_of_ble_eq_true rfl⟩ hl.1 (Nat.le_of_ble_eq_true rfl) dX5_judge_14 ⟨Nat.le_of_ble_eq_true rfl, Nat.le_of_ble_eq_true rfl⟩ (fun r_26 u_28 H locs h_27 => ?_)
    clear hP hD hS
    intro hP hD hS
    obtain ⟨tX_29, rfl, h_30, h_27⟩ := h_27
    have hPD := pd_as [zzI cy qr 5 fR, zzI cy qsh 8 fH, zzI cy qss 8 fS, zzO qx 4 [.ref qt, .ref qk, .ref qp, .ref qs, .ref qa, .ref qr, .int iKp, .int iYe, .int iTv], zzO qp 0 [.ref qu, .ref qv, .int iL, .int iBs], zzO qu 3 [.int (nI (T_nb tX_29)), .int (nI (T_np tX_29)), .int (wb (T_wh tX_29)), .int (wb (T_gn tX_29)), .int (T_sd tX_29), .ref quw, .ref qun, .ref qug, .ref qua, .ref qur, .ref qum, .ref qut, .ref qus], zzI cy quw 8 (T_wo tX_29), zzI cy qun 8 (T_ne tX_29), zzI cy qug 8 (T_go tX_29), zzI cy qua 8 (T_ag tX_29), zzI cy qur 8 (T_re tX_29), zzI cy qum 8 (T_me tX_29), zzI cy qut 8 (T_te tX_29), zzI cy qus 64 (shF (T_kn tX_29)), zzO qt 3 [.int (nI (T_nb tA)), .int (nI (T_np tA)), .int (wb (T_wh tA)), .int (wb (T_gn tA)), .int (T_sd tA), .ref qtw, .ref qtn, .ref qtg, .ref qta, .ref qtr, .ref qtm, .ref qtt, .ref qts], zzI cy qtw 8 (T_wo tA), zzI cy qtn 8 (T_ne tA), zzI cy qtg 8 (T_go tA), zzI cy qta 8 (T_ag tA), zzI cy qtr 8 (T_re tA), zzI cy qtm 8 (T_me tA), zzI cy qtt 8 (T_te tA), zzI cy qts 64 (shF (T_kn tA)), zzO qs 1 [.ref qsh, .ref qss, .ref qsa, .ref qse], zzJ cy qse 320 gE] hP hD rfl
    clear hP hD
    obtain ⟨hP, hD⟩ := hPD
    refine lv_goto (tgt := 25) hx hb dX5_judge_17 (by decide) ?_
    exact endW (u := [zzO qx 4 [.ref qt, .ref qk, .ref qp, .ref qs, .ref qa, .ref qr, .int iKp, .int iYe, .int iTv], zzI cy qr 5 fR, zzO qs 1 [.ref qsh, .ref qss, .ref qsa, .ref qse], zzI cy qsh 8 fH, zzI cy qss 8 fS, zzJ cy qse 320 gE, zzO qt 3 [.int (nI (T_nb tA)), .int (nI (T_np tA)), .int (wb (T_wh tA)), .int (wb (T_gn tA)), .int (T_sd tA), .ref qtw, .ref qtn, .ref qtg, .ref qta, .ref qtr, .ref qtm, .ref qtt, .ref qts], zzI cy qtw 8 (T_wo tA), zzI cy qtn 8 (T_ne tA), zzI cy qtg 8 (T_go tA), zzI cy qta 8 (T_ag tA), zzI cy qtr 8 (T_re tA), zzI cy qtm 8 (T_me tA), zzI cy qtt 8 (T_te tA), zzI cy qts 64 (shF (T_kn tA)), zzO qp 0 [.ref qu, .ref qv, .int iL, .int iBs], zzO qu 3 [.int (nI (T_nb tX_29)), .int (nI (T_np tX_29)), .int (wb (T_wh tX_29)), .int (wb (T_gn tX_29)), .int (T_sd tX_29), .ref quw, .ref qun, .ref qug, .ref qua, .ref qur, .ref qum, .ref qut, .ref qus], zzI cy quw 8 (T_wo tX_29), zzI cy qun 8 (T_ne tX_29), zzI cy qug 8 (T_go tX_29), zzI cy qua 8 (T_ag tX_29), zzI cy qur 8 (T_re tX_29), zzI cy qum 8 (T_me tX_29), zzI cy qut 8 (T_te tX_29), zzI cy qus 64 (shF (T_kn tX_29))]) hx hb hr hlocks rfl (hP.sub [3, 0, 23, 1, 2, 24, 14, 15, 16, 17, 18, 19, 20, 21, 22, 4, 5, 6, 7, 8, 9, 10, 11, 12, 13] rfl) (hD.sub [3, 0, 23, 1, 2, 24, 14, 15, 16, 17, 18, 19, 20, 21, 22, 4, 5, 6, 7, 8, 9, 10, 11, 12, 13] (by decide +kernel) rfl) hS ⟨fR, tX_29, rfl, trivial⟩ dX5_judge_25
  · refine lv_istore_n (lv' := [(3, .int (-4)), (0, .ref qx), (1, .int iA), (2, .int iB)]) hx hb dX5_judge_6 rfl hl (by decide) rfl (fun ls => ?_)
    clear hl
    intro hl
    refine lv_iload_n hx hb dX5_judge_7 rfl (lv_at hl 0 rfl) ?_
    refine lv_if_ne (tgt := 20) hx hb dX5_judge_8 (by decide) (fun _ => ?_) (fun h9 => absurd h9 (by decide))
    refine lv_aload_n hx hb dX5_judge_20 rfl (lv_at hl 1 rfl) ?_
    refine lv_iload_n hx hb dX5_judge_21 rfl (lv_at hl 0 rfl) ?_
    refine cVi (As := [.int (-4)]) (rest := []) (b := qx) (q := (RX5, TX5, 9)) ⟨hx, hb, hml, hown, hts⟩ (c_X5_refuse4 l G cy (s.heap).size qx qt qk qp qs qa qr iKp iYe iTv fR) L_X5_56 hN hP hD hS hA [0, 1] [false, false, true, true, true, true, true, true, true, true, true, true, true, true, true, true, true, true, true, true, true, true, true, true, true] rfl (by decide +kernel) rfl 0 4 rfl rfl rfl ⟨Nat.le_of_ble_eq_true rfl, Nat.le_of_ble_eq_true rfl⟩ hl.1 (Nat.le_of_ble_eq_true rfl) dX5_judge_22 ⟨Nat.le_of_ble_eq_true rfl, Nat.le_of_ble_eq_true rfl⟩ (fun r_32 u_34 H locs h_33 => ?_)
    clear hP hD hS
    intro hP hD hS
    obtain ⟨fX_35, rfl, h_33⟩ := h_33
    have hPD := pd_as [zzO qs 1 [.ref qsh, .ref qss, .ref qsa, .ref qse], zzI cy qsh 8 fH, zzI cy qss 8 fS, zzJ cy qse 320 gE, zzO qt 3 [.int (nI (T_nb tA)), .int (nI (T_np tA)), .int (wb (T_wh tA)), .int (wb (T_gn tA)), .int (T_sd tA), .ref qtw, .ref qtn, .ref qtg, .ref qta, .ref qtr, .ref qtm, .ref qtt, .ref qts], zzI cy qtw 8 (T_wo tA), zzI cy qtn 8 (T_ne tA), zzI cy qtg 8 (T_go tA), zzI cy qta 8 (T_ag tA), zzI cy qtr 8 (T_re tA), zzI cy qtm 8 (T_me tA), zzI cy qtt 8 (T_te tA), zzI cy qts 64 (shF (T_kn tA)), zzO qp 0 [.ref qu, .ref qv, .int iL, .int iBs], zzO qu 3 [.int (nI (T_nb tU)), .int (nI (T_np tU)), .int (wb (T_wh tU)), .int (wb (T_gn tU)), .int (T_sd tU), .ref quw, .ref qun, .ref qug, .ref qua, .ref qur, .ref qum, .ref qut, .ref qus], zzI cy quw 8 (T_wo tU), zzI cy qun 8 (T_ne tU), zzI cy qug 8 (T_go tU), zzI cy qua 8 (T_ag tU), zzI cy qur 8 (T_re tU), zzI cy qum 8 (T_me tU), zzI cy qut 8 (T_te tU), zzI cy qus 64 (shF (T_kn tU)), zzO qx 4 [.ref qt, .ref qk, .ref qp, .ref qs, .ref qa, .ref qr, .int iKp, .int iYe, .int iTv], zzI cy qr 5 fX_35] hP hD rfl
    clear hP hD
    obtain ⟨hP, hD⟩ := hPD
    subst h_33
    exact endW (u := [zzO qx 4 [.ref qt, .ref qk, .ref qp, .ref qs, .ref qa, .ref qr, .int iKp, .int iYe, .int iTv], zzI cy qr 5 fX_35, zzO qs 1 [.ref qsh, .ref qss, .ref qsa, .ref qse], zzI cy qsh 8 fH, zzI cy qss 8 fS, zzJ cy qse 320 gE, zzO qt 3 [.int (nI (T_nb tA)), .int (nI (T_np tA)), .int (wb (T_wh tA)), .int (wb (T_gn tA)), .int (T_sd tA), .ref qtw, .ref qtn, .ref qtg, .ref qta, .ref qtr, .ref qtm, .ref qtt, .ref qts], zzI cy qtw 8 (T_wo tA), zzI cy qtn 8 (T_ne tA), zzI cy qtg 8 (T_go tA), zzI cy qta 8 (T_ag tA), zzI cy qtr 8 (T_re tA), zzI cy qtm 8 (T_me tA), zzI cy qtt 8 (T_te tA), zzI cy qts 64 (shF (T_kn tA)), zzO qp 0 [.ref qu, .ref qv, .int iL, .int iBs], zzO qu 3 [.int (nI (T_nb tU)), .int (nI (T_np tU)), .int (wb (T_wh tU)), .int (wb (T_gn tU)), .int (T_sd tU), .ref quw, .ref qun, .ref qug, .ref qua, .ref qur, .ref qum, .ref qut, .ref qus], zzI cy quw 8 (T_wo tU), zzI cy qun 8 (T_ne tU), zzI cy qug 8 (T_go tU), zzI cy qua 8 (T_ag tU), zzI cy qur 8 (T_re tU), zzI cy qum 8 (T_me tU), zzI cy qut 8 (T_te tU), zzI cy qus 64 (shF (T_kn tU))]) hx hb hr hlocks rfl (hP.sub [23, 24, 0, 1, 2, 3, 4, 5, 6, 7, 8, 9, 10, 11, 12, 13, 14, 15, 16, 17, 18, 19, 20, 21, 22] rfl) (hD.sub [23, 24, 0, 1, 2, 3, 4, 5, 6, 7, 8, 9, 10, 11, 12, 13, 14, 15, 16, 17, 18, 19, 20, 21, 22] (by decide +kernel) rfl) hS ⟨fX_35, tU, rfl, trivial⟩ dX5_judge_25
set_option maxHeartbeats 4000000 in
set_option maxRecDepth 100000 in
theorem p_X5_years (l : Launch) (G : va_G) (cy : Nat → ClassId) (sz : Nat) (qx : Nat) (qt : Nat) (qk : Nat) (qp : Nat) (qs : Nat) (qa : Nat) (qr : Nat) (iKp : Int32) (iYe : Int32) (iTv : Int32) (fR : Nat → Int32) (qsh : Nat) (qss : Nat) (qsa : Nat) (qse : Nat) (fH : Nat → Int32) (fA : Nat → Int32) (tA : TA) (qtw : Nat) (qtn : Nat) (qtg : Nat) (qta : Nat) (qtr : Nat) (qtm : Nat) (qtt : Nat) (qts : Nat) (iA : Int32) (iB : Int32)  (hB : T_nb tA ≤ 8) (hPp : T_np tA ≤ 8) : MW l yX5_years cX5_years 6 (some .int) 12 0 0 G cy [zzO qx 4 [.ref qt, .ref qk, .ref qp, .ref qs, .ref qa, .ref qr, .int iKp, .int iYe, .int iTv], zzI cy qr 5 fR, zzO qs 1 [.ref qsh, .ref qss, .ref qsa, .ref qse], zzI cy qsh 8 fH, zzI cy qsa 8 fA, zzO qt 3 [.int (nI (T_nb tA)), .int (nI (T_np tA)), .int (wb (T_wh tA)), .int (wb (T_gn tA)), .int (T_sd tA), .ref qtw, .ref qtn, .ref qtg, .ref qta, .ref qtr, .ref qtm, .ref qtt, .ref qts], zzI cy qtw 8 (T_wo tA), zzI cy qtn 8 (T_ne tA), zzI cy qtg 8 (T_go tA), zzI cy qta 8 (T_ag tA), zzI cy qtr 8 (T_re tA), zzI cy qtm 8 (T_me tA), zzI cy qtt 8 (T_te tA), zzI cy qts 64 (shF (T_kn tA))] sz [.ref qx, .int iA, .int iB] (Wi G (fun r u => ∃ (iX1 : Int32) (iX2 : Int32) (iX3 : Int32) (fX : Nat → Int32) (tN : TA), u = [zzO qx 4 [.ref qt, .ref qk, .ref qp, .ref qs, .ref qa, .ref qr, .int iX1, .int iX2, .int iX3], zzI cy qr 5 fX, zzO qs 1 [.ref qsh, .ref qss, .ref qsa, .ref qse], zzI cy qsh 8 fH, zzI cy qsa 8 fA, zzO qt 3 [.int (nI (T_nb tN)), .int (nI (T_np tN)), .int (wb (T_wh tN)), .int (wb (T_gn tN)), .int (T_sd tN), .ref qtw, .ref qtn, .ref qtg, .ref qta, .ref qtr, .ref qtm, .ref qtt, .ref qts], zzI cy qtw 8 (T_wo tN), zzI cy qtn 8 (T_ne tN), zzI cy qtg 8 (T_go tN), zzI cy qta 8 (T_ag tN), zzI cy qtr 8 (T_re tN), zzI cy qtm 8 (T_me tN), zzI cy qtt 8 (T_te tN), zzI cy qts 64 (shF (T_kn tN))] ∧ (PXyears fH fA tA iA iB r tN ∧ iX1 = iKp) ∧ (True))) := by
  refine enW RX5 (by decide) rfl (Nat.le_of_ble_eq_true rfl) (fun p e s m below meth c ls A hx hb hml hown hts hr hlocks hP hN hl hin hD hA hS => ?_)
  have hin : meth.name = _ := hin
  have hK := hN.1
  replace hl : lv_has ls 6 [(0, .ref qx), (1, .int iA), (2, .int iB)] := hl
  refine lv_iload_n hx hb dX5_years_0 rfl (lv_at hl 2 rfl) ?_
  refine lv_i2l (v := iB.toInt64) hx hb dX5_years_1 rfl ?_
  refine lv_lconst (v := 1) hx hb dX5_years_2 (by decide) ?_
  refine lv_ldc2 hx hb hown (hts _ m_t788) dX5_years_3 ?_
  refine kRi (rS (As := [.long iB.toInt64, .long 1, .long 20]) (rest := []) ⟨hx, hb, hml, hown, hts⟩ (c_X5_within l G cy iB.toInt64 1 20) L_X5_50 (preRS hN hP [] rfl) rfl ⟨Nat.le_of_ble_eq_true rfl, Nat.le_of_ble_eq_true rfl⟩ hl.1 (Nat.le_of_ble_eq_true rfl) dX5_years_6 ⟨Nat.le_of_ble_eq_true rfl, Nat.le_of_ble_eq_true rfl⟩) (fun r_1 h_2 => ?_)
  rcases h_2 with ⟨rfl, h_3⟩ | ⟨rfl, h_3⟩
  · obtain ⟨k_4, hk_5, hk_6, rfl⟩ := iv_nI 1 20 (by decide) (by decide) h_3
    refine lv_if_eq (tgt := 20) hx hb dX5_years_9 (by decide) (fun h9 => absurd h9 (by decide)) (fun _ => ?_)
    refine lv_aload_n hx hb dX5_years_12 rfl (lv_at hl 0 rfl) ?_
    refine lv_iload_n hx hb dX5_years_13 rfl (lv_at hl 1 rfl) ?_
    refine kRi (rV (As := [.int iA]) (rest := []) (b := qx) ⟨hx, hb, hml, hown, hts⟩ (c_X5_ruleFit l G cy qx qt qk qp qs qa qr iKp iYe iTv qsh qss qsa qse fH iA) L_X5_100 (preRV (q := (RX5, TX5, 9)) hN hP [0, 2, 3] rfl 0 4 rfl rfl) rfl ⟨Nat.le_of_ble_eq_true rfl, Nat.le_of_ble_eq_true rfl⟩ hl.1 (Nat.le_of_ble_eq_true rfl) dX5_years_14 ⟨Nat.le_of_ble_eq_true rfl, Nat.le_of_ble_eq_true rfl⟩) (fun r_8 h_9 => ?_)
    rcases h_9 with ⟨rfl, h_10⟩ | ⟨rfl, h_10⟩ | ⟨rfl, h_10⟩ | ⟨rfl, h_10⟩
    · refine lv_goto (tgt := 22) hx hb dX5_years_17 (by decide) ?_
      refine lv_istore_n (lv' := [(3, .int (-2)), (0, .ref qx), (1, .int iA), (2, .int (nI k_4))]) hx hb dX5_years_22 rfl hl (by decide) rfl (fun ls => ?_)
      clear hl
      intro hl
      refine lv_iload_n hx hb dX5_years_23 rfl (lv_at hl 0 rfl) ?_
      refine lv_if_eq (tgt := 33) hx hb dX5_years_24 (by decide) (fun h9 => absurd h9 (by decide)) (fun _ => ?_)
      refine lv_aload_n hx hb dX5_years_27 rfl (lv_at hl 1 rfl) ?_
      refine lv_iload_n hx hb dX5_years_28 rfl (lv_at hl 0 rfl) ?_
      refine cVi (As := [.int (-2)]) (rest := []) (b := qx) (q := (RX5, TX5, 9)) ⟨hx, hb, hml, hown, hts⟩ (c_X5_refuse2 l G cy (s.heap).size qx qt qk qp qs qa qr iKp iYe iTv fR) L_X5_56 hN hP hD hS hA [0, 1] [false, false, true, true, true, true, true, true, true, true, true, true, true, true] rfl (by decide +kernel) rfl 0 4 rfl rfl rfl ⟨Nat.le_of_ble_eq_true rfl, Nat.le_of_ble_eq_true rfl⟩ hl.1 (Nat.le_of_ble_eq_true rfl) dX5_years_29 ⟨Nat.le_of_ble_eq_true rfl, Nat.le_of_ble_eq_true rfl⟩ (fun r_12 u_14 H locs h_13 => ?_)
      clear hP hD hS
      intro hP hD hS
      obtain ⟨fX_15, rfl, h_13⟩ := h_13
      have hPD := pd_as [zzO qs 1 [.ref qsh, .ref qss, .ref qsa, .ref qse], zzI cy qsh 8 fH, zzI cy qsa 8 fA, zzO qt 3 [.int (nI (T_nb tA)), .int (nI (T_np tA)), .int (wb (T_wh tA)), .int (wb (T_gn tA)), .int (T_sd tA), .ref qtw, .ref qtn, .ref qtg, .ref qta, .ref qtr, .ref qtm, .ref qtt, .ref qts], zzI cy qtw 8 (T_wo tA), zzI cy qtn 8 (T_ne tA), zzI cy qtg 8 (T_go tA), zzI cy qta 8 (T_ag tA), zzI cy qtr 8 (T_re tA), zzI cy qtm 8 (T_me tA), zzI cy qtt 8 (T_te tA), zzI cy qts 64 (shF (T_kn tA)), zzO qx 4 [.ref qt, .ref qk, .ref qp, .ref qs, .ref qa, .ref qr, .int iKp, .int iYe, .int iTv], zzI cy qr 5 fX_15] hP hD rfl
      clear hP hD
      obtain ⟨hP, hD⟩ := hPD
      subst h_13
      exact endW (u := [zzO qx 4 [.ref qt, .ref qk, .ref qp, .ref qs, .ref qa, .ref qr, .int iKp, .int iYe, .int iTv], zzI cy qr 5 fX_15, zzO qs 1 [.ref qsh, .ref qss, .ref qsa, .ref qse], zzI cy qsh 8 fH, zzI cy qsa 8 fA, zzO qt 3 [.int (nI (T_nb tA)), .int (nI (T_np tA)), .int (wb (T_wh tA)), .int (wb (T_gn tA)), .int (T_sd tA), .ref qtw, .ref qtn, .ref qtg, .ref qta, .ref qtr, .ref qtm, .ref qtt, .ref qts], zzI cy qtw 8 (T_wo tA), zzI cy qtn 8 (T_ne tA), zzI cy qtg 8 (T_go tA), zzI cy qta 8 (T_ag tA), zzI cy qtr 8 (T_re tA), zzI cy qtm 8 (T_me tA), zzI cy qtt 8 (T_te tA), zzI cy qts 64 (shF (T_kn tA))]) hx hb hr hlocks rfl (hP.sub [12, 13, 0, 1, 2, 3, 4, 5, 6, 7, 8, 9, 10, 11] rfl) (hD.sub [12, 13, 0, 1, 2, 3, 4, 5, 6, 7, 8, 9, 10, 11] (by decide +kernel) rfl) hS ⟨iKp, iYe, iTv, fX_15, tA, rfl, ⟨Or.inl ⟨rfl, Or.inr h_10, rfl⟩, rfl⟩, trivial⟩ dX5_years_32
    · obtain ⟨k_16, hk_17, rfl, h_18⟩ := h_10
      refine lv_goto (tgt := 22) hx hb dX5_years_17 (by decide) ?_
      refine lv_istore_n (lv' := [(3, .int (-3)), (0, .ref qx), (1, .int (nI k_16)), (2, .int (nI k_4))]) hx hb dX5_years_22 rfl hl (by decide) rfl (fun ls => ?_)
      clear hl
      intro hl
      refine lv_iload_n hx hb dX5_years_23 rfl (lv_at hl 0 rfl) ?_
      refine lv_if_eq (tgt := 33) hx hb dX5_years_24 (by decide) (fun h9 => absurd h9 (by decide)) (fun _ => ?_)
      refine lv_aload_n hx hb dX5_years_27 rfl (lv_at hl 1 rfl) ?_
      refine lv_iload_n hx hb dX5_years_28 rfl (lv_at hl 0 rfl) ?_
      refine cVi (As := [.int (-3)]) (rest := []) (b := qx) (q := (RX5, TX5, 9)) ⟨hx, hb, hml, hown, hts⟩ (c_X5_refuse3 l G cy (s.heap).size qx qt qk qp qs qa qr iKp iYe iTv fR) L_X5_56 hN hP hD hS hA [0, 1] [false, false, true, true, true, true, true, true, true, true, true, true, true, true] rfl (by decide +kernel) rfl 0 4 rfl rfl rfl ⟨Nat.le_of_ble_eq_true rfl, Nat.le_of_ble_eq_true rfl⟩ hl.1 (Nat.le_of_ble_eq_true rfl) dX5_years_29 ⟨Nat.le_of_ble_eq_true rfl, Nat.le_of_ble_eq_true rfl⟩ (fun r_20 u_22 H locs h_21 => ?_)
      clear hP hD hS
      intro hP hD hS
      obtain ⟨fX_23, rfl, h_21⟩ := h_21
      have hPD := pd_as [zzO qs 1 [.ref qsh, .ref qss, .ref qsa, .ref qse], zzI cy qsh 8 fH, zzI cy qsa 8 fA, zzO qt 3 [.int (nI (T_nb tA)), .int (nI (T_np tA)), .int (wb (T_wh tA)), .int (wb (T_gn tA)), .int (T_sd tA), .ref qtw, .ref qtn, .ref qtg, .ref qta, .ref qtr, .ref qtm, .ref qtt, .ref qts], zzI cy qtw 8 (T_wo tA), zzI cy qtn 8 (T_ne tA), zzI cy qtg 8 (T_go tA), zzI cy qta 8 (T_ag tA), zzI cy qtr 8 (T_re tA), zzI cy qtm 8 (T_me tA), zzI cy qtt 8 (T_te tA), zzI cy qts 64 (shF (T_kn tA)), zzO qx 4 [.ref qt, .ref qk, .ref qp, .ref qs, .ref qa, .ref qr, .int iKp, .int iYe, .int iTv], zzI cy qr 5 fX_23] hP hD rfl
      clear hP hD
      obtain ⟨hP, hD⟩ := hPD
      subst h_21
      exact endW (u := [zzO qx 4 [.ref qt, .ref qk, .ref qp, .ref qs, .ref qa, .ref qr, .int iKp, .int iYe, .int iTv], zzI cy qr 5 fX_23, zzO qs 1 [.ref qsh, .ref qss, .ref qsa, .ref qse], zzI cy qsh 8 fH, zzI cy qsa 8 fA, zzO qt 3 [.int (nI (T_nb tA)), .int (nI (T_np tA)), .int (wb (T_wh tA)), .int (wb (T_gn tA)), .int (T_sd tA), .ref qtw, .ref qtn, .ref qtg, .ref qta, .ref qtr, .ref qtm, .ref qtt, .ref qts], zzI cy qtw 8 (T_wo tA), zzI cy qtn 8 (T_ne tA), zzI cy qtg 8 (T_go tA), zzI cy qta 8 (T_ag tA), zzI cy qtr 8 (T_re tA), zzI cy qtm 8 (T_me tA), zzI cy qtt 8 (T_te tA), zzI cy qts 64 (shF (T_kn tA))]) hx hb hr hlocks rfl (hP.sub [12, 13, 0, 1, 2, 3, 4, 5, 6, 7, 8, 9, 10, 11] rfl) (hD.sub [12, 13, 0, 1, 2, 3, 4, 5, 6, 7, 8, 9, 10, 11] (by decide +kernel) rfl) hS ⟨iKp, iYe, iTv, fX_23, tA, rfl, ⟨Or.inr (Or.inl ⟨rfl, h_3, ⟨k_16, hk_17, rfl, h_18⟩, rfl⟩), rfl⟩, trivial⟩ dX5_years_32
    · obtain ⟨k_24, hk_25, rfl, h_26, h_27⟩ := h_10
      refine lv_goto (tgt := 22) hx hb dX5_years_17 (by decide) ?_
      refine lv_istore_n (lv' := [(3, .int 0), (0, .ref qx), (1, .int (nI k_24)), (2, .int (nI k_4))]) hx hb dX5_years_22 rfl hl (by decide) rfl (fun ls => ?_)
      clear hl
      intro hl
      refine lv_iload_n hx hb dX5_years_23 rfl (lv_at hl 0 rfl) ?_
      refine lv_if_eq (tgt := 33) hx hb dX5_years_24 (by decide) (fun _ => ?_) (fun h9 => absurd (by decide) h9)
      refine lv_iconst (v := 0) hx hb dX5_years_33 (by decide) ?_
      refine lv_istore (lv' := [(4, .int 0), (3, .int 0), (0, .ref qx), (1, .int (nI k_24)), (2, .int (nI k_4))]) hx hb dX5_years_34 hl (by decide) rfl (fun ls => ?_)
      clear hl
      intro hl
      refine lv_iconst (v := 0) hx hb dX5_years_36 (by decide) ?_
      refine lv_istore (lv' := [(5, .int 0), (4, .int 0), (3, .int 0), (0, .ref qx), (1, .int (nI k_24)), (2, .int (nI k_4))]) hx hb dX5_years_37 hl (by decide) rfl (fun ls => ?_)
      clear hl
      intro hl
      have lp_29 : ∀ (n_30 : Nat) (j_32 : Nat) (tJ_33 : TA) (xS_34 : Int32) (xY_35 : Int32), 20 - j_32 < n_30 → j_32 ≤ k_4 → yrG (fH k_24 - 10) (fA k_24) (k_4 - j_32) tJ_33 xS_34 = yrG (fH k_24 - 10) (fA k_24) k_4 tA 0 → T_nb tJ_33 = T_nb tA ∧ T_np tJ_33 = T_np tA → ∀ (H : Heap) (locs : List Loc) (ls : Array Slot), va_P G CL [zzO qx 4 [.ref qt, .ref qk, .ref qp, .ref qs, .ref qa, .ref qr, .int iKp, .int xY_35, .int iTv], zzI cy qr 5 fR, zzO qs 1 [.ref qsh, .ref qss, .ref qsa, .ref qse], zzI cy qsh 8 fH, zzI cy qsa 8 fA, zzO qt 3 [.int (nI (T_nb tJ_33)), .int (nI (T_np tJ_33)), .int (wb (T_wh tJ_33)), .int (wb (T_gn tJ_33)), .int (T_sd tJ_33), .ref qtw, .ref qtn, .ref qtg, .ref qta, .ref qtr, .ref qtm, .ref qtt, .ref qts], zzI cy qtw 8 (T_wo tJ_33), zzI cy qtn 8 (T_ne tJ_33), zzI cy qtg 8 (T_go tJ_33), zzI cy qta 8 (T_ag tJ_33), zzI cy qtr 8 (T_re tJ_33), zzI cy qtm 8 (T_me tJ_33), zzI cy qtt 8 (T_te tJ_33), zzI cy qts 64 (shF (T_kn tJ_33))] H → va_D A [zzO qx 4 [.ref qt, .ref qk, .ref qp, .ref qs, .ref qa, .ref qr, .int iKp, .int xY_35, .int iTv], zzI cy qr 5 fR, zzO qs 1 [.ref qsh, .ref qss, .ref qsa, .ref qse], zzI cy qsh 8 fH, zzI cy qsa 8 fA, zzO qt 3 [.int (nI (T_nb tJ_33)), .int (nI (T_np tJ_33)), .int (wb (T_wh tJ_33)), .int (wb (T_gn tJ_33)), .int (T_sd tJ_33), .ref qtw, .ref qtn, .ref qtg, .ref qta, .ref qtr, .ref qtm, .ref qtt, .ref qts], zzI cy qtw 8 (T_wo tJ_33), zzI cy qtn 8 (T_ne tJ_33), zzI cy qtg 8 (T_go tJ_33), zzI cy qta 8 (T_ag tJ_33), zzI cy qtr 8 (T_re tJ_33), zzI cy qtm 8 (T_me tJ_33), zzI cy qtt 8 (T_te tJ_33), zzI cy qts 64 (shF (T_kn tJ_33))] → va_S A s.heap H locs → lv_has ls 6 [(5, .int (nI j_32)), (4, .int xS_34), (3, .int 0), (0, .ref qx), (1, .int (nI k_24)), (2, .int (nI k_4))] → W p l e (Rm 12 0 0) s m (List.toArray (α := Value) [.ref qx, .int (nI k_24), .int (nI k_4)]) below meth c H locs 0 0 (MQ below ((Wi G (fun r u => ∃ (iX1 : Int32) (iX2 : Int32) (iX3 : Int32) (fX : Nat → Int32) (tN : TA), u = [zzO qx 4 [.ref qt, .ref qk, .ref qp, .ref qs, .ref qa, .ref qr, .int iX1, .int iX2, .int iX3], zzI cy qr 5 fX, zzO qs 1 [.ref qsh, .ref qss, .ref qsa, .ref qse], zzI cy qsh 8 fH, zzI cy qsa 8 fA, zzO qt 3 [.int (nI (T_nb tN)), .int (nI (T_np tN)), .int (wb (T_wh tN)), .int (wb (T_gn tN)), .int (T_sd tN), .ref qtw, .ref qtn, .ref qtg, .ref qta, .ref qtr, .ref qtm, .ref qtt, .ref qts], zzI cy qtw 8 (T_wo tN), zzI cy qtn 8 (T_ne tN), zzI cy qtg 8 (T_go tN), zzI cy qta 8 (T_ag tN), zzI cy qtr 8 (T_re tN), zzI cy qtm 8 (T_me tN), zzI cy qtt 8 (T_te tN), zzI cy qts 64 (shF (T_kn tN))] ∧ (PXyears fH fA tA (nI k_24) (nI k_4) r tN ∧ iX1 = iKp) ∧ (True))) A) (List.toArray (α := Value) [.ref qx, .int (nI k_24), .int (nI k_4)]) s 0 0 A) (F0 m 39 ls []) := by
        intro n_30
        induction n_30 with
        | zero => intro j_32 tJ_33 xS_34 xY_35 hm9; exact absurd hm9 (Nat.not_lt_zero _)
        | succ n_30 ih_31 =>
          intro j_32 tJ_33 xS_34 xY_35 hm_39 hj_36 hT_37 hn_38 H locs ls hP hD hS hl
          refine lv_iload hx hb dX5_years_39 (lv_at hl 0 rfl) ?_
          refine lv_iload_n hx hb dX5_years_41 rfl (lv_at hl 5 rfl) ?_
          refine lv_icmp_ge (tgt := 113) hx hb dX5_years_42 (by decide) (fun c_40 => ?_) (fun c_40 => ?_)
          · have hlt_41 : j_32 = k_4 := Nat.le_antisymm (by omega) (lp_ge rfl rfl (by omega) (by omega) c_40)
            have hlt_41r : yrG (fH k_24 - 10) (fA k_24) k_4 tA 0 = (tJ_33, xS_34) := by rw [← hT_37, hlt_41, Nat.sub_self]; rfl
            refine lv_aload_n hx hb dX5_years_113 rfl (lv_at hl 3 rfl) ?_
            refine lv_dup hx hb dX5_years_114 rfl ?_
            refine va_get (D := G) (ci := 4) (v := .int iTv) (C := RX5) (T := TX5) (N := 9) hx hb hts iX_X5 hown hK hP 0 rfl rfl 8 (by decide) (hts _ m_t182) (fun _ h9 => h9) rfl dX5_years_115 ?_
            refine lv_iload hx hb dX5_years_118 (lv_at hl 1 rfl) ?_
            refine lv_iadd hx hb dX5_years_120 ?_
            refine va_put (D := G) (ci := 4) (v := .int (iTv + xS_34)) (ty := .int) (C := RX5) (T := TX5) (N := 9) hx hb hts iX_X5 tyX5 tyX5_ok nmX5 hown hK hP hD hS 0 rfl rfl 8 (by decide) (hts _ m_t182) (fun _ h9 => h9) rfl (by decide +kernel) rfl rfl (Nat.le_of_ble_eq_true rfl) dX5_years_121 (fun H locs => ?_)
            clear hP hD hS
            intro hP hD hS
            have hPD := pd_as [zzO qx 4 [.ref qt, .ref qk, .ref qp, .ref qs, .ref qa, .ref qr, .int iKp, .int xY_35, .int (iTv + xS_34)], zzI cy qr 5 fR, zzO qs 1 [.ref qsh, .ref qss, .ref qsa, .ref qse], zzI cy qsh 8 fH, zzI cy qsa 8 fA, zzO qt 3 [.int (nI (T_nb tJ_33)), .int (nI (T_np tJ_33)), .int (wb (T_wh tJ_33)), .int (wb (T_gn tJ_33)), .int (T_sd tJ_33), .ref qtw, .ref qtn, .ref qtg, .ref qta, .ref qtr, .ref qtm, .ref qtt, .ref qts], zzI cy qtw 8 (T_wo tJ_33), zzI cy qtn 8 (T_ne tJ_33), zzI cy qtg 8 (T_go tJ_33), zzI cy qta 8 (T_ag tJ_33), zzI cy qtr 8 (T_re tJ_33), zzI cy qtm 8 (T_me tJ_33), zzI cy qtt 8 (T_te tJ_33), zzI cy qts 64 (shF (T_kn tJ_33))] hP hD rfl
            clear hP hD
            obtain ⟨hP, hD⟩ := hPD
            refine lv_iload hx hb dX5_years_124 (lv_at hl 1 rfl) ?_
            exact endW (u := [zzO qx 4 [.ref qt, .ref qk, .ref qp, .ref qs, .ref qa, .ref qr, .int iKp, .int xY_35, .int (iTv + xS_34)], zzI cy qr 5 fR, zzO qs 1 [.ref qsh, .ref qss, .ref qsa, .ref qse], zzI cy qsh 8 fH, zzI cy qsa 8 fA, zzO qt 3 [.int (nI (T_nb tJ_33)), .int (nI (T_np tJ_33)), .int (wb (T_wh tJ_33)), .int (wb (T_gn tJ_33)), .int (T_sd tJ_33), .ref qtw, .ref qtn, .ref qtg, .ref qta, .ref qtr, .ref qtm, .ref qtt, .ref qts], zzI cy qtw 8 (T_wo tJ_33), zzI cy qtn 8 (T_ne tJ_33), zzI cy qtg 8 (T_go tJ_33), zzI cy qta 8 (T_ag tJ_33), zzI cy qtr 8 (T_re tJ_33), zzI cy qtm 8 (T_me tJ_33), zzI cy qtt 8 (T_te tJ_33), zzI cy qts 64 (shF (T_kn tJ_33))]) hx hb hr hlocks rfl (hP.sub [0, 1, 2, 3, 4, 5, 6, 7, 8, 9, 10, 11, 12, 13] rfl) (hD.sub [0, 1, 2, 3, 4, 5, 6, 7, 8, 9, 10, 11, 12, 13] (by decide +kernel) rfl) hS ⟨iKp, xY_35, iTv + xS_34, fR, tJ_33, rfl, ⟨Or.inr (Or.inr (Or.inr ⟨k_24, k_4, hk_25, rfl, h_26, h_27, by omega, by omega, rfl, hlt_41r.symm⟩)), rfl⟩, trivial⟩ dX5_years_126
          · have hlt_42 : j_32 < k_4 := lp_lt rfl rfl (by omega) (by omega) c_40
            obtain ⟨hlt_42b, hlt_42p⟩ := id hn_38
            refine lv_aload_n hx hb dX5_years_45 rfl (lv_at hl 3 rfl) ?_
            refine va_get (D := G) (ci := 4) (v := .ref qt) (C := RX5) (T := TX5) (N := 9) hx hb hts iX_X5 hown hK hP 0 rfl rfl 0 (by decide) (hts _ m_t174) (fun _ h9 => h9) rfl dX5_years_46 ?_
            refine lv_aload_n hx hb dX5_years_49 rfl (lv_at hl 3 rfl) ?_
            refine va_get (D := G) (ci := 4) (v := .ref qs) (C := RX5) (T := TX5) (N := 9) hx hb hts iX_X5 hown hK hP 0 rfl rfl 3 (by decide) (hts _ m_t177) (fun _ h9 => h9) rfl dX5_years_50 ?_
            refine lv_iload_n hx hb dX5_years_53 rfl (lv_at hl 4 rfl) ?_
            refine kRi (rV (As := [.int (nI k_24)]) (rest := [.ref qt]) (b := qs) ⟨hx, hb, hml, hown, hts⟩ (c_X2_kindIn l G cy qs qsh qss qsa qse fH k_24 (by first | omega | (simp only [nb_sr, np_sr, nb_wr, np_wr, nb_rd, np_rd, nb_ch, np_ch, nb_zr, np_zr, nb_za, np_za, nb_ey, np_ey, nb_hf, np_hf, nb_dd, np_dd, nb_so, np_so, nb_skn, np_skn, nb_swh, np_swh, nb_sgn, np_sgn, nb_ssd, np_ssd, nb_sgo, np_sgo, nb_sag, np_sag]; omega))) L_X5_103 (preRV (q := (RX2, TX2, 4)) hN hP [2, 3] rfl 2 1 rfl rfl) rfl ⟨Nat.le_of_ble_eq_true rfl, Nat.le_of_ble_eq_true rfl⟩ hl.1 (Nat.le_of_ble_eq_true rfl) dX5_years_54 ⟨Nat.le_of_ble_eq_true rfl, Nat.le_of_ble_eq_true rfl⟩) (fun r_43 h_44 => ?_)
            subst h_44
            refine lv_aload_n hx hb dX5_years_57 rfl (lv_at hl 3 rfl) ?_
            refine va_get (D := G) (ci := 4) (v := .ref qs) (C := RX5) (T := TX5) (N := 9) hx hb hts iX_X5 hown hK hP 0 rfl rfl 3 (by decide) (hts _ m_t177) (fun _ h9 => h9) rfl dX5_years_58 ?_
            refine va_getN (D := G) (ci := 1) (v := .ref qsa) (C := RX2) (T := TX2) (N := 4) hx hb hts iX_X2 hown hK hP 2 rfl rfl 2 (by decide) (va_Nw.use rfl (hN.2.1 (RX5, 112, "EachBookOnce$Shelves", "amount", "[I") (List.mem_of_getElem? (i := 28) rfl))) (fun _ h9 => h9) rfl dX5_years_61 ?_
            refine lv_iload_n hx hb dX5_years_64 rfl (lv_at hl 4 rfl) ?_
            refine va_iald hx hb hK hP 4 0 rfl rfl (in8 (by omega)) dX5_years_65 ?_
            refine lv_seti (v := fA k_24) (congrArg fA (cl8 (by omega))) ?_
            refine cSi (As := [.ref qt, .int ((fH k_24) - 10), .int (fA k_24)]) (rest := []) ⟨hx, hb, hml, hown, hts⟩ (c_X1_act l G cy (H).size qt tJ_33 qtw qtn qtg qta qtr qtm qtt qts ((fH k_24) - 10) (fA k_24) (by first | omega | (simp only [nb_sr, np_sr, nb_wr, np_wr, nb_rd, np_rd, nb_ch, np_ch, nb_zr, np_zr, nb_za, np_za, nb_ey, np_ey, nb_hf, np_hf, nb_dd, np_dd, nb_so, np_so, nb_skn, np_skn, nb_swh, np_swh, nb_sgn, np_sgn, nb_ssd, np_ssd, nb_sgo, np_sgo, nb_sag, np_sag]; omega)) (by first | omega | (simp only [nb_sr, np_sr, nb_wr, np_wr, nb_rd, np_rd, nb_ch, np_ch, nb_zr, np_zr, nb_za, np_za, nb_ey, np_ey, nb_hf, np_hf, nb_dd, np_dd, nb_so, np_so, nb_skn, np_skn, nb_swh, np_swh, nb_sgn, np_sgn, nb_ssd, np_ssd, nb_sgo, np_sgo, nb_sag, np_sag]; omega))) L_X5_119 hN hP hD hS hA [5, 6, 7, 8, 9, 10, 11, 12, 13] [true, true, true, true, true, false, false, false, false, false, false, false, false, false] rfl (by decide +kernel) rfl rfl ⟨Nat.le_of_ble_eq_true rfl, Nat.le_of_ble_eq_true rfl⟩ hl.1 (Nat.le_of_ble_eq_true rfl) dX5_years_66 ⟨Nat.le_of_ble_eq_true rfl, Nat.le_of_ble_eq_true rfl⟩ (fun r_45 u_47 H locs h_46 => ?_)
            clear hP hD hS
            intro hP hD hS
            obtain ⟨rfl, h_46⟩ := h_46
            have hPD := pd_as [zzO qx 4 [.ref qt, .ref qk, .ref qp, .ref qs, .ref qa, .ref qr, .int iKp, .int xY_35, .int iTv], zzI cy qr 5 fR, zzO qs 1 [.ref qsh, .ref qss, .ref qsa, .ref qse], zzI cy qsh 8 fH, zzI cy qsa 8 fA, zzO qt 3 [.int (nI (T_nb ((zact tJ_33 ((fH k_24) - 10) (fA k_24)).1))), .int (nI (T_np ((zact tJ_33 ((fH k_24) - 10) (fA k_24)).1))), .int (wb (T_wh ((zact tJ_33 ((fH k_24) - 10) (fA k_24)).1))), .int (wb (T_gn ((zact tJ_33 ((fH k_24) - 10) (fA k_24)).1))), .int (T_sd ((zact tJ_33 ((fH k_24) - 10) (fA k_24)).1)), .ref qtw, .ref qtn, .ref qtg, .ref qta, .ref qtr, .ref qtm, .ref qtt, .ref qts], zzI cy qtw 8 (T_wo ((zact tJ_33 ((fH k_24) - 10) (fA k_24)).1)), zzI cy qtn 8 (T_ne ((zact tJ_33 ((fH k_24) - 10) (fA k_24)).1)), zzI cy qtg 8 (T_go ((zact tJ_33 ((fH k_24) - 10) (fA k_24)).1)), zzI cy qta 8 (T_ag ((zact tJ_33 ((fH k_24) - 10) (fA k_24)).1)), zzI cy qtr 8 (T_re ((zact tJ_33 ((fH k_24) - 10) (fA k_24)).1)), zzI cy qtm 8 (T_me ((zact tJ_33 ((fH k_24) - 10) (fA k_24)).1)), zzI cy qtt 8 (T_te ((zact tJ_33 ((fH k_24) - 10) (fA k_24)).1)), zzI cy qts 64 (shF (T_kn ((zact tJ_33 ((fH k_24) - 10) (fA k_24)).1)))] hP hD rfl
            clear hP hD
            obtain ⟨hP, hD⟩ := hPD
            subst h_46
            refine lv_pop hx hb dX5_years_69 rfl ?_
            refine lv_iload hx hb dX5_years_70 (lv_at hl 1 rfl) ?_
            refine lv_aload_n hx hb dX5_years_72 rfl (lv_at hl 3 rfl) ?_
            refine va_get (D := G) (ci := 4) (v := .ref qt) (C := RX5) (T := TX5) (N := 9) hx hb hts iX_X5 hown hK hP 0 rfl rfl 0 (by decide) (hts _ m_t174) (fun _ h9 => h9) rfl dX5_years_73 ?_
            refine kRi (rV (As := []) (rest := [.int xS_34]) (b := qt) ⟨hx, hb, hml, hown, hts⟩ (c_X4_worthNow l G cy qt ((zact tJ_33 ((fH k_24) - 10) (fA k_24)).1) qtw qtn qtg qta qtr qtm qtt qts (by first | omega | (simp only [nb_sr, np_sr, nb_wr, np_wr, nb_rd, np_rd, nb_ch, np_ch, nb_zr, np_zr, nb_za, np_za, nb_ey, np_ey, nb_hf, np_hf, nb_dd, np_dd, nb_so, np_so, nb_skn, np_skn, nb_swh, np_swh, nb_sgn, np_sgn, nb_ssd, np_ssd, nb_sgo, np_sgo, nb_sag, np_sag]; omega)) (by first | omega | (simp only [nb_sr, np_sr, nb_wr, np_wr, nb_rd, np_rd, nb_ch, np_ch, nb_zr, np_zr, nb_za, np_za, nb_ey, np_ey, nb_hf, np_hf, nb_dd, np_dd, nb_so, np_so, nb_skn, np_skn, nb_swh, np_swh, nb_sgn, np_sgn, nb_ssd, np_ssd, nb_sgo, np_sgo, nb_sag, np_sag]; omega))) L_X5_123 (preRV (q := (RX4, TX4, 13)) hN hP [5, 6, 13] rfl 5 3 rfl rfl) rfl ⟨Nat.le_of_ble_eq_true rfl, Nat.le_of_ble_eq_true rfl⟩ hl.1 (Nat.le_of_ble_eq_true rfl) dX5_years_76 ⟨Nat.le_of_ble_eq_true rfl, Nat.le_of_ble_eq_true rfl⟩) (fun r_48 h_49 => ?_)
            subst h_49
            refine lv_iadd hx hb dX5_years_79 ?_
            refine lv_istore (lv' := [(4, .int (xS_34 + (zval ((zact tJ_33 ((fH k_24) - 10) (fA k_24)).1)))), (5, .int (nI j_32)), (3, .int 0), (0, .ref qx), (1, .int (nI k_24)), (2, .int (nI k_4))]) hx hb dX5_years_80 hl (by decide) rfl (fun ls => ?_)
            clear hl
            intro hl
            refine lv_aload_n hx hb dX5_years_82 rfl (lv_at hl 3 rfl) ?_
            refine va_get (D := G) (ci := 4) (v := .ref qt) (C := RX5) (T := TX5) (N := 9) hx hb hts iX_X5 hown hK hP 0 rfl rfl 0 (by decide) (hts _ m_t174) (fun _ h9 => h9) rfl dX5_years_83 ?_
            refine cVv (As := []) (rest := []) (b := qt) (q := (RX4, TX4, 13)) ⟨hx, hb, hml, hown, hts⟩ (c_X4_drawDeaths l G cy (H).size qt ((zact tJ_33 ((fH k_24) - 10) (fA k_24)).1) qtw qtn qtg qta qtr qtm qtt qts (by first | omega | (simp only [nb_sr, np_sr, nb_wr, np_wr, nb_rd, np_rd, nb_ch, np_ch, nb_zr, np_zr, nb_za, np_za, nb_ey, np_ey, nb_hf, np_hf, nb_dd, np_dd, nb_so, np_so, nb_skn, np_skn, nb_swh, np_swh, nb_sgn, np_sgn, nb_ssd, np_ssd, nb_sgo, np_sgo, nb_sag, np_sag]; omega))) L_X5_329 hN hP hD hS hA [5, 6, 7, 8, 9, 10, 11, 12, 13] [true, true, true, true, true, false, false, false, false, false, false, false, false, false] rfl (by decide +kernel) rfl 5 3 rfl rfl rfl ⟨Nat.le_of_ble_eq_true rfl, Nat.le_of_ble_eq_true rfl⟩ hl.1 (Nat.le_of_ble_eq_true rfl) dX5_years_86 ⟨Nat.le_of_ble_eq_true rfl, Nat.le_of_ble_eq_true rfl⟩ (fun u_52 H locs h_51 => ?_)
            clear hP hD hS
            intro hP hD hS
            subst h_51
            have hPD := pd_as [zzO qx 4 [.ref qt, .ref qk, .ref qp, .ref qs, .ref qa, .ref qr, .int iKp, .int xY_35, .int iTv], zzI cy qr 5 fR, zzO qs 1 [.ref qsh, .ref qss, .ref qsa, .ref qse], zzI cy qsh 8 fH, zzI cy qsa 8 fA, zzO qt 3 [.int (nI (T_nb (zdd ((zact tJ_33 ((fH k_24) - 10) (fA k_24)).1)))), .int (nI (T_np (zdd ((zact tJ_33 ((fH k_24) - 10) (fA k_24)).1)))), .int (wb (T_wh (zdd ((zact tJ_33 ((fH k_24) - 10) (fA k_24)).1)))), .int (wb (T_gn (zdd ((zact tJ_33 ((fH k_24) - 10) (fA k_24)).1)))), .int (T_sd (zdd ((zact tJ_33 ((fH k_24) - 10) (fA k_24)).1))), .ref qtw, .ref qtn, .ref qtg, .ref qta, .ref qtr, .ref qtm, .ref qtt, .ref qts], zzI cy qtw 8 (T_wo (zdd ((zact tJ_33 ((fH k_24) - 10) (fA k_24)).1))), zzI cy qtn 8 (T_ne (zdd ((zact tJ_33 ((fH k_24) - 10) (fA k_24)).1))), zzI cy qtg 8 (T_go (zdd ((zact tJ_33 ((fH k_24) - 10) (fA k_24)).1))), zzI cy qta 8 (T_ag (zdd ((zact tJ_33 ((fH k_24) - 10) (fA k_24)).1))), zzI cy qtr 8 (T_re (zdd ((zact tJ_33 ((fH k_24) - 10) (fA k_24)).1))), zzI cy qtm 8 (T_me (zdd ((zact tJ_33 ((fH k_24) - 10) (fA k_24)).1))), zzI cy qtt 8 (T_te (zdd ((zact tJ_33 ((fH k_24) - 10) (fA k_24)).1))), zzI cy qts 64 (shF (T_kn (zdd ((zact tJ_33 ((fH k_24) - 10) (fA k_24)).1))))] hP hD rfl
            clear hP hD
            obtain ⟨hP, hD⟩ := hPD
            refine lv_aload_n hx hb dX5_years_89 rfl (lv_at hl 3 rfl) ?_
            refine va_get (D := G) (ci := 4) (v := .ref qt) (C := RX5) (T := TX5) (N := 9) hx hb hts iX_X5 hown hK hP 0 rfl rfl 0 (by decide) (hts _ m_t174) (fun _ h9 => h9) rfl dX5_years_90 ?_
            refine cVi (As := []) (rest := []) (b := qt) (q := (RX4, TX4, 13)) ⟨hx, hb, hml, hown, hts⟩ (c_X4_endYear l G cy (H).size qt (zdd ((zact tJ_33 ((fH k_24) - 10) (fA k_24)).1)) qtw qtn qtg qta qtr qtm qtt qts (by first | omega | (simp only [nb_sr, np_sr, nb_wr, np_wr, nb_rd, np_rd, nb_ch, np_ch, nb_zr, np_zr, nb_za, np_za, nb_ey, np_ey, nb_hf, np_hf, nb_dd, np_dd, nb_so, np_so, nb_skn, np_skn, nb_swh, np_swh, nb_sgn, np_sgn, nb_ssd, np_ssd, nb_sgo, np_sgo, nb_sag, np_sag]; omega)) (by first | omega | (simp only [nb_sr, np_sr, nb_wr, np_wr, nb_rd, np_rd, nb_ch, np_ch, nb_zr, np_zr, nb_za, np_za, nb_ey, np_ey, nb_hf, np_hf, nb_dd, np_dd, nb_so, np_so, nb_skn, np_skn, nb_swh, np_swh, nb_sgn, np_sgn, nb_ssd, np_ssd, nb_sgo, np_sgo, nb_sag, np_sag]; omega))) L_X5_332 hN hP hD hS hA [5, 6, 7, 8, 9, 10, 11, 12, 13] [true, true, true, true, true, false, false, false, false, false, false, false, false, false] rfl (by decide +kernel) rfl 5 3 rfl rfl rfl ⟨Nat.le_of_ble_eq_true rfl, Nat.le_of_ble_eq_true rfl⟩ hl.1 (Nat.le_of_ble_eq_true rfl) dX5_years_93 ⟨Nat.le_of_ble_eq_true rfl, Nat.le_of_ble_eq_true rfl⟩ (fun r_53 u_55 H locs h_54 => ?_)
            clear hP hD hS
            intro hP hD hS
            obtain ⟨rfl, h_54⟩ := h_54
            have hPD := pd_as [zzO qx 4 [.ref qt, .ref qk, .ref qp, .ref qs, .ref qa, .ref qr, .int iKp, .int xY_35, .int iTv], zzI cy qr 5 fR, zzO qs 1 [.ref qsh, .ref qss, .ref qsa, .ref qse], zzI cy qsh 8 fH, zzI cy qsa 8 fA, zzO qt 3 [.int (nI (T_nb (zey (zdd ((zact tJ_33 ((fH k_24) - 10) (fA k_24)).1))))), .int (nI (T_np (zey (zdd ((zact tJ_33 ((fH k_24) - 10) (fA k_24)).1))))), .int (wb (T_wh (zey (zdd ((zact tJ_33 ((fH k_24) - 10) (fA k_24)).1))))), .int (wb (T_gn (zey (zdd ((zact tJ_33 ((fH k_24) - 10) (fA k_24)).1))))), .int (T_sd (zey (zdd ((zact tJ_33 ((fH k_24) - 10) (fA k_24)).1)))), .ref qtw, .ref qtn, .ref qtg, .ref qta, .ref qtr, .ref qtm, .ref qtt, .ref qts], zzI cy qtw 8 (T_wo (zey (zdd ((zact tJ_33 ((fH k_24) - 10) (fA k_24)).1)))), zzI cy qtn 8 (T_ne (zey (zdd ((zact tJ_33 ((fH k_24) - 10) (fA k_24)).1)))), zzI cy qtg 8 (T_go (zey (zdd ((zact tJ_33 ((fH k_24) - 10) (fA k_24)).1)))), zzI cy qta 8 (T_ag (zey (zdd ((zact tJ_33 ((fH k_24) - 10) (fA k_24)).1)))), zzI cy qtr 8 (T_re (zey (zdd ((zact tJ_33 ((fH k_24) - 10) (fA k_24)).1)))), zzI cy qtm 8 (T_me (zey (zdd ((zact tJ_33 ((fH k_24) - 10) (fA k_24)).1)))), zzI cy qtt 8 (T_te (zey (zdd ((zact tJ_33 ((fH k_24) - 10) (fA k_24)).1)))), zzI cy qts 64 (shF (T_kn (zey (zdd ((zact tJ_33 ((fH k_24) - 10) (fA k_24)).1)))))] hP hD rfl
            clear hP hD
            obtain ⟨hP, hD⟩ := hPD
            subst h_54
            refine lv_pop hx hb dX5_years_96 rfl ?_
            refine lv_aload_n hx hb dX5_years_97 rfl (lv_at hl 3 rfl) ?_
            refine lv_dup hx hb dX5_years_98 rfl ?_
            refine va_get (D := G) (ci := 4) (v := .int xY_35) (C := RX5) (T := TX5) (N := 9) hx hb hts iX_X5 hown hK hP 0 rfl rfl 7 (by decide) (hts _ m_t181) (fun _ h9 => h9) rfl dX5_years_99 ?_
            refine lv_iconst (v := 1) hx hb dX5_years_102 (by decide) ?_
            refine lv_iadd hx hb dX5_years_103 ?_
            refine va_put (D := G) (ci := 4) (v := .int (xY_35 + 1)) (ty := .int) (C := RX5) (T := TX5) (N := 9) hx hb hts iX_X5 tyX5 tyX5_ok nmX5 hown hK hP hD hS 0 rfl rfl 7 (by decide) (hts _ m_t181) (fun _ h9 => h9) rfl (by decide +kernel) rfl rfl (Nat.le_of_ble_eq_true rfl) dX5_years_104 (fun H locs => ?_)
            clear hP hD hS
            intro hP hD hS
            have hPD := pd_as [zzO qx 4 [.ref qt, .ref qk, .ref qp, .ref qs, .ref qa, .ref qr, .int iKp, .int (xY_35 + 1), .int iTv], zzI cy qr 5 fR, zzO qs 1 [.ref qsh, .ref qss, .ref qsa, .ref qse], zzI cy qsh 8 fH, zzI cy qsa 8 fA, zzO qt 3 [.int (nI (T_nb (zey (zdd ((zact tJ_33 ((fH k_24) - 10) (fA k_24)).1))))), .int (nI (T_np (zey (zdd ((zact tJ_33 ((fH k_24) - 10) (fA k_24)).1))))), .int (wb (T_wh (zey (zdd ((zact tJ_33 ((fH k_24) - 10) (fA k_24)).1))))), .int (wb (T_gn (zey (zdd ((zact tJ_33 ((fH k_24) - 10) (fA k_24)).1))))), .int (T_sd (zey (zdd ((zact tJ_33 ((fH k_24) - 10) (fA k_24)).1)))), .ref qtw, .ref qtn, .ref qtg, .ref qta, .ref qtr, .ref qtm, .ref qtt, .ref qts], zzI cy qtw 8 (T_wo (zey (zdd ((zact tJ_33 ((fH k_24) - 10) (fA k_24)).1)))), zzI cy qtn 8 (T_ne (zey (zdd ((zact tJ_33 ((fH k_24) - 10) (fA k_24)).1)))), zzI cy qtg 8 (T_go (zey (zdd ((zact tJ_33 ((fH k_24) - 10) (fA k_24)).1)))), zzI cy qta 8 (T_ag (zey (zdd ((zact tJ_33 ((fH k_24) - 10) (fA k_24)).1)))), zzI cy qtr 8 (T_re (zey (zdd ((zact tJ_33 ((fH k_24) - 10) (fA k_24)).1)))), zzI cy qtm 8 (T_me (zey (zdd ((zact tJ_33 ((fH k_24) - 10) (fA k_24)).1)))), zzI cy qtt 8 (T_te (zey (zdd ((zact tJ_33 ((fH k_24) - 10) (fA k_24)).1)))), zzI cy qts 64 (shF (T_kn (zey (zdd ((zact tJ_33 ((fH k_24) - 10) (fA k_24)).1)))))] hP hD rfl
            clear hP hD
            obtain ⟨hP, hD⟩ := hPD
            refine lv_iinc (v := nI (j_32 + 1)) (lv' := [(5, .int (nI (j_32 + 1))), (4, .int (xS_34 + (zval ((zact tJ_33 ((fH k_24) - 10) (fA k_24)).1)))), (3, .int 0), (0, .ref qx), (1, .int (nI k_24)), (2, .int (nI k_4))]) hx hb dX5_years_107 hl (k := 1) rfl (nI_1 _) (by decide) rfl (fun ls => ?_)
            clear hl
            intro hl
            refine lv_goto (tgt := 39) hx hb dX5_years_110 (by decide) ?_
            exact ih_31 (j_32 + 1) (zey (zdd ((zact tJ_33 ((fH k_24) - 10) (fA k_24)).1))) (xS_34 + (zval ((zact tJ_33 ((fH k_24) - 10) (fA k_24)).1))) (xY_35 + 1) (by omega) (by omega) (by rw [← hT_37, show k_4 - j_32 = k_4 - (j_32 + 1) + 1 by omega]; rfl) (⟨(zey_nb _).1.trans ((dd_nb _ _).1.trans ((zact_nb _ _ _).1.trans hn_38.1)), (zey_nb _).2.trans ((dd_nb _ _).2.trans ((zact_nb _ _ _).2.trans hn_38.2))⟩) _ _ _ hP hD hS (lv_sub hl [0, 1, 2, 3, 4, 5] rfl)
      exact lp_29 ((20 - 0) + 1) 0 tA 0 iYe (Nat.lt_succ_self _) (Nat.zero_le _) rfl (⟨rfl, rfl⟩) _ _ ls hP hD hS (lv_sub hl [0, 1, 2, 3, 4, 5] rfl)
    · obtain ⟨k_56, hk_57, rfl, h_58, h_59⟩ := h_10
      refine lv_goto (tgt := 22) hx hb dX5_years_17 (by decide) ?_
      refine lv_istore_n (lv' := [(3, .int (-4)), (0, .ref qx), (1, .int (nI k_56)), (2, .int (nI k_4))]) hx hb dX5_years_22 rfl hl (by decide) rfl (fun ls => ?_)
      clear hl
      intro hl
      refine lv_iload_n hx hb dX5_years_23 rfl (lv_at hl 0 rfl) ?_
      refine lv_if_eq (tgt := 33) hx hb dX5_years_24 (by decide) (fun h9 => absurd h9 (by decide)) (fun _ => ?_)
      refine lv_aload_n hx hb dX5_years_27 rfl (lv_at hl 1 rfl) ?_
      refine lv_iload_n hx hb dX5_years_28 rfl (lv_at hl 0 rfl) ?_
      refine cVi (As := [.int (-4)]) (rest := []) (b := qx) (q := (RX5, TX5, 9)) ⟨hx, hb, hml, hown, hts⟩ (c_X5_refuse4 l G cy (s.heap).size qx qt qk qp qs qa qr iKp iYe iTv fR) L_X5_56 hN hP hD hS hA [0, 1] [false, false, true, true, true, true, true, true, true, true, true, true, true, true] rfl (by decide +kernel) rfl 0 4 rfl rfl rfl ⟨Nat.le_of_ble_eq_true rfl, Nat.le_of_ble_eq_true rfl⟩ hl.1 (Nat.le_of_ble_eq_true rfl) dX5_years_29 ⟨Nat.le_of_ble_eq_true rfl, Nat.le_of_ble_eq_true rfl⟩ (fun r_61 u_63 H locs h_62 => ?_)
      clear hP hD hS
      intro hP hD hS
      obtain ⟨fX_64, rfl, h_62⟩ := h_62
      have hPD := pd_as [zzO qs 1 [.ref qsh, .ref qss, .ref qsa, .ref qse], zzI cy qsh 8 fH, zzI cy qsa 8 fA, zzO qt 3 [.int (nI (T_nb tA)), .int (nI (T_np tA)), .int (wb (T_wh tA)), .int (wb (T_gn tA)), .int (T_sd tA), .ref qtw, .ref qtn, .ref qtg, .ref qta, .ref qtr, .ref qtm, .ref qtt, .ref qts], zzI cy qtw 8 (T_wo tA), zzI cy qtn 8 (T_ne tA), zzI cy qtg 8 (T_go tA), zzI cy qta 8 (T_ag tA), zzI cy qtr 8 (T_re tA), zzI cy qtm 8 (T_me tA), zzI cy qtt 8 (T_te tA), zzI cy qts 64 (shF (T_kn tA)), zzO qx 4 [.ref qt, .ref qk, .ref qp, .ref qs, .ref qa, .ref qr, .int iKp, .int iYe, .int iTv], zzI cy qr 5 fX_64] hP hD rfl
      clear hP hD
      obtain ⟨hP, hD⟩ := hPD
      subst h_62
      exact endW (u := [zzO qx 4 [.ref qt, .ref qk, .ref qp, .ref qs, .ref qa, .ref qr, .int iKp, .int iYe, .int iTv], zzI cy qr 5 fX_64, zzO qs 1 [.ref qsh, .ref qss, .ref qsa, .ref qse], zzI cy qsh 8 fH, zzI cy qsa 8 fA, zzO qt 3 [.int (nI (T_nb tA)), .int (nI (T_np tA)), .int (wb (T_wh tA)), .int (wb (T_gn tA)), .int (T_sd tA), .ref qtw, .ref qtn, .ref qtg, .ref qta, .ref qtr, .ref qtm, .ref qtt, .ref qts], zzI cy qtw 8 (T_wo tA), zzI cy qtn 8 (T_ne tA), zzI cy qtg 8 (T_go tA), zzI cy qta 8 (T_ag tA), zzI cy qtr 8 (T_re tA), zzI cy qtm 8 (T_me tA), zzI cy qtt 8 (T_te tA), zzI cy qts 64 (shF (T_kn tA))]) hx hb hr hlocks rfl (hP.sub [12, 13, 0, 1, 2, 3, 4, 5, 6, 7, 8, 9, 10, 11] rfl) (hD.sub [12, 13, 0, 1, 2, 3, 4, 5, 6, 7, 8, 9, 10, 11] (by decide +kernel) rfl) hS ⟨iKp, iYe, iTv, fX_64, tA, rfl, ⟨Or.inr (Or.inr (Or.inl ⟨rfl, h_3, ⟨k_56, hk_57, rfl, h_58, h_59⟩, rfl⟩)), rfl⟩, trivial⟩ dX5_years_32
  · refine lv_if_eq (tgt := 20) hx hb dX5_years_9 (by decide) (fun _ => ?_) (fun h9 => absurd (by decide) h9)
    refine lv_bipush (v := (-2)) hx hb dX5_years_20 (by decide) ?_
    refine lv_istore_n (lv' := [(3, .int (-2)), (0, .ref qx), (1, .int iA), (2, .int iB)]) hx hb dX5_years_22 rfl hl (by decide) rfl (fun ls => ?_)
    clear hl
    intro hl
    refine lv_iload_n hx hb dX5_years_23 rfl (lv_at hl 0 rfl) ?_
    refine lv_if_eq (tgt := 33) hx hb dX5_years_24 (by decide) (fun h9 => absurd h9 (by decide)) (fun _ => ?_)
    refine lv_aload_n hx hb dX5_years_27 rfl (lv_at hl 1 rfl) ?_
    refine lv_iload_n hx hb dX5_years_28 rfl (lv_at hl 0 rfl) ?_
    refine cVi (As := [.int (-2)]) (rest := []) (b := qx) (q := (RX5, TX5, 9)) ⟨hx, hb, hml, hown, hts⟩ (c_X5_refuse2 l G cy (s.heap).size qx qt qk qp qs qa qr iKp iYe iTv fR) L_X5_56 hN hP hD hS hA [0, 1] [false, false, true, true, true, true, true, true, true, true, true, true, true, true] rfl (by decide +kernel) rfl 0 4 rfl rfl rfl ⟨Nat.le_of_ble_eq_true rfl, Nat.le_of_ble_eq_true rfl⟩ hl.1 (Nat.le_of_ble_eq_true rfl) dX5_years_29 ⟨Nat.le_of_ble_eq_true rfl, Nat.le_of_ble_eq_true rfl⟩ (fun r_67 u_69 H locs h_68 => ?_)
    clear hP hD hS
    intro hP hD hS
    obtain ⟨fX_70, rfl, h_68⟩ := h_68
    have hPD := pd_as [zzO qs 1 [.ref qsh, .ref qss, .ref qsa, .ref qse], zzI cy qsh 8 fH, zzI cy qsa 8 fA, zzO qt 3 [.int (nI (T_nb tA)), .int (nI (T_np tA)), .int (wb (T_wh tA)), .int (wb (T_gn tA)), .int (T_sd tA), .ref qtw, .ref qtn, .ref qtg, .ref qta, .ref qtr, .ref qtm, .ref qtt, .ref qts], zzI cy qtw 8 (T_wo tA), zzI cy qtn 8 (T_ne tA), zzI cy qtg 8 (T_go tA), zzI cy qta 8 (T_ag tA), zzI cy qtr 8 (T_re tA), zzI cy qtm 8 (T_me tA), zzI cy qtt 8 (T_te tA), zzI cy qts 64 (shF (T_kn tA)), zzO qx 4 [.ref qt, .ref qk, .ref qp, .ref qs, .ref qa, .ref qr, .int iKp, .int iYe, .int iTv], zzI cy qr 5 fX_70] hP hD rfl
    clear hP hD
    obtain ⟨hP, hD⟩ := hPD
    subst h_68
    exact endW (u := [zzO qx 4 [.ref qt, .ref qk, .ref qp, .ref qs, .ref qa, .ref qr, .int iKp, .int iYe, .int iTv], zzI cy qr 5 fX_70, zzO qs 1 [.ref qsh, .ref qss, .ref qsa, .ref qse], zzI cy qsh 8 fH, zzI cy qsa 8 fA, zzO qt 3 [.int (nI (T_nb tA)), .int (nI (T_np tA)), .int (wb (T_wh tA)), .int (wb (T_gn tA)), .int (T_sd tA), .ref qtw, .ref qtn, .ref qtg, .ref qta, .ref qtr, .ref qtm, .ref qtt, .ref qts], zzI cy qtw 8 (T_wo tA), zzI cy qtn 8 (T_ne tA), zzI cy qtg 8 (T_go tA), zzI cy qta 8 (T_ag tA), zzI cy qtr 8 (T_re tA), zzI cy qtm 8 (T_me tA), zzI cy qtt 8 (T_te tA), zzI cy qts 64 (shF (T_kn tA))]) hx hb hr hlocks rfl (hP.sub [12, 13, 0, 1, 2, 3, 4, 5, 6, 7, 8, 9, 10, 11] rfl) (hD.sub [12, 13, 0, 1, 2, 3, 4, 5, 6, 7, 8, 9, 10, 11] (by decide +kernel) rfl) hS ⟨iKp, iYe, iTv, fX_70, tA, rfl, ⟨Or.inl ⟨rfl, Or.inl h_3, rfl⟩, rfl⟩, trivial⟩ dX5_years_32
set_option maxHeartbeats 4000000 in
set_option maxRecDepth 100000 in
theorem p_X5_ends (l : Launch) (G : va_G) (cy : Nat → ClassId) (sz : Nat) (qx : Nat) (qt : Nat) (qk : Nat) (qp : Nat) (qs : Nat) (qa : Nat) (qr : Nat) (iKp : Int32) (iYe : Int32) (iTv : Int32) (tA : TA) (qtw : Nat) (qtn : Nat) (qtg : Nat) (qta : Nat) (qtr : Nat) (qtm : Nat) (qtt : Nat) (qts : Nat)  (hB : T_nb tA ≤ 8) (hPp : T_np tA ≤ 8) : MW l yX5_ends cX5_ends 1 (some .int) 12 0 0 G cy [zzO qx 4 [.ref qt, .ref qk, .ref qp, .ref qs, .ref qa, .ref qr, .int iKp, .int iYe, .int iTv], zzO qt 3 [.int (nI (T_nb tA)), .int (nI (T_np tA)), .int (wb (T_wh tA)), .int (wb (T_gn tA)), .int (T_sd tA), .ref qtw, .ref qtn, .ref qtg, .ref qta, .ref qtr, .ref qtm, .ref qtt, .ref qts], zzI cy qtw 8 (T_wo tA), zzI cy qtn 8 (T_ne tA), zzI cy qtg 8 (T_go tA), zzI cy qta 8 (T_ag tA), zzI cy qtr 8 (T_re tA), zzI cy qtm 8 (T_me tA), zzI cy qtt 8 (T_te tA), zzI cy qts 64 (shF (T_kn tA))] sz [.ref qx] (Wi G (fun r u => ∃ (iX1 : Int32) (iX2 : Int32) (iX3 : Int32) (tN : TA), u = [zzO qx 4 [.ref qt, .ref qk, .ref qp, .ref qs, .ref qa, .ref qr, .int iX1, .int iX2, .int iX3], zzO qt 3 [.int (nI (T_nb tN)), .int (nI (T_np tN)), .int (wb (T_wh tN)), .int (wb (T_gn tN)), .int (T_sd tN), .ref qtw, .ref qtn, .ref qtg, .ref qta, .ref qtr, .ref qtm, .ref qtt, .ref qts], zzI cy qtw 8 (T_wo tN), zzI cy qtn 8 (T_ne tN), zzI cy qtg 8 (T_go tN), zzI cy qta 8 (T_ag tN), zzI cy qtr 8 (T_re tN), zzI cy qtm 8 (T_me tN), zzI cy qtt 8 (T_te tN), zzI cy qts 64 (shF (T_kn tN))] ∧ (tN = zey tA ∧ r = zbc (zthere tA &&& wb (T_gn (zey tA))) ∧ iX1 = iKp) ∧ (True))) := by
  refine enW RX5 (by decide) rfl (Nat.le_of_ble_eq_true rfl) (fun p e s m below meth c ls A hx hb hml hown hts hr hlocks hP hN hl hin hD hA hS => ?_)
  have hin : meth.name = _ := hin
  have hK := hN.1
  replace hl : lv_has ls 1 [(0, .ref qx)] := hl
  refine lv_aload_n hx hb dX5_ends_0 rfl (lv_at hl 0 rfl) ?_
  refine lv_dup hx hb dX5_ends_1 rfl ?_
  refine va_get (D := G) (ci := 4) (v := .int iYe) (C := RX5) (T := TX5) (N := 9) hx hb hts iX_X5 hown hK hP 0 rfl rfl 7 (by decide) (hts _ m_t181) (fun _ h9 => h9) rfl dX5_ends_2 ?_
  refine lv_iconst (v := 1) hx hb dX5_ends_5 (by decide) ?_
  refine lv_iadd hx hb dX5_ends_6 ?_
  refine va_put (D := G) (ci := 4) (v := .int (iYe + 1)) (ty := .int) (C := RX5) (T := TX5) (N := 9) hx hb hts iX_X5 tyX5 tyX5_ok nmX5 hown hK hP hD hS 0 rfl rfl 7 (by decide) (hts _ m_t181) (fun _ h9 => h9) rfl (by decide +kernel) rfl rfl (Nat.le_of_ble_eq_true rfl) dX5_ends_7 (fun H locs => ?_)
  clear hP hD hS
  intro hP hD hS
  have hPD := pd_as [zzO qx 4 [.ref qt, .ref qk, .ref qp, .ref qs, .ref qa, .ref qr, .int iKp, .int (iYe + 1), .int iTv], zzO qt 3 [.int (nI (T_nb tA)), .int (nI (T_np tA)), .int (wb (T_wh tA)), .int (wb (T_gn tA)), .int (T_sd tA), .ref qtw, .ref qtn, .ref qtg, .ref qta, .ref qtr, .ref qtm, .ref qtt, .ref qts], zzI cy qtw 8 (T_wo tA), zzI cy qtn 8 (T_ne tA), zzI cy qtg 8 (T_go tA), zzI cy qta 8 (T_ag tA), zzI cy qtr 8 (T_re tA), zzI cy qtm 8 (T_me tA), zzI cy qtt 8 (T_te tA), zzI cy qts 64 (shF (T_kn tA))] hP hD rfl
  clear hP hD
  obtain ⟨hP, hD⟩ := hPD
  refine lv_aload_n hx hb dX5_ends_10 rfl (lv_at hl 0 rfl) ?_
  refine va_get (D := G) (ci := 4) (v := .ref qt) (C := RX5) (T := TX5) (N := 9) hx hb hts iX_X5 hown hK hP 0 rfl rfl 0 (by decide) (hts _ m_t174) (fun _ h9 => h9) rfl dX5_ends_11 ?_
  refine cVi (As := []) (rest := []) (b := qt) (q := (RX4, TX4, 13)) ⟨hx, hb, hml, hown, hts⟩ (c_X4_endYear l G cy (H).size qt tA qtw qtn qtg qta qtr qtm qtt qts hB hPp) L_X5_332 hN hP hD hS hA [1, 2, 3, 4, 5, 6, 7, 8, 9] [true, false, false, false, false, false, false, false, false, false] rfl (by decide +kernel) rfl 1 3 rfl rfl rfl ⟨Nat.le_of_ble_eq_true rfl, Nat.le_of_ble_eq_true rfl⟩ hl.1 (Nat.le_of_ble_eq_true rfl) dX5_ends_14 ⟨Nat.le_of_ble_eq_true rfl, Nat.le_of_ble_eq_true rfl⟩ (fun r_1 u_3 H locs h_2 => ?_)
  clear hP hD hS
  intro hP hD hS
  obtain ⟨rfl, h_2⟩ := h_2
  have hPD := pd_as [zzO qx 4 [.ref qt, .ref qk, .ref qp, .ref qs, .ref qa, .ref qr, .int iKp, .int (iYe + 1), .int iTv], zzO qt 3 [.int (nI (T_nb (zey tA))), .int (nI (T_np (zey tA))), .int (wb (T_wh (zey tA))), .int (wb (T_gn (zey tA))), .int (T_sd (zey tA)), .ref qtw, .ref qtn, .ref qtg, .ref qta, .ref qtr, .ref qtm, .ref qtt, .ref qts], zzI cy qtw 8 (T_wo (zey tA)), zzI cy qtn 8 (T_ne (zey tA)), zzI cy qtg 8 (T_go (zey tA)), zzI cy qta 8 (T_ag (zey tA)), zzI cy qtr 8 (T_re (zey tA)), zzI cy qtm 8 (T_me (zey tA)), zzI cy qtt 8 (T_te (zey tA)), zzI cy qts 64 (shF (T_kn (zey tA)))] hP hD rfl
  clear hP hD
  obtain ⟨hP, hD⟩ := hPD
  subst h_2
  exact endW (u := [zzO qx 4 [.ref qt, .ref qk, .ref qp, .ref qs, .ref qa, .ref qr, .int iKp, .int (iYe + 1), .int iTv], zzO qt 3 [.int (nI (T_nb (zey tA))), .int (nI (T_np (zey tA))), .int (wb (T_wh (zey tA))), .int (wb (T_gn (zey tA))), .int (T_sd (zey tA)), .ref qtw, .ref qtn, .ref qtg, .ref qta, .ref qtr, .ref qtm, .ref qtt, .ref qts], zzI cy qtw 8 (T_wo (zey tA)), zzI cy qtn 8 (T_ne (zey tA)), zzI cy qtg 8 (T_go (zey tA)), zzI cy qta 8 (T_ag (zey tA)), zzI cy qtr 8 (T_re (zey tA)), zzI cy qtm 8 (T_me (zey tA)), zzI cy qtt 8 (T_te (zey tA)), zzI cy qts 64 (shF (T_kn (zey tA)))]) hx hb hr hlocks rfl (hP.sub [0, 1, 2, 3, 4, 5, 6, 7, 8, 9] rfl) (hD.sub [0, 1, 2, 3, 4, 5, 6, 7, 8, 9] (by decide +kernel) rfl) hS ⟨iKp, iYe + 1, iTv, (zey tA), rfl, ⟨rfl, rfl, rfl⟩, trivial⟩ dX5_ends_17
set_option maxHeartbeats 4000000 in
set_option maxRecDepth 100000 in
theorem p_X5_seed (l : Launch) (G : va_G) (cy : Nat → ClassId) (sz : Nat) (qx : Nat) (qt : Nat) (qk : Nat) (qp : Nat) (qs : Nat) (qa : Nat) (qr : Nat) (iKp : Int32) (iYe : Int32) (iTv : Int32) (tA : TA) (qtw : Nat) (qtn : Nat) (qtg : Nat) (qta : Nat) (qtr : Nat) (qtm : Nat) (qtt : Nat) (qts : Nat) (iA : Int32)  (hB : T_nb tA ≤ 8) (hPp : T_np tA ≤ 8) : MW l yX5_seed cX5_seed 3 (some .int) 12 0 0 G cy [zzO qx 4 [.ref qt, .ref qk, .ref qp, .ref qs, .ref qa, .ref qr, .int iKp, .int iYe, .int iTv], zzO qt 3 [.int (nI (T_nb tA)), .int (nI (T_np tA)), .int (wb (T_wh tA)), .int (wb (T_gn tA)), .int (T_sd tA), .ref qtw, .ref qtn, .ref qtg, .ref qta, .ref qtr, .ref qtm, .ref qtt, .ref qts], zzI cy qtw 8 (T_wo tA), zzI cy qtn 8 (T_ne tA), zzI cy qtg 8 (T_go tA), zzI cy qta 8 (T_ag tA), zzI cy qtr 8 (T_re tA), zzI cy qtm 8 (T_me tA), zzI cy qtt 8 (T_te tA), zzI cy qts 64 (shF (T_kn tA))] sz [.ref qx, .int iA] (Wi G (fun r u => ∃ (tN : TA), u = [zzO qx 4 [.ref qt, .ref qk, .ref qp, .ref qs, .ref qa, .ref qr, .int iKp, .int iYe, .int iTv], zzO qt 3 [.int (nI (T_nb tN)), .int (nI (T_np tN)), .int (wb (T_wh tN)), .int (wb (T_gn tN)), .int (T_sd tN), .ref qtw, .ref qtn, .ref qtg, .ref qta, .ref qtr, .ref qtm, .ref qtt, .ref qts], zzI cy qtw 8 (T_wo tN), zzI cy qtn 8 (T_ne tN), zzI cy qtg 8 (T_go tN), zzI cy qta 8 (T_ag tN), zzI cy qtr 8 (T_re tN), zzI cy qtm 8 (T_me tN), zzI cy qtt 8 (T_te tN), zzI cy qts 64 (shF (T_kn tN))] ∧ (tN = T_setsd tA iA ∧ r = T_sd tA) ∧ (True))) := by
  refine enW RX5 (by decide) rfl (Nat.le_of_ble_eq_true rfl) (fun p e s m below meth c ls A hx hb hml hown hts hr hlocks hP hN hl hin hD hA hS => ?_)
  have hin : meth.name = _ := hin
  have hK := hN.1
  replace hl : lv_has ls 3 [(0, .ref qx), (1, .int iA)] := hl
  refine lv_aload_n hx hb dX5_seed_0 rfl (lv_at hl 0 rfl) ?_
  refine va_get (D := G) (ci := 4) (v := .ref qt) (C := RX5) (T := TX5) (N := 9) hx hb hts iX_X5 hown hK hP 0 rfl rfl 0 (by decide) (hts _ m_t174) (fun _ h9 => h9) rfl dX5_seed_1 ?_
  refine va_getN (D := G) (ci := 3) (v := .int (T_sd tA)) (C := RX4) (T := TX4) (N := 13) hx hb hts iX_X4 hown hK hP 1 rfl rfl 4 (by decide) (va_Nw.use rfl (hN.2.1 (RX5, 341, "EachBookOnce$Town", "luck", "I") (List.mem_of_getElem? (i := 13) rfl))) (fun _ h9 => h9) rfl dX5_seed_4 ?_
  refine lv_istore_n (lv' := [(2, .int (T_sd tA)), (0, .ref qx), (1, .int iA)]) hx hb dX5_seed_7 rfl hl (by decide) rfl (fun ls => ?_)
  clear hl
  intro hl
  refine lv_aload_n hx hb dX5_seed_8 rfl (lv_at hl 1 rfl) ?_
  refine va_get (D := G) (ci := 4) (v := .ref qt) (C := RX5) (T := TX5) (N := 9) hx hb hts iX_X5 hown hK hP 0 rfl rfl 0 (by decide) (hts _ m_t174) (fun _ h9 => h9) rfl dX5_seed_9 ?_
  refine lv_iload_n hx hb dX5_seed_12 rfl (lv_at hl 2 rfl) ?_
  refine va_putN (D := G) (ci := 3) (v := .int iA) (ty := .int) (C := RX4) (T := TX4) (N := 13) hx hb hts iX_X4 tyX4 tyX4_ok nmX4 hown hK hP hD hS 1 rfl rfl 4 (by decide) (va_Nw.use rfl (hN.2.1 (RX5, 341, "EachBookOnce$Town", "luck", "I") (List.mem_of_getElem? (i := 13) rfl))) (fun _ h9 => h9) rfl (by decide +kernel) rfl rfl (Nat.le_of_ble_eq_true rfl) dX5_seed_13 (fun H locs => ?_)
  clear hP hD hS
  intro hP hD hS
  have hPD := pd_as [zzO qx 4 [.ref qt, .ref qk, .ref qp, .ref qs, .ref qa, .ref qr, .int iKp, .int iYe, .int iTv], zzO qt 3 [.int (nI (T_nb tA)), .int (nI (T_np tA)), .int (wb (T_wh tA)), .int (wb (T_gn tA)), .int iA, .ref qtw, .ref qtn, .ref qtg, .ref qta, .ref qtr, .ref qtm, .ref qtt, .ref qts], zzI cy qtw 8 (T_wo tA), zzI cy qtn 8 (T_ne tA), zzI cy qtg 8 (T_go tA), zzI cy qta 8 (T_ag tA), zzI cy qtr 8 (T_re tA), zzI cy qtm 8 (T_me tA), zzI cy qtt 8 (T_te tA), zzI cy qts 64 (shF (T_kn tA))] hP hD rfl
  clear hP hD
  obtain ⟨hP, hD⟩ := hPD
  have hPD := pd_as [zzO qx 4 [.ref qt, .ref qk, .ref qp, .ref qs, .ref qa, .ref qr, .int iKp, .int iYe, .int iTv], zzO qt 3 [.int (nI (T_nb (T_setsd tA iA))), .int (nI (T_np (T_setsd tA iA))), .int (wb (T_wh (T_setsd tA iA))), .int (wb (T_gn (T_setsd tA iA))), .int (T_sd (T_setsd tA iA)), .ref qtw, .ref qtn, .ref qtg, .ref qta, .ref qtr, .ref qtm, .ref qtt, .ref qts], zzI cy qtw 8 (T_wo (T_setsd tA iA)), zzI cy qtn 8 (T_ne (T_setsd tA iA)), zzI cy qtg 8 (T_go (T_setsd tA iA)), zzI cy qta 8 (T_ag (T_setsd tA iA)), zzI cy qtr 8 (T_re (T_setsd tA iA)), zzI cy qtm 8 (T_me (T_setsd tA iA)), zzI cy qtt 8 (T_te (T_setsd tA iA)), zzI cy qts 64 (shF (T_kn (T_setsd tA iA)))] hP hD rfl
  clear hP hD
  obtain ⟨hP, hD⟩ := hPD
  refine lv_iload_n hx hb dX5_seed_16 rfl (lv_at hl 0 rfl) ?_
  exact endW (u := [zzO qx 4 [.ref qt, .ref qk, .ref qp, .ref qs, .ref qa, .ref qr, .int iKp, .int iYe, .int iTv], zzO qt 3 [.int (nI (T_nb (T_setsd tA iA))), .int (nI (T_np (T_setsd tA iA))), .int (wb (T_wh (T_setsd tA iA))), .int (wb (T_gn (T_setsd tA iA))), .int (T_sd (T_setsd tA iA)), .ref qtw, .ref qtn, .ref qtg, .ref qta, .ref qtr, .ref qtm, .ref qtt, .ref qts], zzI cy qtw 8 (T_wo (T_setsd tA iA)), zzI cy qtn 8 (T_ne (T_setsd tA iA)), zzI cy qtg 8 (T_go (T_setsd tA iA)), zzI cy qta 8 (T_ag (T_setsd tA iA)), zzI cy qtr 8 (T_re (T_setsd tA iA)), zzI cy qtm 8 (T_me (T_setsd tA iA)), zzI cy qtt 8 (T_te (T_setsd tA iA)), zzI cy qts 64 (shF (T_kn (T_setsd tA iA)))]) hx hb hr hlocks rfl (hP.sub [0, 1, 2, 3, 4, 5, 6, 7, 8, 9] rfl) (hD.sub [0, 1, 2, 3, 4, 5, 6, 7, 8, 9] (by decide +kernel) rfl) hS ⟨(T_setsd tA iA), rfl, ⟨rfl, rfl⟩, trivial⟩ dX5_seed_17
set_option maxHeartbeats 4000000 in
set_option maxRecDepth 100000 in
theorem p_X5_image (l : Launch) (G : va_G) (cy : Nat → ClassId) (sz : Nat) (qx : Nat) (qt : Nat) (qk : Nat) (qp : Nat) (qs : Nat) (qa : Nat) (qr : Nat) (iKp : Int32) (iYe : Int32) (iTv : Int32) (tA : TA) (qtw : Nat) (qtn : Nat) (qtg : Nat) (qta : Nat) (qtr : Nat) (qtm : Nat) (qtt : Nat) (qts : Nat) (tB : TA) (qkw : Nat) (qkn : Nat) (qkg : Nat) (qka : Nat) (qkr : Nat) (qkm : Nat) (qkt : Nat) (qks : Nat)  (hB : T_nb tA ≤ 8) (hPp : T_np tA ≤ 8) : MW l yX5_image cX5_image 1 (some .int) 12 0 0 G cy [zzO qx 4 [.ref qt, .ref qk, .ref qp, .ref qs, .ref qa, .ref qr, .int iKp, .int iYe, .int iTv], zzO qt 3 [.int (nI (T_nb tA)), .int (nI (T_np tA)), .int (wb (T_wh tA)), .int (wb (T_gn tA)), .int (T_sd tA), .ref qtw, .ref qtn, .ref qtg, .ref qta, .ref qtr, .ref qtm, .ref qtt, .ref qts], zzI cy qtw 8 (T_wo tA), zzI cy qtn 8 (T_ne tA), zzI cy qtg 8 (T_go tA), zzI cy qta 8 (T_ag tA), zzI cy qtr 8 (T_re tA), zzI cy qtm 8 (T_me tA), zzI cy qtt 8 (T_te tA), zzI cy qts 64 (shF (T_kn tA)), zzO qk 3 [.int (nI (T_nb tB)), .int (nI (T_np tB)), .int (wb (T_wh tB)), .int (wb (T_gn tB)), .int (T_sd tB), .ref qkw, .ref qkn, .ref qkg, .ref qka, .ref qkr, .ref qkm, .ref qkt, .ref qks], zzI cy qkw 8 (T_wo tB), zzI cy qkn 8 (T_ne tB), zzI cy qkg 8 (T_go tB), zzI cy qka 8 (T_ag tB), zzI cy qkr 8 (T_re tB), zzI cy qkm 8 (T_me tB), zzI cy qkt 8 (T_te tB), zzI cy qks 64 (shF (T_kn tB))] sz [.ref qx] (Wi G (fun r u => ∃ (iX1 : Int32) (iX2 : Int32) (iX3 : Int32) (tM : TA), u = [zzO qx 4 [.ref qt, .ref qk, .ref qp, .ref qs, .ref qa, .ref qr, .int iX1, .int iX2, .int iX3], zzO qt 3 [.int (nI (T_nb tA)), .int (nI (T_np tA)), .int (wb (T_wh tA)), .int (wb (T_gn tA)), .int (T_sd tA), .ref qtw, .ref qtn, .ref qtg, .ref qta, .ref qtr, .ref qtm, .ref qtt, .ref qts], zzI cy qtw 8 (T_wo tA), zzI cy qtn 8 (T_ne tA), zzI cy qtg 8 (T_go tA), zzI cy qta 8 (T_ag tA), zzI cy qtr 8 (T_re tA), zzI cy qtm 8 (T_me tA), zzI cy qtt 8 (T_te tA), zzI cy qts 64 (shF (T_kn tA)), zzO qk 3 [.int (nI (T_nb tM)), .int (nI (T_np tM)), .int (wb (T_wh tM)), .int (wb (T_gn tM)), .int (T_sd tM), .ref qkw, .ref qkn, .ref qkg, .ref qka, .ref qkr, .ref qkm, .ref qkt, .ref qks], zzI cy qkw 8 (T_wo tM), zzI cy qkn 8 (T_ne tM), zzI cy qkg 8 (T_go tM), zzI cy qka 8 (T_ag tM), zzI cy qkr 8 (T_re tM), zzI cy qkm 8 (T_me tM), zzI cy qkt 8 (T_te tM), zzI cy qks 64 (shF (T_kn tM))] ∧ (tM = tA ∧ r = 1 ∧ iX1 = 1) ∧ (True))) := by
  refine enW RX5 (by decide) rfl (Nat.le_of_ble_eq_true rfl) (fun p e s m below meth c ls A hx hb hml hown hts hr hlocks hP hN hl hin hD hA hS => ?_)
  have hin : meth.name = _ := hin
  have hK := hN.1
  replace hl : lv_has ls 1 [(0, .ref qx)] := hl
  refine lv_aload_n hx hb dX5_image_0 rfl (lv_at hl 0 rfl) ?_
  refine va_get (D := G) (ci := 4) (v := .ref qk) (C := RX5) (T := TX5) (N := 9) hx hb hts iX_X5 hown hK hP 0 rfl rfl 1 (by decide) (hts _ m_t175) (fun _ h9 => h9) rfl dX5_image_1 ?_
  refine lv_aload_n hx hb dX5_image_4 rfl (lv_at hl 0 rfl) ?_
  refine va_get (D := G) (ci := 4) (v := .ref qt) (C := RX5) (T := TX5) (N := 9) hx hb hts iX_X5 hown hK hP 0 rfl rfl 0 (by decide) (hts _ m_t174) (fun _ h9 => h9) rfl dX5_image_5 ?_
  refine cVv (As := [.ref qt]) (rest := []) (b := qk) (q := (RX4, TX4, 13)) ⟨hx, hb, hml, hown, hts⟩ (c_X4_become l G cy (s.heap).size qk tB qkw qkn qkg qka qkr qkm qkt qks qt tA qtw qtn qtg qta qtr qtm qtt qts) L_X5_164 hN hP hD hS hA [10, 11, 12, 13, 14, 15, 16, 17, 18, 1, 2, 3, 4, 5, 6, 7, 8, 9] [true, false, false, false, false, false, false, false, false, false, false, false, false, false, false, false, false, false, false] rfl (by decide +kernel) rfl 10 3 rfl rfl rfl ⟨Nat.le_of_ble_eq_true rfl, Nat.le_of_ble_eq_true rfl⟩ hl.1 (Nat.le_of_ble_eq_true rfl) dX5_image_8 ⟨Nat.le_of_ble_eq_true rfl, Nat.le_of_ble_eq_true rfl⟩ (fun u_3 H locs h_2 => ?_)
  clear hP hD hS
  intro hP hD hS
  subst h_2
  have hPD := pd_as [zzO qx 4 [.ref qt, .ref qk, .ref qp, .ref qs, .ref qa, .ref qr, .int iKp, .int iYe, .int iTv], zzO qk 3 [.int (nI (T_nb tA)), .int (nI (T_np tA)), .int (wb (T_wh tA)), .int (wb (T_gn tA)), .int (T_sd tA), .ref qkw, .ref qkn, .ref qkg, .ref qka, .ref qkr, .ref qkm, .ref qkt, .ref qks], zzI cy qkw 8 (T_wo tA), zzI cy qkn 8 (T_ne tA), zzI cy qkg 8 (T_go tA), zzI cy qka 8 (T_ag tA), zzI cy qkr 8 (T_re tA), zzI cy qkm 8 (T_me tA), zzI cy qkt 8 (T_te tA), zzI cy qks 64 (shF (T_kn tA)), zzO qt 3 [.int (nI (T_nb tA)), .int (nI (T_np tA)), .int (wb (T_wh tA)), .int (wb (T_gn tA)), .int (T_sd tA), .ref qtw, .ref qtn, .ref qtg, .ref qta, .ref qtr, .ref qtm, .ref qtt, .ref qts], zzI cy qtw 8 (T_wo tA), zzI cy qtn 8 (T_ne tA), zzI cy qtg 8 (T_go tA), zzI cy qta 8 (T_ag tA), zzI cy qtr 8 (T_re tA), zzI cy qtm 8 (T_me tA), zzI cy qtt 8 (T_te tA), zzI cy qts 64 (shF (T_kn tA))] hP hD rfl
  clear hP hD
  obtain ⟨hP, hD⟩ := hPD
  refine lv_aload_n hx hb dX5_image_11 rfl (lv_at hl 0 rfl) ?_
  refine lv_iconst (v := 1) hx hb dX5_image_12 (by decide) ?_
  refine va_put (D := G) (ci := 4) (v := .int 1) (ty := .boolean) (C := RX5) (T := TX5) (N := 9) hx hb hts iX_X5 tyX5 tyX5_ok nmX5 hown hK hP hD hS 0 rfl rfl 6 (by decide) (hts _ m_t180) (fun _ h9 => h9) rfl (by decide +kernel) rfl rfl (Nat.le_of_ble_eq_true rfl) dX5_image_13 (fun H locs => ?_)
  clear hP hD hS
  intro hP hD hS
  have hPD := pd_as [zzO qx 4 [.ref qt, .ref qk, .ref qp, .ref qs, .ref qa, .ref qr, .int 1, .int iYe, .int iTv], zzO qk 3 [.int (nI (T_nb tA)), .int (nI (T_np tA)), .int (wb (T_wh tA)), .int (wb (T_gn tA)), .int (T_sd tA), .ref qkw, .ref qkn, .ref qkg, .ref qka, .ref qkr, .ref qkm, .ref qkt, .ref qks], zzI cy qkw 8 (T_wo tA), zzI cy qkn 8 (T_ne tA), zzI cy qkg 8 (T_go tA), zzI cy qka 8 (T_ag tA), zzI cy qkr 8 (T_re tA), zzI cy qkm 8 (T_me tA), zzI cy qkt 8 (T_te tA), zzI cy qks 64 (shF (T_kn tA)), zzO qt 3 [.int (nI (T_nb tA)), .int (nI (T_np tA)), .int (wb (T_wh tA)), .int (wb (T_gn tA)), .int (T_sd tA), .ref qtw, .ref qtn, .ref qtg, .ref qta, .ref qtr, .ref qtm, .ref qtt, .ref qts], zzI cy qtw 8 (T_wo tA), zzI cy qtn 8 (T_ne tA), zzI cy qtg 8 (T_go tA), zzI cy qta 8 (T_ag tA), zzI cy qtr 8 (T_re tA), zzI cy qtm 8 (T_me tA), zzI cy qtt 8 (T_te tA), zzI cy qts 64 (shF (T_kn tA))] hP hD rfl
  clear hP hD
  obtain ⟨hP, hD⟩ := hPD
  refine lv_iconst (v := 1) hx hb dX5_image_16 (by decide) ?_
  exact endW (u := [zzO qx 4 [.ref qt, .ref qk, .ref qp, .ref qs, .ref qa, .ref qr, .int 1, .int iYe, .int iTv], zzO qt 3 [.int (nI (T_nb tA)), .int (nI (T_np tA)), .int (wb (T_wh tA)), .int (wb (T_gn tA)), .int (T_sd tA), .ref qtw, .ref qtn, .ref qtg, .ref qta, .ref qtr, .ref qtm, .ref qtt, .ref qts], zzI cy qtw 8 (T_wo tA), zzI cy qtn 8 (T_ne tA), zzI cy qtg 8 (T_go tA), zzI cy qta 8 (T_ag tA), zzI cy qtr 8 (T_re tA), zzI cy qtm 8 (T_me tA), zzI cy qtt 8 (T_te tA), zzI cy qts 64 (shF (T_kn tA)), zzO qk 3 [.int (nI (T_nb tA)), .int (nI (T_np tA)), .int (wb (T_wh tA)), .int (wb (T_gn tA)), .int (T_sd tA), .ref qkw, .ref qkn, .ref qkg, .ref qka, .ref qkr, .ref qkm, .ref qkt, .ref qks], zzI cy qkw 8 (T_wo tA), zzI cy qkn 8 (T_ne tA), zzI cy qkg 8 (T_go tA), zzI cy qka 8 (T_ag tA), zzI cy qkr 8 (T_re tA), zzI cy qkm 8 (T_me tA), zzI cy qkt 8 (T_te tA), zzI cy qks 64 (shF (T_kn tA))]) hx hb hr hlocks rfl (hP.sub [0, 10, 11, 12, 13, 14, 15, 16, 17, 18, 1, 2, 3, 4, 5, 6, 7, 8, 9] rfl) (hD.sub [0, 10, 11, 12, 13, 14, 15, 16, 17, 18, 1, 2, 3, 4, 5, 6, 7, 8, 9] (by decide +kernel) rfl) hS ⟨1, iYe, iTv, tA, rfl, ⟨rfl, rfl, rfl⟩, trivial⟩ dX5_image_17
set_option maxHeartbeats 4000000 in
set_option maxRecDepth 100000 in
theorem p_X5_back (l : Launch) (G : va_G) (cy : Nat → ClassId) (sz : Nat) (qx : Nat) (qt : Nat) (qk : Nat) (qp : Nat) (qs : Nat) (qa : Nat) (qr : Nat) (iKp : Int32) (iYe : Int32) (iTv : Int32) (fR : Nat → Int32) (tA : TA) (qtw : Nat) (qtn : Nat) (qtg : Nat) (qta : Nat) (qtr : Nat) (qtm : Nat) (qtt : Nat) (qts : Nat) (tB : TA) (qkw : Nat) (qkn : Nat) (qkg : Nat) (qka : Nat) (qkr : Nat) (qkm : Nat) (qkt : Nat) (qks : Nat)  (hB : T_nb tA ≤ 8) (hPp : T_np tA ≤ 8) : MW l yX5_back cX5_back 1 (some .int) 12 0 0 G cy [zzO qx 4 [.ref qt, .ref qk, .ref qp, .ref qs, .ref qa, .ref qr, .int iKp, .int iYe, .int iTv], zzI cy qr 5 fR, zzO qt 3 [.int (nI (T_nb tA)), .int (nI (T_np tA)), .int (wb (T_wh tA)), .int (wb (T_gn tA)), .int (T_sd tA), .ref qtw, .ref qtn, .ref qtg, .ref qta, .ref qtr, .ref qtm, .ref qtt, .ref qts], zzI cy qtw 8 (T_wo tA), zzI cy qtn 8 (T_ne tA), zzI cy qtg 8 (T_go tA), zzI cy qta 8 (T_ag tA), zzI cy qtr 8 (T_re tA), zzI cy qtm 8 (T_me tA), zzI cy qtt 8 (T_te tA), zzI cy qts 64 (shF (T_kn tA)), zzO qk 3 [.int (nI (T_nb tB)), .int (nI (T_np tB)), .int (wb (T_wh tB)), .int (wb (T_gn tB)), .int (T_sd tB), .ref qkw, .ref qkn, .ref qkg, .ref qka, .ref qkr, .ref qkm, .ref qkt, .ref qks], zzI cy qkw 8 (T_wo tB), zzI cy qkn 8 (T_ne tB), zzI cy qkg 8 (T_go tB), zzI cy qka 8 (T_ag tB), zzI cy qkr 8 (T_re tB), zzI cy qkm 8 (T_me tB), zzI cy qkt 8 (T_te tB), zzI cy qks 64 (shF (T_kn tB))] sz [.ref qx] (Wi G (fun r u => ∃ (fX : Nat → Int32) (tN : TA), u = [zzO qx 4 [.ref qt, .ref qk, .ref qp, .ref qs, .ref qa, .ref qr, .int iKp, .int iYe, .int iTv], zzI cy qr 5 fX, zzO qt 3 [.int (nI (T_nb tN)), .int (nI (T_np tN)), .int (wb (T_wh tN)), .int (wb (T_gn tN)), .int (T_sd tN), .ref qtw, .ref qtn, .ref qtg, .ref qta, .ref qtr, .ref qtm, .ref qtt, .ref qts], zzI cy qtw 8 (T_wo tN), zzI cy qtn 8 (T_ne tN), zzI cy qtg 8 (T_go tN), zzI cy qta 8 (T_ag tN), zzI cy qtr 8 (T_re tN), zzI cy qtm 8 (T_me tN), zzI cy qtt 8 (T_te tN), zzI cy qts 64 (shF (T_kn tN)), zzO qk 3 [.int (nI (T_nb tB)), .int (nI (T_np tB)), .int (wb (T_wh tB)), .int (wb (T_gn tB)), .int (T_sd tB), .ref qkw, .ref qkn, .ref qkg, .ref qka, .ref qkr, .ref qkm, .ref qkt, .ref qks], zzI cy qkw 8 (T_wo tB), zzI cy qkn 8 (T_ne tB), zzI cy qkg 8 (T_go tB), zzI cy qka 8 (T_ag tB), zzI cy qkr 8 (T_re tB), zzI cy qkm 8 (T_me tB), zzI cy qkt 8 (T_te tB), zzI cy qks 64 (shF (T_kn tB))] ∧ ((iKp = 0 ∧ r = -5 ∧ tN = tA) ∨ (¬ iKp = 0 ∧ r = 1 ∧ tN = tB)) ∧ (True))) := by
  refine enW RX5 (by decide) rfl (Nat.le_of_ble_eq_true rfl) (fun p e s m below meth c ls A hx hb hml hown hts hr hlocks hP hN hl hin hD hA hS => ?_)
  have hin : meth.name = _ := hin
  have hK := hN.1
  replace hl : lv_has ls 1 [(0, .ref qx)] := hl
  refine lv_aload_n hx hb dX5_back_0 rfl (lv_at hl 0 rfl) ?_
  refine va_get (D := G) (ci := 4) (v := .int iKp) (C := RX5) (T := TX5) (N := 9) hx hb hts iX_X5 hown hK hP 0 rfl rfl 6 (by decide) (hts _ m_t180) (fun _ h9 => h9) rfl dX5_back_1 ?_
  refine lv_if_ne (tgt := 14) hx hb dX5_back_4 (by decide) (fun c_1 => ?_) (fun c_1 => ?_)
  · refine lv_aload_n hx hb dX5_back_14 rfl (lv_at hl 0 rfl) ?_
    refine va_get (D := G) (ci := 4) (v := .ref qt) (C := RX5) (T := TX5) (N := 9) hx hb hts iX_X5 hown hK hP 0 rfl rfl 0 (by decide) (hts _ m_t174) (fun _ h9 => h9) rfl dX5_back_15 ?_
    refine lv_aload_n hx hb dX5_back_18 rfl (lv_at hl 0 rfl) ?_
    refine va_get (D := G) (ci := 4) (v := .ref qk) (C := RX5) (T := TX5) (N := 9) hx hb hts iX_X5 hown hK hP 0 rfl rfl 1 (by decide) (hts _ m_t175) (fun _ h9 => h9) rfl dX5_back_19 ?_
    refine cVv (As := [.ref qk]) (rest := []) (b := qt) (q := (RX4, TX4, 13)) ⟨hx, hb, hml, hown, hts⟩ (c_X4_become l G cy (s.heap).size qt tA qtw qtn qtg qta qtr qtm qtt qts qk tB qkw qkn qkg qka qkr qkm qkt qks) L_X5_164 hN hP hD hS hA [2, 3, 4, 5, 6, 7, 8, 9, 10, 11, 12, 13, 14, 15, 16, 17, 18, 19] [true, true, false, false, false, false, false, false, false, false, false, false, false, false, false, false, false, false, false, false] rfl (by decide +kernel) rfl 2 3 rfl rfl rfl ⟨Nat.le_of_ble_eq_true rfl, Nat.le_of_ble_eq_true rfl⟩ hl.1 (Nat.le_of_ble_eq_true rfl) dX5_back_22 ⟨Nat.le_of_ble_eq_true rfl, Nat.le_of_ble_eq_true rfl⟩ (fun u_4 H locs h_3 => ?_)
    clear hP hD hS
    intro hP hD hS
    subst h_3
    have hPD := pd_as [zzO qx 4 [.ref qt, .ref qk, .ref qp, .ref qs, .ref qa, .ref qr, .int iKp, .int iYe, .int iTv], zzI cy qr 5 fR, zzO qt 3 [.int (nI (T_nb tB)), .int (nI (T_np tB)), .int (wb (T_wh tB)), .int (wb (T_gn tB)), .int (T_sd tB), .ref qtw, .ref qtn, .ref qtg, .ref qta, .ref qtr, .ref qtm, .ref qtt, .ref qts], zzI cy qtw 8 (T_wo tB), zzI cy qtn 8 (T_ne tB), zzI cy qtg 8 (T_go tB), zzI cy qta 8 (T_ag tB), zzI cy qtr 8 (T_re tB), zzI cy qtm 8 (T_me tB), zzI cy qtt 8 (T_te tB), zzI cy qts 64 (shF (T_kn tB)), zzO qk 3 [.int (nI (T_nb tB)), .int (nI (T_np tB)), .int (wb (T_wh tB)), .int (wb (T_gn tB)), .int (T_sd tB), .ref qkw, .ref qkn, .ref qkg, .ref qka, .ref qkr, .ref qkm, .ref qkt, .ref qks], zzI cy qkw 8 (T_wo tB), zzI cy qkn 8 (T_ne tB), zzI cy qkg 8 (T_go tB), zzI cy qka 8 (T_ag tB), zzI cy qkr 8 (T_re tB), zzI cy qkm 8 (T_me tB), zzI cy qkt 8 (T_te tB), zzI cy qks 64 (shF (T_kn tB))] hP hD rfl
    clear hP hD
    obtain ⟨hP, hD⟩ := hPD
    refine lv_iconst (v := 1) hx hb dX5_back_25 (by decide) ?_
    exact endW (u := [zzO qx 4 [.ref qt, .ref qk, .ref qp, .ref qs, .ref qa, .ref qr, .int iKp, .int iYe, .int iTv], zzI cy qr 5 fR, zzO qt 3 [.int (nI (T_nb tB)), .int (nI (T_np tB)), .int (wb (T_wh tB)), .int (wb (T_gn tB)), .int (T_sd tB), .ref qtw, .ref qtn, .ref qtg, .ref qta, .ref qtr, .ref qtm, .ref qtt, .ref qts], zzI cy qtw 8 (T_wo tB), zzI cy qtn 8 (T_ne tB), zzI cy qtg 8 (T_go tB), zzI cy qta 8 (T_ag tB), zzI cy qtr 8 (T_re tB), zzI cy qtm 8 (T_me tB), zzI cy qtt 8 (T_te tB), zzI cy qts 64 (shF (T_kn tB)), zzO qk 3 [.int (nI (T_nb tB)), .int (nI (T_np tB)), .int (wb (T_wh tB)), .int (wb (T_gn tB)), .int (T_sd tB), .ref qkw, .ref qkn, .ref qkg, .ref qka, .ref qkr, .ref qkm, .ref qkt, .ref qks], zzI cy qkw 8 (T_wo tB), zzI cy qkn 8 (T_ne tB), zzI cy qkg 8 (T_go tB), zzI cy qka 8 (T_ag tB), zzI cy qkr 8 (T_re tB), zzI cy qkm 8 (T_me tB), zzI cy qkt 8 (T_te tB), zzI cy qks 64 (shF (T_kn tB))]) hx hb hr hlocks rfl (hP.sub [0, 1, 2, 3, 4, 5, 6, 7, 8, 9, 10, 11, 12, 13, 14, 15, 16, 17, 18, 19] rfl) (hD.sub [0, 1, 2, 3, 4, 5, 6, 7, 8, 9, 10, 11, 12, 13, 14, 15, 16, 17, 18, 19] (by decide +kernel) rfl) hS ⟨fR, tB, rfl, Or.inr ⟨c_1, rfl, rfl⟩, trivial⟩ dX5_back_26
  · refine lv_aload_n hx hb dX5_back_7 rfl (lv_at hl 0 rfl) ?_
    refine lv_bipush (v := (-5)) hx hb dX5_back_8 (by decide) ?_
    refine cVi (As := [.int (-5)]) (rest := []) (b := qx) (q := (RX5, TX5, 9)) ⟨hx, hb, hml, hown, hts⟩ (c_X5_refuse5 l G cy (s.heap).size qx qt qk qp qs qa qr iKp iYe iTv fR) L_X5_56 hN hP hD hS hA [0, 1] [false, false, true, true, true, true, true, true, true, true, true, true, true, true, true, true, true, true, true, true] rfl (by decide +kernel) rfl 0 4 rfl rfl rfl ⟨Nat.le_of_ble_eq_true rfl, Nat.le_of_ble_eq_true rfl⟩ hl.1 (Nat.le_of_ble_eq_true rfl) dX5_back_10 ⟨Nat.le_of_ble_eq_true rfl, Nat.le_of_ble_eq_true rfl⟩ (fun r_5 u_7 H locs h_6 => ?_)
    clear hP hD hS
    intro hP hD hS
    obtain ⟨fX_8, rfl, h_6⟩ := h_6
    have hPD := pd_as [zzO qt 3 [.int (nI (T_nb tA)), .int (nI (T_np tA)), .int (wb (T_wh tA)), .int (wb (T_gn tA)), .int (T_sd tA), .ref qtw, .ref qtn, .ref qtg, .ref qta, .ref qtr, .ref qtm, .ref qtt, .ref qts], zzI cy qtw 8 (T_wo tA), zzI cy qtn 8 (T_ne tA), zzI cy qtg 8 (T_go tA), zzI cy qta 8 (T_ag tA), zzI cy qtr 8 (T_re tA), zzI cy qtm 8 (T_me tA), zzI cy qtt 8 (T_te tA), zzI cy qts 64 (shF (T_kn tA)), zzO qk 3 [.int (nI (T_nb tB)), .int (nI (T_np tB)), .int (wb (T_wh tB)), .int (wb (T_gn tB)), .int (T_sd tB), .ref qkw, .ref qkn, .ref qkg, .ref qka, .ref qkr, .ref qkm, .ref qkt, .ref qks], zzI cy qkw 8 (T_wo tB), zzI cy qkn 8 (T_ne tB), zzI cy qkg 8 (T_go tB), zzI cy qka 8 (T_ag tB), zzI cy qkr 8 (T_re tB), zzI cy qkm 8 (T_me tB), zzI cy qkt 8 (T_te tB), zzI cy qks 64 (shF (T_kn tB)), zzO qx 4 [.ref qt, .ref qk, .ref qp, .ref qs, .ref qa, .ref qr, .int iKp, .int iYe, .int iTv], zzI cy qr 5 fX_8] hP hD rfl
    clear hP hD
    obtain ⟨hP, hD⟩ := hPD
    subst h_6
    exact endW (u := [zzO qx 4 [.ref qt, .ref qk, .ref qp, .ref qs, .ref qa, .ref qr, .int iKp, .int iYe, .int iTv], zzI cy qr 5 fX_8, zzO qt 3 [.int (nI (T_nb tA)), .int (nI (T_np tA)), .int (wb (T_wh tA)), .int (wb (T_gn tA)), .int (T_sd tA), .ref qtw, .ref qtn, .ref qtg, .ref qta, .ref qtr, .ref qtm, .ref qtt, .ref qts], zzI cy qtw 8 (T_wo tA), zzI cy qtn 8 (T_ne tA), zzI cy qtg 8 (T_go tA), zzI cy qta 8 (T_ag tA), zzI cy qtr 8 (T_re tA), zzI cy qtm 8 (T_me tA), zzI cy qtt 8 (T_te tA), zzI cy qts 64 (shF (T_kn tA)), zzO qk 3 [.int (nI (T_nb tB)), .int (nI (T_np tB)), .int (wb (T_wh tB)), .int (wb (T_gn tB)), .int (T_sd tB), .ref qkw, .ref qkn, .ref qkg, .ref qka, .ref qkr, .ref qkm, .ref qkt, .ref qks], zzI cy qkw 8 (T_wo tB), zzI cy qkn 8 (T_ne tB), zzI cy qkg 8 (T_go tB), zzI cy qka 8 (T_ag tB), zzI cy qkr 8 (T_re tB), zzI cy qkm 8 (T_me tB), zzI cy qkt 8 (T_te tB), zzI cy qks 64 (shF (T_kn tB))]) hx hb hr hlocks rfl (hP.sub [18, 19, 0, 1, 2, 3, 4, 5, 6, 7, 8, 9, 10, 11, 12, 13, 14, 15, 16, 17] rfl) (hD.sub [18, 19, 0, 1, 2, 3, 4, 5, 6, 7, 8, 9, 10, 11, 12, 13, 14, 15, 16, 17] (by decide +kernel) rfl) hS ⟨fX_8, tA, rfl, Or.inl ⟨c_1, rfl, rfl⟩, trivial⟩ dX5_back_13
set_option maxHeartbeats 4000000 in
set_option maxRecDepth 100000 in
theorem p_X5_status (l : Launch) (G : va_G) (cy : Nat → ClassId) (qx : Nat) (qt : Nat) (qk : Nat) (qp : Nat) (qs : Nat) (qa : Nat) (qr : Nat) (iKp : Int32) (iYe : Int32) (iTv : Int32) (fR : Nat → Int32) (tA : TA) (qtw : Nat) (qtn : Nat) (qtg : Nat) (qta : Nat) (qtr : Nat) (qtm : Nat) (qtt : Nat) (qts : Nat) (qsh : Nat) (qss : Nat) (qsa : Nat) (qse : Nat) (fH : Nat → Int32) (qab : Nat) (kZ : Nat) (iT1 : Int32) (iT2 : Int32) (iT3 : Int32) (iT4 : Int32) (qd : Nat) (iA : Int32)  (hB : T_nb tA ≤ 8) (hPp : T_np tA ≤ 8) (hZ : kZ ≤ 250) : MR l yX5_status cX5_status 2 (some .int) 12 G cy [zzO qx 4 [.ref qt, .ref qk, .ref qp, .ref qs, .ref qa, .ref qr, .int iKp, .int iYe, .int iTv], zzI cy qr 5 fR, zzO qt 3 [.int (nI (T_nb tA)), .int (nI (T_np tA)), .int (wb (T_wh tA)), .int (wb (T_gn tA)), .int (T_sd tA), .ref qtw, .ref qtn, .ref qtg, .ref qta, .ref qtr, .ref qtm, .ref qtt, .ref qts], zzI cy qtw 8 (T_wo tA), zzI cy qtn 8 (T_ne tA), zzI cy qtg 8 (T_go tA), zzI cy qta 8 (T_ag tA), zzI cy qtr 8 (T_re tA), zzI cy qtm 8 (T_me tA), zzI cy qtt 8 (T_te tA), zzI cy qts 64 (shF (T_kn tA)), zzO qs 1 [.ref qsh, .ref qss, .ref qsa, .ref qse], zzI cy qsh 8 fH, zzO qa 2 [.ref qab, .int (nI kZ), .int iT1, .int iT2, .int iT3, .int iT4, .ref qd]] [.ref qx, .int iA] (vp_Si (fun r => True)) := by
  refine enR RX5 (by decide) rfl (Nat.le_of_ble_eq_true rfl) (fun p e s m below meth c ls hx hb hml hown hts hr hlocks hP hN hl => ?_)
  have hK := hN.1
  replace hl : lv_has ls 2 [(0, .ref qx), (1, .int iA)] := hl
  refine lv_iload_n hx hb dX5_status_0 rfl (lv_at hl 1 rfl) ?_
  refine lv_i2l (v := iA.toInt64) hx hb dX5_status_1 rfl ?_
  refine lv_ldc2 hx hb hown (hts _ m_t832) dX5_status_2 ?_
  refine lv_ldc2 hx hb hown (hts _ m_t833) dX5_status_5 ?_
  refine kRi (rS (As := [.long iA.toInt64, .long 12, .long 16]) (rest := []) ⟨hx, hb, hml, hown, hts⟩ (c_X5_within l G cy iA.toInt64 12 16) L_X5_50 (preRS hN hP [] rfl) rfl ⟨Nat.le_of_ble_eq_true rfl, Nat.le_of_ble_eq_true rfl⟩ hl.1 (Nat.le_of_ble_eq_true rfl) dX5_status_8 ⟨Nat.le_of_ble_eq_true rfl, Nat.le_of_ble_eq_true rfl⟩) (fun r_1 h_2 => ?_)
  rcases h_2 with ⟨rfl, h_3⟩ | ⟨rfl, h_3⟩
  · refine lv_if_eq (tgt := 24) hx hb dX5_status_11 (by decide) (fun h9 => absurd h9 (by decide)) (fun _ => ?_)
    refine lv_aload_n hx hb dX5_status_14 rfl (lv_at hl 0 rfl) ?_
    refine va_get (D := G) (ci := 4) (v := .ref qr) (C := RX5) (T := TX5) (N := 9) hx hb hts iX_X5 hown hK hP 0 rfl rfl 5 (by decide) (hts _ m_t179) (fun _ h9 => h9) rfl dX5_status_15 ?_
    refine lv_iload_n hx hb dX5_status_18 rfl (lv_at hl 1 rfl) ?_
    refine lv_bipush (v := 12) hx hb dX5_status_19 (by decide) ?_
    refine lv_isub hx hb dX5_status_21 ?_
    refine va_iald hx hb hK hP 1 0 rfl rfl (st_in5 h_3) dX5_status_22 ?_
    exact endR hx hb hr hlocks rfl trivial dX5_status_23
  · refine lv_if_eq (tgt := 24) hx hb dX5_status_11 (by decide) (fun _ => ?_) (fun h9 => absurd (by decide) h9)
    refine lv_iload_n hx hb dX5_status_24 rfl (lv_at hl 1 rfl) ?_
    rcases sw_0_8 iA with rfl | rfl | rfl | rfl | rfl | rfl | rfl | rfl | rfl | h_6
    · refine lv_tableIn (tgt := 76) (off := 51) hx hb dX5_status_25 (by decide) (by decide) (by decide) (by decide) ?_
      refine lv_aload_n hx hb dX5_status_76 rfl (lv_at hl 0 rfl) ?_
      refine va_get (D := G) (ci := 4) (v := .ref qt) (C := RX5) (T := TX5) (N := 9) hx hb hts iX_X5 hown hK hP 0 rfl rfl 0 (by decide) (hts _ m_t174) (fun _ h9 => h9) rfl dX5_status_77 ?_
      refine va_getN (D := G) (ci := 3) (v := .int (nI (T_nb tA))) (C := RX4) (T := TX4) (N := 13) hx hb hts iX_X4 hown hK hP 2 rfl rfl 0 (by decide) (va_Nw.use rfl (hN.2.1 (RX5, 127, "EachBookOnce$Town", "books", "I") (List.mem_of_getElem? (i := 3) rfl))) (fun _ h9 => h9) rfl dX5_status_80 ?_
      exact endR hx hb hr hlocks rfl trivial dX5_status_83
    · refine lv_tableIn (tgt := 84) (off := 59) hx hb dX5_status_25 (by decide) (by decide) (by decide) (by decide) ?_
      refine lv_aload_n hx hb dX5_status_84 rfl (lv_at hl 0 rfl) ?_
      refine va_get (D := G) (ci := 4) (v := .ref qt) (C := RX5) (T := TX5) (N := 9) hx hb hts iX_X5 hown hK hP 0 rfl rfl 0 (by decide) (hts _ m_t174) (fun _ h9 => h9) rfl dX5_status_85 ?_
      refine va_getN (D := G) (ci := 3) (v := .int (wb (T_wh tA))) (C := RX4) (T := TX4) (N := 13) hx hb hts iX_X4 hown hK hP 2 rfl rfl 2 (by decide) (va_Nw.use rfl (hN.2.1 (RX5, 180, "EachBookOnce$Town", "white", "I") (List.mem_of_getElem? (i := 10) rfl))) (fun _ h9 => h9) rfl dX5_status_88 ?_
      refine kRi (rS (As := [.int (wb (T_wh tA))]) (rest := []) ⟨hx, hb, hml, hown, hts⟩ (c_J6_bitCount l G cy (wb (T_wh tA))) L_X5_264 (preRS hN hP [] rfl) rfl ⟨Nat.le_of_ble_eq_true rfl, Nat.le_of_ble_eq_true rfl⟩ hl.1 (Nat.le_of_ble_eq_true rfl) dX5_status_91 ⟨Nat.le_of_ble_eq_true rfl, Nat.le_of_ble_eq_true rfl⟩) (fun r_7 h_8 => ?_)
      subst h_8
      exact endR hx hb hr hlocks rfl trivial dX5_status_94
    · refine lv_tableIn (tgt := 95) (off := 70) hx hb dX5_status_25 (by decide) (by decide) (by decide) (by decide) ?_
      refine lv_aload_n hx hb dX5_status_95 rfl (lv_at hl 0 rfl) ?_
      refine va_get (D := G) (ci := 4) (v := .ref qt) (C := RX5) (T := TX5) (N := 9) hx hb hts iX_X5 hown hK hP 0 rfl rfl 0 (by decide) (hts _ m_t174) (fun _ h9 => h9) rfl dX5_status_96 ?_
      refine va_getN (D := G) (ci := 3) (v := .int (nI (T_np tA))) (C := RX4) (T := TX4) (N := 13) hx hb hts iX_X4 hown hK hP 2 rfl rfl 1 (by decide) (va_Nw.use rfl (hN.2.1 (RX5, 141, "EachBookOnce$Town", "people", "I") (List.mem_of_getElem? (i := 7) rfl))) (fun _ h9 => h9) rfl dX5_status_99 ?_
      exact endR hx hb hr hlocks rfl trivial dX5_status_102
    · refine lv_tableIn (tgt := 103) (off := 78) hx hb dX5_status_25 (by decide) (by decide) (by decide) (by decide) ?_
      refine lv_aload_n hx hb dX5_status_103 rfl (lv_at hl 0 rfl) ?_
      refine va_get (D := G) (ci := 4) (v := .ref qt) (C := RX5) (T := TX5) (N := 9) hx hb hts iX_X5 hown hK hP 0 rfl rfl 0 (by decide) (hts _ m_t174) (fun _ h9 => h9) rfl dX5_status_104 ?_
      refine va_getN (D := G) (ci := 3) (v := .int (wb (T_gn tA))) (C := RX4) (T := TX4) (N := 13) hx hb hts iX_X4 hown hK hP 2 rfl rfl 3 (by decide) (va_Nw.use rfl (hN.2.1 (RX5, 207, "EachBookOnce$Town", "gone", "I") (List.mem_of_getElem? (i := 12) rfl))) (fun _ h9 => h9) rfl dX5_status_107 ?_
      refine kRi (rS (As := [.int (wb (T_gn tA))]) (rest := []) ⟨hx, hb, hml, hown, hts⟩ (c_J6_bitCount l G cy (wb (T_gn tA))) L_X5_264 (preRS hN hP [] rfl) rfl ⟨Nat.le_of_ble_eq_true rfl, Nat.le_of_ble_eq_true rfl⟩ hl.1 (Nat.le_of_ble_eq_true rfl) dX5_status_110 ⟨Nat.le_of_ble_eq_true rfl, Nat.le_of_ble_eq_true rfl⟩) (fun r_9 h_10 => ?_)
      subst h_10
      exact endR hx hb hr hlocks rfl trivial dX5_status_113
    · refine lv_tableIn (tgt := 114) (off := 89) hx hb dX5_status_25 (by decide) (by decide) (by decide) (by decide) ?_
      refine lv_aload_n hx hb dX5_status_114 rfl (lv_at hl 0 rfl) ?_
      refine va_get (D := G) (ci := 4) (v := .int iYe) (C := RX5) (T := TX5) (N := 9) hx hb hts iX_X5 hown hK hP 0 rfl rfl 7 (by decide) (hts _ m_t181) (fun _ h9 => h9) rfl dX5_status_115 ?_
      exact endR hx hb hr hlocks rfl trivial dX5_status_118
    · refine lv_tableIn (tgt := 119) (off := 94) hx hb dX5_status_25 (by decide) (by decide) (by decide) (by decide) ?_
      refine lv_aload_n hx hb dX5_status_119 rfl (lv_at hl 0 rfl) ?_
      refine va_get (D := G) (ci := 4) (v := .int iTv) (C := RX5) (T := TX5) (N := 9) hx hb hts iX_X5 hown hK hP 0 rfl rfl 8 (by decide) (hts _ m_t182) (fun _ h9 => h9) rfl dX5_status_120 ?_
      exact endR hx hb hr hlocks rfl trivial dX5_status_123
    · refine lv_tableIn (tgt := 124) (off := 99) hx hb dX5_status_25 (by decide) (by decide) (by decide) (by decide) ?_
      refine lv_aload_n hx hb dX5_status_124 rfl (lv_at hl 0 rfl) ?_
      refine va_get (D := G) (ci := 4) (v := .ref qa) (C := RX5) (T := TX5) (N := 9) hx hb hts iX_X5 hown hK hP 0 rfl rfl 4 (by decide) (hts _ m_t178) (fun _ h9 => h9) rfl dX5_status_125 ?_
      refine va_getN (D := G) (ci := 2) (v := .int (nI kZ)) (C := RX3) (T := TX3) (N := 7) hx hb hts iX_X3 hown hK hP 13 rfl rfl 1 (by decide) (va_Nw.use rfl (hN.2.1 (RX5, 148, "EachBookOnce$Tape", "size", "I") (List.mem_of_getElem? (i := 29) rfl))) (fun _ h9 => h9) rfl dX5_status_128 ?_
      exact endR hx hb hr hlocks rfl trivial dX5_status_131
    · refine lv_tableIn (tgt := 132) (off := 107) hx hb dX5_status_25 (by decide) (by decide) (by decide) (by decide) ?_
      refine lv_aload_n hx hb dX5_status_132 rfl (lv_at hl 0 rfl) ?_
      refine va_get (D := G) (ci := 4) (v := .ref qt) (C := RX5) (T := TX5) (N := 9) hx hb hts iX_X5 hown hK hP 0 rfl rfl 0 (by decide) (hts _ m_t174) (fun _ h9 => h9) rfl dX5_status_133 ?_
      refine va_getN (D := G) (ci := 3) (v := .int (T_sd tA)) (C := RX4) (T := TX4) (N := 13) hx hb hts iX_X4 hown hK hP 2 rfl rfl 4 (by decide) (va_Nw.use rfl (hN.2.1 (RX5, 341, "EachBookOnce$Town", "luck", "I") (List.mem_of_getElem? (i := 13) rfl))) (fun _ h9 => h9) rfl dX5_status_136 ?_
      exact endR hx hb hr hlocks rfl trivial dX5_status_139
    · refine lv_tableIn (tgt := 140) (off := 115) hx hb dX5_status_25 (by decide) (by decide) (by decide) (by decide) ?_
      refine lv_aload_n hx hb dX5_status_140 rfl (lv_at hl 0 rfl) ?_
      refine va_get (D := G) (ci := 4) (v := .ref qs) (C := RX5) (T := TX5) (N := 9) hx hb hts iX_X5 hown hK hP 0 rfl rfl 3 (by decide) (hts _ m_t177) (fun _ h9 => h9) rfl dX5_status_141 ?_
      refine kRi (rV (As := []) (rest := []) (b := qs) ⟨hx, hb, hml, hown, hts⟩ (c_X2_countHolding l G cy qs qsh qss qsa qse fH) L_X5_352 (preRV (q := (RX2, TX2, 4)) hN hP [11, 12] rfl 11 1 rfl rfl) rfl ⟨Nat.le_of_ble_eq_true rfl, Nat.le_of_ble_eq_true rfl⟩ hl.1 (Nat.le_of_ble_eq_true rfl) dX5_status_144 ⟨Nat.le_of_ble_eq_true rfl, Nat.le_of_ble_eq_true rfl⟩) (fun r_11 h_12 => ?_)
      exact endR hx hb hr hlocks rfl trivial dX5_status_147
    · refine lv_tableOut (tgt := 148) hx hb dX5_status_25 h_6 (by decide) ?_
      refine lv_iconst (v := (-1)) hx hb dX5_status_148 (by decide) ?_
      exact endR hx hb hr hlocks rfl trivial dX5_status_149
