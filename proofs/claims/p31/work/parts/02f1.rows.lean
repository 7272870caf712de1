theorem dX5_told_41 : decode cX5_told 41 = .ok (.aload_n 0, 1) := g_42 bX5_told rfl
theorem dX5_told_42 : decode cX5_told 42 = .ok (.iload_n 3, 1) := g_29 bX5_told rfl
theorem dX5_told_43 : decode cX5_told 43 = .ok (.invokevirtual 56, 3) := g_182 bX5_told rfl
theorem dX5_told_46 : decode cX5_told 46 = .ok (.ireturn, 1) := g_172 bX5_told rfl
theorem dX5_two_0 : decode cX5_two 0 = .ok (.aload_n 0, 1) := g_42 bX5_two rfl
theorem dX5_two_1 : decode cX5_two 1 = .ok (.getfield 10, 3) := g_180 bX5_two rfl
theorem dX5_two_4 : decode cX5_two 4 = .ok (.iload_n 1, 1) := g_27 bX5_two rfl
theorem dX5_two_5 : decode cX5_two 5 = .ok (.invokevirtual 192, 3) := g_182 bX5_two rfl
theorem dX5_two_8 : decode cX5_two 8 = .ok (.ifCond .eq 14, 3) := g_153 14 bX5_two rfl rfl
theorem dX5_two_11 : decode cX5_two 11 = .ok (.aload_n 0, 1) := g_42 bX5_two rfl
theorem dX5_two_12 : decode cX5_two 12 = .ok (.getfield 10, 3) := g_180 bX5_two rfl
theorem dX5_two_15 : decode cX5_two 15 = .ok (.iload_n 2, 1) := g_28 bX5_two rfl
theorem dX5_two_16 : decode cX5_two 16 = .ok (.invokevirtual 192, 3) := g_182 bX5_two rfl
theorem dX5_two_19 : decode cX5_two 19 = .ok (.ifCond .ne 10, 3) := g_154 10 bX5_two rfl rfl
theorem dX5_two_22 : decode cX5_two 22 = .ok (.aload_n 0, 1) := g_42 bX5_two rfl
theorem dX5_two_23 : decode cX5_two 23 = .ok (.bipush (-2), 2) := g_16 254 bX5_two rfl rfl
theorem dX5_two_25 : decode cX5_two 25 = .ok (.invokevirtual 56, 3) := g_182 bX5_two rfl
theorem dX5_two_28 : decode cX5_two 28 = .ok (.ireturn, 1) := g_172 bX5_two rfl
theorem dX5_two_29 : decode cX5_two 29 = .ok (.aload_n 0, 1) := g_42 bX5_two rfl
theorem dX5_two_30 : decode cX5_two 30 = .ok (.getfield 10, 3) := g_180 bX5_two rfl
theorem dX5_two_33 : decode cX5_two 33 = .ok (.aload_n 0, 1) := g_42 bX5_two rfl
theorem dX5_two_34 : decode cX5_two 34 = .ok (.getfield 10, 3) := g_180 bX5_two rfl
theorem dX5_two_37 : decode cX5_two 37 = .ok (.invokevirtual 269, 3) := g_182 bX5_two rfl
theorem dX5_two_40 : decode cX5_two 40 = .ok (.iconst 1, 1) := g_4 bX5_two rfl
theorem dX5_two_41 : decode cX5_two 41 = .ok (.iload_n 1, 1) := g_27 bX5_two rfl
theorem dX5_two_42 : decode cX5_two 42 = .ok (.ishl, 1) := g_120 bX5_two rfl
theorem dX5_two_43 : decode cX5_two 43 = .ok (.iconst 1, 1) := g_4 bX5_two rfl
theorem dX5_two_44 : decode cX5_two 44 = .ok (.iload_n 2, 1) := g_28 bX5_two rfl
theorem dX5_two_45 : decode cX5_two 45 = .ok (.ishl, 1) := g_120 bX5_two rfl
theorem dX5_two_46 : decode cX5_two 46 = .ok (.ior, 1) := g_128 bX5_two rfl
theorem dX5_two_47 : decode cX5_two 47 = .ok (.iand, 1) := g_126 bX5_two rfl
theorem dX5_two_48 : decode cX5_two 48 = .ok (.invokevirtual 300, 3) := g_182 bX5_two rfl
theorem dX5_two_51 : decode cX5_two 51 = .ok (.ireturn, 1) := g_172 bX5_two rfl
theorem dX5_who_0 : decode cX5_who 0 = .ok (.aload_n 0, 1) := g_42 bX5_who rfl
theorem dX5_who_1 : decode cX5_who 1 = .ok (.getfield 10, 3) := g_180 bX5_who rfl
theorem dX5_who_4 : decode cX5_who 4 = .ok (.iload_n 1, 1) := g_27 bX5_who rfl
theorem dX5_who_5 : decode cX5_who 5 = .ok (.invokevirtual 168, 3) := g_182 bX5_who rfl
theorem dX5_who_8 : decode cX5_who 8 = .ok (.ifCond .eq 15, 3) := g_153 15 bX5_who rfl rfl
theorem dX5_who_11 : decode cX5_who 11 = .ok (.iload_n 2, 1) := g_28 bX5_who rfl
theorem dX5_who_12 : decode cX5_who 12 = .ok (.i2l, 1) := g_133 bX5_who rfl
theorem dX5_who_13 : decode cX5_who 13 = .ok (.lconst 1, 1) := g_10 bX5_who rfl
theorem dX5_who_14 : decode cX5_who 14 = .ok (.ldc2_w 250, 3) := g_20 bX5_who rfl
theorem dX5_who_17 : decode cX5_who 17 = .ok (.invokestatic 50, 3) := g_184 bX5_who rfl
theorem dX5_who_20 : decode cX5_who 20 = .ok (.ifCond .ne 10, 3) := g_154 10 bX5_who rfl rfl
theorem dX5_who_23 : decode cX5_who 23 = .ok (.aload_n 0, 1) := g_42 bX5_who rfl
theorem dX5_who_24 : decode cX5_who 24 = .ok (.bipush (-2), 2) := g_16 254 bX5_who rfl rfl
theorem dX5_who_26 : decode cX5_who 26 = .ok (.invokevirtual 56, 3) := g_182 bX5_who rfl
theorem dX5_who_29 : decode cX5_who 29 = .ok (.ireturn, 1) := g_172 bX5_who rfl
theorem dX5_who_30 : decode cX5_who 30 = .ok (.aload_n 0, 1) := g_42 bX5_who rfl
theorem dX5_who_31 : decode cX5_who 31 = .ok (.getfield 10, 3) := g_180 bX5_who rfl
theorem dX5_who_34 : decode cX5_who 34 = .ok (.getfield 180, 3) := g_180 bX5_who rfl
theorem dX5_who_37 : decode cX5_who 37 = .ok (.iload_n 1, 1) := g_27 bX5_who rfl
theorem dX5_who_38 : decode cX5_who 38 = .ok (.invokestatic 183, 3) := g_184 bX5_who rfl
theorem dX5_who_41 : decode cX5_who 41 = .ok (.ifCond .ne 13, 3) := g_154 13 bX5_who rfl rfl
theorem dX5_who_44 : decode cX5_who 44 = .ok (.aload_n 0, 1) := g_42 bX5_who rfl
theorem dX5_who_45 : decode cX5_who 45 = .ok (.getfield 10, 3) := g_180 bX5_who rfl
theorem dX5_who_48 : decode cX5_who 48 = .ok (.invokevirtual 269, 3) := g_182 bX5_who rfl
theorem dX5_who_51 : decode cX5_who 51 = .ok (.ifCond .ne 10, 3) := g_154 10 bX5_who rfl rfl
theorem dX5_who_54 : decode cX5_who 54 = .ok (.aload_n 0, 1) := g_42 bX5_who rfl
theorem dX5_who_55 : decode cX5_who 55 = .ok (.bipush (-5), 2) := g_16 251 bX5_who rfl rfl
theorem dX5_who_57 : decode cX5_who 57 = .ok (.invokevirtual 56, 3) := g_182 bX5_who rfl
theorem dX5_who_60 : decode cX5_who 60 = .ok (.ireturn, 1) := g_172 bX5_who rfl
theorem dX5_who_61 : decode cX5_who 61 = .ok (.aload_n 0, 1) := g_42 bX5_who rfl
theorem dX5_who_62 : decode cX5_who 62 = .ok (.getfield 22, 3) := g_180 bX5_who rfl
theorem dX5_who_65 : decode cX5_who 65 = .ok (.aload_n 0, 1) := g_42 bX5_who rfl
theorem dX5_who_66 : decode cX5_who 66 = .ok (.getfield 10, 3) := g_180 bX5_who rfl
theorem dX5_who_69 : decode cX5_who 69 = .ok (.iload_n 1, 1) := g_27 bX5_who rfl
theorem dX5_who_70 : decode cX5_who 70 = .ok (.iload_n 2, 1) := g_28 bX5_who rfl
theorem dX5_who_71 : decode cX5_who 71 = .ok (.invokevirtual 272, 3) := g_182 bX5_who rfl
theorem dX5_who_74 : decode cX5_who 74 = .ok (.ireturn, 1) := g_172 bX5_who rfl
theorem dX5_years_0 : decode cX5_years 0 = .ok (.iload_n 2, 1) := g_28 bX5_years rfl
theorem dX5_years_1 : decode cX5_years 1 = .ok (.i2l, 1) := g_133 bX5_years rfl
theorem dX5_years_2 : decode cX5_years 2 = .ok (.lconst 1, 1) := g_10 bX5_years rfl
theorem dX5_years_3 : decode cX5_years 3 = .ok (.ldc2_w 327, 3) := g_20 bX5_years rfl
theorem dX5_years_6 : decode cX5_years 6 = .ok (.invokestatic 50, 3) := g_184 bX5_years rfl
theorem dX5_years_9 : decode cX5_years 9 = .ok (.ifCond .eq 11, 3) := g_153 11 bX5_years rfl rfl
theorem dX5_years_12 : decode cX5_years 12 = .ok (.aload_n 0, 1) := g_42 bX5_years rfl
theorem dX5_years_13 : decode cX5_years 13 = .ok (.iload_n 1, 1) := g_27 bX5_years rfl
theorem dX5_years_14 : decode cX5_years 14 = .ok (.invokevirtual 100, 3) := g_182 bX5_years rfl
theorem dX5_years_17 : decode cX5_years 17 = .ok (.goto 5, 3) := g_167 5 bX5_years rfl rfl
theorem dX5_years_20 : decode cX5_years 20 = .ok (.bipush (-2), 2) := g_16 254 bX5_years rfl rfl
theorem dX5_years_22 : decode cX5_years 22 = .ok (.istore_n 3, 1) := g_62 bX5_years rfl
theorem dX5_years_23 : decode cX5_years 23 = .ok (.iload_n 3, 1) := g_29 bX5_years rfl
theorem dX5_years_24 : decode cX5_years 24 = .ok (.ifCond .eq 9, 3) := g_153 9 bX5_years rfl rfl
theorem dX5_years_27 : decode cX5_years 27 = .ok (.aload_n 0, 1) := g_42 bX5_years rfl
theorem dX5_years_28 : decode cX5_years 28 = .ok (.iload_n 3, 1) := g_29 bX5_years rfl
theorem dX5_years_29 : decode cX5_years 29 = .ok (.invokevirtual 56, 3) := g_182 bX5_years rfl
theorem dX5_years_32 : decode cX5_years 32 = .ok (.ireturn, 1) := g_172 bX5_years rfl
theorem dX5_years_33 : decode cX5_years 33 = .ok (.iconst 0, 1) := g_3 bX5_years rfl
theorem dX5_years_34 : decode cX5_years 34 = .ok (.istore 4, 2) := g_54 bX5_years rfl
theorem dX5_years_36 : decode cX5_years 36 = .ok (.iconst 0, 1) := g_3 bX5_years rfl
theorem dX5_years_37 : decode cX5_years 37 = .ok (.istore 5, 2) := g_54 bX5_years rfl
theorem dX5_years_39 : decode cX5_years 39 = .ok (.iload 5, 2) := g_21 bX5_years rfl
theorem dX5_years_41 : decode cX5_years 41 = .ok (.iload_n 2, 1) := g_28 bX5_years rfl
theorem dX5_years_42 : decode cX5_years 42 = .ok (.if_icmp .ge 71, 3) := g_162 71 bX5_years rfl rfl
theorem dX5_years_45 : decode cX5_years 45 = .ok (.aload_n 0, 1) := g_42 bX5_years rfl
theorem dX5_years_46 : decode cX5_years 46 = .ok (.getfield 10, 3) := g_180 bX5_years rfl
theorem dX5_years_49 : decode cX5_years 49 = .ok (.aload_n 0, 1) := g_42 bX5_years rfl
theorem dX5_years_50 : decode cX5_years 50 = .ok (.getfield 29, 3) := g_180 bX5_years rfl
theorem dX5_years_53 : decode cX5_years 53 = .ok (.iload_n 1, 1) := g_27 bX5_years rfl
theorem dX5_years_54 : decode cX5_years 54 = .ok (.invokevirtual 103, 3) := g_182 bX5_years rfl
theorem dX5_years_57 : decode cX5_years 57 = .ok (.aload_n 0, 1) := g_42 bX5_years rfl
theorem dX5_years_58 : decode cX5_years 58 = .ok (.getfield 29, 3) := g_180 bX5_years rfl
theorem dX5_years_61 : decode cX5_years 61 = .ok (.getfield 112, 3) := g_180 bX5_years rfl
theorem dX5_years_64 : decode cX5_years 64 = .ok (.iload_n 1, 1) := g_27 bX5_years rfl
theorem dX5_years_65 : decode cX5_years 65 = .ok (.iaload, 1) := g_46 bX5_years rfl
theorem dX5_years_66 : decode cX5_years 66 = .ok (.invokestatic 119, 3) := g_184 bX5_years rfl
theorem dX5_years_69 : decode cX5_years 69 = .ok (.pop, 1) := g_87 bX5_years rfl
theorem dX5_years_70 : decode cX5_years 70 = .ok (.iload 4, 2) := g_21 bX5_years rfl
theorem dX5_years_72 : decode cX5_years 72 = .ok (.aload_n 0, 1) := g_42 bX5_years rfl
theorem dX5_years_73 : decode cX5_years 73 = .ok (.getfield 10, 3) := g_180 bX5_years rfl
theorem dX5_years_76 : decode cX5_years 76 = .ok (.invokevirtual 123, 3) := g_182 bX5_years rfl
theorem dX5_years_79 : decode cX5_years 79 = .ok (.iadd, 1) := g_96 bX5_years rfl
theorem dX5_years_80 : decode cX5_years 80 = .ok (.istore 4, 2) := g_54 bX5_years rfl
theorem dX5_years_82 : decode cX5_years 82 = .ok (.aload_n 0, 1) := g_42 bX5_years rfl
theorem dX5_years_83 : decode cX5_years 83 = .ok (.getfield 10, 3) := g_180 bX5_years rfl
theorem dX5_years_86 : decode cX5_years 86 = .ok (.invokevirtual 329, 3) := g_182 bX5_years rfl
theorem dX5_years_89 : decode cX5_years 89 = .ok (.aload_n 0, 1) := g_42 bX5_years rfl
theorem dX5_years_90 : decode cX5_years 90 = .ok (.getfield 10, 3) := g_180 bX5_years rfl
theorem dX5_years_93 : decode cX5_years 93 = .ok (.invokevirtual 332, 3) := g_182 bX5_years rfl
theorem dX5_years_96 : decode cX5_years 96 = .ok (.pop, 1) := g_87 bX5_years rfl
theorem dX5_years_97 : decode cX5_years 97 = .ok (.aload_n 0, 1) := g_42 bX5_years rfl
theorem dX5_years_98 : decode cX5_years 98 = .ok (.dup, 1) := g_89 bX5_years rfl
theorem dX5_years_99 : decode cX5_years 99 = .ok (.getfield 335, 3) := g_180 bX5_years rfl
theorem dX5_years_102 : decode cX5_years 102 = .ok (.iconst 1, 1) := g_4 bX5_years rfl
theorem dX5_years_103 : decode cX5_years 103 = .ok (.iadd, 1) := g_96 bX5_years rfl
theorem dX5_years_104 : decode cX5_years 104 = .ok (.putfield 335, 3) := g_181 bX5_years rfl
theorem dX5_years_107 : decode cX5_years 107 = .ok (.iinc 5 1, 3) := g_132 1 bX5_years rfl rfl
theorem dX5_years_110 : decode cX5_years 110 = .ok (.goto (-71), 3) := g_167 65465 bX5_years rfl rfl
theorem dX5_years_113 : decode cX5_years 113 = .ok (.aload_n 0, 1) := g_42 bX5_years rfl
theorem dX5_years_114 : decode cX5_years 114 = .ok (.dup, 1) := g_89 bX5_years rfl
theorem dX5_years_115 : decode cX5_years 115 = .ok (.getfield 338, 3) := g_180 bX5_years rfl
theorem dX5_years_118 : decode cX5_years 118 = .ok (.iload 4, 2) := g_21 bX5_years rfl
theorem dX5_years_120 : decode cX5_years 120 = .ok (.iadd, 1) := g_96 bX5_years rfl
theorem dX5_years_121 : decode cX5_years 121 = .ok (.putfield 338, 3) := g_181 bX5_years rfl
theorem dX5_years_124 : decode cX5_years 124 = .ok (.iload 4, 2) := g_21 bX5_years rfl
theorem dX5_years_126 : decode cX5_years 126 = .ok (.ireturn, 1) := g_172 bX5_years rfl
theorem dX5_youngest_0 : decode cX5_youngest 0 = .ok (.aload_n 0, 1) := g_42 bX5_youngest rfl
theorem dX5_youngest_1 : decode cX5_youngest 1 = .ok (.getfield 10, 3) := g_180 bX5_youngest rfl
theorem dX5_youngest_4 : decode cX5_youngest 4 = .ok (.iload_n 1, 1) := g_27 bX5_youngest rfl
theorem dX5_youngest_5 : decode cX5_youngest 5 = .ok (.invokevirtual 192, 3) := g_182 bX5_youngest rfl
theorem dX5_youngest_8 : decode cX5_youngest 8 = .ok (.ifCond .eq 14, 3) := g_153 14 bX5_youngest rfl rfl
theorem dX5_youngest_11 : decode cX5_youngest 11 = .ok (.aload_n 0, 1) := g_42 bX5_youngest rfl
theorem dX5_youngest_12 : decode cX5_youngest 12 = .ok (.getfield 10, 3) := g_180 bX5_youngest rfl
theorem dX5_youngest_15 : decode cX5_youngest 15 = .ok (.iload_n 1, 1) := g_27 bX5_youngest rfl
theorem dX5_youngest_16 : decode cX5_youngest 16 = .ok (.invokevirtual 306, 3) := g_182 bX5_youngest rfl
theorem dX5_youngest_19 : decode cX5_youngest 19 = .ok (.goto 9, 3) := g_167 9 bX5_youngest rfl rfl
theorem dX5_youngest_22 : decode cX5_youngest 22 = .ok (.aload_n 0, 1) := g_42 bX5_youngest rfl
theorem dX5_youngest_23 : decode cX5_youngest 23 = .ok (.bipush (-2), 2) := g_16 254 bX5_youngest rfl rfl
theorem dX5_youngest_25 : decode cX5_youngest 25 = .ok (.invokevirtual 56, 3) := g_182 bX5_youngest rfl
theorem dX5_youngest_28 : decode cX5_youngest 28 = .ok (.ireturn, 1) := g_172 bX5_youngest rfl
theorem dJ0_charAt_5068e_0 : decode cJ0_charAt_5068e 0 = .ok (.aload_n 0, 1) := g_42 bJ0_charAt_5068e rfl
theorem dJ0_charAt_5068e_1 : decode cJ0_charAt_5068e 1 = .ok (.invokevirtual 492, 3) := g_182 bJ0_charAt_5068e rfl
theorem dJ0_charAt_5068e_4 : decode cJ0_charAt_5068e 4 = .ok (.ifCond .eq 12, 3) := g_153 12 bJ0_charAt_5068e rfl rfl
theorem dJ0_charAt_5068e_7 : decode cJ0_charAt_5068e 7 = .ok (.aload_n 0, 1) := g_42 bJ0_charAt_5068e rfl
theorem dJ0_charAt_5068e_8 : decode cJ0_charAt_5068e 8 = .ok (.getfield 9, 3) := g_180 bJ0_charAt_5068e rfl
theorem dJ0_charAt_5068e_11 : decode cJ0_charAt_5068e 11 = .ok (.iload_n 1, 1) := g_27 bJ0_charAt_5068e rfl
theorem dJ0_charAt_5068e_12 : decode cJ0_charAt_5068e 12 = .ok (.invokestatic 495, 3) := g_184 bJ0_charAt_5068e rfl
theorem dJ0_charAt_5068e_15 : decode cJ0_charAt_5068e 15 = .ok (.ireturn, 1) := g_172 bJ0_charAt_5068e rfl
theorem dJ0_checkIndex_df160_0 : decode cJ0_checkIndex_df160 0 = .ok (.iload_n 0, 1) := g_26 bJ0_checkIndex_df160 rfl
theorem dJ0_checkIndex_df160_1 : decode cJ0_checkIndex_df160 1 = .ok (.iload_n 1, 1) := g_27 bJ0_checkIndex_df160 rfl
theorem dJ0_checkIndex_df160_2 : decode cJ0_checkIndex_df160 2 = .ok (.getstatic 1053, 3) := g_178 bJ0_checkIndex_df160 rfl
theorem dJ0_checkIndex_df160_5 : decode cJ0_checkIndex_df160 5 = .ok (.invokestatic 1059, 3) := g_184 bJ0_checkIndex_df160 rfl
theorem dJ0_checkIndex_df160_8 : decode cJ0_checkIndex_df160 8 = .ok (.pop, 1) := g_87 bJ0_checkIndex_df160 rfl
theorem dJ0_checkIndex_df160_9 : decode cJ0_checkIndex_df160 9 = .ok (.return_, 1) := g_177 bJ0_checkIndex_df160 rfl
theorem dJ0_coder_7d493_0 : decode cJ0_coder_7d493 0 = .ok (.getstatic 38, 3) := g_178 bJ0_coder_7d493 rfl
theorem dJ0_coder_7d493_3 : decode cJ0_coder_7d493 3 = .ok (.ifCond .eq 10, 3) := g_153 10 bJ0_coder_7d493 rfl rfl
theorem dJ0_coder_7d493_6 : decode cJ0_coder_7d493 6 = .ok (.aload_n 0, 1) := g_42 bJ0_coder_7d493 rfl
theorem dJ0_coder_7d493_7 : decode cJ0_coder_7d493 7 = .ok (.getfield 15, 3) := g_180 bJ0_coder_7d493 rfl
theorem dJ0_coder_7d493_10 : decode cJ0_coder_7d493 10 = .ok (.goto 4, 3) := g_167 4 bJ0_coder_7d493 rfl rfl
theorem dJ0_coder_7d493_14 : decode cJ0_coder_7d493 14 = .ok (.ireturn, 1) := g_172 bJ0_coder_7d493 rfl
theorem dJ0_isLatin1_aae02_0 : decode cJ0_isLatin1_aae02 0 = .ok (.getstatic 38, 3) := g_178 bJ0_isLatin1_aae02 rfl
theorem dJ0_isLatin1_aae02_3 : decode cJ0_isLatin1_aae02 3 = .ok (.ifCond .eq 14, 3) := g_153 14 bJ0_isLatin1_aae02 rfl rfl
theorem dJ0_isLatin1_aae02_6 : decode cJ0_isLatin1_aae02 6 = .ok (.aload_n 0, 1) := g_42 bJ0_isLatin1_aae02 rfl
theorem dJ0_isLatin1_aae02_7 : decode cJ0_isLatin1_aae02 7 = .ok (.getfield 15, 3) := g_180 bJ0_isLatin1_aae02 rfl
theorem dJ0_isLatin1_aae02_10 : decode cJ0_isLatin1_aae02 10 = .ok (.ifCond .ne 7, 3) := g_154 7 bJ0_isLatin1_aae02 rfl rfl
theorem dJ0_isLatin1_aae02_13 : decode cJ0_isLatin1_aae02 13 = .ok (.iconst 1, 1) := g_4 bJ0_isLatin1_aae02 rfl
theorem dJ0_isLatin1_aae02_14 : decode cJ0_isLatin1_aae02 14 = .ok (.goto 4, 3) := g_167 4 bJ0_isLatin1_aae02 rfl rfl
theorem dJ0_isLatin1_aae02_18 : decode cJ0_isLatin1_aae02 18 = .ok (.ireturn, 1) := g_172 bJ0_isLatin1_aae02 rfl
theorem dJ0_length_8abf5_0 : decode cJ0_length_8abf5 0 = .ok (.aload_n 0, 1) := g_42 bJ0_length_8abf5 rfl
theorem dJ0_length_8abf5_1 : decode cJ0_length_8abf5 1 = .ok (.getfield 9, 3) := g_180 bJ0_length_8abf5 rfl
theorem dJ0_length_8abf5_4 : decode cJ0_length_8abf5 4 = .ok (.arraylength, 1) := g_190 bJ0_length_8abf5 rfl
theorem dJ0_length_8abf5_5 : decode cJ0_length_8abf5 5 = .ok (.aload_n 0, 1) := g_42 bJ0_length_8abf5 rfl
theorem dJ0_length_8abf5_6 : decode cJ0_length_8abf5 6 = .ok (.invokevirtual 335, 3) := g_182 bJ0_length_8abf5 rfl
theorem dJ0_length_8abf5_9 : decode cJ0_length_8abf5 9 = .ok (.ishr, 1) := g_122 bJ0_length_8abf5 rfl
theorem dJ0_length_8abf5_10 : decode cJ0_length_8abf5 10 = .ok (.ireturn, 1) := g_172 bJ0_length_8abf5 rfl
theorem dJ1_charAt_3b067_0 : decode cJ1_charAt_3b067 0 = .ok (.iload_n 1, 1) := g_27 bJ1_charAt_3b067 rfl
theorem dJ1_charAt_3b067_1 : decode cJ1_charAt_3b067 1 = .ok (.aload_n 0, 1) := g_42 bJ1_charAt_3b067 rfl
theorem dJ1_charAt_3b067_2 : decode cJ1_charAt_3b067 2 = .ok (.arraylength, 1) := g_190 bJ1_charAt_3b067 rfl
theorem dJ1_charAt_3b067_3 : decode cJ1_charAt_3b067 3 = .ok (.invokestatic 9, 3) := g_184 bJ1_charAt_3b067 rfl
theorem dJ1_charAt_3b067_6 : decode cJ1_charAt_3b067 6 = .ok (.aload_n 0, 1) := g_42 bJ1_charAt_3b067 rfl
theorem dJ1_charAt_3b067_7 : decode cJ1_charAt_3b067 7 = .ok (.iload_n 1, 1) := g_27 bJ1_charAt_3b067 rfl
theorem dJ1_charAt_3b067_8 : decode cJ1_charAt_3b067 8 = .ok (.baload, 1) := g_51 bJ1_charAt_3b067 rfl
theorem dJ1_charAt_3b067_9 : decode cJ1_charAt_3b067 9 = .ok (.sipush 255, 3) := g_17 255 bJ1_charAt_3b067 rfl rfl
theorem dJ1_charAt_3b067_12 : decode cJ1_charAt_3b067 12 = .ok (.iand, 1) := g_126 bJ1_charAt_3b067 rfl
theorem dJ1_charAt_3b067_13 : decode cJ1_charAt_3b067 13 = .ok (.i2c, 1) := g_146 bJ1_charAt_3b067 rfl
theorem dJ1_charAt_3b067_14 : decode cJ1_charAt_3b067 14 = .ok (.ireturn, 1) := g_172 bJ1_charAt_3b067 rfl
theorem dJ3_checkIndex_8e157_0 : decode cJ3_checkIndex_8e157 0 = .ok (.iload_n 0, 1) := g_26 bJ3_checkIndex_8e157 rfl
theorem dJ3_checkIndex_8e157_1 : decode cJ3_checkIndex_8e157 1 = .ok (.ifCond .lt 8, 3) := g_155 8 bJ3_checkIndex_8e157 rfl rfl
theorem dJ3_checkIndex_8e157_4 : decode cJ3_checkIndex_8e157 4 = .ok (.iload_n 0, 1) := g_26 bJ3_checkIndex_8e157 rfl
theorem dJ3_checkIndex_8e157_5 : decode cJ3_checkIndex_8e157 5 = .ok (.iload_n 1, 1) := g_27 bJ3_checkIndex_8e157 rfl
theorem dJ3_checkIndex_8e157_6 : decode cJ3_checkIndex_8e157 6 = .ok (.if_icmp .lt 10, 3) := g_161 10 bJ3_checkIndex_8e157 rfl rfl
theorem dJ3_checkIndex_8e157_16 : decode cJ3_checkIndex_8e157 16 = .ok (.iload_n 0, 1) := g_26 bJ3_checkIndex_8e157 rfl
theorem dJ3_checkIndex_8e157_17 : decode cJ3_checkIndex_8e157 17 = .ok (.ireturn, 1) := g_172 bJ3_checkIndex_8e157 rfl
theorem dX3_fail_0 : decode cX3_fail 0 = .ok (.aload_n 0, 1) := g_42 bX3_fail rfl
theorem dX3_fail_1 : decode cX3_fail 1 = .ok (.getfield 30, 3) := g_180 bX3_fail rfl
theorem dX3_fail_4 : decode cX3_fail 4 = .ok (.iconst (-1), 1) := g_2 bX3_fail rfl
theorem dX3_fail_5 : decode cX3_fail 5 = .ok (.if_icmp .ne 11, 3) := g_160 11 bX3_fail rfl rfl
theorem dX3_fail_8 : decode cX3_fail 8 = .ok (.aload_n 0, 1) := g_42 bX3_fail rfl
theorem dX3_fail_9 : decode cX3_fail 9 = .ok (.aload_n 0, 1) := g_42 bX3_fail rfl
theorem dX3_fail_10 : decode cX3_fail 10 = .ok (.getfield 121, 3) := g_180 bX3_fail rfl
theorem dX3_fail_13 : decode cX3_fail 13 = .ok (.putfield 30, 3) := g_181 bX3_fail rfl
theorem dX3_fail_16 : decode cX3_fail 16 = .ok (.return_, 1) := g_177 bX3_fail rfl
theorem dX3_isWord_0 : decode cX3_isWord 0 = .ok (.aload_n 0, 1) := g_42 bX3_isWord rfl
theorem dX3_isWord_1 : decode cX3_isWord 1 = .ok (.getfield 42, 3) := g_180 bX3_isWord rfl
theorem dX3_isWord_4 : decode cX3_isWord 4 = .ok (.iconst 1, 1) := g_4 bX3_isWord rfl
theorem dX3_isWord_5 : decode cX3_isWord 5 = .ok (.if_icmp .ne 19, 3) := g_160 19 bX3_isWord rfl rfl
theorem dX3_isWord_8 : decode cX3_isWord 8 = .ok (.aload_n 0, 1) := g_42 bX3_isWord rfl
theorem dX3_isWord_9 : decode cX3_isWord 9 = .ok (.getfield 33, 3) := g_180 bX3_isWord rfl
theorem dX3_isWord_12 : decode cX3_isWord 12 = .ok (.aload_n 0, 1) := g_42 bX3_isWord rfl
theorem dX3_isWord_13 : decode cX3_isWord 13 = .ok (.getfield 121, 3) := g_180 bX3_isWord rfl
theorem dX3_isWord_16 : decode cX3_isWord 16 = .ok (.isub, 1) := g_100 bX3_isWord rfl
theorem dX3_isWord_17 : decode cX3_isWord 17 = .ok (.aload_n 1, 1) := g_43 bX3_isWord rfl
theorem dX3_isWord_18 : decode cX3_isWord 18 = .ok (.invokevirtual 124, 3) := g_182 bX3_isWord rfl
theorem dX3_isWord_21 : decode cX3_isWord 21 = .ok (.if_icmp .eq 5, 3) := g_159 5 bX3_isWord rfl rfl
theorem dX3_isWord_24 : decode cX3_isWord 24 = .ok (.iconst 0, 1) := g_3 bX3_isWord rfl
theorem dX3_isWord_25 : decode cX3_isWord 25 = .ok (.ireturn, 1) := g_172 bX3_isWord rfl
theorem dX3_isWord_26 : decode cX3_isWord 26 = .ok (.iconst 0, 1) := g_3 bX3_isWord rfl
theorem dX3_isWord_27 : decode cX3_isWord 27 = .ok (.istore_n 2, 1) := g_61 bX3_isWord rfl
theorem dX3_isWord_28 : decode cX3_isWord 28 = .ok (.iload_n 2, 1) := g_28 bX3_isWord rfl
theorem dX3_isWord_29 : decode cX3_isWord 29 = .ok (.aload_n 1, 1) := g_43 bX3_isWord rfl
theorem dX3_isWord_30 : decode cX3_isWord 30 = .ok (.invokevirtual 124, 3) := g_182 bX3_isWord rfl
theorem dX3_isWord_33 : decode cX3_isWord 33 = .ok (.if_icmp .ge 30, 3) := g_162 30 bX3_isWord rfl rfl
theorem dX3_isWord_36 : decode cX3_isWord 36 = .ok (.aload_n 0, 1) := g_42 bX3_isWord rfl
theorem dX3_isWord_37 : decode cX3_isWord 37 = .ok (.getfield 11, 3) := g_180 bX3_isWord rfl
theorem dX3_isWord_40 : decode cX3_isWord 40 = .ok (.aload_n 0, 1) := g_42 bX3_isWord rfl
theorem dX3_isWord_41 : decode cX3_isWord 41 = .ok (.getfield 121, 3) := g_180 bX3_isWord rfl
theorem dX3_isWord_44 : decode cX3_isWord 44 = .ok (.iload_n 2, 1) := g_28 bX3_isWord rfl
theorem dX3_isWord_45 : decode cX3_isWord 45 = .ok (.iadd, 1) := g_96 bX3_isWord rfl
theorem dX3_isWord_46 : decode cX3_isWord 46 = .ok (.baload, 1) := g_51 bX3_isWord rfl
theorem dX3_isWord_47 : decode cX3_isWord 47 = .ok (.aload_n 1, 1) := g_43 bX3_isWord rfl
theorem dX3_isWord_48 : decode cX3_isWord 48 = .ok (.iload_n 2, 1) := g_28 bX3_isWord rfl
theorem dX3_isWord_49 : decode cX3_isWord 49 = .ok (.invokevirtual 129, 3) := g_182 bX3_isWord rfl
theorem dX3_isWord_52 : decode cX3_isWord 52 = .ok (.if_icmp .eq 5, 3) := g_159 5 bX3_isWord rfl rfl
theorem dX3_isWord_55 : decode cX3_isWord 55 = .ok (.iconst 0, 1) := g_3 bX3_isWord rfl
theorem dX3_isWord_56 : decode cX3_isWord 56 = .ok (.ireturn, 1) := g_172 bX3_isWord rfl
theorem dX3_isWord_57 : decode cX3_isWord 57 = .ok (.iinc 2 1, 3) := g_132 1 bX3_isWord rfl rfl
theorem dX3_isWord_60 : decode cX3_isWord 60 = .ok (.goto (-32), 3) := g_167 65504 bX3_isWord rfl rfl
theorem dX3_isWord_63 : decode cX3_isWord 63 = .ok (.iconst 1, 1) := g_4 bX3_isWord rfl
theorem dX3_isWord_64 : decode cX3_isWord 64 = .ok (.ireturn, 1) := g_172 bX3_isWord rfl
theorem dX3_numberThere_0 : decode cX3_numberThere 0 = .ok (.aload_n 0, 1) := g_42 bX3_numberThere rfl
theorem dX3_numberThere_1 : decode cX3_numberThere 1 = .ok (.getfield 42, 3) := g_180 bX3_numberThere rfl
theorem dX3_numberThere_4 : decode cX3_numberThere 4 = .ok (.iconst 2, 1) := g_5 bX3_numberThere rfl
theorem dX3_numberThere_5 : decode cX3_numberThere 5 = .ok (.if_icmp .ne 16, 3) := g_160 16 bX3_numberThere rfl rfl
theorem dX3_numberThere_8 : decode cX3_numberThere 8 = .ok (.aload_n 0, 1) := g_42 bX3_numberThere rfl
theorem dX3_numberThere_9 : decode cX3_numberThere 9 = .ok (.getfield 33, 3) := g_180 bX3_numberThere rfl
theorem dX3_numberThere_12 : decode cX3_numberThere 12 = .ok (.aload_n 0, 1) := g_42 bX3_numberThere rfl
theorem dX3_numberThere_13 : decode cX3_numberThere 13 = .ok (.getfield 121, 3) := g_180 bX3_numberThere rfl
theorem dX3_numberThere_16 : decode cX3_numberThere 16 = .ok (.isub, 1) := g_100 bX3_numberThere rfl
theorem dX3_numberThere_17 : decode cX3_numberThere 17 = .ok (.iconst 3, 1) := g_6 bX3_numberThere rfl
theorem dX3_numberThere_18 : decode cX3_numberThere 18 = .ok (.if_icmp .le 5, 3) := g_164 5 bX3_numberThere rfl rfl
theorem dX3_numberThere_21 : decode cX3_numberThere 21 = .ok (.iconst (-1), 1) := g_2 bX3_numberThere rfl
theorem dX3_numberThere_22 : decode cX3_numberThere 22 = .ok (.ireturn, 1) := g_172 bX3_numberThere rfl
theorem dX3_numberThere_23 : decode cX3_numberThere 23 = .ok (.iconst 0, 1) := g_3 bX3_numberThere rfl
theorem dX3_numberThere_24 : decode cX3_numberThere 24 = .ok (.istore_n 1, 1) := g_60 bX3_numberThere rfl
theorem dX3_numberThere_25 : decode cX3_numberThere 25 = .ok (.aload_n 0, 1) := g_42 bX3_numberThere rfl
theorem dX3_numberThere_26 : decode cX3_numberThere 26 = .ok (.getfield 121, 3) := g_180 bX3_numberThere rfl
theorem dX3_numberThere_29 : decode cX3_numberThere 29 = .ok (.istore_n 2, 1) := g_61 bX3_numberThere rfl
theorem dX3_numberThere_30 : decode cX3_numberThere 30 = .ok (.iload_n 2, 1) := g_28 bX3_numberThere rfl
theorem dX3_numberThere_31 : decode cX3_numberThere 31 = .ok (.aload_n 0, 1) := g_42 bX3_numberThere rfl
theorem dX3_numberThere_32 : decode cX3_numberThere 32 = .ok (.getfield 33, 3) := g_180 bX3_numberThere rfl
theorem dX3_numberThere_35 : decode cX3_numberThere 35 = .ok (.if_icmp .ge 24, 3) := g_162 24 bX3_numberThere rfl rfl
theorem dX3_numberThere_38 : decode cX3_numberThere 38 = .ok (.bipush 10, 2) := g_16 10 bX3_numberThere rfl rfl
theorem dX3_numberThere_40 : decode cX3_numberThere 40 = .ok (.iload_n 1, 1) := g_27 bX3_numberThere rfl
theorem dX3_numberThere_41 : decode cX3_numberThere 41 = .ok (.imul, 1) := g_104 bX3_numberThere rfl
theorem dX3_numberThere_42 : decode cX3_numberThere 42 = .ok (.aload_n 0, 1) := g_42 bX3_numberThere rfl
theorem dX3_numberThere_43 : decode cX3_numberThere 43 = .ok (.getfield 11, 3) := g_180 bX3_numberThere rfl
theorem dX3_numberThere_46 : decode cX3_numberThere 46 = .ok (.iload_n 2, 1) := g_28 bX3_numberThere rfl
theorem dX3_numberThere_47 : decode cX3_numberThere 47 = .ok (.baload, 1) := g_51 bX3_numberThere rfl
theorem dX3_numberThere_48 : decode cX3_numberThere 48 = .ok (.iadd, 1) := g_96 bX3_numberThere rfl
theorem dX3_numberThere_49 : decode cX3_numberThere 49 = .ok (.bipush 48, 2) := g_16 48 bX3_numberThere rfl rfl
theorem dX3_numberThere_51 : decode cX3_numberThere 51 = .ok (.isub, 1) := g_100 bX3_numberThere rfl
theorem dX3_numberThere_52 : decode cX3_numberThere 52 = .ok (.istore_n 1, 1) := g_60 bX3_numberThere rfl
theorem dX3_numberThere_53 : decode cX3_numberThere 53 = .ok (.iinc 2 1, 3) := g_132 1 bX3_numberThere rfl rfl
theorem dX3_numberThere_56 : decode cX3_numberThere 56 = .ok (.goto (-26), 3) := g_167 65510 bX3_numberThere rfl rfl
theorem dX3_numberThere_59 : decode cX3_numberThere 59 = .ok (.iload_n 1, 1) := g_27 bX3_numberThere rfl
theorem dX3_numberThere_60 : decode cX3_numberThere 60 = .ok (.ireturn, 1) := g_172 bX3_numberThere rfl
theorem dX3_passes_0 : decode cX3_passes 0 = .ok (.aload_n 0, 1) := g_42 bX3_passes rfl
theorem dX3_passes_1 : decode cX3_passes 1 = .ok (.getfield 30, 3) := g_180 bX3_passes rfl
theorem dX3_passes_4 : decode cX3_passes 4 = .ok (.iconst (-1), 1) := g_2 bX3_passes rfl
theorem dX3_passes_5 : decode cX3_passes 5 = .ok (.if_icmp .ne 11, 3) := g_160 11 bX3_passes rfl rfl
theorem dX3_passes_8 : decode cX3_passes 8 = .ok (.aload_n 0, 1) := g_42 bX3_passes rfl
theorem dX3_passes_9 : decode cX3_passes 9 = .ok (.aload_n 1, 1) := g_43 bX3_passes rfl
theorem dX3_passes_10 : decode cX3_passes 10 = .ok (.invokevirtual 50, 3) := g_182 bX3_passes rfl
theorem dX3_passes_13 : decode cX3_passes 13 = .ok (.ifCond .ne 5, 3) := g_154 5 bX3_passes rfl rfl
theorem dX3_passes_16 : decode cX3_passes 16 = .ok (.iconst 0, 1) := g_3 bX3_passes rfl
theorem dX3_passes_17 : decode cX3_passes 17 = .ok (.ireturn, 1) := g_172 bX3_passes rfl
theorem dX3_passes_18 : decode cX3_passes 18 = .ok (.aload_n 0, 1) := g_42 bX3_passes rfl
theorem dX3_passes_19 : decode cX3_passes 19 = .ok (.invokevirtual 36, 3) := g_182 bX3_passes rfl
theorem dX3_passes_22 : decode cX3_passes 22 = .ok (.iconst 1, 1) := g_4 bX3_passes rfl
theorem dX3_passes_23 : decode cX3_passes 23 = .ok (.ireturn, 1) := g_172 bX3_passes rfl
theorem dX3_readBook_0 : decode cX3_readBook 0 = .ok (.aload_n 0, 1) := g_42 bX3_readBook rfl
theorem dX3_readBook_1 : decode cX3_readBook 1 = .ok (.getfield 18, 3) := g_180 bX3_readBook rfl
theorem dX3_readBook_4 : decode cX3_readBook 4 = .ok (.getfield 77, 3) := g_180 bX3_readBook rfl
theorem dX3_readBook_7 : decode cX3_readBook 7 = .ok (.bipush 8, 2) := g_16 8 bX3_readBook rfl rfl
theorem dX3_readBook_9 : decode cX3_readBook 9 = .ok (.if_icmp .lt 8, 3) := g_161 8 bX3_readBook rfl rfl
theorem dX3_readBook_12 : decode cX3_readBook 12 = .ok (.aload_n 0, 1) := g_42 bX3_readBook rfl
theorem dX3_readBook_13 : decode cX3_readBook 13 = .ok (.invokevirtual 45, 3) := g_182 bX3_readBook rfl
theorem dX3_readBook_16 : decode cX3_readBook 16 = .ok (.return_, 1) := g_177 bX3_readBook rfl
theorem dX3_readBook_17 : decode cX3_readBook 17 = .ok (.aload_n 0, 1) := g_42 bX3_readBook rfl
theorem dX3_readBook_18 : decode cX3_readBook 18 = .ok (.invokevirtual 36, 3) := g_182 bX3_readBook rfl
theorem dX3_readBook_21 : decode cX3_readBook 21 = .ok (.aload_n 0, 1) := g_42 bX3_readBook rfl
theorem dX3_readBook_22 : decode cX3_readBook 22 = .ok (.iconst 1, 1) := g_4 bX3_readBook rfl
theorem dX3_readBook_23 : decode cX3_readBook 23 = .ok (.bipush 99, 2) := g_16 99 bX3_readBook rfl rfl
theorem dX3_readBook_25 : decode cX3_readBook 25 = .ok (.invokevirtual 80, 3) := g_182 bX3_readBook rfl
theorem dX3_readBook_28 : decode cX3_readBook 28 = .ok (.istore_n 1, 1) := g_60 bX3_readBook rfl
theorem dX3_readBook_29 : decode cX3_readBook 29 = .ok (.aload_n 0, 1) := g_42 bX3_readBook rfl
theorem dX3_readBook_30 : decode cX3_readBook 30 = .ok (.ldc 84, 2) := g_18 bX3_readBook rfl
theorem dX3_readBook_32 : decode cX3_readBook 32 = .ok (.invokevirtual 86, 3) := g_182 bX3_readBook rfl
theorem dX3_readBook_35 : decode cX3_readBook 35 = .ok (.ifCond .eq 14, 3) := g_153 14 bX3_readBook rfl rfl
theorem dX3_readBook_38 : decode cX3_readBook 38 = .ok (.aload_n 0, 1) := g_42 bX3_readBook rfl
theorem dX3_readBook_39 : decode cX3_readBook 39 = .ok (.iconst 0, 1) := g_3 bX3_readBook rfl
theorem dX3_readBook_40 : decode cX3_readBook 40 = .ok (.sipush 1000, 3) := g_17 1000 bX3_readBook rfl rfl
theorem dX3_readBook_43 : decode cX3_readBook 43 = .ok (.invokevirtual 80, 3) := g_182 bX3_readBook rfl
theorem dX3_readBook_46 : decode cX3_readBook 46 = .ok (.goto 6, 3) := g_167 6 bX3_readBook rfl rfl
theorem dX3_readBook_49 : decode cX3_readBook 49 = .ok (.sipush 1000, 3) := g_17 1000 bX3_readBook rfl rfl
theorem dX3_readBook_52 : decode cX3_readBook 52 = .ok (.istore_n 2, 1) := g_61 bX3_readBook rfl
theorem dX3_readBook_53 : decode cX3_readBook 53 = .ok (.aload_n 0, 1) := g_42 bX3_readBook rfl
theorem dX3_readBook_54 : decode cX3_readBook 54 = .ok (.getfield 30, 3) := g_180 bX3_readBook rfl
theorem dX3_readBook_57 : decode cX3_readBook 57 = .ok (.iconst (-1), 1) := g_2 bX3_readBook rfl
theorem dX3_readBook_58 : decode cX3_readBook 58 = .ok (.if_icmp .ne 21, 3) := g_160 21 bX3_readBook rfl rfl
theorem dX3_readBook_61 : decode cX3_readBook 61 = .ok (.aload_n 0, 1) := g_42 bX3_readBook rfl
theorem dX3_readBook_62 : decode cX3_readBook 62 = .ok (.getfield 18, 3) := g_180 bX3_readBook rfl
theorem dX3_readBook_65 : decode cX3_readBook 65 = .ok (.getfield 89, 3) := g_180 bX3_readBook rfl
theorem dX3_readBook_68 : decode cX3_readBook 68 = .ok (.aload_n 0, 1) := g_42 bX3_readBook rfl
theorem dX3_readBook_69 : decode cX3_readBook 69 = .ok (.getfield 18, 3) := g_180 bX3_readBook rfl
theorem dX3_readBook_72 : decode cX3_readBook 72 = .ok (.iload_n 1, 1) := g_27 bX3_readBook rfl
theorem dX3_readBook_73 : decode cX3_readBook 73 = .ok (.iconst 0, 1) := g_3 bX3_readBook rfl
theorem dX3_readBook_74 : decode cX3_readBook 74 = .ok (.invokevirtual 92, 3) := g_182 bX3_readBook rfl
theorem dX3_readBook_77 : decode cX3_readBook 77 = .ok (.iload_n 2, 1) := g_28 bX3_readBook rfl
theorem dX3_readBook_78 : decode cX3_readBook 78 = .ok (.iastore, 1) := g_79 bX3_readBook rfl
theorem dX3_readBook_79 : decode cX3_readBook 79 = .ok (.return_, 1) := g_177 bX3_readBook rfl
theorem dX3_readFrom_0 : decode cX3_readFrom 0 = .ok (.aload_n 0, 1) := g_42 bX3_readFrom rfl
theorem dX3_readFrom_1 : decode cX3_readFrom 1 = .ok (.getfield 18, 3) := g_180 bX3_readFrom rfl
theorem dX3_readFrom_4 : decode cX3_readFrom 4 = .ok (.aload_n 1, 1) := g_43 bX3_readFrom rfl
theorem dX3_readFrom_5 : decode cX3_readFrom 5 = .ok (.invokevirtual 26, 3) := g_182 bX3_readFrom rfl
theorem dX3_readFrom_8 : decode cX3_readFrom 8 = .ok (.aload_n 0, 1) := g_42 bX3_readFrom rfl
theorem dX3_readFrom_9 : decode cX3_readFrom 9 = .ok (.iconst (-1), 1) := g_2 bX3_readFrom rfl
theorem dX3_readFrom_10 : decode cX3_readFrom 10 = .ok (.putfield 30, 3) := g_181 bX3_readFrom rfl
theorem dX3_readFrom_13 : decode cX3_readFrom 13 = .ok (.aload_n 0, 1) := g_42 bX3_readFrom rfl
theorem dX3_readFrom_14 : decode cX3_readFrom 14 = .ok (.iconst 0, 1) := g_3 bX3_readFrom rfl
theorem dX3_readFrom_15 : decode cX3_readFrom 15 = .ok (.putfield 33, 3) := g_181 bX3_readFrom rfl
theorem dX3_readFrom_18 : decode cX3_readFrom 18 = .ok (.aload_n 0, 1) := g_42 bX3_readFrom rfl
theorem dX3_readFrom_19 : decode cX3_readFrom 19 = .ok (.invokevirtual 36, 3) := g_182 bX3_readFrom rfl
theorem dX3_readFrom_22 : decode cX3_readFrom 22 = .ok (.iconst 1, 1) := g_4 bX3_readFrom rfl
theorem dX3_readFrom_23 : decode cX3_readFrom 23 = .ok (.istore_n 2, 1) := g_61 bX3_readFrom rfl
theorem dX3_readFrom_24 : decode cX3_readFrom 24 = .ok (.iload_n 2, 1) := g_28 bX3_readFrom rfl
theorem dX3_readFrom_25 : decode cX3_readFrom 25 = .ok (.sipush 250, 3) := g_17 250 bX3_readFrom rfl rfl
theorem dX3_readFrom_28 : decode cX3_readFrom 28 = .ok (.if_icmp .gt 48, 3) := g_163 48 bX3_readFrom rfl rfl
theorem dX3_readFrom_31 : decode cX3_readFrom 31 = .ok (.aload_n 0, 1) := g_42 bX3_readFrom rfl
theorem dX3_readFrom_32 : decode cX3_readFrom 32 = .ok (.invokevirtual 39, 3) := g_182 bX3_readFrom rfl
theorem dX3_readFrom_35 : decode cX3_readFrom 35 = .ok (.aload_n 0, 1) := g_42 bX3_readFrom rfl
theorem dX3_readFrom_36 : decode cX3_readFrom 36 = .ok (.getfield 30, 3) := g_180 bX3_readFrom rfl
theorem dX3_readFrom_39 : decode cX3_readFrom 39 = .ok (.iconst (-1), 1) := g_2 bX3_readFrom rfl
theorem dX3_readFrom_40 : decode cX3_readFrom 40 = .ok (.if_icmp .ne 10, 3) := g_160 10 bX3_readFrom rfl rfl
theorem dX3_readFrom_43 : decode cX3_readFrom 43 = .ok (.aload_n 0, 1) := g_42 bX3_readFrom rfl
theorem dX3_readFrom_44 : decode cX3_readFrom 44 = .ok (.getfield 42, 3) := g_180 bX3_readFrom rfl
theorem dX3_readFrom_47 : decode cX3_readFrom 47 = .ok (.ifCond .ne 5, 3) := g_154 5 bX3_readFrom rfl rfl
theorem dX3_readFrom_50 : decode cX3_readFrom 50 = .ok (.iload_n 2, 1) := g_28 bX3_readFrom rfl
theorem dX3_readFrom_51 : decode cX3_readFrom 51 = .ok (.ireturn, 1) := g_172 bX3_readFrom rfl
theorem dX3_readFrom_52 : decode cX3_readFrom 52 = .ok (.aload_n 0, 1) := g_42 bX3_readFrom rfl
theorem dX3_readFrom_53 : decode cX3_readFrom 53 = .ok (.getfield 42, 3) := g_180 bX3_readFrom rfl
theorem dX3_readFrom_56 : decode cX3_readFrom 56 = .ok (.iconst 3, 1) := g_6 bX3_readFrom rfl
theorem dX3_readFrom_57 : decode cX3_readFrom 57 = .ok (.if_icmp .eq 9, 3) := g_159 9 bX3_readFrom rfl rfl
theorem dX3_readFrom_60 : decode cX3_readFrom 60 = .ok (.aload_n 0, 1) := g_42 bX3_readFrom rfl
theorem dX3_readFrom_61 : decode cX3_readFrom 61 = .ok (.invokevirtual 45, 3) := g_182 bX3_readFrom rfl
theorem dX3_readFrom_64 : decode cX3_readFrom 64 = .ok (.iload_n 2, 1) := g_28 bX3_readFrom rfl
theorem dX3_readFrom_65 : decode cX3_readFrom 65 = .ok (.ireturn, 1) := g_172 bX3_readFrom rfl
theorem dX3_readFrom_66 : decode cX3_readFrom 66 = .ok (.aload_n 0, 1) := g_42 bX3_readFrom rfl
theorem dX3_readFrom_67 : decode cX3_readFrom 67 = .ok (.invokevirtual 36, 3) := g_182 bX3_readFrom rfl
theorem dX3_readFrom_70 : decode cX3_readFrom 70 = .ok (.iinc 2 1, 3) := g_132 1 bX3_readFrom rfl rfl
theorem dX3_readFrom_73 : decode cX3_readFrom 73 = .ok (.goto (-49), 3) := g_167 65487 bX3_readFrom rfl rfl
theorem dX3_readKnows_0 : decode cX3_readKnows 0 = .ok (.aload_n 0, 1) := g_42 bX3_readKnows rfl
theorem dX3_readKnows_1 : decode cX3_readKnows 1 = .ok (.invokevirtual 36, 3) := g_182 bX3_readKnows rfl
theorem dX3_readKnows_4 : decode cX3_readKnows 4 = .ok (.aload_n 0, 1) := g_42 bX3_readKnows rfl
theorem dX3_readKnows_5 : decode cX3_readKnows 5 = .ok (.iconst 0, 1) := g_3 bX3_readKnows rfl
theorem dX3_readKnows_6 : decode cX3_readKnows 6 = .ok (.aload_n 0, 1) := g_42 bX3_readKnows rfl
theorem dX3_readKnows_7 : decode cX3_readKnows 7 = .ok (.getfield 18, 3) := g_180 bX3_readKnows rfl
theorem dX3_readKnows_10 : decode cX3_readKnows 10 = .ok (.getfield 98, 3) := g_180 bX3_readKnows rfl
theorem dX3_readKnows_13 : decode cX3_readKnows 13 = .ok (.iconst 1, 1) := g_4 bX3_readKnows rfl
theorem dX3_readKnows_14 : decode cX3_readKnows 14 = .ok (.isub, 1) := g_100 bX3_readKnows rfl
theorem dX3_readKnows_15 : decode cX3_readKnows 15 = .ok (.invokevirtual 80, 3) := g_182 bX3_readKnows rfl
theorem dX3_readKnows_18 : decode cX3_readKnows 18 = .ok (.istore_n 1, 1) := g_60 bX3_readKnows rfl
theorem dX3_readKnows_19 : decode cX3_readKnows 19 = .ok (.aload_n 0, 1) := g_42 bX3_readKnows rfl
theorem dX3_readKnows_20 : decode cX3_readKnows 20 = .ok (.iconst 0, 1) := g_3 bX3_readKnows rfl
theorem dX3_readKnows_21 : decode cX3_readKnows 21 = .ok (.aload_n 0, 1) := g_42 bX3_readKnows rfl
theorem dX3_readKnows_22 : decode cX3_readKnows 22 = .ok (.getfield 18, 3) := g_180 bX3_readKnows rfl
theorem dX3_readKnows_25 : decode cX3_readKnows 25 = .ok (.getfield 77, 3) := g_180 bX3_readKnows rfl
theorem dX3_readKnows_28 : decode cX3_readKnows 28 = .ok (.iconst 1, 1) := g_4 bX3_readKnows rfl
theorem dX3_readKnows_29 : decode cX3_readKnows 29 = .ok (.isub, 1) := g_100 bX3_readKnows rfl
theorem dX3_readKnows_30 : decode cX3_readKnows 30 = .ok (.invokevirtual 80, 3) := g_182 bX3_readKnows rfl
theorem dX3_readKnows_33 : decode cX3_readKnows 33 = .ok (.istore_n 2, 1) := g_61 bX3_readKnows rfl
theorem dX3_readKnows_34 : decode cX3_readKnows 34 = .ok (.aload_n 0, 1) := g_42 bX3_readKnows rfl
theorem dX3_readKnows_35 : decode cX3_readKnows 35 = .ok (.iconst 0, 1) := g_3 bX3_readKnows rfl
theorem dX3_readKnows_36 : decode cX3_readKnows 36 = .ok (.sipush 1000, 3) := g_17 1000 bX3_readKnows rfl rfl
theorem dX3_readKnows_39 : decode cX3_readKnows 39 = .ok (.invokevirtual 80, 3) := g_182 bX3_readKnows rfl
theorem dX3_readKnows_42 : decode cX3_readKnows 42 = .ok (.istore_n 3, 1) := g_62 bX3_readKnows rfl
theorem dX3_readKnows_43 : decode cX3_readKnows 43 = .ok (.aload_n 0, 1) := g_42 bX3_readKnows rfl
theorem dX3_readKnows_44 : decode cX3_readKnows 44 = .ok (.getfield 30, 3) := g_180 bX3_readKnows rfl
theorem dX3_readKnows_47 : decode cX3_readKnows 47 = .ok (.iconst (-1), 1) := g_2 bX3_readKnows rfl
theorem dX3_readKnows_48 : decode cX3_readKnows 48 = .ok (.if_icmp .ne 13, 3) := g_160 13 bX3_readKnows rfl rfl
theorem dX3_readKnows_51 : decode cX3_readKnows 51 = .ok (.aload_n 0, 1) := g_42 bX3_readKnows rfl
theorem dX3_readKnows_52 : decode cX3_readKnows 52 = .ok (.getfield 18, 3) := g_180 bX3_readKnows rfl
theorem dX3_readKnows_55 : decode cX3_readKnows 55 = .ok (.iload_n 1, 1) := g_27 bX3_readKnows rfl
theorem dX3_readKnows_56 : decode cX3_readKnows 56 = .ok (.iload_n 2, 1) := g_28 bX3_readKnows rfl
theorem dX3_readKnows_57 : decode cX3_readKnows 57 = .ok (.iload_n 3, 1) := g_29 bX3_readKnows rfl
theorem dX3_readKnows_58 : decode cX3_readKnows 58 = .ok (.invokevirtual 111, 3) := g_182 bX3_readKnows rfl
theorem dX3_readKnows_61 : decode cX3_readKnows 61 = .ok (.return_, 1) := g_177 bX3_readKnows rfl
theorem dX3_readNeed_0 : decode cX3_readNeed 0 = .ok (.aload_n 0, 1) := g_42 bX3_readNeed rfl
theorem dX3_readNeed_1 : decode cX3_readNeed 1 = .ok (.invokevirtual 36, 3) := g_182 bX3_readNeed rfl
theorem dX3_readNeed_4 : decode cX3_readNeed 4 = .ok (.aload_n 0, 1) := g_42 bX3_readNeed rfl
theorem dX3_readNeed_5 : decode cX3_readNeed 5 = .ok (.iconst 0, 1) := g_3 bX3_readNeed rfl
theorem dX3_readNeed_6 : decode cX3_readNeed 6 = .ok (.aload_n 0, 1) := g_42 bX3_readNeed rfl
theorem dX3_readNeed_7 : decode cX3_readNeed 7 = .ok (.getfield 18, 3) := g_180 bX3_readNeed rfl
theorem dX3_readNeed_10 : decode cX3_readNeed 10 = .ok (.getfield 77, 3) := g_180 bX3_readNeed rfl
theorem dX3_readNeed_13 : decode cX3_readNeed 13 = .ok (.iconst 1, 1) := g_4 bX3_readNeed rfl
theorem dX3_readNeed_14 : decode cX3_readNeed 14 = .ok (.isub, 1) := g_100 bX3_readNeed rfl
theorem dX3_readNeed_15 : decode cX3_readNeed 15 = .ok (.invokevirtual 80, 3) := g_182 bX3_readNeed rfl
theorem dX3_readNeed_18 : decode cX3_readNeed 18 = .ok (.istore_n 1, 1) := g_60 bX3_readNeed rfl
theorem dX3_readNeed_19 : decode cX3_readNeed 19 = .ok (.aload_n 0, 1) := g_42 bX3_readNeed rfl
theorem dX3_readNeed_20 : decode cX3_readNeed 20 = .ok (.iconst 0, 1) := g_3 bX3_readNeed rfl
theorem dX3_readNeed_21 : decode cX3_readNeed 21 = .ok (.iload_n 1, 1) := g_27 bX3_readNeed rfl
theorem dX3_readNeed_22 : decode cX3_readNeed 22 = .ok (.iconst 1, 1) := g_4 bX3_readNeed rfl
theorem dX3_readNeed_23 : decode cX3_readNeed 23 = .ok (.isub, 1) := g_100 bX3_readNeed rfl
theorem dX3_readNeed_24 : decode cX3_readNeed 24 = .ok (.invokevirtual 80, 3) := g_182 bX3_readNeed rfl
theorem dX3_readNeed_27 : decode cX3_readNeed 27 = .ok (.istore_n 2, 1) := g_61 bX3_readNeed rfl
theorem dX3_readNeed_28 : decode cX3_readNeed 28 = .ok (.aload_n 0, 1) := g_42 bX3_readNeed rfl
theorem dX3_readNeed_29 : decode cX3_readNeed 29 = .ok (.getfield 30, 3) := g_180 bX3_readNeed rfl
theorem dX3_readNeed_32 : decode cX3_readNeed 32 = .ok (.iconst (-1), 1) := g_2 bX3_readNeed rfl
theorem dX3_readNeed_33 : decode cX3_readNeed 33 = .ok (.if_icmp .ne 18, 3) := g_160 18 bX3_readNeed rfl rfl
theorem dX3_readNeed_36 : decode cX3_readNeed 36 = .ok (.aload_n 0, 1) := g_42 bX3_readNeed rfl
theorem dX3_readNeed_37 : decode cX3_readNeed 37 = .ok (.getfield 18, 3) := g_180 bX3_readNeed rfl
theorem dX3_readNeed_40 : decode cX3_readNeed 40 = .ok (.getfield 95, 3) := g_180 bX3_readNeed rfl
theorem dX3_readNeed_43 : decode cX3_readNeed 43 = .ok (.iload_n 1, 1) := g_27 bX3_readNeed rfl
theorem dX3_readNeed_44 : decode cX3_readNeed 44 = .ok (.dup2, 1) := g_92 bX3_readNeed rfl
theorem dX3_readNeed_45 : decode cX3_readNeed 45 = .ok (.iaload, 1) := g_46 bX3_readNeed rfl
theorem dX3_readNeed_46 : decode cX3_readNeed 46 = .ok (.iconst 1, 1) := g_4 bX3_readNeed rfl
theorem dX3_readNeed_47 : decode cX3_readNeed 47 = .ok (.iload_n 2, 1) := g_28 bX3_readNeed rfl
theorem dX3_readNeed_48 : decode cX3_readNeed 48 = .ok (.ishl, 1) := g_120 bX3_readNeed rfl
theorem dX3_readNeed_49 : decode cX3_readNeed 49 = .ok (.ior, 1) := g_128 bX3_readNeed rfl
theorem dX3_readNeed_50 : decode cX3_readNeed 50 = .ok (.iastore, 1) := g_79 bX3_readNeed rfl
theorem dX3_readNeed_51 : decode cX3_readNeed 51 = .ok (.return_, 1) := g_177 bX3_readNeed rfl
theorem dX3_readOne_0 : decode cX3_readOne 0 = .ok (.aload_n 0, 1) := g_42 bX3_readOne rfl
theorem dX3_readOne_1 : decode cX3_readOne 1 = .ok (.getfield 18, 3) := g_180 bX3_readOne rfl
theorem dX3_readOne_4 : decode cX3_readOne 4 = .ok (.getfield 98, 3) := g_180 bX3_readOne rfl
theorem dX3_readOne_7 : decode cX3_readOne 7 = .ok (.bipush 8, 2) := g_16 8 bX3_readOne rfl rfl
theorem dX3_readOne_9 : decode cX3_readOne 9 = .ok (.if_icmp .lt 8, 3) := g_161 8 bX3_readOne rfl rfl
theorem dX3_readOne_12 : decode cX3_readOne 12 = .ok (.aload_n 0, 1) := g_42 bX3_readOne rfl
theorem dX3_readOne_13 : decode cX3_readOne 13 = .ok (.invokevirtual 45, 3) := g_182 bX3_readOne rfl
theorem dX3_readOne_16 : decode cX3_readOne 16 = .ok (.return_, 1) := g_177 bX3_readOne rfl
theorem dX3_readOne_17 : decode cX3_readOne 17 = .ok (.aload_n 0, 1) := g_42 bX3_readOne rfl
theorem dX3_readOne_18 : decode cX3_readOne 18 = .ok (.invokevirtual 36, 3) := g_182 bX3_readOne rfl
theorem dX3_readOne_21 : decode cX3_readOne 21 = .ok (.aload_n 0, 1) := g_42 bX3_readOne rfl
theorem dX3_readOne_22 : decode cX3_readOne 22 = .ok (.iconst 0, 1) := g_3 bX3_readOne rfl
theorem dX3_readOne_23 : decode cX3_readOne 23 = .ok (.bipush 9, 2) := g_16 9 bX3_readOne rfl rfl
theorem dX3_readOne_25 : decode cX3_readOne 25 = .ok (.invokevirtual 80, 3) := g_182 bX3_readOne rfl
theorem dX3_readOne_28 : decode cX3_readOne 28 = .ok (.istore_n 1, 1) := g_60 bX3_readOne rfl
theorem dX3_readOne_29 : decode cX3_readOne 29 = .ok (.aload_n 0, 1) := g_42 bX3_readOne rfl
theorem dX3_readOne_30 : decode cX3_readOne 30 = .ok (.ldc 101, 2) := g_18 bX3_readOne rfl
theorem dX3_readOne_32 : decode cX3_readOne 32 = .ok (.invokevirtual 86, 3) := g_182 bX3_readOne rfl
theorem dX3_readOne_35 : decode cX3_readOne 35 = .ok (.ifCond .eq 13, 3) := g_153 13 bX3_readOne rfl rfl
theorem dX3_readOne_38 : decode cX3_readOne 38 = .ok (.aload_n 0, 1) := g_42 bX3_readOne rfl
theorem dX3_readOne_39 : decode cX3_readOne 39 = .ok (.iconst 0, 1) := g_3 bX3_readOne rfl
theorem dX3_readOne_40 : decode cX3_readOne 40 = .ok (.bipush 10, 2) := g_16 10 bX3_readOne rfl rfl
theorem dX3_readOne_42 : decode cX3_readOne 42 = .ok (.invokevirtual 80, 3) := g_182 bX3_readOne rfl
theorem dX3_readOne_45 : decode cX3_readOne 45 = .ok (.goto 4, 3) := g_167 4 bX3_readOne rfl rfl
theorem dX3_readOne_48 : decode cX3_readOne 48 = .ok (.iconst 5, 1) := g_8 bX3_readOne rfl
theorem dX3_readOne_49 : decode cX3_readOne 49 = .ok (.istore_n 2, 1) := g_61 bX3_readOne rfl
theorem dX3_readOne_50 : decode cX3_readOne 50 = .ok (.aload_n 0, 1) := g_42 bX3_readOne rfl
theorem dX3_readOne_51 : decode cX3_readOne 51 = .ok (.ldc 103, 2) := g_18 bX3_readOne rfl
theorem dX3_readOne_53 : decode cX3_readOne 53 = .ok (.invokevirtual 86, 3) := g_182 bX3_readOne rfl
theorem dX3_readOne_56 : decode cX3_readOne 56 = .ok (.ifCond .eq 13, 3) := g_153 13 bX3_readOne rfl rfl
theorem dX3_readOne_59 : decode cX3_readOne 59 = .ok (.aload_n 0, 1) := g_42 bX3_readOne rfl
theorem dX3_readOne_60 : decode cX3_readOne 60 = .ok (.iconst 0, 1) := g_3 bX3_readOne rfl
theorem dX3_readOne_61 : decode cX3_readOne 61 = .ok (.bipush 10, 2) := g_16 10 bX3_readOne rfl rfl
theorem dX3_readOne_63 : decode cX3_readOne 63 = .ok (.invokevirtual 80, 3) := g_182 bX3_readOne rfl
theorem dX3_readOne_66 : decode cX3_readOne 66 = .ok (.goto 4, 3) := g_167 4 bX3_readOne rfl rfl
theorem dX3_readOne_69 : decode cX3_readOne 69 = .ok (.iconst 5, 1) := g_8 bX3_readOne rfl
theorem dX3_readOne_70 : decode cX3_readOne 70 = .ok (.istore_n 3, 1) := g_62 bX3_readOne rfl
theorem dX3_readOne_71 : decode cX3_readOne 71 = .ok (.aload_n 0, 1) := g_42 bX3_readOne rfl
theorem dX3_readOne_72 : decode cX3_readOne 72 = .ok (.ldc 105, 2) := g_18 bX3_readOne rfl
theorem dX3_readOne_74 : decode cX3_readOne 74 = .ok (.invokevirtual 86, 3) := g_182 bX3_readOne rfl
theorem dX3_readOne_77 : decode cX3_readOne 77 = .ok (.ifCond .eq 13, 3) := g_153 13 bX3_readOne rfl rfl
theorem dX3_readOne_80 : decode cX3_readOne 80 = .ok (.aload_n 0, 1) := g_42 bX3_readOne rfl
theorem dX3_readOne_81 : decode cX3_readOne 81 = .ok (.iconst 0, 1) := g_3 bX3_readOne rfl
theorem dX3_readOne_82 : decode cX3_readOne 82 = .ok (.bipush 10, 2) := g_16 10 bX3_readOne rfl rfl
theorem dX3_readOne_84 : decode cX3_readOne 84 = .ok (.invokevirtual 80, 3) := g_182 bX3_readOne rfl
theorem dX3_readOne_87 : decode cX3_readOne 87 = .ok (.goto 4, 3) := g_167 4 bX3_readOne rfl rfl
theorem dX3_readOne_90 : decode cX3_readOne 90 = .ok (.iconst 5, 1) := g_8 bX3_readOne rfl
theorem dX3_readOne_91 : decode cX3_readOne 91 = .ok (.istore 4, 2) := g_54 bX3_readOne rfl
theorem dX3_readOne_93 : decode cX3_readOne 93 = .ok (.aload_n 0, 1) := g_42 bX3_readOne rfl
theorem dX3_readOne_94 : decode cX3_readOne 94 = .ok (.getfield 30, 3) := g_180 bX3_readOne rfl
theorem dX3_readOne_97 : decode cX3_readOne 97 = .ok (.iconst (-1), 1) := g_2 bX3_readOne rfl
theorem dX3_readOne_98 : decode cX3_readOne 98 = .ok (.if_icmp .ne 16, 3) := g_160 16 bX3_readOne rfl rfl
theorem dX3_readOne_101 : decode cX3_readOne 101 = .ok (.aload_n 0, 1) := g_42 bX3_readOne rfl
theorem dX3_readOne_102 : decode cX3_readOne 102 = .ok (.getfield 18, 3) := g_180 bX3_readOne rfl
theorem dX3_readOne_105 : decode cX3_readOne 105 = .ok (.iload_n 1, 1) := g_27 bX3_readOne rfl
theorem dX3_readOne_106 : decode cX3_readOne 106 = .ok (.iload_n 2, 1) := g_28 bX3_readOne rfl
theorem dX3_readOne_107 : decode cX3_readOne 107 = .ok (.iload_n 3, 1) := g_29 bX3_readOne rfl
theorem dX3_readOne_108 : decode cX3_readOne 108 = .ok (.iload 4, 2) := g_21 bX3_readOne rfl
theorem dX3_readOne_110 : decode cX3_readOne 110 = .ok (.invokevirtual 107, 3) := g_182 bX3_readOne rfl
theorem dX3_readOne_113 : decode cX3_readOne 113 = .ok (.pop, 1) := g_87 bX3_readOne rfl
theorem dX3_readOne_114 : decode cX3_readOne 114 = .ok (.return_, 1) := g_177 bX3_readOne rfl
theorem dX3_readStatement_0 : decode cX3_readStatement 0 = .ok (.aload_n 0, 1) := g_42 bX3_readStatement rfl
theorem dX3_readStatement_1 : decode cX3_readStatement 1 = .ok (.ldc 48, 2) := g_18 bX3_readStatement rfl
theorem dX3_readStatement_3 : decode cX3_readStatement 3 = .ok (.invokevirtual 50, 3) := g_182 bX3_readStatement rfl
theorem dX3_readStatement_6 : decode cX3_readStatement 6 = .ok (.ifCond .eq 10, 3) := g_153 10 bX3_readStatement rfl rfl
theorem dX3_readStatement_9 : decode cX3_readStatement 9 = .ok (.aload_n 0, 1) := g_42 bX3_readStatement rfl
theorem dX3_readStatement_10 : decode cX3_readStatement 10 = .ok (.invokevirtual 54, 3) := g_182 bX3_readStatement rfl
theorem dX3_readStatement_13 : decode cX3_readStatement 13 = .ok (.goto 71, 3) := g_167 71 bX3_readStatement rfl rfl
theorem dX3_readStatement_16 : decode cX3_readStatement 16 = .ok (.aload_n 0, 1) := g_42 bX3_readStatement rfl
theorem dX3_readStatement_17 : decode cX3_readStatement 17 = .ok (.ldc 57, 2) := g_18 bX3_readStatement rfl
theorem dX3_readStatement_19 : decode cX3_readStatement 19 = .ok (.invokevirtual 50, 3) := g_182 bX3_readStatement rfl
theorem dX3_readStatement_22 : decode cX3_readStatement 22 = .ok (.ifCond .eq 10, 3) := g_153 10 bX3_readStatement rfl rfl
theorem dX3_readStatement_25 : decode cX3_readStatement 25 = .ok (.aload_n 0, 1) := g_42 bX3_readStatement rfl
theorem dX3_readStatement_26 : decode cX3_readStatement 26 = .ok (.invokevirtual 59, 3) := g_182 bX3_readStatement rfl
theorem dX3_readStatement_29 : decode cX3_readStatement 29 = .ok (.goto 55, 3) := g_167 55 bX3_readStatement rfl rfl
theorem dX3_readStatement_32 : decode cX3_readStatement 32 = .ok (.aload_n 0, 1) := g_42 bX3_readStatement rfl
theorem dX3_readStatement_33 : decode cX3_readStatement 33 = .ok (.ldc 62, 2) := g_18 bX3_readStatement rfl
theorem dX3_readStatement_35 : decode cX3_readStatement 35 = .ok (.invokevirtual 50, 3) := g_182 bX3_readStatement rfl
theorem dX3_readStatement_38 : decode cX3_readStatement 38 = .ok (.ifCond .eq 10, 3) := g_153 10 bX3_readStatement rfl rfl
theorem dX3_readStatement_41 : decode cX3_readStatement 41 = .ok (.aload_n 0, 1) := g_42 bX3_readStatement rfl
theorem dX3_readStatement_42 : decode cX3_readStatement 42 = .ok (.invokevirtual 64, 3) := g_182 bX3_readStatement rfl
theorem dX3_readStatement_45 : decode cX3_readStatement 45 = .ok (.goto 39, 3) := g_167 39 bX3_readStatement rfl rfl
theorem dX3_readStatement_48 : decode cX3_readStatement 48 = .ok (.aload_n 0, 1) := g_42 bX3_readStatement rfl
theorem dX3_readStatement_49 : decode cX3_readStatement 49 = .ok (.ldc 67, 2) := g_18 bX3_readStatement rfl
theorem dX3_readStatement_51 : decode cX3_readStatement 51 = .ok (.invokevirtual 50, 3) := g_182 bX3_readStatement rfl
theorem dX3_readStatement_54 : decode cX3_readStatement 54 = .ok (.ifCond .eq 10, 3) := g_153 10 bX3_readStatement rfl rfl
theorem dX3_readStatement_57 : decode cX3_readStatement 57 = .ok (.aload_n 0, 1) := g_42 bX3_readStatement rfl
theorem dX3_readStatement_58 : decode cX3_readStatement 58 = .ok (.invokevirtual 69, 3) := g_182 bX3_readStatement rfl
theorem dX3_readStatement_61 : decode cX3_readStatement 61 = .ok (.goto 23, 3) := g_167 23 bX3_readStatement rfl rfl
theorem dX3_readStatement_64 : decode cX3_readStatement 64 = .ok (.aload_n 0, 1) := g_42 bX3_readStatement rfl
theorem dX3_readStatement_65 : decode cX3_readStatement 65 = .ok (.ldc 72, 2) := g_18 bX3_readStatement rfl
theorem dX3_readStatement_67 : decode cX3_readStatement 67 = .ok (.invokevirtual 50, 3) := g_182 bX3_readStatement rfl
theorem dX3_readStatement_70 : decode cX3_readStatement 70 = .ok (.ifCond .eq 10, 3) := g_153 10 bX3_readStatement rfl rfl
theorem dX3_readStatement_73 : decode cX3_readStatement 73 = .ok (.aload_n 0, 1) := g_42 bX3_readStatement rfl
theorem dX3_readStatement_74 : decode cX3_readStatement 74 = .ok (.invokevirtual 74, 3) := g_182 bX3_readStatement rfl
theorem dX3_readStatement_77 : decode cX3_readStatement 77 = .ok (.goto 7, 3) := g_167 7 bX3_readStatement rfl rfl
theorem dX3_readStatement_80 : decode cX3_readStatement 80 = .ok (.aload_n 0, 1) := g_42 bX3_readStatement rfl
theorem dX3_readStatement_81 : decode cX3_readStatement 81 = .ok (.invokevirtual 45, 3) := g_182 bX3_readStatement rfl
theorem dX3_readStatement_84 : decode cX3_readStatement 84 = .ok (.return_, 1) := g_177 bX3_readStatement rfl
theorem dX3_readWhite_0 : decode cX3_readWhite 0 = .ok (.aload_n 0, 1) := g_42 bX3_readWhite rfl
theorem dX3_readWhite_1 : decode cX3_readWhite 1 = .ok (.invokevirtual 36, 3) := g_182 bX3_readWhite rfl
theorem dX3_readWhite_4 : decode cX3_readWhite 4 = .ok (.aload_n 0, 1) := g_42 bX3_readWhite rfl
theorem dX3_readWhite_5 : decode cX3_readWhite 5 = .ok (.iconst 0, 1) := g_3 bX3_readWhite rfl
theorem dX3_readWhite_6 : decode cX3_readWhite 6 = .ok (.aload_n 0, 1) := g_42 bX3_readWhite rfl
theorem dX3_readWhite_7 : decode cX3_readWhite 7 = .ok (.getfield 18, 3) := g_180 bX3_readWhite rfl
theorem dX3_readWhite_10 : decode cX3_readWhite 10 = .ok (.getfield 77, 3) := g_180 bX3_readWhite rfl
theorem dX3_readWhite_13 : decode cX3_readWhite 13 = .ok (.iconst 1, 1) := g_4 bX3_readWhite rfl
theorem dX3_readWhite_14 : decode cX3_readWhite 14 = .ok (.isub, 1) := g_100 bX3_readWhite rfl
theorem dX3_readWhite_15 : decode cX3_readWhite 15 = .ok (.invokevirtual 80, 3) := g_182 bX3_readWhite rfl
theorem dX3_readWhite_18 : decode cX3_readWhite 18 = .ok (.istore_n 1, 1) := g_60 bX3_readWhite rfl
theorem dX3_readWhite_19 : decode cX3_readWhite 19 = .ok (.aload_n 0, 1) := g_42 bX3_readWhite rfl
theorem dX3_readWhite_20 : decode cX3_readWhite 20 = .ok (.getfield 30, 3) := g_180 bX3_readWhite rfl
theorem dX3_readWhite_23 : decode cX3_readWhite 23 = .ok (.iconst (-1), 1) := g_2 bX3_readWhite rfl
theorem dX3_readWhite_24 : decode cX3_readWhite 24 = .ok (.if_icmp .ne 18, 3) := g_160 18 bX3_readWhite rfl rfl
theorem dX3_readWhite_27 : decode cX3_readWhite 27 = .ok (.aload_n 0, 1) := g_42 bX3_readWhite rfl
theorem dX3_readWhite_28 : decode cX3_readWhite 28 = .ok (.getfield 18, 3) := g_180 bX3_readWhite rfl
theorem dX3_readWhite_31 : decode cX3_readWhite 31 = .ok (.dup, 1) := g_89 bX3_readWhite rfl
theorem dX3_readWhite_32 : decode cX3_readWhite 32 = .ok (.getfield 115, 3) := g_180 bX3_readWhite rfl
theorem dX3_readWhite_35 : decode cX3_readWhite 35 = .ok (.iconst 1, 1) := g_4 bX3_readWhite rfl
theorem dX3_readWhite_36 : decode cX3_readWhite 36 = .ok (.iload_n 1, 1) := g_27 bX3_readWhite rfl
theorem dX3_readWhite_37 : decode cX3_readWhite 37 = .ok (.ishl, 1) := g_120 bX3_readWhite rfl
theorem dX3_readWhite_38 : decode cX3_readWhite 38 = .ok (.ior, 1) := g_128 bX3_readWhite rfl
theorem dX3_readWhite_39 : decode cX3_readWhite 39 = .ok (.putfield 115, 3) := g_181 bX3_readWhite rfl
theorem dX3_readWhite_42 : decode cX3_readWhite 42 = .ok (.return_, 1) := g_177 bX3_readWhite rfl
theorem dX3_sortAt_0 : decode cX3_sortAt 0 = .ok (.iload_n 1, 1) := g_27 bX3_sortAt rfl
theorem dX3_sortAt_1 : decode cX3_sortAt 1 = .ok (.aload_n 0, 1) := g_42 bX3_sortAt rfl
theorem dX3_sortAt_2 : decode cX3_sortAt 2 = .ok (.getfield 22, 3) := g_180 bX3_sortAt rfl
theorem dX3_sortAt_5 : decode cX3_sortAt 5 = .ok (.if_icmp .lt 5, 3) := g_161 5 bX3_sortAt rfl rfl
theorem dX3_sortAt_8 : decode cX3_sortAt 8 = .ok (.iconst 0, 1) := g_3 bX3_sortAt rfl
theorem dX3_sortAt_9 : decode cX3_sortAt 9 = .ok (.ireturn, 1) := g_172 bX3_sortAt rfl
theorem dX3_sortAt_10 : decode cX3_sortAt 10 = .ok (.aload_n 0, 1) := g_42 bX3_sortAt rfl
theorem dX3_sortAt_11 : decode cX3_sortAt 11 = .ok (.getfield 11, 3) := g_180 bX3_sortAt rfl
theorem dX3_sortAt_14 : decode cX3_sortAt 14 = .ok (.iload_n 1, 1) := g_27 bX3_sortAt rfl
theorem dX3_sortAt_15 : decode cX3_sortAt 15 = .ok (.baload, 1) := g_51 bX3_sortAt rfl
theorem dX3_sortAt_16 : decode cX3_sortAt 16 = .ok (.istore_n 2, 1) := g_61 bX3_sortAt rfl
theorem dX3_sortAt_17 : decode cX3_sortAt 17 = .ok (.iload_n 2, 1) := g_28 bX3_sortAt rfl
theorem dX3_sortAt_18 : decode cX3_sortAt 18 = .ok (.bipush 97, 2) := g_16 97 bX3_sortAt rfl rfl
theorem dX3_sortAt_20 : decode cX3_sortAt 20 = .ok (.if_icmp .lt 11, 3) := g_161 11 bX3_sortAt rfl rfl
theorem dX3_sortAt_23 : decode cX3_sortAt 23 = .ok (.iload_n 2, 1) := g_28 bX3_sortAt rfl
theorem dX3_sortAt_24 : decode cX3_sortAt 24 = .ok (.bipush 122, 2) := g_16 122 bX3_sortAt rfl rfl
theorem dX3_sortAt_26 : decode cX3_sortAt 26 = .ok (.if_icmp .gt 5, 3) := g_163 5 bX3_sortAt rfl rfl
theorem dX3_sortAt_29 : decode cX3_sortAt 29 = .ok (.iconst 1, 1) := g_4 bX3_sortAt rfl
theorem dX3_sortAt_30 : decode cX3_sortAt 30 = .ok (.ireturn, 1) := g_172 bX3_sortAt rfl
theorem dX3_sortAt_31 : decode cX3_sortAt 31 = .ok (.iload_n 2, 1) := g_28 bX3_sortAt rfl
theorem dX3_sortAt_32 : decode cX3_sortAt 32 = .ok (.bipush 48, 2) := g_16 48 bX3_sortAt rfl rfl
theorem dX3_sortAt_34 : decode cX3_sortAt 34 = .ok (.if_icmp .lt 11, 3) := g_161 11 bX3_sortAt rfl rfl
theorem dX3_sortAt_37 : decode cX3_sortAt 37 = .ok (.iload_n 2, 1) := g_28 bX3_sortAt rfl
theorem dX3_sortAt_38 : decode cX3_sortAt 38 = .ok (.bipush 57, 2) := g_16 57 bX3_sortAt rfl rfl
theorem dX3_sortAt_40 : decode cX3_sortAt 40 = .ok (.if_icmp .gt 5, 3) := g_163 5 bX3_sortAt rfl rfl
theorem dX3_sortAt_43 : decode cX3_sortAt 43 = .ok (.iconst 2, 1) := g_5 bX3_sortAt rfl
theorem dX3_sortAt_44 : decode cX3_sortAt 44 = .ok (.ireturn, 1) := g_172 bX3_sortAt rfl
theorem dX3_sortAt_45 : decode cX3_sortAt 45 = .ok (.iload_n 2, 1) := g_28 bX3_sortAt rfl
theorem dX3_sortAt_46 : decode cX3_sortAt 46 = .ok (.bipush 59, 2) := g_16 59 bX3_sortAt rfl rfl
theorem dX3_sortAt_48 : decode cX3_sortAt 48 = .ok (.if_icmp .ne 7, 3) := g_160 7 bX3_sortAt rfl rfl
theorem dX3_sortAt_51 : decode cX3_sortAt 51 = .ok (.iconst 3, 1) := g_6 bX3_sortAt rfl
theorem dX3_sortAt_52 : decode cX3_sortAt 52 = .ok (.goto 4, 3) := g_167 4 bX3_sortAt rfl rfl
theorem dX3_sortAt_55 : decode cX3_sortAt 55 = .ok (.iconst 4, 1) := g_7 bX3_sortAt rfl
theorem dX3_sortAt_56 : decode cX3_sortAt 56 = .ok (.ireturn, 1) := g_172 bX3_sortAt rfl
theorem dX3_step_0 : decode cX3_step 0 = .ok (.aload_n 0, 1) := g_42 bX3_step rfl
theorem dX3_step_1 : decode cX3_step 1 = .ok (.aload_n 0, 1) := g_42 bX3_step rfl
theorem dX3_step_2 : decode cX3_step 2 = .ok (.getfield 33, 3) := g_180 bX3_step rfl
theorem dX3_step_5 : decode cX3_step 5 = .ok (.putfield 121, 3) := g_181 bX3_step rfl
theorem dX3_step_8 : decode cX3_step 8 = .ok (.aload_n 0, 1) := g_42 bX3_step rfl
theorem dX3_step_9 : decode cX3_step 9 = .ok (.getfield 121, 3) := g_180 bX3_step rfl
theorem dX3_step_12 : decode cX3_step 12 = .ok (.aload_n 0, 1) := g_42 bX3_step rfl
theorem dX3_step_13 : decode cX3_step 13 = .ok (.getfield 22, 3) := g_180 bX3_step rfl
theorem dX3_step_16 : decode cX3_step 16 = .ok (.if_icmp .ge 30, 3) := g_162 30 bX3_step rfl rfl
theorem dX3_step_19 : decode cX3_step 19 = .ok (.aload_n 0, 1) := g_42 bX3_step rfl
theorem dX3_step_20 : decode cX3_step 20 = .ok (.getfield 11, 3) := g_180 bX3_step rfl
theorem dX3_step_23 : decode cX3_step 23 = .ok (.aload_n 0, 1) := g_42 bX3_step rfl
theorem dX3_step_24 : decode cX3_step 24 = .ok (.getfield 121, 3) := g_180 bX3_step rfl
theorem dX3_step_27 : decode cX3_step 27 = .ok (.baload, 1) := g_51 bX3_step rfl
theorem dX3_step_28 : decode cX3_step 28 = .ok (.bipush 32, 2) := g_16 32 bX3_step rfl rfl
theorem dX3_step_30 : decode cX3_step 30 = .ok (.if_icmp .ne 16, 3) := g_160 16 bX3_step rfl rfl
theorem dX3_step_33 : decode cX3_step 33 = .ok (.aload_n 0, 1) := g_42 bX3_step rfl
theorem dX3_step_34 : decode cX3_step 34 = .ok (.dup, 1) := g_89 bX3_step rfl
theorem dX3_step_35 : decode cX3_step 35 = .ok (.getfield 121, 3) := g_180 bX3_step rfl
theorem dX3_step_38 : decode cX3_step 38 = .ok (.iconst 1, 1) := g_4 bX3_step rfl
theorem dX3_step_39 : decode cX3_step 39 = .ok (.iadd, 1) := g_96 bX3_step rfl
theorem dX3_step_40 : decode cX3_step 40 = .ok (.putfield 121, 3) := g_181 bX3_step rfl
theorem dX3_step_43 : decode cX3_step 43 = .ok (.goto (-35), 3) := g_167 65501 bX3_step rfl rfl
theorem dX3_step_46 : decode cX3_step 46 = .ok (.aload_n 0, 1) := g_42 bX3_step rfl
theorem dX3_step_47 : decode cX3_step 47 = .ok (.aload_n 0, 1) := g_42 bX3_step rfl
theorem dX3_step_48 : decode cX3_step 48 = .ok (.aload_n 0, 1) := g_42 bX3_step rfl
theorem dX3_step_49 : decode cX3_step 49 = .ok (.getfield 121, 3) := g_180 bX3_step rfl
theorem dX3_step_52 : decode cX3_step 52 = .ok (.invokevirtual 133, 3) := g_182 bX3_step rfl
theorem dX3_step_55 : decode cX3_step 55 = .ok (.putfield 42, 3) := g_181 bX3_step rfl
theorem dX3_step_58 : decode cX3_step 58 = .ok (.aload_n 0, 1) := g_42 bX3_step rfl
theorem dX3_step_59 : decode cX3_step 59 = .ok (.aload_n 0, 1) := g_42 bX3_step rfl
theorem dX3_step_60 : decode cX3_step 60 = .ok (.getfield 42, 3) := g_180 bX3_step rfl
theorem dX3_step_63 : decode cX3_step 63 = .ok (.ifCond .ne 10, 3) := g_154 10 bX3_step rfl rfl
theorem dX3_step_66 : decode cX3_step 66 = .ok (.aload_n 0, 1) := g_42 bX3_step rfl
theorem dX3_step_67 : decode cX3_step 67 = .ok (.getfield 121, 3) := g_180 bX3_step rfl
theorem dX3_step_70 : decode cX3_step 70 = .ok (.goto 9, 3) := g_167 9 bX3_step rfl rfl
theorem dX3_step_73 : decode cX3_step 73 = .ok (.aload_n 0, 1) := g_42 bX3_step rfl
theorem dX3_step_74 : decode cX3_step 74 = .ok (.getfield 121, 3) := g_180 bX3_step rfl
theorem dX3_step_77 : decode cX3_step 77 = .ok (.iconst 1, 1) := g_4 bX3_step rfl
theorem dX3_step_78 : decode cX3_step 78 = .ok (.iadd, 1) := g_96 bX3_step rfl
theorem dX3_step_79 : decode cX3_step 79 = .ok (.putfield 33, 3) := g_181 bX3_step rfl
theorem dX3_step_82 : decode cX3_step 82 = .ok (.aload_n 0, 1) := g_42 bX3_step rfl
theorem dX3_step_83 : decode cX3_step 83 = .ok (.getfield 42, 3) := g_180 bX3_step rfl
theorem dX3_step_86 : decode cX3_step 86 = .ok (.iconst 1, 1) := g_4 bX3_step rfl
theorem dX3_step_87 : decode cX3_step 87 = .ok (.if_icmp .eq 11, 3) := g_159 11 bX3_step rfl rfl
theorem dX3_step_90 : decode cX3_step 90 = .ok (.aload_n 0, 1) := g_42 bX3_step rfl
theorem dX3_step_91 : decode cX3_step 91 = .ok (.getfield 42, 3) := g_180 bX3_step rfl
theorem dX3_step_94 : decode cX3_step 94 = .ok (.iconst 2, 1) := g_5 bX3_step rfl
theorem dX3_step_95 : decode cX3_step 95 = .ok (.if_icmp .ne 7, 3) := g_160 7 bX3_step rfl rfl
theorem dX3_step_98 : decode cX3_step 98 = .ok (.iconst 1, 1) := g_4 bX3_step rfl
theorem dX3_step_99 : decode cX3_step 99 = .ok (.goto 4, 3) := g_167 4 bX3_step rfl rfl
theorem dX3_step_102 : decode cX3_step 102 = .ok (.iconst 0, 1) := g_3 bX3_step rfl
theorem dX3_step_103 : decode cX3_step 103 = .ok (.istore_n 1, 1) := g_60 bX3_step rfl
theorem dX3_step_104 : decode cX3_step 104 = .ok (.iload_n 1, 1) := g_27 bX3_step rfl
theorem dX3_step_105 : decode cX3_step 105 = .ok (.ifCond .eq 42, 3) := g_153 42 bX3_step rfl rfl
theorem dX3_step_108 : decode cX3_step 108 = .ok (.aload_n 0, 1) := g_42 bX3_step rfl
theorem dX3_step_109 : decode cX3_step 109 = .ok (.getfield 33, 3) := g_180 bX3_step rfl
theorem dX3_step_112 : decode cX3_step 112 = .ok (.aload_n 0, 1) := g_42 bX3_step rfl
theorem dX3_step_113 : decode cX3_step 113 = .ok (.getfield 22, 3) := g_180 bX3_step rfl
theorem dX3_step_116 : decode cX3_step 116 = .ok (.if_icmp .ge 31, 3) := g_162 31 bX3_step rfl rfl
theorem dX3_step_119 : decode cX3_step 119 = .ok (.aload_n 0, 1) := g_42 bX3_step rfl
theorem dX3_step_120 : decode cX3_step 120 = .ok (.aload_n 0, 1) := g_42 bX3_step rfl
theorem dX3_step_121 : decode cX3_step 121 = .ok (.getfield 33, 3) := g_180 bX3_step rfl
theorem dX3_step_124 : decode cX3_step 124 = .ok (.invokevirtual 133, 3) := g_182 bX3_step rfl
theorem dX3_step_127 : decode cX3_step 127 = .ok (.aload_n 0, 1) := g_42 bX3_step rfl
theorem dX3_step_128 : decode cX3_step 128 = .ok (.getfield 42, 3) := g_180 bX3_step rfl
theorem dX3_step_131 : decode cX3_step 131 = .ok (.if_icmp .ne 16, 3) := g_160 16 bX3_step rfl rfl
theorem dX3_step_134 : decode cX3_step 134 = .ok (.aload_n 0, 1) := g_42 bX3_step rfl
theorem dX3_step_135 : decode cX3_step 135 = .ok (.dup, 1) := g_89 bX3_step rfl
theorem dX3_step_136 : decode cX3_step 136 = .ok (.getfield 33, 3) := g_180 bX3_step rfl
theorem dX3_step_139 : decode cX3_step 139 = .ok (.iconst 1, 1) := g_4 bX3_step rfl
theorem dX3_step_140 : decode cX3_step 140 = .ok (.iadd, 1) := g_96 bX3_step rfl
theorem dX3_step_141 : decode cX3_step 141 = .ok (.putfield 33, 3) := g_181 bX3_step rfl
theorem dX3_step_144 : decode cX3_step 144 = .ok (.goto (-40), 3) := g_167 65496 bX3_step rfl rfl
theorem dX3_step_147 : decode cX3_step 147 = .ok (.return_, 1) := g_177 bX3_step rfl
theorem dX3_takeNumber_0 : decode cX3_takeNumber 0 = .ok (.aload_n 0, 1) := g_42 bX3_takeNumber rfl
theorem dX3_takeNumber_1 : decode cX3_takeNumber 1 = .ok (.invokevirtual 117, 3) := g_182 bX3_takeNumber rfl
theorem dX3_takeNumber_4 : decode cX3_takeNumber 4 = .ok (.istore_n 3, 1) := g_62 bX3_takeNumber rfl
theorem dX3_takeNumber_5 : decode cX3_takeNumber 5 = .ok (.aload_n 0, 1) := g_42 bX3_takeNumber rfl
theorem dX3_takeNumber_6 : decode cX3_takeNumber 6 = .ok (.getfield 30, 3) := g_180 bX3_takeNumber rfl
theorem dX3_takeNumber_9 : decode cX3_takeNumber 9 = .ok (.iconst (-1), 1) := g_2 bX3_takeNumber rfl
theorem dX3_takeNumber_10 : decode cX3_takeNumber 10 = .ok (.if_icmp .ne 13, 3) := g_160 13 bX3_takeNumber rfl rfl
theorem dX3_takeNumber_13 : decode cX3_takeNumber 13 = .ok (.iload_n 3, 1) := g_29 bX3_takeNumber rfl
theorem dX3_takeNumber_14 : decode cX3_takeNumber 14 = .ok (.iload_n 1, 1) := g_27 bX3_takeNumber rfl
theorem dX3_takeNumber_15 : decode cX3_takeNumber 15 = .ok (.if_icmp .lt 8, 3) := g_161 8 bX3_takeNumber rfl rfl
theorem dX3_takeNumber_18 : decode cX3_takeNumber 18 = .ok (.iload_n 3, 1) := g_29 bX3_takeNumber rfl
theorem dX3_takeNumber_19 : decode cX3_takeNumber 19 = .ok (.iload_n 2, 1) := g_28 bX3_takeNumber rfl
theorem dX3_takeNumber_20 : decode cX3_takeNumber 20 = .ok (.if_icmp .le 9, 3) := g_164 9 bX3_takeNumber rfl rfl
theorem dX3_takeNumber_23 : decode cX3_takeNumber 23 = .ok (.aload_n 0, 1) := g_42 bX3_takeNumber rfl
theorem dX3_takeNumber_24 : decode cX3_takeNumber 24 = .ok (.invokevirtual 45, 3) := g_182 bX3_takeNumber rfl
theorem dX3_takeNumber_27 : decode cX3_takeNumber 27 = .ok (.iconst (-1), 1) := g_2 bX3_takeNumber rfl
theorem dX3_takeNumber_28 : decode cX3_takeNumber 28 = .ok (.ireturn, 1) := g_172 bX3_takeNumber rfl
theorem dX3_takeNumber_29 : decode cX3_takeNumber 29 = .ok (.aload_n 0, 1) := g_42 bX3_takeNumber rfl
theorem dX3_takeNumber_30 : decode cX3_takeNumber 30 = .ok (.invokevirtual 36, 3) := g_182 bX3_takeNumber rfl
theorem dX3_takeNumber_33 : decode cX3_takeNumber 33 = .ok (.iload_n 3, 1) := g_29 bX3_takeNumber rfl
theorem dX3_takeNumber_34 : decode cX3_takeNumber 34 = .ok (.ireturn, 1) := g_172 bX3_takeNumber rfl
theorem dX5_town_0 : decode cX5_town 0 = .ok (.aload_n 0, 1) := g_42 bX5_town rfl
theorem dX5_town_1 : decode cX5_town 1 = .ok (.getfield 36, 3) := g_180 bX5_town rfl
theorem dX5_town_4 : decode cX5_town 4 = .ok (.aload_n 0, 1) := g_42 bX5_town rfl
theorem dX5_town_5 : decode cX5_town 5 = .ok (.getfield 10, 3) := g_180 bX5_town rfl
theorem dX5_town_8 : decode cX5_town 8 = .ok (.invokevirtual 154, 3) := g_182 bX5_town rfl
theorem dX5_town_11 : decode cX5_town 11 = .ok (.istore_n 1, 1) := g_60 bX5_town rfl
theorem dX5_town_12 : decode cX5_town 12 = .ok (.aload_n 0, 1) := g_42 bX5_town rfl
theorem dX5_town_13 : decode cX5_town 13 = .ok (.getfield 36, 3) := g_180 bX5_town rfl
theorem dX5_town_16 : decode cX5_town 16 = .ok (.iconst 0, 1) := g_3 bX5_town rfl
theorem dX5_town_17 : decode cX5_town 17 = .ok (.putfield 148, 3) := g_181 bX5_town rfl
theorem dX5_town_20 : decode cX5_town 20 = .ok (.aload_n 0, 1) := g_42 bX5_town rfl
theorem dX5_town_21 : decode cX5_town 21 = .ok (.getfield 36, 3) := g_180 bX5_town rfl
theorem dX5_town_24 : decode cX5_town 24 = .ok (.getfield 158, 3) := g_180 bX5_town rfl
theorem dX5_town_27 : decode cX5_town 27 = .ok (.iconst (-1), 1) := g_2 bX5_town rfl
theorem dX5_town_28 : decode cX5_town 28 = .ok (.if_icmp .eq 21, 3) := g_159 21 bX5_town rfl rfl
theorem dX5_town_31 : decode cX5_town 31 = .ok (.aload_n 0, 1) := g_42 bX5_town rfl
theorem dX5_town_32 : decode cX5_town 32 = .ok (.bipush (-2), 2) := g_16 254 bX5_town rfl rfl
theorem dX5_town_34 : decode cX5_town 34 = .ok (.invokevirtual 56, 3) := g_182 bX5_town rfl
theorem dX5_town_37 : decode cX5_town 37 = .ok (.pop, 1) := g_87 bX5_town rfl
theorem dX5_town_38 : decode cX5_town 38 = .ok (.bipush (-20), 2) := g_16 236 bX5_town rfl rfl
theorem dX5_town_40 : decode cX5_town 40 = .ok (.aload_n 0, 1) := g_42 bX5_town rfl
theorem dX5_town_41 : decode cX5_town 41 = .ok (.getfield 36, 3) := g_180 bX5_town rfl
theorem dX5_town_44 : decode cX5_town 44 = .ok (.getfield 158, 3) := g_180 bX5_town rfl
theorem dX5_town_47 : decode cX5_town 47 = .ok (.isub, 1) := g_100 bX5_town rfl
theorem dX5_town_48 : decode cX5_town 48 = .ok (.ireturn, 1) := g_172 bX5_town rfl
theorem dX5_town_49 : decode cX5_town 49 = .ok (.aload_n 0, 1) := g_42 bX5_town rfl
theorem dX5_town_50 : decode cX5_town 50 = .ok (.getfield 10, 3) := g_180 bX5_town rfl
theorem dX5_town_53 : decode cX5_town 53 = .ok (.aload_n 0, 1) := g_42 bX5_town rfl
theorem dX5_town_54 : decode cX5_town 54 = .ok (.getfield 36, 3) := g_180 bX5_town rfl
theorem dX5_town_57 : decode cX5_town 57 = .ok (.getfield 161, 3) := g_180 bX5_town rfl
theorem dX5_town_60 : decode cX5_town 60 = .ok (.invokevirtual 164, 3) := g_182 bX5_town rfl
theorem dX5_town_63 : decode cX5_town 63 = .ok (.iload_n 1, 1) := g_27 bX5_town rfl
theorem dX5_town_64 : decode cX5_town 64 = .ok (.ireturn, 1) := g_172 bX5_town rfl
theorem dX6_bits_0 : decode cX6_bits 0 = .ok (.iconst 0, 1) := g_3 bX6_bits rfl
theorem dX6_bits_1 : decode cX6_bits 1 = .ok (.istore_n 1, 1) := g_60 bX6_bits rfl
theorem dX6_bits_2 : decode cX6_bits 2 = .ok (.iconst 0, 1) := g_3 bX6_bits rfl
theorem dX6_bits_3 : decode cX6_bits 3 = .ok (.istore_n 2, 1) := g_61 bX6_bits rfl
theorem dX6_bits_4 : decode cX6_bits 4 = .ok (.iload_n 2, 1) := g_28 bX6_bits rfl
theorem dX6_bits_5 : decode cX6_bits 5 = .ok (.bipush 8, 2) := g_16 8 bX6_bits rfl rfl
theorem dX6_bits_7 : decode cX6_bits 7 = .ok (.if_icmp .ge 17, 3) := g_162 17 bX6_bits rfl rfl
theorem dX6_bits_10 : decode cX6_bits 10 = .ok (.iload_n 1, 1) := g_27 bX6_bits rfl
theorem dX6_bits_11 : decode cX6_bits 11 = .ok (.iload_n 0, 1) := g_26 bX6_bits rfl
theorem dX6_bits_12 : decode cX6_bits 12 = .ok (.iload_n 2, 1) := g_28 bX6_bits rfl
theorem dX6_bits_13 : decode cX6_bits 13 = .ok (.ishr, 1) := g_122 bX6_bits rfl
theorem dX6_bits_14 : decode cX6_bits 14 = .ok (.iconst 1, 1) := g_4 bX6_bits rfl
theorem dX6_bits_15 : decode cX6_bits 15 = .ok (.iand, 1) := g_126 bX6_bits rfl
theorem dX6_bits_16 : decode cX6_bits 16 = .ok (.iadd, 1) := g_96 bX6_bits rfl
theorem dX6_bits_17 : decode cX6_bits 17 = .ok (.istore_n 1, 1) := g_60 bX6_bits rfl
theorem dX6_bits_18 : decode cX6_bits 18 = .ok (.iinc 2 1, 3) := g_132 1 bX6_bits rfl rfl
theorem dX6_bits_21 : decode cX6_bits 21 = .ok (.goto (-17), 3) := g_167 65519 bX6_bits rfl rfl
theorem dX6_bits_24 : decode cX6_bits 24 = .ok (.iload_n 1, 1) := g_27 bX6_bits rfl
theorem dX6_bits_25 : decode cX6_bits 25 = .ok (.ireturn, 1) := g_172 bX6_bits rfl
theorem dX6_byGround_0 : decode cX6_byGround 0 = .ok (.iload_n 1, 1) := g_27 bX6_byGround rfl
theorem dX6_byGround_1 : decode cX6_byGround 1 = .ok (.aload_n 0, 1) := g_42 bX6_byGround rfl
theorem dX6_byGround_2 : decode cX6_byGround 2 = .ok (.iload_n 2, 1) := g_28 bX6_byGround rfl
theorem dX6_byGround_3 : decode cX6_byGround 3 = .ok (.iload_n 3, 1) := g_29 bX6_byGround rfl
theorem dX6_byGround_4 : decode cX6_byGround 4 = .ok (.invokevirtual 241, 3) := g_182 bX6_byGround rfl
theorem dX6_byGround_7 : decode cX6_byGround 7 = .ok (.sipush 1000, 3) := g_17 1000 bX6_byGround rfl rfl
theorem dX6_byGround_10 : decode cX6_byGround 10 = .ok (.iadd, 1) := g_96 bX6_byGround rfl
theorem dX6_byGround_11 : decode cX6_byGround 11 = .ok (.imul, 1) := g_104 bX6_byGround rfl
theorem dX6_byGround_12 : decode cX6_byGround 12 = .ok (.sipush 2000, 3) := g_17 2000 bX6_byGround rfl rfl
theorem dX6_byGround_15 : decode cX6_byGround 15 = .ok (.idiv, 1) := g_108 bX6_byGround rfl
theorem dX6_byGround_16 : decode cX6_byGround 16 = .ok (.ireturn, 1) := g_172 bX6_byGround rfl
theorem dX6_greatest_0 : decode cX6_greatest 0 = .ok (.iconst 0, 1) := g_3 bX6_greatest rfl
theorem dX6_greatest_1 : decode cX6_greatest 1 = .ok (.istore_n 3, 1) := g_62 bX6_greatest rfl
theorem dX6_greatest_2 : decode cX6_greatest 2 = .ok (.iconst 0, 1) := g_3 bX6_greatest rfl
theorem dX6_greatest_3 : decode cX6_greatest 3 = .ok (.istore 4, 2) := g_54 bX6_greatest rfl
theorem dX6_greatest_5 : decode cX6_greatest 5 = .ok (.iload 4, 2) := g_21 bX6_greatest rfl
theorem dX6_greatest_7 : decode cX6_greatest 7 = .ok (.aload_n 0, 1) := g_42 bX6_greatest rfl
theorem dX6_greatest_8 : decode cX6_greatest 8 = .ok (.getfield 78, 3) := g_180 bX6_greatest rfl
theorem dX6_greatest_11 : decode cX6_greatest 11 = .ok (.if_icmp .ge 54, 3) := g_162 54 bX6_greatest rfl rfl
theorem dX6_greatest_14 : decode cX6_greatest 14 = .ok (.iload_n 2, 1) := g_28 bX6_greatest rfl
theorem dX6_greatest_15 : decode cX6_greatest 15 = .ok (.iload 4, 2) := g_21 bX6_greatest rfl
theorem dX6_greatest_17 : decode cX6_greatest 17 = .ok (.ishr, 1) := g_122 bX6_greatest rfl
theorem dX6_greatest_18 : decode cX6_greatest 18 = .ok (.iconst 1, 1) := g_4 bX6_greatest rfl
theorem dX6_greatest_19 : decode cX6_greatest 19 = .ok (.iand, 1) := g_126 bX6_greatest rfl
theorem dX6_greatest_20 : decode cX6_greatest 20 = .ok (.ifCond .eq 37, 3) := g_153 37 bX6_greatest rfl rfl
theorem dX6_greatest_23 : decode cX6_greatest 23 = .ok (.aload_n 0, 1) := g_42 bX6_greatest rfl
theorem dX6_greatest_24 : decode cX6_greatest 24 = .ok (.iload 4, 2) := g_21 bX6_greatest rfl
theorem dX6_greatest_26 : decode cX6_greatest 26 = .ok (.invokevirtual 81, 3) := g_182 bX6_greatest rfl
theorem dX6_greatest_29 : decode cX6_greatest 29 = .ok (.ifCond .eq 28, 3) := g_153 28 bX6_greatest rfl rfl
theorem dX6_greatest_32 : decode cX6_greatest 32 = .ok (.aload_n 0, 1) := g_42 bX6_greatest rfl
theorem dX6_greatest_33 : decode cX6_greatest 33 = .ok (.getfield 48, 3) := g_180 bX6_greatest rfl
theorem dX6_greatest_36 : decode cX6_greatest 36 = .ok (.iload 4, 2) := g_21 bX6_greatest rfl
theorem dX6_greatest_38 : decode cX6_greatest 38 = .ok (.aaload, 1) := g_50 bX6_greatest rfl
theorem dX6_greatest_39 : decode cX6_greatest 39 = .ok (.iload_n 1, 1) := g_27 bX6_greatest rfl
theorem dX6_greatest_40 : decode cX6_greatest 40 = .ok (.iaload, 1) := g_46 bX6_greatest rfl
theorem dX6_greatest_41 : decode cX6_greatest 41 = .ok (.iload_n 3, 1) := g_29 bX6_greatest rfl
theorem dX6_greatest_42 : decode cX6_greatest 42 = .ok (.if_icmp .le 15, 3) := g_164 15 bX6_greatest rfl rfl
theorem dX6_greatest_45 : decode cX6_greatest 45 = .ok (.aload_n 0, 1) := g_42 bX6_greatest rfl
theorem dX6_greatest_46 : decode cX6_greatest 46 = .ok (.getfield 48, 3) := g_180 bX6_greatest rfl
theorem dX6_greatest_49 : decode cX6_greatest 49 = .ok (.iload 4, 2) := g_21 bX6_greatest rfl
theorem dX6_greatest_51 : decode cX6_greatest 51 = .ok (.aaload, 1) := g_50 bX6_greatest rfl
theorem dX6_greatest_52 : decode cX6_greatest 52 = .ok (.iload_n 1, 1) := g_27 bX6_greatest rfl
theorem dX6_greatest_53 : decode cX6_greatest 53 = .ok (.iaload, 1) := g_46 bX6_greatest rfl
theorem dX6_greatest_54 : decode cX6_greatest 54 = .ok (.goto 4, 3) := g_167 4 bX6_greatest rfl rfl
theorem dX6_greatest_57 : decode cX6_greatest 57 = .ok (.iload_n 3, 1) := g_29 bX6_greatest rfl
theorem dX6_greatest_58 : decode cX6_greatest 58 = .ok (.istore_n 3, 1) := g_62 bX6_greatest rfl
theorem dX6_greatest_59 : decode cX6_greatest 59 = .ok (.iinc 4 1, 3) := g_132 1 bX6_greatest rfl rfl
theorem dX6_greatest_62 : decode cX6_greatest 62 = .ok (.goto (-57), 3) := g_167 65479 bX6_greatest rfl rfl
theorem dX6_greatest_65 : decode cX6_greatest 65 = .ok (.iload_n 3, 1) := g_29 bX6_greatest rfl
theorem dX6_greatest_66 : decode cX6_greatest 66 = .ok (.ireturn, 1) := g_172 bX6_greatest rfl
theorem dX6_groundOf_0 : decode cX6_groundOf 0 = .ok (.sipush 1000, 3) := g_17 1000 bX6_groundOf rfl rfl
theorem dX6_groundOf_3 : decode cX6_groundOf 3 = .ok (.istore_n 3, 1) := g_62 bX6_groundOf rfl
theorem dX6_groundOf_4 : decode cX6_groundOf 4 = .ok (.iconst 0, 1) := g_3 bX6_groundOf rfl
theorem dX6_groundOf_5 : decode cX6_groundOf 5 = .ok (.istore 4, 2) := g_54 bX6_groundOf rfl
theorem dX6_groundOf_7 : decode cX6_groundOf 7 = .ok (.iload 4, 2) := g_21 bX6_groundOf rfl
theorem dX6_groundOf_9 : decode cX6_groundOf 9 = .ok (.iload_n 2, 1) := g_28 bX6_groundOf rfl
theorem dX6_groundOf_10 : decode cX6_groundOf 10 = .ok (.if_icmp .ge 64, 3) := g_162 64 bX6_groundOf rfl rfl
theorem dX6_groundOf_13 : decode cX6_groundOf 13 = .ok (.aload_n 0, 1) := g_42 bX6_groundOf rfl
theorem dX6_groundOf_14 : decode cX6_groundOf 14 = .ok (.getfield 42, 3) := g_180 bX6_groundOf rfl
theorem dX6_groundOf_17 : decode cX6_groundOf 17 = .ok (.iload_n 2, 1) := g_28 bX6_groundOf rfl
theorem dX6_groundOf_18 : decode cX6_groundOf 18 = .ok (.aaload, 1) := g_50 bX6_groundOf rfl
theorem dX6_groundOf_19 : decode cX6_groundOf 19 = .ok (.iconst 1, 1) := g_4 bX6_groundOf rfl
theorem dX6_groundOf_20 : decode cX6_groundOf 20 = .ok (.iaload, 1) := g_46 bX6_groundOf rfl
theorem dX6_groundOf_21 : decode cX6_groundOf 21 = .ok (.iload 4, 2) := g_21 bX6_groundOf rfl
theorem dX6_groundOf_23 : decode cX6_groundOf 23 = .ok (.ishr, 1) := g_122 bX6_groundOf rfl
theorem dX6_groundOf_24 : decode cX6_groundOf 24 = .ok (.iconst 1, 1) := g_4 bX6_groundOf rfl
theorem dX6_groundOf_25 : decode cX6_groundOf 25 = .ok (.iand, 1) := g_126 bX6_groundOf rfl
theorem dX6_groundOf_26 : decode cX6_groundOf 26 = .ok (.ifCond .eq 7, 3) := g_153 7 bX6_groundOf rfl rfl
theorem dX6_groundOf_29 : decode cX6_groundOf 29 = .ok (.iconst 1, 1) := g_4 bX6_groundOf rfl
theorem dX6_groundOf_30 : decode cX6_groundOf 30 = .ok (.goto 4, 3) := g_167 4 bX6_groundOf rfl rfl
theorem dX6_groundOf_33 : decode cX6_groundOf 33 = .ok (.iconst 0, 1) := g_3 bX6_groundOf rfl
theorem dX6_groundOf_34 : decode cX6_groundOf 34 = .ok (.istore 5, 2) := g_54 bX6_groundOf rfl
theorem dX6_groundOf_36 : decode cX6_groundOf 36 = .ok (.iload 5, 2) := g_21 bX6_groundOf rfl
theorem dX6_groundOf_38 : decode cX6_groundOf 38 = .ok (.ifCond .eq 28, 3) := g_153 28 bX6_groundOf rfl rfl
theorem dX6_groundOf_41 : decode cX6_groundOf 41 = .ok (.aload_n 0, 1) := g_42 bX6_groundOf rfl
theorem dX6_groundOf_42 : decode cX6_groundOf 42 = .ok (.getfield 48, 3) := g_180 bX6_groundOf rfl
theorem dX6_groundOf_45 : decode cX6_groundOf 45 = .ok (.iload_n 1, 1) := g_27 bX6_groundOf rfl
theorem dX6_groundOf_46 : decode cX6_groundOf 46 = .ok (.aaload, 1) := g_50 bX6_groundOf rfl
theorem dX6_groundOf_47 : decode cX6_groundOf 47 = .ok (.iload 4, 2) := g_21 bX6_groundOf rfl
theorem dX6_groundOf_49 : decode cX6_groundOf 49 = .ok (.iaload, 1) := g_46 bX6_groundOf rfl
theorem dX6_groundOf_50 : decode cX6_groundOf 50 = .ok (.iload_n 3, 1) := g_29 bX6_groundOf rfl
theorem dX6_groundOf_51 : decode cX6_groundOf 51 = .ok (.if_icmp .ge 15, 3) := g_162 15 bX6_groundOf rfl rfl
theorem dX6_groundOf_54 : decode cX6_groundOf 54 = .ok (.aload_n 0, 1) := g_42 bX6_groundOf rfl
theorem dX6_groundOf_55 : decode cX6_groundOf 55 = .ok (.getfield 48, 3) := g_180 bX6_groundOf rfl
theorem dX6_groundOf_58 : decode cX6_groundOf 58 = .ok (.iload_n 1, 1) := g_27 bX6_groundOf rfl
theorem dX6_groundOf_59 : decode cX6_groundOf 59 = .ok (.aaload, 1) := g_50 bX6_groundOf rfl
theorem dX6_groundOf_60 : decode cX6_groundOf 60 = .ok (.iload 4, 2) := g_21 bX6_groundOf rfl
theorem dX6_groundOf_62 : decode cX6_groundOf 62 = .ok (.iaload, 1) := g_46 bX6_groundOf rfl
theorem dX6_groundOf_63 : decode cX6_groundOf 63 = .ok (.goto 4, 3) := g_167 4 bX6_groundOf rfl rfl
theorem dX6_groundOf_66 : decode cX6_groundOf 66 = .ok (.iload_n 3, 1) := g_29 bX6_groundOf rfl
theorem dX6_groundOf_67 : decode cX6_groundOf 67 = .ok (.istore_n 3, 1) := g_62 bX6_groundOf rfl
theorem dX6_groundOf_68 : decode cX6_groundOf 68 = .ok (.iinc 4 1, 3) := g_132 1 bX6_groundOf rfl rfl
theorem dX6_groundOf_71 : decode cX6_groundOf 71 = .ok (.goto (-64), 3) := g_167 65472 bX6_groundOf rfl rfl
theorem dX6_groundOf_74 : decode cX6_groundOf 74 = .ok (.iload_n 3, 1) := g_29 bX6_groundOf rfl
theorem dX6_groundOf_75 : decode cX6_groundOf 75 = .ok (.ireturn, 1) := g_172 bX6_groundOf rfl
theorem dX6_in_0 : decode cX6_in 0 = .ok (.lload_n 0, 1) := g_30 bX6_in rfl
theorem dX6_in_1 : decode cX6_in 1 = .ok (.lload_n 2, 1) := g_32 bX6_in rfl
theorem dX6_in_2 : decode cX6_in 2 = .ok (.lcmp, 1) := g_148 bX6_in rfl
theorem dX6_in_3 : decode cX6_in 3 = .ok (.ifCond .lt 14, 3) := g_155 14 bX6_in rfl rfl
theorem dX6_in_6 : decode cX6_in 6 = .ok (.lload_n 0, 1) := g_30 bX6_in rfl
theorem dX6_in_7 : decode cX6_in 7 = .ok (.lload 4, 2) := g_22 bX6_in rfl
theorem dX6_in_9 : decode cX6_in 9 = .ok (.lcmp, 1) := g_148 bX6_in rfl
theorem dX6_in_10 : decode cX6_in 10 = .ok (.ifCond .gt 7, 3) := g_157 7 bX6_in rfl rfl
theorem dX6_in_13 : decode cX6_in 13 = .ok (.iconst 1, 1) := g_4 bX6_in rfl
theorem dX6_in_14 : decode cX6_in 14 = .ok (.goto 4, 3) := g_167 4 bX6_in rfl rfl
theorem dX6_in_17 : decode cX6_in 17 = .ok (.iconst 0, 1) := g_3 bX6_in rfl
theorem dX6_in_18 : decode cX6_in 18 = .ok (.ireturn, 1) := g_172 bX6_in rfl
theorem dX6_isBook_0 : decode cX6_isBook 0 = .ok (.lload_n 1, 1) := g_31 bX6_isBook rfl
theorem dX6_isBook_1 : decode cX6_isBook 1 = .ok (.lconst 0, 1) := g_9 bX6_isBook rfl
theorem dX6_isBook_2 : decode cX6_isBook 2 = .ok (.aload_n 0, 1) := g_42 bX6_isBook rfl
theorem dX6_isBook_3 : decode cX6_isBook 3 = .ok (.getfield 71, 3) := g_180 bX6_isBook rfl
theorem dX6_isBook_6 : decode cX6_isBook 6 = .ok (.iconst 1, 1) := g_4 bX6_isBook rfl
theorem dX6_isBook_7 : decode cX6_isBook 7 = .ok (.isub, 1) := g_100 bX6_isBook rfl
theorem dX6_isBook_8 : decode cX6_isBook 8 = .ok (.i2l, 1) := g_133 bX6_isBook rfl
theorem dX6_isBook_9 : decode cX6_isBook 9 = .ok (.invokestatic 74, 3) := g_184 bX6_isBook rfl
theorem dX6_isBook_12 : decode cX6_isBook 12 = .ok (.ireturn, 1) := g_172 bX6_isBook rfl
theorem dX6_isOne_0 : decode cX6_isOne 0 = .ok (.lload_n 1, 1) := g_31 bX6_isOne rfl
theorem dX6_isOne_1 : decode cX6_isOne 1 = .ok (.lconst 0, 1) := g_9 bX6_isOne rfl
theorem dX6_isOne_2 : decode cX6_isOne 2 = .ok (.aload_n 0, 1) := g_42 bX6_isOne rfl
theorem dX6_isOne_3 : decode cX6_isOne 3 = .ok (.getfield 78, 3) := g_180 bX6_isOne rfl
theorem dX6_isOne_6 : decode cX6_isOne 6 = .ok (.iconst 1, 1) := g_4 bX6_isOne rfl
theorem dX6_isOne_7 : decode cX6_isOne 7 = .ok (.isub, 1) := g_100 bX6_isOne rfl
theorem dX6_isOne_8 : decode cX6_isOne 8 = .ok (.i2l, 1) := g_133 bX6_isOne rfl
theorem dX6_isOne_9 : decode cX6_isOne 9 = .ok (.invokestatic 74, 3) := g_184 bX6_isOne rfl
theorem dX6_isOne_12 : decode cX6_isOne 12 = .ok (.ireturn, 1) := g_172 bX6_isOne rfl
theorem dX6_isThere_0 : decode cX6_isThere 0 = .ok (.aload_n 0, 1) := g_42 bX6_isThere rfl
theorem dX6_isThere_1 : decode cX6_isThere 1 = .ok (.getfield 45, 3) := g_180 bX6_isThere rfl
theorem dX6_isThere_4 : decode cX6_isThere 4 = .ok (.iload_n 1, 1) := g_27 bX6_isThere rfl
theorem dX6_isThere_5 : decode cX6_isThere 5 = .ok (.aaload, 1) := g_50 bX6_isThere rfl
theorem dX6_isThere_6 : decode cX6_isThere 6 = .ok (.iconst 4, 1) := g_7 bX6_isThere rfl
theorem dX6_isThere_7 : decode cX6_isThere 7 = .ok (.iaload, 1) := g_46 bX6_isThere rfl
theorem dX6_isThere_8 : decode cX6_isThere 8 = .ok (.ifCond .ne 7, 3) := g_154 7 bX6_isThere rfl rfl
theorem dX6_isThere_11 : decode cX6_isThere 11 = .ok (.iconst 1, 1) := g_4 bX6_isThere rfl
theorem dX6_isThere_12 : decode cX6_isThere 12 = .ok (.goto 4, 3) := g_167 4 bX6_isThere rfl rfl
theorem dX6_isThere_15 : decode cX6_isThere 15 = .ok (.iconst 0, 1) := g_3 bX6_isThere rfl
theorem dX6_isThere_16 : decode cX6_isThere 16 = .ok (.ireturn, 1) := g_172 bX6_isThere rfl
theorem dX6_isWhite_0 : decode cX6_isWhite 0 = .ok (.aload_n 0, 1) := g_42 bX6_isWhite rfl
theorem dX6_isWhite_1 : decode cX6_isWhite 1 = .ok (.getfield 42, 3) := g_180 bX6_isWhite rfl
theorem dX6_isWhite_4 : decode cX6_isWhite 4 = .ok (.iload_n 1, 1) := g_27 bX6_isWhite rfl
theorem dX6_isWhite_5 : decode cX6_isWhite 5 = .ok (.aaload, 1) := g_50 bX6_isWhite rfl
theorem dX6_isWhite_6 : decode cX6_isWhite 6 = .ok (.iconst 3, 1) := g_6 bX6_isWhite rfl
theorem dX6_isWhite_7 : decode cX6_isWhite 7 = .ok (.iaload, 1) := g_46 bX6_isWhite rfl
theorem dX6_isWhite_8 : decode cX6_isWhite 8 = .ok (.iconst 1, 1) := g_4 bX6_isWhite rfl
theorem dX6_isWhite_9 : decode cX6_isWhite 9 = .ok (.if_icmp .ne 7, 3) := g_160 7 bX6_isWhite rfl rfl
theorem dX6_isWhite_12 : decode cX6_isWhite 12 = .ok (.iconst 1, 1) := g_4 bX6_isWhite rfl
theorem dX6_isWhite_13 : decode cX6_isWhite 13 = .ok (.goto 4, 3) := g_167 4 bX6_isWhite rfl rfl
theorem dX6_isWhite_16 : decode cX6_isWhite 16 = .ok (.iconst 0, 1) := g_3 bX6_isWhite rfl
theorem dX6_isWhite_17 : decode cX6_isWhite 17 = .ok (.ireturn, 1) := g_172 bX6_isWhite rfl
theorem dX6_moreBy_0 : decode cX6_moreBy 0 = .ok (.aload_n 0, 1) := g_42 bX6_moreBy rfl
theorem dX6_moreBy_1 : decode cX6_moreBy 1 = .ok (.getfield 48, 3) := g_180 bX6_moreBy rfl
theorem dX6_moreBy_4 : decode cX6_moreBy 4 = .ok (.iload_n 1, 1) := g_27 bX6_moreBy rfl
theorem dX6_moreBy_5 : decode cX6_moreBy 5 = .ok (.aaload, 1) := g_50 bX6_moreBy rfl
theorem dX6_moreBy_6 : decode cX6_moreBy 6 = .ok (.iload_n 3, 1) := g_29 bX6_moreBy rfl
theorem dX6_moreBy_7 : decode cX6_moreBy 7 = .ok (.iaload, 1) := g_46 bX6_moreBy rfl
theorem dX6_moreBy_8 : decode cX6_moreBy 8 = .ok (.aload_n 0, 1) := g_42 bX6_moreBy rfl
theorem dX6_moreBy_9 : decode cX6_moreBy 9 = .ok (.getfield 45, 3) := g_180 bX6_moreBy rfl
theorem dX6_moreBy_12 : decode cX6_moreBy 12 = .ok (.iload_n 1, 1) := g_27 bX6_moreBy rfl
theorem dX6_moreBy_13 : decode cX6_moreBy 13 = .ok (.aaload, 1) := g_50 bX6_moreBy rfl
theorem dX6_moreBy_14 : decode cX6_moreBy 14 = .ok (.iconst 3, 1) := g_6 bX6_moreBy rfl
theorem dX6_moreBy_15 : decode cX6_moreBy 15 = .ok (.iaload, 1) := g_46 bX6_moreBy rfl
theorem dX6_moreBy_16 : decode cX6_moreBy 16 = .ok (.imul, 1) := g_104 bX6_moreBy rfl
theorem dX6_moreBy_17 : decode cX6_moreBy 17 = .ok (.bipush 10, 2) := g_16 10 bX6_moreBy rfl rfl
theorem dX6_moreBy_19 : decode cX6_moreBy 19 = .ok (.idiv, 1) := g_108 bX6_moreBy rfl
theorem dX6_moreBy_20 : decode cX6_moreBy 20 = .ok (.istore 4, 2) := g_54 bX6_moreBy rfl
theorem dX6_moreBy_22 : decode cX6_moreBy 22 = .ok (.iload 4, 2) := g_21 bX6_moreBy rfl
theorem dX6_moreBy_24 : decode cX6_moreBy 24 = .ok (.aload_n 0, 1) := g_42 bX6_moreBy rfl
theorem dX6_moreBy_25 : decode cX6_moreBy 25 = .ok (.getfield 48, 3) := g_180 bX6_moreBy rfl
theorem dX6_moreBy_28 : decode cX6_moreBy 28 = .ok (.iload_n 2, 1) := g_28 bX6_moreBy rfl
theorem dX6_moreBy_29 : decode cX6_moreBy 29 = .ok (.aaload, 1) := g_50 bX6_moreBy rfl
theorem dX6_moreBy_30 : decode cX6_moreBy 30 = .ok (.iload_n 3, 1) := g_29 bX6_moreBy rfl
theorem dX6_moreBy_31 : decode cX6_moreBy 31 = .ok (.iaload, 1) := g_46 bX6_moreBy rfl
theorem dX6_moreBy_32 : decode cX6_moreBy 32 = .ok (.if_icmp .le 17, 3) := g_164 17 bX6_moreBy rfl rfl
theorem dX6_moreBy_35 : decode cX6_moreBy 35 = .ok (.iload 4, 2) := g_21 bX6_moreBy rfl
theorem dX6_moreBy_37 : decode cX6_moreBy 37 = .ok (.aload_n 0, 1) := g_42 bX6_moreBy rfl
theorem dX6_moreBy_38 : decode cX6_moreBy 38 = .ok (.getfield 48, 3) := g_180 bX6_moreBy rfl
theorem dX6_moreBy_41 : decode cX6_moreBy 41 = .ok (.iload_n 2, 1) := g_28 bX6_moreBy rfl
theorem dX6_moreBy_42 : decode cX6_moreBy 42 = .ok (.aaload, 1) := g_50 bX6_moreBy rfl
theorem dX6_moreBy_43 : decode cX6_moreBy 43 = .ok (.iload_n 3, 1) := g_29 bX6_moreBy rfl
theorem dX6_moreBy_44 : decode cX6_moreBy 44 = .ok (.iaload, 1) := g_46 bX6_moreBy rfl
theorem dX6_moreBy_45 : decode cX6_moreBy 45 = .ok (.isub, 1) := g_100 bX6_moreBy rfl
theorem dX6_moreBy_46 : decode cX6_moreBy 46 = .ok (.goto 4, 3) := g_167 4 bX6_moreBy rfl rfl
theorem dX6_moreBy_49 : decode cX6_moreBy 49 = .ok (.iconst 0, 1) := g_3 bX6_moreBy rfl
theorem dX6_moreBy_50 : decode cX6_moreBy 50 = .ok (.ireturn, 1) := g_172 bX6_moreBy rfl
theorem dX6_readerOf_0 : decode cX6_readerOf 0 = .ok (.iconst (-1), 1) := g_2 bX6_readerOf rfl
theorem dX6_readerOf_1 : decode cX6_readerOf 1 = .ok (.istore_n 2, 1) := g_61 bX6_readerOf rfl
theorem dX6_readerOf_2 : decode cX6_readerOf 2 = .ok (.iconst 0, 1) := g_3 bX6_readerOf rfl
theorem dX6_readerOf_3 : decode cX6_readerOf 3 = .ok (.istore_n 3, 1) := g_62 bX6_readerOf rfl
theorem dX6_readerOf_4 : decode cX6_readerOf 4 = .ok (.iload_n 3, 1) := g_29 bX6_readerOf rfl
theorem dX6_readerOf_5 : decode cX6_readerOf 5 = .ok (.aload_n 0, 1) := g_42 bX6_readerOf rfl
theorem dX6_readerOf_6 : decode cX6_readerOf 6 = .ok (.getfield 78, 3) := g_180 bX6_readerOf rfl
theorem dX6_readerOf_9 : decode cX6_readerOf 9 = .ok (.if_icmp .ge 81, 3) := g_162 81 bX6_readerOf rfl rfl
theorem dX6_readerOf_12 : decode cX6_readerOf 12 = .ok (.aload_n 0, 1) := g_42 bX6_readerOf rfl
theorem dX6_readerOf_13 : decode cX6_readerOf 13 = .ok (.iload_n 3, 1) := g_29 bX6_readerOf rfl
theorem dX6_readerOf_14 : decode cX6_readerOf 14 = .ok (.invokevirtual 81, 3) := g_182 bX6_readerOf rfl
theorem dX6_readerOf_17 : decode cX6_readerOf 17 = .ok (.ifCond .eq 67, 3) := g_153 67 bX6_readerOf rfl rfl
theorem dX6_readerOf_20 : decode cX6_readerOf 20 = .ok (.aload_n 0, 1) := g_42 bX6_readerOf rfl
theorem dX6_readerOf_21 : decode cX6_readerOf 21 = .ok (.iload_n 3, 1) := g_29 bX6_readerOf rfl
theorem dX6_readerOf_22 : decode cX6_readerOf 22 = .ok (.iload_n 1, 1) := g_27 bX6_readerOf rfl
theorem dX6_readerOf_23 : decode cX6_readerOf 23 = .ok (.invokevirtual 254, 3) := g_182 bX6_readerOf rfl
theorem dX6_readerOf_26 : decode cX6_readerOf 26 = .ok (.istore 4, 2) := g_54 bX6_readerOf rfl
theorem dX6_readerOf_28 : decode cX6_readerOf 28 = .ok (.iload_n 2, 1) := g_28 bX6_readerOf rfl
theorem dX6_readerOf_29 : decode cX6_readerOf 29 = .ok (.iconst (-1), 1) := g_2 bX6_readerOf rfl
theorem dX6_readerOf_30 : decode cX6_readerOf 30 = .ok (.if_icmp .ne 7, 3) := g_160 7 bX6_readerOf rfl rfl
theorem dX6_readerOf_33 : decode cX6_readerOf 33 = .ok (.iconst (-1), 1) := g_2 bX6_readerOf rfl
theorem dX6_readerOf_34 : decode cX6_readerOf 34 = .ok (.goto 9, 3) := g_167 9 bX6_readerOf rfl rfl
theorem dX6_readerOf_37 : decode cX6_readerOf 37 = .ok (.aload_n 0, 1) := g_42 bX6_readerOf rfl
theorem dX6_readerOf_38 : decode cX6_readerOf 38 = .ok (.iload_n 2, 1) := g_28 bX6_readerOf rfl
theorem dX6_readerOf_39 : decode cX6_readerOf 39 = .ok (.iload_n 1, 1) := g_27 bX6_readerOf rfl
theorem dX6_readerOf_40 : decode cX6_readerOf 40 = .ok (.invokevirtual 254, 3) := g_182 bX6_readerOf rfl
theorem dX6_readerOf_43 : decode cX6_readerOf 43 = .ok (.istore 5, 2) := g_54 bX6_readerOf rfl
theorem dX6_readerOf_45 : decode cX6_readerOf 45 = .ok (.iload 4, 2) := g_21 bX6_readerOf rfl
theorem dX6_readerOf_47 : decode cX6_readerOf 47 = .ok (.iload 5, 2) := g_21 bX6_readerOf rfl
theorem dX6_readerOf_49 : decode cX6_readerOf 49 = .ok (.if_icmp .gt 29, 3) := g_163 29 bX6_readerOf rfl rfl
theorem dX6_readerOf_52 : decode cX6_readerOf 52 = .ok (.iload 4, 2) := g_21 bX6_readerOf rfl
theorem dX6_readerOf_54 : decode cX6_readerOf 54 = .ok (.iload 5, 2) := g_21 bX6_readerOf rfl
theorem dX6_readerOf_56 : decode cX6_readerOf 56 = .ok (.if_icmp .ne 26, 3) := g_160 26 bX6_readerOf rfl rfl
theorem dX6_readerOf_59 : decode cX6_readerOf 59 = .ok (.aload_n 0, 1) := g_42 bX6_readerOf rfl
theorem dX6_readerOf_60 : decode cX6_readerOf 60 = .ok (.getfield 45, 3) := g_180 bX6_readerOf rfl
theorem dX6_readerOf_63 : decode cX6_readerOf 63 = .ok (.iload_n 3, 1) := g_29 bX6_readerOf rfl
theorem dX6_readerOf_64 : decode cX6_readerOf 64 = .ok (.aaload, 1) := g_50 bX6_readerOf rfl
theorem dX6_readerOf_65 : decode cX6_readerOf 65 = .ok (.iconst 0, 1) := g_3 bX6_readerOf rfl
theorem dX6_readerOf_66 : decode cX6_readerOf 66 = .ok (.iaload, 1) := g_46 bX6_readerOf rfl
theorem dX6_readerOf_67 : decode cX6_readerOf 67 = .ok (.aload_n 0, 1) := g_42 bX6_readerOf rfl
theorem dX6_readerOf_68 : decode cX6_readerOf 68 = .ok (.getfield 45, 3) := g_180 bX6_readerOf rfl
theorem dX6_readerOf_71 : decode cX6_readerOf 71 = .ok (.iload_n 2, 1) := g_28 bX6_readerOf rfl
theorem dX6_readerOf_72 : decode cX6_readerOf 72 = .ok (.aaload, 1) := g_50 bX6_readerOf rfl
theorem dX6_readerOf_73 : decode cX6_readerOf 73 = .ok (.iconst 0, 1) := g_3 bX6_readerOf rfl
theorem dX6_readerOf_74 : decode cX6_readerOf 74 = .ok (.iaload, 1) := g_46 bX6_readerOf rfl
theorem dX6_readerOf_75 : decode cX6_readerOf 75 = .ok (.if_icmp .ge 7, 3) := g_162 7 bX6_readerOf rfl rfl
theorem dX6_readerOf_78 : decode cX6_readerOf 78 = .ok (.iload_n 3, 1) := g_29 bX6_readerOf rfl
theorem dX6_readerOf_79 : decode cX6_readerOf 79 = .ok (.goto 4, 3) := g_167 4 bX6_readerOf rfl rfl
theorem dX6_readerOf_82 : decode cX6_readerOf 82 = .ok (.iload_n 2, 1) := g_28 bX6_readerOf rfl
theorem dX6_readerOf_83 : decode cX6_readerOf 83 = .ok (.istore_n 2, 1) := g_61 bX6_readerOf rfl
theorem dX6_readerOf_84 : decode cX6_readerOf 84 = .ok (.iinc 3 1, 3) := g_132 1 bX6_readerOf rfl rfl
theorem dX6_readerOf_87 : decode cX6_readerOf 87 = .ok (.goto (-83), 3) := g_167 65453 bX6_readerOf rfl rfl
theorem dX6_readerOf_90 : decode cX6_readerOf 90 = .ok (.iload_n 2, 1) := g_28 bX6_readerOf rfl
theorem dX6_readerOf_91 : decode cX6_readerOf 91 = .ok (.ireturn, 1) := g_172 bX6_readerOf rfl
theorem dX6_reads_0 : decode cX6_reads 0 = .ok (.aload_n 0, 1) := g_42 bX6_reads rfl
theorem dX6_reads_1 : decode cX6_reads 1 = .ok (.getfield 48, 3) := g_180 bX6_reads rfl
theorem dX6_reads_4 : decode cX6_reads 4 = .ok (.iload_n 1, 1) := g_27 bX6_reads rfl
theorem dX6_reads_5 : decode cX6_reads 5 = .ok (.aaload, 1) := g_50 bX6_reads rfl
theorem dX6_reads_6 : decode cX6_reads 6 = .ok (.iload_n 2, 1) := g_28 bX6_reads rfl
theorem dX6_reads_7 : decode cX6_reads 7 = .ok (.aload_n 0, 1) := g_42 bX6_reads rfl
theorem dX6_reads_8 : decode cX6_reads 8 = .ok (.iload_n 1, 1) := g_27 bX6_reads rfl
theorem dX6_reads_9 : decode cX6_reads 9 = .ok (.iload_n 2, 1) := g_28 bX6_reads rfl
theorem dX6_reads_10 : decode cX6_reads 10 = .ok (.invokevirtual 254, 3) := g_182 bX6_reads rfl
theorem dX6_reads_13 : decode cX6_reads 13 = .ok (.iastore, 1) := g_79 bX6_reads rfl
theorem dX6_reads_14 : decode cX6_reads 14 = .ok (.aload_n 0, 1) := g_42 bX6_reads rfl
theorem dX6_reads_15 : decode cX6_reads 15 = .ok (.getfield 42, 3) := g_180 bX6_reads rfl
theorem dX6_reads_18 : decode cX6_reads 18 = .ok (.iload_n 2, 1) := g_28 bX6_reads rfl
theorem dX6_reads_19 : decode cX6_reads 19 = .ok (.aaload, 1) := g_50 bX6_reads rfl
theorem dX6_reads_20 : decode cX6_reads 20 = .ok (.iconst 3, 1) := g_6 bX6_reads rfl
theorem dX6_reads_21 : decode cX6_reads 21 = .ok (.iconst 1, 1) := g_4 bX6_reads rfl
theorem dX6_reads_22 : decode cX6_reads 22 = .ok (.iastore, 1) := g_79 bX6_reads rfl
theorem dX6_reads_23 : decode cX6_reads 23 = .ok (.return_, 1) := g_177 bX6_reads rfl
theorem dX6_refuse_0 : decode cX6_refuse 0 = .ok (.aload_n 0, 1) := g_42 bX6_refuse rfl
theorem dX6_refuse_1 : decode cX6_refuse 1 = .ok (.getfield 37, 3) := g_180 bX6_refuse rfl
theorem dX6_refuse_4 : decode cX6_refuse 4 = .ok (.iload_n 1, 1) := g_27 bX6_refuse rfl
theorem dX6_refuse_5 : decode cX6_refuse 5 = .ok (.ineg, 1) := g_116 bX6_refuse rfl
theorem dX6_refuse_6 : decode cX6_refuse 6 = .ok (.dup2, 1) := g_92 bX6_refuse rfl
theorem dX6_refuse_7 : decode cX6_refuse 7 = .ok (.iaload, 1) := g_46 bX6_refuse rfl
theorem dX6_refuse_8 : decode cX6_refuse 8 = .ok (.iconst 1, 1) := g_4 bX6_refuse rfl
theorem dX6_refuse_9 : decode cX6_refuse 9 = .ok (.iadd, 1) := g_96 bX6_refuse rfl
theorem dX6_refuse_10 : decode cX6_refuse 10 = .ok (.iastore, 1) := g_79 bX6_refuse rfl
theorem dX6_refuse_11 : decode cX6_refuse 11 = .ok (.iload_n 1, 1) := g_27 bX6_refuse rfl
theorem dX6_refuse_12 : decode cX6_refuse 12 = .ok (.ireturn, 1) := g_172 bX6_refuse rfl
theorem dX6_thereMany_0 : decode cX6_thereMany 0 = .ok (.iconst 0, 1) := g_3 bX6_thereMany rfl
theorem dX6_thereMany_1 : decode cX6_thereMany 1 = .ok (.istore_n 1, 1) := g_60 bX6_thereMany rfl
theorem dX6_thereMany_2 : decode cX6_thereMany 2 = .ok (.iconst 0, 1) := g_3 bX6_thereMany rfl
theorem dX6_thereMany_3 : decode cX6_thereMany 3 = .ok (.istore_n 2, 1) := g_61 bX6_thereMany rfl
theorem dX6_thereMany_4 : decode cX6_thereMany 4 = .ok (.iload_n 2, 1) := g_28 bX6_thereMany rfl
theorem dX6_thereMany_5 : decode cX6_thereMany 5 = .ok (.aload_n 0, 1) := g_42 bX6_thereMany rfl
theorem dX6_thereMany_6 : decode cX6_thereMany 6 = .ok (.getfield 78, 3) := g_180 bX6_thereMany rfl
theorem dX6_thereMany_9 : decode cX6_thereMany 9 = .ok (.if_icmp .ge 25, 3) := g_162 25 bX6_thereMany rfl rfl
theorem dX6_thereMany_12 : decode cX6_thereMany 12 = .ok (.iload_n 1, 1) := g_27 bX6_thereMany rfl
theorem dX6_thereMany_13 : decode cX6_thereMany 13 = .ok (.aload_n 0, 1) := g_42 bX6_thereMany rfl
theorem dX6_thereMany_14 : decode cX6_thereMany 14 = .ok (.iload_n 2, 1) := g_28 bX6_thereMany rfl
theorem dX6_thereMany_15 : decode cX6_thereMany 15 = .ok (.invokevirtual 81, 3) := g_182 bX6_thereMany rfl
theorem dX6_thereMany_18 : decode cX6_thereMany 18 = .ok (.ifCond .eq 7, 3) := g_153 7 bX6_thereMany rfl rfl
theorem dX6_thereMany_21 : decode cX6_thereMany 21 = .ok (.iconst 1, 1) := g_4 bX6_thereMany rfl
theorem dX6_thereMany_22 : decode cX6_thereMany 22 = .ok (.goto 4, 3) := g_167 4 bX6_thereMany rfl rfl
theorem dX6_thereMany_25 : decode cX6_thereMany 25 = .ok (.iconst 0, 1) := g_3 bX6_thereMany rfl
theorem dX6_thereMany_26 : decode cX6_thereMany 26 = .ok (.iadd, 1) := g_96 bX6_thereMany rfl
theorem dX6_thereMany_27 : decode cX6_thereMany 27 = .ok (.istore_n 1, 1) := g_60 bX6_thereMany rfl
theorem dX6_thereMany_28 : decode cX6_thereMany 28 = .ok (.iinc 2 1, 3) := g_132 1 bX6_thereMany rfl rfl
theorem dX6_thereMany_31 : decode cX6_thereMany 31 = .ok (.goto (-27), 3) := g_167 65509 bX6_thereMany rfl rfl
theorem dX6_thereMany_34 : decode cX6_thereMany 34 = .ok (.iload_n 1, 1) := g_27 bX6_thereMany rfl
theorem dX6_thereMany_35 : decode cX6_thereMany 35 = .ok (.ireturn, 1) := g_172 bX6_thereMany rfl
theorem dX6_valueNow_0 : decode cX6_valueNow 0 = .ok (.aload_n 0, 1) := g_42 bX6_valueNow rfl
theorem dX6_valueNow_1 : decode cX6_valueNow 1 = .ok (.iconst 1, 1) := g_4 bX6_valueNow rfl
theorem dX6_valueNow_2 : decode cX6_valueNow 2 = .ok (.aload_n 0, 1) := g_42 bX6_valueNow rfl
theorem dX6_valueNow_3 : decode cX6_valueNow 3 = .ok (.getfield 78, 3) := g_180 bX6_valueNow rfl
theorem dX6_valueNow_6 : decode cX6_valueNow 6 = .ok (.ishl, 1) := g_120 bX6_valueNow rfl
theorem dX6_valueNow_7 : decode cX6_valueNow 7 = .ok (.iconst 1, 1) := g_4 bX6_valueNow rfl
theorem dX6_valueNow_8 : decode cX6_valueNow 8 = .ok (.isub, 1) := g_100 bX6_valueNow rfl
theorem dX6_valueNow_9 : decode cX6_valueNow 9 = .ok (.invokevirtual 266, 3) := g_182 bX6_valueNow rfl
theorem dX6_valueNow_12 : decode cX6_valueNow 12 = .ok (.ireturn, 1) := g_172 bX6_valueNow rfl
theorem dX6_valueOf_0 : decode cX6_valueOf 0 = .ok (.iconst 0, 1) := g_3 bX6_valueOf rfl
theorem dX6_valueOf_1 : decode cX6_valueOf 1 = .ok (.istore_n 2, 1) := g_61 bX6_valueOf rfl
theorem dX6_valueOf_2 : decode cX6_valueOf 2 = .ok (.iconst 0, 1) := g_3 bX6_valueOf rfl
theorem dX6_valueOf_3 : decode cX6_valueOf 3 = .ok (.istore_n 3, 1) := g_62 bX6_valueOf rfl
theorem dX6_valueOf_4 : decode cX6_valueOf 4 = .ok (.iload_n 3, 1) := g_29 bX6_valueOf rfl
theorem dX6_valueOf_5 : decode cX6_valueOf 5 = .ok (.aload_n 0, 1) := g_42 bX6_valueOf rfl
theorem dX6_valueOf_6 : decode cX6_valueOf 6 = .ok (.getfield 71, 3) := g_180 bX6_valueOf rfl
theorem dX6_valueOf_9 : decode cX6_valueOf 9 = .ok (.if_icmp .ge 27, 3) := g_162 27 bX6_valueOf rfl rfl
theorem dX6_valueOf_12 : decode cX6_valueOf 12 = .ok (.iload_n 2, 1) := g_28 bX6_valueOf rfl
theorem dX6_valueOf_13 : decode cX6_valueOf 13 = .ok (.aload_n 0, 1) := g_42 bX6_valueOf rfl
theorem dX6_valueOf_14 : decode cX6_valueOf 14 = .ok (.getfield 42, 3) := g_180 bX6_valueOf rfl
theorem dX6_valueOf_17 : decode cX6_valueOf 17 = .ok (.iload_n 3, 1) := g_29 bX6_valueOf rfl
theorem dX6_valueOf_18 : decode cX6_valueOf 18 = .ok (.aaload, 1) := g_50 bX6_valueOf rfl
theorem dX6_valueOf_19 : decode cX6_valueOf 19 = .ok (.iconst 0, 1) := g_3 bX6_valueOf rfl
theorem dX6_valueOf_20 : decode cX6_valueOf 20 = .ok (.iaload, 1) := g_46 bX6_valueOf rfl
theorem dX6_valueOf_21 : decode cX6_valueOf 21 = .ok (.aload_n 0, 1) := g_42 bX6_valueOf rfl
theorem dX6_valueOf_22 : decode cX6_valueOf 22 = .ok (.iload_n 3, 1) := g_29 bX6_valueOf rfl
theorem dX6_valueOf_23 : decode cX6_valueOf 23 = .ok (.iload_n 1, 1) := g_27 bX6_valueOf rfl
theorem dX6_valueOf_24 : decode cX6_valueOf 24 = .ok (.invokevirtual 233, 3) := g_182 bX6_valueOf rfl
theorem dX6_valueOf_27 : decode cX6_valueOf 27 = .ok (.imul, 1) := g_104 bX6_valueOf rfl
theorem dX6_valueOf_28 : decode cX6_valueOf 28 = .ok (.iadd, 1) := g_96 bX6_valueOf rfl
theorem dX6_valueOf_29 : decode cX6_valueOf 29 = .ok (.istore_n 2, 1) := g_61 bX6_valueOf rfl
theorem dX6_valueOf_30 : decode cX6_valueOf 30 = .ok (.iinc 3 1, 3) := g_132 1 bX6_valueOf rfl rfl
theorem dX6_valueOf_33 : decode cX6_valueOf 33 = .ok (.goto (-29), 3) := g_167 65507 bX6_valueOf rfl rfl
theorem dX6_valueOf_36 : decode cX6_valueOf 36 = .ok (.iload_n 2, 1) := g_28 bX6_valueOf rfl
theorem dX6_valueOf_37 : decode cX6_valueOf 37 = .ok (.ireturn, 1) := g_172 bX6_valueOf rfl
theorem dX6_whiteMany_0 : decode cX6_whiteMany 0 = .ok (.iconst 0, 1) := g_3 bX6_whiteMany rfl
theorem dX6_whiteMany_1 : decode cX6_whiteMany 1 = .ok (.istore_n 1, 1) := g_60 bX6_whiteMany rfl
theorem dX6_whiteMany_2 : decode cX6_whiteMany 2 = .ok (.iconst 0, 1) := g_3 bX6_whiteMany rfl
theorem dX6_whiteMany_3 : decode cX6_whiteMany 3 = .ok (.istore_n 2, 1) := g_61 bX6_whiteMany rfl
theorem dX6_whiteMany_4 : decode cX6_whiteMany 4 = .ok (.iload_n 2, 1) := g_28 bX6_whiteMany rfl
theorem dX6_whiteMany_5 : decode cX6_whiteMany 5 = .ok (.aload_n 0, 1) := g_42 bX6_whiteMany rfl
theorem dX6_whiteMany_6 : decode cX6_whiteMany 6 = .ok (.getfield 71, 3) := g_180 bX6_whiteMany rfl
theorem dX6_whiteMany_9 : decode cX6_whiteMany 9 = .ok (.if_icmp .ge 20, 3) := g_162 20 bX6_whiteMany rfl rfl
theorem dX6_whiteMany_12 : decode cX6_whiteMany 12 = .ok (.iload_n 1, 1) := g_27 bX6_whiteMany rfl
theorem dX6_whiteMany_13 : decode cX6_whiteMany 13 = .ok (.aload_n 0, 1) := g_42 bX6_whiteMany rfl
theorem dX6_whiteMany_14 : decode cX6_whiteMany 14 = .ok (.getfield 42, 3) := g_180 bX6_whiteMany rfl
theorem dX6_whiteMany_17 : decode cX6_whiteMany 17 = .ok (.iload_n 2, 1) := g_28 bX6_whiteMany rfl
theorem dX6_whiteMany_18 : decode cX6_whiteMany 18 = .ok (.aaload, 1) := g_50 bX6_whiteMany rfl
theorem dX6_whiteMany_19 : decode cX6_whiteMany 19 = .ok (.iconst 3, 1) := g_6 bX6_whiteMany rfl
theorem dX6_whiteMany_20 : decode cX6_whiteMany 20 = .ok (.iaload, 1) := g_46 bX6_whiteMany rfl
theorem dX6_whiteMany_21 : decode cX6_whiteMany 21 = .ok (.iadd, 1) := g_96 bX6_whiteMany rfl
theorem dX6_whiteMany_22 : decode cX6_whiteMany 22 = .ok (.istore_n 1, 1) := g_60 bX6_whiteMany rfl
theorem dX6_whiteMany_23 : decode cX6_whiteMany 23 = .ok (.iinc 2 1, 3) := g_132 1 bX6_whiteMany rfl rfl
theorem dX6_whiteMany_26 : decode cX6_whiteMany 26 = .ok (.goto (-22), 3) := g_167 65514 bX6_whiteMany rfl rfl
theorem dX6_whiteMany_29 : decode cX6_whiteMany 29 = .ok (.iload_n 1, 1) := g_27 bX6_whiteMany rfl
theorem dX6_whiteMany_30 : decode cX6_whiteMany 30 = .ok (.ireturn, 1) := g_172 bX6_whiteMany rfl
theorem dX6_wouldKnow_0 : decode cX6_wouldKnow 0 = .ok (.aload_n 0, 1) := g_42 bX6_wouldKnow rfl
theorem dX6_wouldKnow_1 : decode cX6_wouldKnow 1 = .ok (.aload_n 0, 1) := g_42 bX6_wouldKnow rfl
theorem dX6_wouldKnow_2 : decode cX6_wouldKnow 2 = .ok (.getfield 42, 3) := g_180 bX6_wouldKnow rfl
theorem dX6_wouldKnow_5 : decode cX6_wouldKnow 5 = .ok (.iload_n 2, 1) := g_28 bX6_wouldKnow rfl
theorem dX6_wouldKnow_6 : decode cX6_wouldKnow 6 = .ok (.aaload, 1) := g_50 bX6_wouldKnow rfl
theorem dX6_wouldKnow_7 : decode cX6_wouldKnow 7 = .ok (.iconst 2, 1) := g_5 bX6_wouldKnow rfl
theorem dX6_wouldKnow_8 : decode cX6_wouldKnow 8 = .ok (.iaload, 1) := g_46 bX6_wouldKnow rfl
theorem dX6_wouldKnow_9 : decode cX6_wouldKnow 9 = .ok (.aload_n 0, 1) := g_42 bX6_wouldKnow rfl
theorem dX6_wouldKnow_10 : decode cX6_wouldKnow 10 = .ok (.getfield 45, 3) := g_180 bX6_wouldKnow rfl
theorem dX6_wouldKnow_13 : decode cX6_wouldKnow 13 = .ok (.iload_n 1, 1) := g_27 bX6_wouldKnow rfl
theorem dX6_wouldKnow_14 : decode cX6_wouldKnow 14 = .ok (.aaload, 1) := g_50 bX6_wouldKnow rfl
theorem dX6_wouldKnow_15 : decode cX6_wouldKnow 15 = .ok (.iconst 1, 1) := g_4 bX6_wouldKnow rfl
theorem dX6_wouldKnow_16 : decode cX6_wouldKnow 16 = .ok (.iaload, 1) := g_46 bX6_wouldKnow rfl
theorem dX6_wouldKnow_17 : decode cX6_wouldKnow 17 = .ok (.imul, 1) := g_104 bX6_wouldKnow rfl
theorem dX6_wouldKnow_18 : decode cX6_wouldKnow 18 = .ok (.bipush 10, 2) := g_16 10 bX6_wouldKnow rfl rfl
theorem dX6_wouldKnow_20 : decode cX6_wouldKnow 20 = .ok (.idiv, 1) := g_108 bX6_wouldKnow rfl
theorem dX6_wouldKnow_21 : decode cX6_wouldKnow 21 = .ok (.iload_n 1, 1) := g_27 bX6_wouldKnow rfl
theorem dX6_wouldKnow_22 : decode cX6_wouldKnow 22 = .ok (.iload_n 2, 1) := g_28 bX6_wouldKnow rfl
theorem dX6_wouldKnow_23 : decode cX6_wouldKnow 23 = .ok (.invokevirtual 244, 3) := g_182 bX6_wouldKnow rfl
theorem dX6_wouldKnow_26 : decode cX6_wouldKnow 26 = .ok (.istore_n 3, 1) := g_62 bX6_wouldKnow rfl
theorem dX6_wouldKnow_27 : decode cX6_wouldKnow 27 = .ok (.iload_n 3, 1) := g_29 bX6_wouldKnow rfl
theorem dX6_wouldKnow_28 : decode cX6_wouldKnow 28 = .ok (.aload_n 0, 1) := g_42 bX6_wouldKnow rfl
theorem dX6_wouldKnow_29 : decode cX6_wouldKnow 29 = .ok (.getfield 48, 3) := g_180 bX6_wouldKnow rfl
theorem dX6_wouldKnow_32 : decode cX6_wouldKnow 32 = .ok (.iload_n 1, 1) := g_27 bX6_wouldKnow rfl
theorem dX6_wouldKnow_33 : decode cX6_wouldKnow 33 = .ok (.aaload, 1) := g_50 bX6_wouldKnow rfl
theorem dX6_wouldKnow_34 : decode cX6_wouldKnow 34 = .ok (.iload_n 2, 1) := g_28 bX6_wouldKnow rfl
theorem dX6_wouldKnow_35 : decode cX6_wouldKnow 35 = .ok (.iaload, 1) := g_46 bX6_wouldKnow rfl
theorem dX6_wouldKnow_36 : decode cX6_wouldKnow 36 = .ok (.if_icmp .le 7, 3) := g_164 7 bX6_wouldKnow rfl rfl
theorem dX6_wouldKnow_39 : decode cX6_wouldKnow 39 = .ok (.iload_n 3, 1) := g_29 bX6_wouldKnow rfl
theorem dX6_wouldKnow_40 : decode cX6_wouldKnow 40 = .ok (.goto 11, 3) := g_167 11 bX6_wouldKnow rfl rfl
theorem dX6_wouldKnow_43 : decode cX6_wouldKnow 43 = .ok (.aload_n 0, 1) := g_42 bX6_wouldKnow rfl
theorem dX6_wouldKnow_44 : decode cX6_wouldKnow 44 = .ok (.getfield 48, 3) := g_180 bX6_wouldKnow rfl
theorem dX6_wouldKnow_47 : decode cX6_wouldKnow 47 = .ok (.iload_n 1, 1) := g_27 bX6_wouldKnow rfl
theorem dX6_wouldKnow_48 : decode cX6_wouldKnow 48 = .ok (.aaload, 1) := g_50 bX6_wouldKnow rfl
theorem dX6_wouldKnow_49 : decode cX6_wouldKnow 49 = .ok (.iload_n 2, 1) := g_28 bX6_wouldKnow rfl
theorem dX6_wouldKnow_50 : decode cX6_wouldKnow 50 = .ok (.iaload, 1) := g_46 bX6_wouldKnow rfl
theorem dX6_wouldKnow_51 : decode cX6_wouldKnow 51 = .ok (.ireturn, 1) := g_172 bX6_wouldKnow rfl
theorem dX6_youngestBut_0 : decode cX6_youngestBut 0 = .ok (.iconst (-1), 1) := g_2 bX6_youngestBut rfl
theorem dX6_youngestBut_1 : decode cX6_youngestBut 1 = .ok (.istore_n 2, 1) := g_61 bX6_youngestBut rfl
theorem dX6_youngestBut_2 : decode cX6_youngestBut 2 = .ok (.iconst 0, 1) := g_3 bX6_youngestBut rfl
theorem dX6_youngestBut_3 : decode cX6_youngestBut 3 = .ok (.istore_n 3, 1) := g_62 bX6_youngestBut rfl
theorem dX6_youngestBut_4 : decode cX6_youngestBut 4 = .ok (.iload_n 3, 1) := g_29 bX6_youngestBut rfl
theorem dX6_youngestBut_5 : decode cX6_youngestBut 5 = .ok (.aload_n 0, 1) := g_42 bX6_youngestBut rfl
theorem dX6_youngestBut_6 : decode cX6_youngestBut 6 = .ok (.getfield 78, 3) := g_180 bX6_youngestBut rfl
theorem dX6_youngestBut_9 : decode cX6_youngestBut 9 = .ok (.if_icmp .ge 52, 3) := g_162 52 bX6_youngestBut rfl rfl
theorem dX6_youngestBut_12 : decode cX6_youngestBut 12 = .ok (.iload_n 3, 1) := g_29 bX6_youngestBut rfl
theorem dX6_youngestBut_13 : decode cX6_youngestBut 13 = .ok (.iload_n 1, 1) := g_27 bX6_youngestBut rfl
theorem dX6_youngestBut_14 : decode cX6_youngestBut 14 = .ok (.if_icmp .eq 39, 3) := g_159 39 bX6_youngestBut rfl rfl
theorem dX6_youngestBut_17 : decode cX6_youngestBut 17 = .ok (.aload_n 0, 1) := g_42 bX6_youngestBut rfl
theorem dX6_youngestBut_18 : decode cX6_youngestBut 18 = .ok (.iload_n 3, 1) := g_29 bX6_youngestBut rfl
theorem dX6_youngestBut_19 : decode cX6_youngestBut 19 = .ok (.invokevirtual 81, 3) := g_182 bX6_youngestBut rfl
theorem dX6_youngestBut_22 : decode cX6_youngestBut 22 = .ok (.ifCond .eq 31, 3) := g_153 31 bX6_youngestBut rfl rfl
theorem dX6_youngestBut_25 : decode cX6_youngestBut 25 = .ok (.iload_n 2, 1) := g_28 bX6_youngestBut rfl
theorem dX6_youngestBut_26 : decode cX6_youngestBut 26 = .ok (.iconst (-1), 1) := g_2 bX6_youngestBut rfl
theorem dX6_youngestBut_27 : decode cX6_youngestBut 27 = .ok (.if_icmp .eq 22, 3) := g_159 22 bX6_youngestBut rfl rfl
theorem dX6_youngestBut_30 : decode cX6_youngestBut 30 = .ok (.aload_n 0, 1) := g_42 bX6_youngestBut rfl
theorem dX6_youngestBut_31 : decode cX6_youngestBut 31 = .ok (.getfield 45, 3) := g_180 bX6_youngestBut rfl
theorem dX6_youngestBut_34 : decode cX6_youngestBut 34 = .ok (.iload_n 3, 1) := g_29 bX6_youngestBut rfl
theorem dX6_youngestBut_35 : decode cX6_youngestBut 35 = .ok (.aaload, 1) := g_50 bX6_youngestBut rfl
theorem dX6_youngestBut_36 : decode cX6_youngestBut 36 = .ok (.iconst 0, 1) := g_3 bX6_youngestBut rfl
theorem dX6_youngestBut_37 : decode cX6_youngestBut 37 = .ok (.iaload, 1) := g_46 bX6_youngestBut rfl
theorem dX6_youngestBut_38 : decode cX6_youngestBut 38 = .ok (.aload_n 0, 1) := g_42 bX6_youngestBut rfl
theorem dX6_youngestBut_39 : decode cX6_youngestBut 39 = .ok (.getfield 45, 3) := g_180 bX6_youngestBut rfl
theorem dX6_youngestBut_42 : decode cX6_youngestBut 42 = .ok (.iload_n 2, 1) := g_28 bX6_youngestBut rfl
theorem dX6_youngestBut_43 : decode cX6_youngestBut 43 = .ok (.aaload, 1) := g_50 bX6_youngestBut rfl
theorem dX6_youngestBut_44 : decode cX6_youngestBut 44 = .ok (.iconst 0, 1) := g_3 bX6_youngestBut rfl
theorem dX6_youngestBut_45 : decode cX6_youngestBut 45 = .ok (.iaload, 1) := g_46 bX6_youngestBut rfl
theorem dX6_youngestBut_46 : decode cX6_youngestBut 46 = .ok (.if_icmp .ge 7, 3) := g_162 7 bX6_youngestBut rfl rfl
theorem dX6_youngestBut_49 : decode cX6_youngestBut 49 = .ok (.iload_n 3, 1) := g_29 bX6_youngestBut rfl
theorem dX6_youngestBut_50 : decode cX6_youngestBut 50 = .ok (.goto 4, 3) := g_167 4 bX6_youngestBut rfl rfl
theorem dX6_youngestBut_53 : decode cX6_youngestBut 53 = .ok (.iload_n 2, 1) := g_28 bX6_youngestBut rfl
theorem dX6_youngestBut_54 : decode cX6_youngestBut 54 = .ok (.istore_n 2, 1) := g_61 bX6_youngestBut rfl
theorem dX6_youngestBut_55 : decode cX6_youngestBut 55 = .ok (.iinc 3 1, 3) := g_132 1 bX6_youngestBut rfl rfl
theorem dX6_youngestBut_58 : decode cX6_youngestBut 58 = .ok (.goto (-54), 3) := g_167 65482 bX6_youngestBut rfl rfl
theorem dX6_youngestBut_61 : decode cX6_youngestBut 61 = .ok (.iload_n 2, 1) := g_28 bX6_youngestBut rfl
theorem dX6_youngestBut_62 : decode cX6_youngestBut 62 = .ok (.ireturn, 1) := g_172 bX6_youngestBut rfl
theorem dX6_chain_0 : decode cX6_chain 0 = .ok (.iconst 0, 1) := g_3 bX6_chain rfl
theorem dX6_chain_1 : decode cX6_chain 1 = .ok (.istore_n 1, 1) := g_60 bX6_chain rfl
theorem dX6_chain_2 : decode cX6_chain 2 = .ok (.iload_n 1, 1) := g_27 bX6_chain rfl
theorem dX6_chain_3 : decode cX6_chain 3 = .ok (.aload_n 0, 1) := g_42 bX6_chain rfl
theorem dX6_chain_4 : decode cX6_chain 4 = .ok (.getfield 78, 3) := g_180 bX6_chain rfl
theorem dX6_chain_7 : decode cX6_chain 7 = .ok (.if_icmp .ge 66, 3) := g_162 66 bX6_chain rfl rfl
theorem dX6_chain_10 : decode cX6_chain 10 = .ok (.aload_n 0, 1) := g_42 bX6_chain rfl
theorem dX6_chain_11 : decode cX6_chain 11 = .ok (.iload_n 1, 1) := g_27 bX6_chain rfl
theorem dX6_chain_12 : decode cX6_chain 12 = .ok (.invokevirtual 81, 3) := g_182 bX6_chain rfl
theorem dX6_chain_15 : decode cX6_chain 15 = .ok (.ifCond .eq 11, 3) := g_153 11 bX6_chain rfl rfl
theorem dX6_chain_18 : decode cX6_chain 18 = .ok (.aload_n 0, 1) := g_42 bX6_chain rfl
theorem dX6_chain_19 : decode cX6_chain 19 = .ok (.iload_n 1, 1) := g_27 bX6_chain rfl
theorem dX6_chain_20 : decode cX6_chain 20 = .ok (.invokevirtual 269, 3) := g_182 bX6_chain rfl
theorem dX6_chain_23 : decode cX6_chain 23 = .ok (.goto 4, 3) := g_167 4 bX6_chain rfl rfl
theorem dX6_chain_26 : decode cX6_chain 26 = .ok (.iconst (-1), 1) := g_2 bX6_chain rfl
theorem dX6_chain_27 : decode cX6_chain 27 = .ok (.istore_n 2, 1) := g_61 bX6_chain rfl
theorem dX6_chain_28 : decode cX6_chain 28 = .ok (.iconst 0, 1) := g_3 bX6_chain rfl
theorem dX6_chain_29 : decode cX6_chain 29 = .ok (.istore_n 3, 1) := g_62 bX6_chain rfl
theorem dX6_chain_30 : decode cX6_chain 30 = .ok (.iload_n 3, 1) := g_29 bX6_chain rfl
theorem dX6_chain_31 : decode cX6_chain 31 = .ok (.aload_n 0, 1) := g_42 bX6_chain rfl
theorem dX6_chain_32 : decode cX6_chain 32 = .ok (.getfield 71, 3) := g_180 bX6_chain rfl
theorem dX6_chain_35 : decode cX6_chain 35 = .ok (.if_icmp .ge 32, 3) := g_162 32 bX6_chain rfl rfl
theorem dX6_chain_38 : decode cX6_chain 38 = .ok (.iload_n 2, 1) := g_28 bX6_chain rfl
theorem dX6_chain_39 : decode cX6_chain 39 = .ok (.iconst (-1), 1) := g_2 bX6_chain rfl
theorem dX6_chain_40 : decode cX6_chain 40 = .ok (.if_icmp .eq 27, 3) := g_159 27 bX6_chain rfl rfl
theorem dX6_chain_43 : decode cX6_chain 43 = .ok (.aload_n 0, 1) := g_42 bX6_chain rfl
theorem dX6_chain_44 : decode cX6_chain 44 = .ok (.getfield 48, 3) := g_180 bX6_chain rfl
theorem dX6_chain_47 : decode cX6_chain 47 = .ok (.iload_n 2, 1) := g_28 bX6_chain rfl
theorem dX6_chain_48 : decode cX6_chain 48 = .ok (.aaload, 1) := g_50 bX6_chain rfl
theorem dX6_chain_49 : decode cX6_chain 49 = .ok (.iload_n 3, 1) := g_29 bX6_chain rfl
theorem dX6_chain_50 : decode cX6_chain 50 = .ok (.dup2, 1) := g_92 bX6_chain rfl
theorem dX6_chain_51 : decode cX6_chain 51 = .ok (.iaload, 1) := g_46 bX6_chain rfl
theorem dX6_chain_52 : decode cX6_chain 52 = .ok (.aload_n 0, 1) := g_42 bX6_chain rfl
theorem dX6_chain_53 : decode cX6_chain 53 = .ok (.iload_n 1, 1) := g_27 bX6_chain rfl
theorem dX6_chain_54 : decode cX6_chain 54 = .ok (.iload_n 2, 1) := g_28 bX6_chain rfl
theorem dX6_chain_55 : decode cX6_chain 55 = .ok (.iload_n 3, 1) := g_29 bX6_chain rfl
theorem dX6_chain_56 : decode cX6_chain 56 = .ok (.invokevirtual 263, 3) := g_182 bX6_chain rfl
theorem dX6_chain_59 : decode cX6_chain 59 = .ok (.iadd, 1) := g_96 bX6_chain rfl
theorem dX6_chain_60 : decode cX6_chain 60 = .ok (.iastore, 1) := g_79 bX6_chain rfl
theorem dX6_chain_61 : decode cX6_chain 61 = .ok (.iinc 3 1, 3) := g_132 1 bX6_chain rfl rfl
theorem dX6_chain_64 : decode cX6_chain 64 = .ok (.goto (-34), 3) := g_167 65502 bX6_chain rfl rfl
theorem dX6_chain_67 : decode cX6_chain 67 = .ok (.iinc 1 1, 3) := g_132 1 bX6_chain rfl rfl
theorem dX6_chain_70 : decode cX6_chain 70 = .ok (.goto (-68), 3) := g_167 65468 bX6_chain rfl rfl
theorem dX6_chain_73 : decode cX6_chain 73 = .ok (.return_, 1) := g_177 bX6_chain rfl
theorem dX6_does_0 : decode cX6_does 0 = .ok (.iload_n 1, 1) := g_27 bX6_does rfl
theorem dX6_does_1 : decode cX6_does 1 = .ok (.tableswitch 74 1 5 #[35, 43, 50, 58, 64], 35) := by decide +kernel
theorem dX6_does_36 : decode cX6_does 36 = .ok (.aload_n 0, 1) := g_42 bX6_does rfl
theorem dX6_does_37 : decode cX6_does 37 = .ok (.bipush 8, 2) := g_16 8 bX6_does rfl rfl
theorem dX6_does_39 : decode cX6_does 39 = .ok (.iconst 0, 1) := g_3 bX6_does rfl
theorem dX6_does_40 : decode cX6_does 40 = .ok (.invokevirtual 278, 3) := g_182 bX6_does rfl
theorem dX6_does_43 : decode cX6_does 43 = .ok (.ireturn, 1) := g_172 bX6_does rfl
theorem dX6_does_44 : decode cX6_does 44 = .ok (.aload_n 0, 1) := g_42 bX6_does rfl
theorem dX6_does_45 : decode cX6_does 45 = .ok (.iload_n 2, 1) := g_28 bX6_does rfl
theorem dX6_does_46 : decode cX6_does 46 = .ok (.iconst 0, 1) := g_3 bX6_does rfl
theorem dX6_does_47 : decode cX6_does 47 = .ok (.invokevirtual 278, 3) := g_182 bX6_does rfl
theorem dX6_does_50 : decode cX6_does 50 = .ok (.ireturn, 1) := g_172 bX6_does rfl
theorem dX6_does_51 : decode cX6_does 51 = .ok (.aload_n 0, 1) := g_42 bX6_does rfl
theorem dX6_does_52 : decode cX6_does 52 = .ok (.bipush 8, 2) := g_16 8 bX6_does rfl rfl
theorem dX6_does_54 : decode cX6_does 54 = .ok (.iconst 1, 1) := g_4 bX6_does rfl
theorem dX6_does_55 : decode cX6_does 55 = .ok (.invokevirtual 278, 3) := g_182 bX6_does rfl
theorem dX6_does_58 : decode cX6_does 58 = .ok (.ireturn, 1) := g_172 bX6_does rfl
theorem dX6_does_59 : decode cX6_does 59 = .ok (.aload_n 0, 1) := g_42 bX6_does rfl
theorem dX6_does_60 : decode cX6_does 60 = .ok (.invokevirtual 282, 3) := g_182 bX6_does rfl
theorem dX6_does_63 : decode cX6_does 63 = .ok (.iconst 0, 1) := g_3 bX6_does rfl
theorem dX6_does_64 : decode cX6_does 64 = .ok (.ireturn, 1) := g_172 bX6_does rfl
theorem dX6_does_65 : decode cX6_does 65 = .ok (.aload_n 0, 1) := g_42 bX6_does rfl
theorem dX6_does_66 : decode cX6_does 66 = .ok (.invokevirtual 282, 3) := g_182 bX6_does rfl
theorem dX6_does_69 : decode cX6_does 69 = .ok (.aload_n 0, 1) := g_42 bX6_does rfl
theorem dX6_does_70 : decode cX6_does 70 = .ok (.invokevirtual 282, 3) := g_182 bX6_does rfl
theorem dX6_does_73 : decode cX6_does 73 = .ok (.iconst 0, 1) := g_3 bX6_does rfl
theorem dX6_does_74 : decode cX6_does 74 = .ok (.ireturn, 1) := g_172 bX6_does rfl
theorem dX6_does_75 : decode cX6_does 75 = .ok (.aload_n 0, 1) := g_42 bX6_does rfl
theorem dX6_does_76 : decode cX6_does 76 = .ok (.invokevirtual 282, 3) := g_182 bX6_does rfl
theorem dX6_does_79 : decode cX6_does 79 = .ok (.aload_n 0, 1) := g_42 bX6_does rfl
theorem dX6_does_80 : decode cX6_does 80 = .ok (.iconst 1, 1) := g_4 bX6_does rfl
theorem dX6_does_81 : decode cX6_does 81 = .ok (.iconst 0, 1) := g_3 bX6_does rfl
theorem dX6_does_82 : decode cX6_does 82 = .ok (.invokevirtual 278, 3) := g_182 bX6_does rfl
theorem dX6_does_85 : decode cX6_does 85 = .ok (.ireturn, 1) := g_172 bX6_does rfl
theorem dX6_end_0 : decode cX6_end 0 = .ok (.iconst 0, 1) := g_3 bX6_end rfl
theorem dX6_end_1 : decode cX6_end 1 = .ok (.istore_n 1, 1) := g_60 bX6_end rfl
theorem dX6_end_2 : decode cX6_end 2 = .ok (.iconst 0, 1) := g_3 bX6_end rfl
theorem dX6_end_3 : decode cX6_end 3 = .ok (.istore_n 2, 1) := g_61 bX6_end rfl
theorem dX6_end_4 : decode cX6_end 4 = .ok (.iload_n 2, 1) := g_28 bX6_end rfl
theorem dX6_end_5 : decode cX6_end 5 = .ok (.aload_n 0, 1) := g_42 bX6_end rfl
theorem dX6_end_6 : decode cX6_end 6 = .ok (.getfield 78, 3) := g_180 bX6_end rfl
theorem dX6_end_9 : decode cX6_end 9 = .ok (.if_icmp .ge 136, 3) := g_162 136 bX6_end rfl rfl
theorem dX6_end_12 : decode cX6_end 12 = .ok (.aload_n 0, 1) := g_42 bX6_end rfl
theorem dX6_end_13 : decode cX6_end 13 = .ok (.iload_n 2, 1) := g_28 bX6_end rfl
theorem dX6_end_14 : decode cX6_end 14 = .ok (.invokevirtual 81, 3) := g_182 bX6_end rfl
theorem dX6_end_17 : decode cX6_end 17 = .ok (.ifCond .eq 122, 3) := g_153 122 bX6_end rfl rfl
theorem dX6_end_20 : decode cX6_end 20 = .ok (.aload_n 0, 1) := g_42 bX6_end rfl
theorem dX6_end_21 : decode cX6_end 21 = .ok (.getfield 45, 3) := g_180 bX6_end rfl
theorem dX6_end_24 : decode cX6_end 24 = .ok (.iload_n 2, 1) := g_28 bX6_end rfl
theorem dX6_end_25 : decode cX6_end 25 = .ok (.aaload, 1) := g_50 bX6_end rfl
theorem dX6_end_26 : decode cX6_end 26 = .ok (.iconst 0, 1) := g_3 bX6_end rfl
theorem dX6_end_27 : decode cX6_end 27 = .ok (.dup2, 1) := g_92 bX6_end rfl
theorem dX6_end_28 : decode cX6_end 28 = .ok (.iaload, 1) := g_46 bX6_end rfl
theorem dX6_end_29 : decode cX6_end 29 = .ok (.iconst 1, 1) := g_4 bX6_end rfl
theorem dX6_end_30 : decode cX6_end 30 = .ok (.iadd, 1) := g_96 bX6_end rfl
theorem dX6_end_31 : decode cX6_end 31 = .ok (.iastore, 1) := g_79 bX6_end rfl
theorem dX6_end_32 : decode cX6_end 32 = .ok (.aload_n 0, 1) := g_42 bX6_end rfl
theorem dX6_end_33 : decode cX6_end 33 = .ok (.getfield 45, 3) := g_180 bX6_end rfl
theorem dX6_end_36 : decode cX6_end 36 = .ok (.iload_n 2, 1) := g_28 bX6_end rfl
theorem dX6_end_37 : decode cX6_end 37 = .ok (.aaload, 1) := g_50 bX6_end rfl
theorem dX6_end_38 : decode cX6_end 38 = .ok (.iconst 0, 1) := g_3 bX6_end rfl
theorem dX6_end_39 : decode cX6_end 39 = .ok (.iaload, 1) := g_46 bX6_end rfl
theorem dX6_end_40 : decode cX6_end 40 = .ok (.bipush 10, 2) := g_16 10 bX6_end rfl rfl
theorem dX6_end_42 : decode cX6_end 42 = .ok (.if_icmp .ne 7, 3) := g_160 7 bX6_end rfl rfl
theorem dX6_end_45 : decode cX6_end 45 = .ok (.iconst 1, 1) := g_4 bX6_end rfl
theorem dX6_end_46 : decode cX6_end 46 = .ok (.goto 4, 3) := g_167 4 bX6_end rfl rfl
theorem dX6_end_49 : decode cX6_end 49 = .ok (.iconst 0, 1) := g_3 bX6_end rfl
theorem dX6_end_50 : decode cX6_end 50 = .ok (.istore_n 3, 1) := g_62 bX6_end rfl
theorem dX6_end_51 : decode cX6_end 51 = .ok (.aload_n 0, 1) := g_42 bX6_end rfl
theorem dX6_end_52 : decode cX6_end 52 = .ok (.getfield 45, 3) := g_180 bX6_end rfl
theorem dX6_end_55 : decode cX6_end 55 = .ok (.iload_n 2, 1) := g_28 bX6_end rfl
theorem dX6_end_56 : decode cX6_end 56 = .ok (.aaload, 1) := g_50 bX6_end rfl
theorem dX6_end_57 : decode cX6_end 57 = .ok (.iconst 4, 1) := g_7 bX6_end rfl
theorem dX6_end_58 : decode cX6_end 58 = .ok (.iload_n 3, 1) := g_29 bX6_end rfl
theorem dX6_end_59 : decode cX6_end 59 = .ok (.ifCond .eq 7, 3) := g_153 7 bX6_end rfl rfl
theorem dX6_end_62 : decode cX6_end 62 = .ok (.iconst 1, 1) := g_4 bX6_end rfl
theorem dX6_end_63 : decode cX6_end 63 = .ok (.goto 4, 3) := g_167 4 bX6_end rfl rfl
theorem dX6_end_66 : decode cX6_end 66 = .ok (.iconst 0, 1) := g_3 bX6_end rfl
theorem dX6_end_67 : decode cX6_end 67 = .ok (.iastore, 1) := g_79 bX6_end rfl
theorem dX6_end_68 : decode cX6_end 68 = .ok (.iload_n 1, 1) := g_27 bX6_end rfl
theorem dX6_end_69 : decode cX6_end 69 = .ok (.iload_n 3, 1) := g_29 bX6_end rfl
theorem dX6_end_70 : decode cX6_end 70 = .ok (.ifCond .eq 7, 3) := g_153 7 bX6_end rfl rfl
theorem dX6_end_73 : decode cX6_end 73 = .ok (.iconst 1, 1) := g_4 bX6_end rfl
theorem dX6_end_74 : decode cX6_end 74 = .ok (.goto 4, 3) := g_167 4 bX6_end rfl rfl
theorem dX6_end_77 : decode cX6_end 77 = .ok (.iconst 0, 1) := g_3 bX6_end rfl
theorem dX6_end_78 : decode cX6_end 78 = .ok (.iadd, 1) := g_96 bX6_end rfl
theorem dX6_end_79 : decode cX6_end 79 = .ok (.istore_n 1, 1) := g_60 bX6_end rfl
theorem dX6_end_80 : decode cX6_end 80 = .ok (.iconst 0, 1) := g_3 bX6_end rfl
theorem dX6_end_81 : decode cX6_end 81 = .ok (.istore 4, 2) := g_54 bX6_end rfl
theorem dX6_end_83 : decode cX6_end 83 = .ok (.iload 4, 2) := g_21 bX6_end rfl
theorem dX6_end_85 : decode cX6_end 85 = .ok (.aload_n 0, 1) := g_42 bX6_end rfl
theorem dX6_end_86 : decode cX6_end 86 = .ok (.getfield 71, 3) := g_180 bX6_end rfl
theorem dX6_end_89 : decode cX6_end 89 = .ok (.if_icmp .ge 50, 3) := g_162 50 bX6_end rfl rfl
theorem dX6_end_92 : decode cX6_end 92 = .ok (.aload_n 0, 1) := g_42 bX6_end rfl
theorem dX6_end_93 : decode cX6_end 93 = .ok (.getfield 48, 3) := g_180 bX6_end rfl
theorem dX6_end_96 : decode cX6_end 96 = .ok (.iload_n 2, 1) := g_28 bX6_end rfl
theorem dX6_end_97 : decode cX6_end 97 = .ok (.aaload, 1) := g_50 bX6_end rfl
theorem dX6_end_98 : decode cX6_end 98 = .ok (.iload 4, 2) := g_21 bX6_end rfl
theorem dX6_end_100 : decode cX6_end 100 = .ok (.iload_n 3, 1) := g_29 bX6_end rfl
theorem dX6_end_101 : decode cX6_end 101 = .ok (.ifCond .eq 7, 3) := g_153 7 bX6_end rfl rfl
theorem dX6_end_104 : decode cX6_end 104 = .ok (.iconst 0, 1) := g_3 bX6_end rfl
theorem dX6_end_105 : decode cX6_end 105 = .ok (.goto 27, 3) := g_167 27 bX6_end rfl rfl
theorem dX6_end_108 : decode cX6_end 108 = .ok (.aload_n 0, 1) := g_42 bX6_end rfl
theorem dX6_end_109 : decode cX6_end 109 = .ok (.getfield 48, 3) := g_180 bX6_end rfl
theorem dX6_end_112 : decode cX6_end 112 = .ok (.iload_n 2, 1) := g_28 bX6_end rfl
theorem dX6_end_113 : decode cX6_end 113 = .ok (.aaload, 1) := g_50 bX6_end rfl
theorem dX6_end_114 : decode cX6_end 114 = .ok (.iload 4, 2) := g_21 bX6_end rfl
theorem dX6_end_116 : decode cX6_end 116 = .ok (.iaload, 1) := g_46 bX6_end rfl
theorem dX6_end_117 : decode cX6_end 117 = .ok (.bipush 90, 2) := g_16 90 bX6_end rfl rfl
theorem dX6_end_119 : decode cX6_end 119 = .ok (.aload_n 0, 1) := g_42 bX6_end rfl
theorem dX6_end_120 : decode cX6_end 120 = .ok (.getfield 45, 3) := g_180 bX6_end rfl
theorem dX6_end_123 : decode cX6_end 123 = .ok (.iload_n 2, 1) := g_28 bX6_end rfl
theorem dX6_end_124 : decode cX6_end 124 = .ok (.aaload, 1) := g_50 bX6_end rfl
theorem dX6_end_125 : decode cX6_end 125 = .ok (.iconst 2, 1) := g_5 bX6_end rfl
theorem dX6_end_126 : decode cX6_end 126 = .ok (.iaload, 1) := g_46 bX6_end rfl
theorem dX6_end_127 : decode cX6_end 127 = .ok (.iadd, 1) := g_96 bX6_end rfl
theorem dX6_end_128 : decode cX6_end 128 = .ok (.imul, 1) := g_104 bX6_end rfl
theorem dX6_end_129 : decode cX6_end 129 = .ok (.bipush 100, 2) := g_16 100 bX6_end rfl rfl
theorem dX6_end_131 : decode cX6_end 131 = .ok (.idiv, 1) := g_108 bX6_end rfl
theorem dX6_end_132 : decode cX6_end 132 = .ok (.iastore, 1) := g_79 bX6_end rfl
theorem dX6_end_133 : decode cX6_end 133 = .ok (.iinc 4 1, 3) := g_132 1 bX6_end rfl rfl
theorem dX6_end_136 : decode cX6_end 136 = .ok (.goto (-53), 3) := g_167 65483 bX6_end rfl rfl
theorem dX6_end_139 : decode cX6_end 139 = .ok (.iinc 2 1, 3) := g_132 1 bX6_end rfl rfl
theorem dX6_end_142 : decode cX6_end 142 = .ok (.goto (-138), 3) := g_167 65398 bX6_end rfl rfl
theorem dX6_end_145 : decode cX6_end 145 = .ok (.aload_n 0, 1) := g_42 bX6_end rfl
theorem dX6_end_146 : decode cX6_end 146 = .ok (.dup, 1) := g_89 bX6_end rfl
theorem dX6_end_147 : decode cX6_end 147 = .ok (.getfield 285, 3) := g_180 bX6_end rfl
theorem dX6_end_150 : decode cX6_end 150 = .ok (.iconst 1, 1) := g_4 bX6_end rfl
theorem dX6_end_151 : decode cX6_end 151 = .ok (.iadd, 1) := g_96 bX6_end rfl
theorem dX6_end_152 : decode cX6_end 152 = .ok (.putfield 285, 3) := g_181 bX6_end rfl
theorem dX6_end_155 : decode cX6_end 155 = .ok (.iload_n 1, 1) := g_27 bX6_end rfl
theorem dX6_end_156 : decode cX6_end 156 = .ok (.ireturn, 1) := g_172 bX6_end rfl
theorem dX6_goes_0 : decode cX6_goes 0 = .ok (.iconst 0, 1) := g_3 bX6_goes rfl
theorem dX6_goes_1 : decode cX6_goes 1 = .ok (.istore 4, 2) := g_54 bX6_goes rfl
theorem dX6_goes_3 : decode cX6_goes 3 = .ok (.iconst 0, 1) := g_3 bX6_goes rfl
theorem dX6_goes_4 : decode cX6_goes 4 = .ok (.istore 5, 2) := g_54 bX6_goes rfl
theorem dX6_goes_6 : decode cX6_goes 6 = .ok (.iload 5, 2) := g_21 bX6_goes rfl
theorem dX6_goes_8 : decode cX6_goes 8 = .ok (.iload_n 3, 1) := g_29 bX6_goes rfl
theorem dX6_goes_9 : decode cX6_goes 9 = .ok (.if_icmp .ge 43, 3) := g_162 43 bX6_goes rfl rfl
theorem dX6_goes_12 : decode cX6_goes 12 = .ok (.iload_n 1, 1) := g_27 bX6_goes rfl
theorem dX6_goes_13 : decode cX6_goes 13 = .ok (.iconst (-1), 1) := g_2 bX6_goes rfl
theorem dX6_goes_14 : decode cX6_goes 14 = .ok (.if_icmp .eq 10, 3) := g_159 10 bX6_goes rfl rfl
theorem dX6_goes_17 : decode cX6_goes 17 = .ok (.aload_n 0, 1) := g_42 bX6_goes rfl
theorem dX6_goes_18 : decode cX6_goes 18 = .ok (.iload_n 1, 1) := g_27 bX6_goes rfl
theorem dX6_goes_19 : decode cX6_goes 19 = .ok (.iload_n 2, 1) := g_28 bX6_goes rfl
theorem dX6_goes_20 : decode cX6_goes 20 = .ok (.invokevirtual 114, 3) := g_182 bX6_goes rfl
theorem dX6_goes_23 : decode cX6_goes 23 = .ok (.pop, 1) := g_87 bX6_goes rfl
theorem dX6_goes_24 : decode cX6_goes 24 = .ok (.aload_n 0, 1) := g_42 bX6_goes rfl
theorem dX6_goes_25 : decode cX6_goes 25 = .ok (.aload_n 0, 1) := g_42 bX6_goes rfl
theorem dX6_goes_26 : decode cX6_goes 26 = .ok (.invokevirtual 122, 3) := g_182 bX6_goes rfl
theorem dX6_goes_29 : decode cX6_goes 29 = .ok (.putfield 292, 3) := g_181 bX6_goes rfl
theorem dX6_goes_32 : decode cX6_goes 32 = .ok (.iload 4, 2) := g_21 bX6_goes rfl
theorem dX6_goes_34 : decode cX6_goes 34 = .ok (.aload_n 0, 1) := g_42 bX6_goes rfl
theorem dX6_goes_35 : decode cX6_goes 35 = .ok (.getfield 292, 3) := g_180 bX6_goes rfl
theorem dX6_goes_38 : decode cX6_goes 38 = .ok (.iadd, 1) := g_96 bX6_goes rfl
theorem dX6_goes_39 : decode cX6_goes 39 = .ok (.istore 4, 2) := g_54 bX6_goes rfl
theorem dX6_goes_41 : decode cX6_goes 41 = .ok (.aload_n 0, 1) := g_42 bX6_goes rfl
theorem dX6_goes_42 : decode cX6_goes 42 = .ok (.invokevirtual 288, 3) := g_182 bX6_goes rfl
theorem dX6_goes_45 : decode cX6_goes 45 = .ok (.pop, 1) := g_87 bX6_goes rfl
theorem dX6_goes_46 : decode cX6_goes 46 = .ok (.iinc 5 1, 3) := g_132 1 bX6_goes rfl rfl
theorem dX6_goes_49 : decode cX6_goes 49 = .ok (.goto (-43), 3) := g_167 65493 bX6_goes rfl rfl
theorem dX6_goes_52 : decode cX6_goes 52 = .ok (.iload 4, 2) := g_21 bX6_goes rfl
theorem dX6_goes_54 : decode cX6_goes 54 = .ok (.ireturn, 1) := g_172 bX6_goes rfl
theorem dX6_readMost_0 : decode cX6_readMost 0 = .ok (.iconst 0, 1) := g_3 bX6_readMost rfl
theorem dX6_readMost_1 : decode cX6_readMost 1 = .ok (.istore_n 3, 1) := g_62 bX6_readMost rfl
theorem dX6_readMost_2 : decode cX6_readMost 2 = .ok (.iload_n 3, 1) := g_29 bX6_readMost rfl
theorem dX6_readMost_3 : decode cX6_readMost 3 = .ok (.iload_n 1, 1) := g_27 bX6_readMost rfl
theorem dX6_readMost_4 : decode cX6_readMost 4 = .ok (.if_icmp .ge 119, 3) := g_162 119 bX6_readMost rfl rfl
theorem dX6_readMost_7 : decode cX6_readMost 7 = .ok (.aload_n 0, 1) := g_42 bX6_readMost rfl
theorem dX6_readMost_8 : decode cX6_readMost 8 = .ok (.invokevirtual 275, 3) := g_182 bX6_readMost rfl
theorem dX6_readMost_11 : decode cX6_readMost 11 = .ok (.ifCond .le 112, 3) := g_158 112 bX6_readMost rfl rfl
theorem dX6_readMost_14 : decode cX6_readMost 14 = .ok (.iconst (-1), 1) := g_2 bX6_readMost rfl
theorem dX6_readMost_15 : decode cX6_readMost 15 = .ok (.istore 4, 2) := g_54 bX6_readMost rfl
theorem dX6_readMost_17 : decode cX6_readMost 17 = .ok (.iconst 0, 1) := g_3 bX6_readMost rfl
theorem dX6_readMost_18 : decode cX6_readMost 18 = .ok (.istore 5, 2) := g_54 bX6_readMost rfl
theorem dX6_readMost_20 : decode cX6_readMost 20 = .ok (.iload 5, 2) := g_21 bX6_readMost rfl
theorem dX6_readMost_22 : decode cX6_readMost 22 = .ok (.aload_n 0, 1) := g_42 bX6_readMost rfl
theorem dX6_readMost_23 : decode cX6_readMost 23 = .ok (.getfield 71, 3) := g_180 bX6_readMost rfl
theorem dX6_readMost_26 : decode cX6_readMost 26 = .ok (.if_icmp .ge 54, 3) := g_162 54 bX6_readMost rfl rfl
theorem dX6_readMost_29 : decode cX6_readMost 29 = .ok (.aload_n 0, 1) := g_42 bX6_readMost rfl
theorem dX6_readMost_30 : decode cX6_readMost 30 = .ok (.iload 5, 2) := g_21 bX6_readMost rfl
theorem dX6_readMost_32 : decode cX6_readMost 32 = .ok (.invokevirtual 248, 3) := g_182 bX6_readMost rfl
theorem dX6_readMost_35 : decode cX6_readMost 35 = .ok (.ifCond .ne 35, 3) := g_154 35 bX6_readMost rfl rfl
theorem dX6_readMost_38 : decode cX6_readMost 38 = .ok (.iload 4, 2) := g_21 bX6_readMost rfl
theorem dX6_readMost_40 : decode cX6_readMost 40 = .ok (.iconst (-1), 1) := g_2 bX6_readMost rfl
theorem dX6_readMost_41 : decode cX6_readMost 41 = .ok (.if_icmp .eq 24, 3) := g_159 24 bX6_readMost rfl rfl
theorem dX6_readMost_44 : decode cX6_readMost 44 = .ok (.aload_n 0, 1) := g_42 bX6_readMost rfl
theorem dX6_readMost_45 : decode cX6_readMost 45 = .ok (.getfield 42, 3) := g_180 bX6_readMost rfl
theorem dX6_readMost_48 : decode cX6_readMost 48 = .ok (.iload 5, 2) := g_21 bX6_readMost rfl
theorem dX6_readMost_50 : decode cX6_readMost 50 = .ok (.aaload, 1) := g_50 bX6_readMost rfl
theorem dX6_readMost_51 : decode cX6_readMost 51 = .ok (.iconst 0, 1) := g_3 bX6_readMost rfl
theorem dX6_readMost_52 : decode cX6_readMost 52 = .ok (.iaload, 1) := g_46 bX6_readMost rfl
theorem dX6_readMost_53 : decode cX6_readMost 53 = .ok (.aload_n 0, 1) := g_42 bX6_readMost rfl
theorem dX6_readMost_54 : decode cX6_readMost 54 = .ok (.getfield 42, 3) := g_180 bX6_readMost rfl
theorem dX6_readMost_57 : decode cX6_readMost 57 = .ok (.iload 4, 2) := g_21 bX6_readMost rfl
theorem dX6_readMost_59 : decode cX6_readMost 59 = .ok (.aaload, 1) := g_50 bX6_readMost rfl
theorem dX6_readMost_60 : decode cX6_readMost 60 = .ok (.iconst 0, 1) := g_3 bX6_readMost rfl
theorem dX6_readMost_61 : decode cX6_readMost 61 = .ok (.iaload, 1) := g_46 bX6_readMost rfl
theorem dX6_readMost_62 : decode cX6_readMost 62 = .ok (.if_icmp .le 8, 3) := g_164 8 bX6_readMost rfl rfl
theorem dX6_readMost_65 : decode cX6_readMost 65 = .ok (.iload 5, 2) := g_21 bX6_readMost rfl
theorem dX6_readMost_67 : decode cX6_readMost 67 = .ok (.goto 5, 3) := g_167 5 bX6_readMost rfl rfl
theorem dX6_readMost_70 : decode cX6_readMost 70 = .ok (.iload 4, 2) := g_21 bX6_readMost rfl
theorem dX6_readMost_72 : decode cX6_readMost 72 = .ok (.istore 4, 2) := g_54 bX6_readMost rfl
theorem dX6_readMost_74 : decode cX6_readMost 74 = .ok (.iinc 5 1, 3) := g_132 1 bX6_readMost rfl rfl
theorem dX6_readMost_77 : decode cX6_readMost 77 = .ok (.goto (-57), 3) := g_167 65479 bX6_readMost rfl rfl
theorem dX6_readMost_80 : decode cX6_readMost 80 = .ok (.iload 4, 2) := g_21 bX6_readMost rfl
theorem dX6_readMost_82 : decode cX6_readMost 82 = .ok (.iconst (-1), 1) := g_2 bX6_readMost rfl
theorem dX6_readMost_83 : decode cX6_readMost 83 = .ok (.if_icmp .ne 5, 3) := g_160 5 bX6_readMost rfl rfl
theorem dX6_readMost_86 : decode cX6_readMost 86 = .ok (.iload_n 3, 1) := g_29 bX6_readMost rfl
theorem dX6_readMost_87 : decode cX6_readMost 87 = .ok (.ireturn, 1) := g_172 bX6_readMost rfl
theorem dX6_readMost_88 : decode cX6_readMost 88 = .ok (.aload_n 0, 1) := g_42 bX6_readMost rfl
theorem dX6_readMost_89 : decode cX6_readMost 89 = .ok (.aload_n 0, 1) := g_42 bX6_readMost rfl
theorem dX6_readMost_90 : decode cX6_readMost 90 = .ok (.iload 4, 2) := g_21 bX6_readMost rfl
theorem dX6_readMost_92 : decode cX6_readMost 92 = .ok (.invokevirtual 272, 3) := g_182 bX6_readMost rfl
theorem dX6_readMost_95 : decode cX6_readMost 95 = .ok (.iload 4, 2) := g_21 bX6_readMost rfl
theorem dX6_readMost_97 : decode cX6_readMost 97 = .ok (.iload_n 2, 1) := g_28 bX6_readMost rfl
theorem dX6_readMost_98 : decode cX6_readMost 98 = .ok (.ifCond .eq 14, 3) := g_153 14 bX6_readMost rfl rfl
theorem dX6_readMost_101 : decode cX6_readMost 101 = .ok (.iconst 1, 1) := g_4 bX6_readMost rfl
theorem dX6_readMost_102 : decode cX6_readMost 102 = .ok (.aload_n 0, 1) := g_42 bX6_readMost rfl
theorem dX6_readMost_103 : decode cX6_readMost 103 = .ok (.getfield 78, 3) := g_180 bX6_readMost rfl
theorem dX6_readMost_106 : decode cX6_readMost 106 = .ok (.ishl, 1) := g_120 bX6_readMost rfl
theorem dX6_readMost_107 : decode cX6_readMost 107 = .ok (.iconst 1, 1) := g_4 bX6_readMost rfl
theorem dX6_readMost_108 : decode cX6_readMost 108 = .ok (.isub, 1) := g_100 bX6_readMost rfl
theorem dX6_readMost_109 : decode cX6_readMost 109 = .ok (.goto 4, 3) := g_167 4 bX6_readMost rfl rfl
theorem dX6_readMost_112 : decode cX6_readMost 112 = .ok (.iconst 0, 1) := g_3 bX6_readMost rfl
theorem dX6_readMost_113 : decode cX6_readMost 113 = .ok (.invokevirtual 260, 3) := g_182 bX6_readMost rfl
theorem dX6_readMost_116 : decode cX6_readMost 116 = .ok (.pop, 1) := g_87 bX6_readMost rfl
theorem dX6_readMost_117 : decode cX6_readMost 117 = .ok (.iinc 3 1, 3) := g_132 1 bX6_readMost rfl rfl
theorem dX6_readMost_120 : decode cX6_readMost 120 = .ok (.goto (-118), 3) := g_167 65418 bX6_readMost rfl rfl
theorem dX6_readMost_123 : decode cX6_readMost 123 = .ok (.iload_n 3, 1) := g_29 bX6_readMost rfl
theorem dX6_readMost_124 : decode cX6_readMost 124 = .ok (.ireturn, 1) := g_172 bX6_readMost rfl
theorem dX6_readsTo_0 : decode cX6_readsTo 0 = .ok (.aload_n 0, 1) := g_42 bX6_readsTo rfl
theorem dX6_readsTo_1 : decode cX6_readsTo 1 = .ok (.iload_n 1, 1) := g_27 bX6_readsTo rfl
theorem dX6_readsTo_2 : decode cX6_readsTo 2 = .ok (.iload_n 2, 1) := g_28 bX6_readsTo rfl
theorem dX6_readsTo_3 : decode cX6_readsTo 3 = .ok (.invokevirtual 257, 3) := g_182 bX6_readsTo rfl
theorem dX6_readsTo_6 : decode cX6_readsTo 6 = .ok (.iconst 0, 1) := g_3 bX6_readsTo rfl
theorem dX6_readsTo_7 : decode cX6_readsTo 7 = .ok (.istore 4, 2) := g_54 bX6_readsTo rfl
theorem dX6_readsTo_9 : decode cX6_readsTo 9 = .ok (.iconst 0, 1) := g_3 bX6_readsTo rfl
theorem dX6_readsTo_10 : decode cX6_readsTo 10 = .ok (.istore 5, 2) := g_54 bX6_readsTo rfl
theorem dX6_readsTo_12 : decode cX6_readsTo 12 = .ok (.iload 5, 2) := g_21 bX6_readsTo rfl
theorem dX6_readsTo_14 : decode cX6_readsTo 14 = .ok (.aload_n 0, 1) := g_42 bX6_readsTo rfl
theorem dX6_readsTo_15 : decode cX6_readsTo 15 = .ok (.getfield 78, 3) := g_180 bX6_readsTo rfl
theorem dX6_readsTo_18 : decode cX6_readsTo 18 = .ok (.if_icmp .ge 113, 3) := g_162 113 bX6_readsTo rfl rfl
theorem dX6_readsTo_21 : decode cX6_readsTo 21 = .ok (.iload 5, 2) := g_21 bX6_readsTo rfl
theorem dX6_readsTo_23 : decode cX6_readsTo 23 = .ok (.iload_n 1, 1) := g_27 bX6_readsTo rfl
theorem dX6_readsTo_24 : decode cX6_readsTo 24 = .ok (.if_icmp .eq 101, 3) := g_159 101 bX6_readsTo rfl rfl
theorem dX6_readsTo_27 : decode cX6_readsTo 27 = .ok (.aload_n 0, 1) := g_42 bX6_readsTo rfl
theorem dX6_readsTo_28 : decode cX6_readsTo 28 = .ok (.iload 5, 2) := g_21 bX6_readsTo rfl
theorem dX6_readsTo_30 : decode cX6_readsTo 30 = .ok (.invokevirtual 81, 3) := g_182 bX6_readsTo rfl
theorem dX6_readsTo_33 : decode cX6_readsTo 33 = .ok (.ifCond .eq 92, 3) := g_153 92 bX6_readsTo rfl rfl
theorem dX6_readsTo_36 : decode cX6_readsTo 36 = .ok (.iload_n 3, 1) := g_29 bX6_readsTo rfl
theorem dX6_readsTo_37 : decode cX6_readsTo 37 = .ok (.iload 5, 2) := g_21 bX6_readsTo rfl
theorem dX6_readsTo_39 : decode cX6_readsTo 39 = .ok (.ishr, 1) := g_122 bX6_readsTo rfl
theorem dX6_readsTo_40 : decode cX6_readsTo 40 = .ok (.iconst 1, 1) := g_4 bX6_readsTo rfl
theorem dX6_readsTo_41 : decode cX6_readsTo 41 = .ok (.iand, 1) := g_126 bX6_readsTo rfl
theorem dX6_readsTo_42 : decode cX6_readsTo 42 = .ok (.ifCond .eq 83, 3) := g_153 83 bX6_readsTo rfl rfl
theorem dX6_readsTo_45 : decode cX6_readsTo 45 = .ok (.aload_n 0, 1) := g_42 bX6_readsTo rfl
theorem dX6_readsTo_46 : decode cX6_readsTo 46 = .ok (.aload_n 0, 1) := g_42 bX6_readsTo rfl
theorem dX6_readsTo_47 : decode cX6_readsTo 47 = .ok (.getfield 48, 3) := g_180 bX6_readsTo rfl
theorem dX6_readsTo_50 : decode cX6_readsTo 50 = .ok (.iload_n 1, 1) := g_27 bX6_readsTo rfl
theorem dX6_readsTo_51 : decode cX6_readsTo 51 = .ok (.aaload, 1) := g_50 bX6_readsTo rfl
theorem dX6_readsTo_52 : decode cX6_readsTo 52 = .ok (.iload_n 2, 1) := g_28 bX6_readsTo rfl
theorem dX6_readsTo_53 : decode cX6_readsTo 53 = .ok (.iaload, 1) := g_46 bX6_readsTo rfl
theorem dX6_readsTo_54 : decode cX6_readsTo 54 = .ok (.iconst 2, 1) := g_5 bX6_readsTo rfl
theorem dX6_readsTo_55 : decode cX6_readsTo 55 = .ok (.idiv, 1) := g_108 bX6_readsTo rfl
theorem dX6_readsTo_56 : decode cX6_readsTo 56 = .ok (.iload 5, 2) := g_21 bX6_readsTo rfl
theorem dX6_readsTo_58 : decode cX6_readsTo 58 = .ok (.iload_n 2, 1) := g_28 bX6_readsTo rfl
theorem dX6_readsTo_59 : decode cX6_readsTo 59 = .ok (.invokevirtual 244, 3) := g_182 bX6_readsTo rfl
theorem dX6_readsTo_62 : decode cX6_readsTo 62 = .ok (.istore 6, 2) := g_54 bX6_readsTo rfl
theorem dX6_readsTo_64 : decode cX6_readsTo 64 = .ok (.iload 4, 2) := g_21 bX6_readsTo rfl
theorem dX6_readsTo_66 : decode cX6_readsTo 66 = .ok (.iload 6, 2) := g_21 bX6_readsTo rfl
theorem dX6_readsTo_68 : decode cX6_readsTo 68 = .ok (.aload_n 0, 1) := g_42 bX6_readsTo rfl
theorem dX6_readsTo_69 : decode cX6_readsTo 69 = .ok (.getfield 48, 3) := g_180 bX6_readsTo rfl
theorem dX6_readsTo_72 : decode cX6_readsTo 72 = .ok (.iload 5, 2) := g_21 bX6_readsTo rfl
theorem dX6_readsTo_74 : decode cX6_readsTo 74 = .ok (.aaload, 1) := g_50 bX6_readsTo rfl
theorem dX6_readsTo_75 : decode cX6_readsTo 75 = .ok (.iload_n 2, 1) := g_28 bX6_readsTo rfl
theorem dX6_readsTo_76 : decode cX6_readsTo 76 = .ok (.iaload, 1) := g_46 bX6_readsTo rfl
theorem dX6_readsTo_77 : decode cX6_readsTo 77 = .ok (.if_icmp .le 7, 3) := g_164 7 bX6_readsTo rfl rfl
theorem dX6_readsTo_80 : decode cX6_readsTo 80 = .ok (.iconst 1, 1) := g_4 bX6_readsTo rfl
theorem dX6_readsTo_81 : decode cX6_readsTo 81 = .ok (.goto 4, 3) := g_167 4 bX6_readsTo rfl rfl
theorem dX6_readsTo_84 : decode cX6_readsTo 84 = .ok (.iconst 0, 1) := g_3 bX6_readsTo rfl
theorem dX6_readsTo_85 : decode cX6_readsTo 85 = .ok (.iadd, 1) := g_96 bX6_readsTo rfl
theorem dX6_readsTo_86 : decode cX6_readsTo 86 = .ok (.istore 4, 2) := g_54 bX6_readsTo rfl
theorem dX6_readsTo_88 : decode cX6_readsTo 88 = .ok (.aload_n 0, 1) := g_42 bX6_readsTo rfl
theorem dX6_readsTo_89 : decode cX6_readsTo 89 = .ok (.getfield 48, 3) := g_180 bX6_readsTo rfl
theorem dX6_readsTo_92 : decode cX6_readsTo 92 = .ok (.iload 5, 2) := g_21 bX6_readsTo rfl
theorem dX6_readsTo_94 : decode cX6_readsTo 94 = .ok (.aaload, 1) := g_50 bX6_readsTo rfl
theorem dX6_readsTo_95 : decode cX6_readsTo 95 = .ok (.iload_n 2, 1) := g_28 bX6_readsTo rfl
theorem dX6_readsTo_96 : decode cX6_readsTo 96 = .ok (.iload 6, 2) := g_21 bX6_readsTo rfl
theorem dX6_readsTo_98 : decode cX6_readsTo 98 = .ok (.aload_n 0, 1) := g_42 bX6_readsTo rfl
theorem dX6_readsTo_99 : decode cX6_readsTo 99 = .ok (.getfield 48, 3) := g_180 bX6_readsTo rfl
theorem dX6_readsTo_102 : decode cX6_readsTo 102 = .ok (.iload 5, 2) := g_21 bX6_readsTo rfl
theorem dX6_readsTo_104 : decode cX6_readsTo 104 = .ok (.aaload, 1) := g_50 bX6_readsTo rfl
theorem dX6_readsTo_105 : decode cX6_readsTo 105 = .ok (.iload_n 2, 1) := g_28 bX6_readsTo rfl
theorem dX6_readsTo_106 : decode cX6_readsTo 106 = .ok (.iaload, 1) := g_46 bX6_readsTo rfl
theorem dX6_readsTo_107 : decode cX6_readsTo 107 = .ok (.if_icmp .le 8, 3) := g_164 8 bX6_readsTo rfl rfl
theorem dX6_readsTo_110 : decode cX6_readsTo 110 = .ok (.iload 6, 2) := g_21 bX6_readsTo rfl
theorem dX6_readsTo_112 : decode cX6_readsTo 112 = .ok (.goto 12, 3) := g_167 12 bX6_readsTo rfl rfl
theorem dX6_readsTo_115 : decode cX6_readsTo 115 = .ok (.aload_n 0, 1) := g_42 bX6_readsTo rfl
theorem dX6_readsTo_116 : decode cX6_readsTo 116 = .ok (.getfield 48, 3) := g_180 bX6_readsTo rfl
theorem dX6_readsTo_119 : decode cX6_readsTo 119 = .ok (.iload 5, 2) := g_21 bX6_readsTo rfl
theorem dX6_readsTo_121 : decode cX6_readsTo 121 = .ok (.aaload, 1) := g_50 bX6_readsTo rfl
theorem dX6_readsTo_122 : decode cX6_readsTo 122 = .ok (.iload_n 2, 1) := g_28 bX6_readsTo rfl
theorem dX6_readsTo_123 : decode cX6_readsTo 123 = .ok (.iaload, 1) := g_46 bX6_readsTo rfl
theorem dX6_readsTo_124 : decode cX6_readsTo 124 = .ok (.iastore, 1) := g_79 bX6_readsTo rfl
theorem dX6_readsTo_125 : decode cX6_readsTo 125 = .ok (.iinc 5 1, 3) := g_132 1 bX6_readsTo rfl rfl
theorem dX6_readsTo_128 : decode cX6_readsTo 128 = .ok (.goto (-116), 3) := g_167 65420 bX6_readsTo rfl rfl
theorem dX6_readsTo_131 : decode cX6_readsTo 131 = .ok (.iload 4, 2) := g_21 bX6_readsTo rfl
theorem dX6_readsTo_133 : decode cX6_readsTo 133 = .ok (.ireturn, 1) := g_172 bX6_readsTo rfl
theorem dX6_fresh_0 : decode cX6_fresh 0 = .ok (.aload_n 0, 1) := g_42 bX6_fresh rfl
theorem dX6_fresh_1 : decode cX6_fresh 1 = .ok (.getfield 118, 3) := g_180 bX6_fresh rfl
theorem dX6_fresh_4 : decode cX6_fresh 4 = .ok (.ifnonnull 14, 3) := g_199 14 bX6_fresh rfl rfl
theorem dX6_fresh_7 : decode cX6_fresh 7 = .ok (.aload_n 0, 1) := g_42 bX6_fresh rfl
theorem dX6_fresh_8 : decode cX6_fresh 8 = .ok (.new 8, 3) := g_187 bX6_fresh rfl
theorem dX6_fresh_11 : decode cX6_fresh 11 = .ok (.dup, 1) := g_89 bX6_fresh rfl
theorem dX6_fresh_12 : decode cX6_fresh 12 = .ok (.invokespecial 291, 3) := g_183 bX6_fresh rfl
theorem dX6_fresh_15 : decode cX6_fresh 15 = .ok (.putfield 118, 3) := g_181 bX6_fresh rfl
theorem dX6_fresh_18 : decode cX6_fresh 18 = .ok (.aload_n 0, 1) := g_42 bX6_fresh rfl
theorem dX6_fresh_19 : decode cX6_fresh 19 = .ok (.getfield 118, 3) := g_180 bX6_fresh rfl
theorem dX6_fresh_22 : decode cX6_fresh 22 = .ok (.aload_n 0, 1) := g_42 bX6_fresh rfl
theorem dX6_fresh_23 : decode cX6_fresh 23 = .ok (.invokevirtual 225, 3) := g_182 bX6_fresh rfl
theorem dX6_fresh_26 : decode cX6_fresh 26 = .ok (.aload_n 0, 1) := g_42 bX6_fresh rfl
theorem dX6_fresh_27 : decode cX6_fresh 27 = .ok (.getfield 118, 3) := g_180 bX6_fresh rfl
theorem dX6_fresh_30 : decode cX6_fresh 30 = .ok (.areturn, 1) := g_176 bX6_fresh rfl
theorem dX6_init_0 : decode cX6_init 0 = .ok (.aload_n 0, 1) := g_42 bX6_init rfl
theorem dX6_init_1 : decode cX6_init 1 = .ok (.invokespecial 1, 3) := g_183 bX6_init rfl
theorem dX6_init_4 : decode cX6_init 4 = .ok (.aload_n 0, 1) := g_42 bX6_init rfl
theorem dX6_init_5 : decode cX6_init 5 = .ok (.bipush 8, 2) := g_16 8 bX6_init rfl rfl
theorem dX6_init_7 : decode cX6_init 7 = .ok (.newarray .int, 2) := g_na10 bX6_init rfl
theorem dX6_init_9 : decode cX6_init 9 = .ok (.putfield 7, 3) := g_181 bX6_init rfl
theorem dX6_init_12 : decode cX6_init 12 = .ok (.aload_n 0, 1) := g_42 bX6_init rfl
theorem dX6_init_13 : decode cX6_init 13 = .ok (.bipush 8, 2) := g_16 8 bX6_init rfl rfl
theorem dX6_init_15 : decode cX6_init 15 = .ok (.newarray .int, 2) := g_na10 bX6_init rfl
theorem dX6_init_17 : decode cX6_init 17 = .ok (.putfield 13, 3) := g_181 bX6_init rfl
theorem dX6_init_20 : decode cX6_init 20 = .ok (.aload_n 0, 1) := g_42 bX6_init rfl
theorem dX6_init_21 : decode cX6_init 21 = .ok (.bipush 8, 2) := g_16 8 bX6_init rfl rfl
theorem dX6_init_23 : decode cX6_init 23 = .ok (.newarray .int, 2) := g_na10 bX6_init rfl
theorem dX6_init_25 : decode cX6_init 25 = .ok (.putfield 16, 3) := g_181 bX6_init rfl
theorem dX6_init_28 : decode cX6_init 28 = .ok (.aload_n 0, 1) := g_42 bX6_init rfl
theorem dX6_init_29 : decode cX6_init 29 = .ok (.bipush 8, 2) := g_16 8 bX6_init rfl rfl
theorem dX6_init_31 : decode cX6_init 31 = .ok (.bipush 40, 2) := g_16 40 bX6_init rfl rfl
theorem dX6_init_33 : decode cX6_init 33 = .ok (.multianewarray 19 2, 4) := by decide +kernel
theorem dX6_init_37 : decode cX6_init 37 = .ok (.putfield 21, 3) := g_181 bX6_init rfl
theorem dX6_init_40 : decode cX6_init 40 = .ok (.aload_n 0, 1) := g_42 bX6_init rfl
theorem dX6_init_41 : decode cX6_init 41 = .ok (.bipush 40, 2) := g_16 40 bX6_init rfl rfl
theorem dX6_init_43 : decode cX6_init 43 = .ok (.newarray .long, 2) := g_na11 bX6_init rfl
theorem dX6_init_45 : decode cX6_init 45 = .ok (.putfield 24, 3) := g_181 bX6_init rfl
theorem dX6_init_48 : decode cX6_init 48 = .ok (.aload_n 0, 1) := g_42 bX6_init rfl
theorem dX6_init_49 : decode cX6_init 49 = .ok (.bipush 8, 2) := g_16 8 bX6_init rfl rfl
theorem dX6_init_51 : decode cX6_init 51 = .ok (.newarray .int, 2) := g_na10 bX6_init rfl
theorem dX6_init_53 : decode cX6_init 53 = .ok (.putfield 28, 3) := g_181 bX6_init rfl
theorem dX6_init_56 : decode cX6_init 56 = .ok (.aload_n 0, 1) := g_42 bX6_init rfl
theorem dX6_init_57 : decode cX6_init 57 = .ok (.bipush 8, 2) := g_16 8 bX6_init rfl rfl
theorem dX6_init_59 : decode cX6_init 59 = .ok (.newarray .int, 2) := g_na10 bX6_init rfl
theorem dX6_init_61 : decode cX6_init 61 = .ok (.putfield 31, 3) := g_181 bX6_init rfl
theorem dX6_init_64 : decode cX6_init 64 = .ok (.aload_n 0, 1) := g_42 bX6_init rfl
theorem dX6_init_65 : decode cX6_init 65 = .ok (.sipush 250, 3) := g_17 250 bX6_init rfl rfl
theorem dX6_init_68 : decode cX6_init 68 = .ok (.newarray .int, 2) := g_na10 bX6_init rfl
theorem dX6_init_70 : decode cX6_init 70 = .ok (.putfield 34, 3) := g_181 bX6_init rfl
theorem dX6_init_73 : decode cX6_init 73 = .ok (.aload_n 0, 1) := g_42 bX6_init rfl
theorem dX6_init_74 : decode cX6_init 74 = .ok (.bipush 8, 2) := g_16 8 bX6_init rfl rfl
theorem dX6_init_76 : decode cX6_init 76 = .ok (.newarray .int, 2) := g_na10 bX6_init rfl
theorem dX6_init_78 : decode cX6_init 78 = .ok (.putfield 37, 3) := g_181 bX6_init rfl
theorem dX6_init_81 : decode cX6_init 81 = .ok (.aload_n 0, 1) := g_42 bX6_init rfl
theorem dX6_init_82 : decode cX6_init 82 = .ok (.bipush 8, 2) := g_16 8 bX6_init rfl rfl
theorem dX6_init_84 : decode cX6_init 84 = .ok (.iconst 4, 1) := g_7 bX6_init rfl
theorem dX6_init_85 : decode cX6_init 85 = .ok (.multianewarray 40 2, 4) := by decide +kernel
theorem dX6_init_89 : decode cX6_init 89 = .ok (.putfield 42, 3) := g_181 bX6_init rfl
theorem dX6_init_92 : decode cX6_init 92 = .ok (.aload_n 0, 1) := g_42 bX6_init rfl
theorem dX6_init_93 : decode cX6_init 93 = .ok (.bipush 8, 2) := g_16 8 bX6_init rfl rfl
theorem dX6_init_95 : decode cX6_init 95 = .ok (.iconst 5, 1) := g_8 bX6_init rfl
theorem dX6_init_96 : decode cX6_init 96 = .ok (.multianewarray 40 2, 4) := by decide +kernel
theorem dX6_init_100 : decode cX6_init 100 = .ok (.putfield 45, 3) := g_181 bX6_init rfl
theorem dX6_init_103 : decode cX6_init 103 = .ok (.aload_n 0, 1) := g_42 bX6_init rfl
theorem dX6_init_104 : decode cX6_init 104 = .ok (.bipush 8, 2) := g_16 8 bX6_init rfl rfl
theorem dX6_init_106 : decode cX6_init 106 = .ok (.bipush 8, 2) := g_16 8 bX6_init rfl rfl
theorem dX6_init_108 : decode cX6_init 108 = .ok (.multianewarray 40 2, 4) := by decide +kernel
theorem dX6_init_112 : decode cX6_init 112 = .ok (.putfield 48, 3) := g_181 bX6_init rfl
theorem dX6_init_115 : decode cX6_init 115 = .ok (.aload_n 0, 1) := g_42 bX6_init rfl
theorem dX6_init_116 : decode cX6_init 116 = .ok (.iconst 1, 1) := g_4 bX6_init rfl
theorem dX6_init_117 : decode cX6_init 117 = .ok (.putfield 51, 3) := g_181 bX6_init rfl
theorem dX6_init_120 : decode cX6_init 120 = .ok (.aload_n 0, 1) := g_42 bX6_init rfl
theorem dX6_init_121 : decode cX6_init 121 = .ok (.iconst 3, 1) := g_6 bX6_init rfl
theorem dX6_init_122 : decode cX6_init 122 = .ok (.newarray .int, 2) := g_na10 bX6_init rfl
theorem dX6_init_124 : decode cX6_init 124 = .ok (.putfield 55, 3) := g_181 bX6_init rfl
theorem dX6_init_127 : decode cX6_init 127 = .ok (.aload_n 0, 1) := g_42 bX6_init rfl
theorem dX6_init_128 : decode cX6_init 128 = .ok (.bipush 8, 2) := g_16 8 bX6_init rfl rfl
theorem dX6_init_130 : decode cX6_init 130 = .ok (.newarray .int, 2) := g_na10 bX6_init rfl
theorem dX6_init_132 : decode cX6_init 132 = .ok (.putfield 58, 3) := g_181 bX6_init rfl
theorem dX6_init_135 : decode cX6_init 135 = .ok (.aload_n 0, 1) := g_42 bX6_init rfl
theorem dX6_init_136 : decode cX6_init 136 = .ok (.iconst 5, 1) := g_8 bX6_init rfl
theorem dX6_init_137 : decode cX6_init 137 = .ok (.newarray .int, 2) := g_na10 bX6_init rfl
theorem dX6_init_139 : decode cX6_init 139 = .ok (.putfield 61, 3) := g_181 bX6_init rfl
theorem dX6_init_142 : decode cX6_init 142 = .ok (.aload_n 0, 1) := g_42 bX6_init rfl
theorem dX6_init_143 : decode cX6_init 143 = .ok (.iconst 5, 1) := g_8 bX6_init rfl
theorem dX6_init_144 : decode cX6_init 144 = .ok (.newarray .int, 2) := g_na10 bX6_init rfl
theorem dX6_init_146 : decode cX6_init 146 = .ok (.putfield 64, 3) := g_181 bX6_init rfl
theorem dX6_init_149 : decode cX6_init 149 = .ok (.aload_n 0, 1) := g_42 bX6_init rfl
theorem dX6_init_150 : decode cX6_init 150 = .ok (.bipush 6, 2) := g_16 6 bX6_init rfl rfl
theorem dX6_init_152 : decode cX6_init 152 = .ok (.anewarray 8, 3) := g_189 bX6_init rfl
theorem dX6_init_155 : decode cX6_init 155 = .ok (.putfield 67, 3) := g_181 bX6_init rfl
theorem dX6_init_158 : decode cX6_init 158 = .ok (.return_, 1) := g_177 bX6_init rfl
theorem dX6_overAll_0 : decode cX6_overAll 0 = .ok (.iconst 0, 1) := g_3 bX6_overAll rfl
theorem dX6_overAll_1 : decode cX6_overAll 1 = .ok (.istore_n 2, 1) := g_61 bX6_overAll rfl
theorem dX6_overAll_2 : decode cX6_overAll 2 = .ok (.iload_n 2, 1) := g_28 bX6_overAll rfl
theorem dX6_overAll_3 : decode cX6_overAll 3 = .ok (.aload_n 0, 1) := g_42 bX6_overAll rfl
theorem dX6_overAll_4 : decode cX6_overAll 4 = .ok (.arraylength, 1) := g_190 bX6_overAll rfl
theorem dX6_overAll_5 : decode cX6_overAll 5 = .ok (.if_icmp .ge 35, 3) := g_162 35 bX6_overAll rfl rfl
theorem dX6_overAll_8 : decode cX6_overAll 8 = .ok (.iconst 0, 1) := g_3 bX6_overAll rfl
theorem dX6_overAll_9 : decode cX6_overAll 9 = .ok (.istore_n 3, 1) := g_62 bX6_overAll rfl
theorem dX6_overAll_10 : decode cX6_overAll 10 = .ok (.iload_n 3, 1) := g_29 bX6_overAll rfl
theorem dX6_overAll_11 : decode cX6_overAll 11 = .ok (.aload_n 0, 1) := g_42 bX6_overAll rfl
theorem dX6_overAll_12 : decode cX6_overAll 12 = .ok (.iload_n 2, 1) := g_28 bX6_overAll rfl
theorem dX6_overAll_13 : decode cX6_overAll 13 = .ok (.aaload, 1) := g_50 bX6_overAll rfl
theorem dX6_overAll_14 : decode cX6_overAll 14 = .ok (.arraylength, 1) := g_190 bX6_overAll rfl
theorem dX6_overAll_15 : decode cX6_overAll 15 = .ok (.if_icmp .ge 19, 3) := g_162 19 bX6_overAll rfl rfl
theorem dX6_overAll_18 : decode cX6_overAll 18 = .ok (.aload_n 1, 1) := g_43 bX6_overAll rfl
theorem dX6_overAll_19 : decode cX6_overAll 19 = .ok (.iload_n 2, 1) := g_28 bX6_overAll rfl
theorem dX6_overAll_20 : decode cX6_overAll 20 = .ok (.aaload, 1) := g_50 bX6_overAll rfl
theorem dX6_overAll_21 : decode cX6_overAll 21 = .ok (.iload_n 3, 1) := g_29 bX6_overAll rfl
theorem dX6_overAll_22 : decode cX6_overAll 22 = .ok (.aload_n 0, 1) := g_42 bX6_overAll rfl
theorem dX6_overAll_23 : decode cX6_overAll 23 = .ok (.iload_n 2, 1) := g_28 bX6_overAll rfl
theorem dX6_overAll_24 : decode cX6_overAll 24 = .ok (.aaload, 1) := g_50 bX6_overAll rfl
theorem dX6_overAll_25 : decode cX6_overAll 25 = .ok (.iload_n 3, 1) := g_29 bX6_overAll rfl
theorem dX6_overAll_26 : decode cX6_overAll 26 = .ok (.iaload, 1) := g_46 bX6_overAll rfl
theorem dX6_overAll_27 : decode cX6_overAll 27 = .ok (.iastore, 1) := g_79 bX6_overAll rfl
theorem dX6_overAll_28 : decode cX6_overAll 28 = .ok (.iinc 3 1, 3) := g_132 1 bX6_overAll rfl rfl
theorem dX6_overAll_31 : decode cX6_overAll 31 = .ok (.goto (-21), 3) := g_167 65515 bX6_overAll rfl rfl
theorem dX6_overAll_34 : decode cX6_overAll 34 = .ok (.iinc 2 1, 3) := g_132 1 bX6_overAll rfl rfl
theorem dX6_overAll_37 : decode cX6_overAll 37 = .ok (.goto (-35), 3) := g_167 65501 bX6_overAll rfl rfl
theorem dX6_overAll_40 : decode cX6_overAll 40 = .ok (.return_, 1) := g_177 bX6_overAll rfl
theorem dX6_takeFrom_0 : decode cX6_takeFrom 0 = .ok (.aload_n 0, 1) := g_42 bX6_takeFrom rfl
theorem dX6_takeFrom_1 : decode cX6_takeFrom 1 = .ok (.aload_n 1, 1) := g_43 bX6_takeFrom rfl
theorem dX6_takeFrom_2 : decode cX6_takeFrom 2 = .ok (.getfield 71, 3) := g_180 bX6_takeFrom rfl
theorem dX6_takeFrom_5 : decode cX6_takeFrom 5 = .ok (.putfield 71, 3) := g_181 bX6_takeFrom rfl
theorem dX6_takeFrom_8 : decode cX6_takeFrom 8 = .ok (.aload_n 1, 1) := g_43 bX6_takeFrom rfl
theorem dX6_takeFrom_9 : decode cX6_takeFrom 9 = .ok (.getfield 42, 3) := g_180 bX6_takeFrom rfl
theorem dX6_takeFrom_12 : decode cX6_takeFrom 12 = .ok (.aload_n 0, 1) := g_42 bX6_takeFrom rfl
theorem dX6_takeFrom_13 : decode cX6_takeFrom 13 = .ok (.getfield 42, 3) := g_180 bX6_takeFrom rfl
theorem dX6_takeFrom_16 : decode cX6_takeFrom 16 = .ok (.invokestatic 358, 3) := g_184 bX6_takeFrom rfl
theorem dX6_takeFrom_19 : decode cX6_takeFrom 19 = .ok (.aload_n 0, 1) := g_42 bX6_takeFrom rfl
theorem dX6_takeFrom_20 : decode cX6_takeFrom 20 = .ok (.aload_n 1, 1) := g_43 bX6_takeFrom rfl
theorem dX6_takeFrom_21 : decode cX6_takeFrom 21 = .ok (.getfield 78, 3) := g_180 bX6_takeFrom rfl
theorem dX6_takeFrom_24 : decode cX6_takeFrom 24 = .ok (.putfield 78, 3) := g_181 bX6_takeFrom rfl
theorem dX6_takeFrom_27 : decode cX6_takeFrom 27 = .ok (.aload_n 1, 1) := g_43 bX6_takeFrom rfl
theorem dX6_takeFrom_28 : decode cX6_takeFrom 28 = .ok (.getfield 45, 3) := g_180 bX6_takeFrom rfl
theorem dX6_takeFrom_31 : decode cX6_takeFrom 31 = .ok (.aload_n 0, 1) := g_42 bX6_takeFrom rfl
theorem dX6_takeFrom_32 : decode cX6_takeFrom 32 = .ok (.getfield 45, 3) := g_180 bX6_takeFrom rfl
theorem dX6_takeFrom_35 : decode cX6_takeFrom 35 = .ok (.invokestatic 358, 3) := g_184 bX6_takeFrom rfl
theorem dX6_takeFrom_38 : decode cX6_takeFrom 38 = .ok (.aload_n 1, 1) := g_43 bX6_takeFrom rfl
theorem dX6_takeFrom_39 : decode cX6_takeFrom 39 = .ok (.getfield 48, 3) := g_180 bX6_takeFrom rfl
theorem dX6_takeFrom_42 : decode cX6_takeFrom 42 = .ok (.aload_n 0, 1) := g_42 bX6_takeFrom rfl
theorem dX6_takeFrom_43 : decode cX6_takeFrom 43 = .ok (.getfield 48, 3) := g_180 bX6_takeFrom rfl
theorem dX6_takeFrom_46 : decode cX6_takeFrom 46 = .ok (.invokestatic 358, 3) := g_184 bX6_takeFrom rfl
theorem dX6_takeFrom_49 : decode cX6_takeFrom 49 = .ok (.aload_n 0, 1) := g_42 bX6_takeFrom rfl
theorem dX6_takeFrom_50 : decode cX6_takeFrom 50 = .ok (.aload_n 1, 1) := g_43 bX6_takeFrom rfl
theorem dX6_takeFrom_51 : decode cX6_takeFrom 51 = .ok (.getfield 285, 3) := g_180 bX6_takeFrom rfl
theorem dX6_takeFrom_54 : decode cX6_takeFrom 54 = .ok (.putfield 285, 3) := g_181 bX6_takeFrom rfl
theorem dX6_takeFrom_57 : decode cX6_takeFrom 57 = .ok (.aload_n 0, 1) := g_42 bX6_takeFrom rfl
theorem dX6_takeFrom_58 : decode cX6_takeFrom 58 = .ok (.aload_n 1, 1) := g_43 bX6_takeFrom rfl
theorem dX6_takeFrom_59 : decode cX6_takeFrom 59 = .ok (.getfield 355, 3) := g_180 bX6_takeFrom rfl
theorem dX6_takeFrom_62 : decode cX6_takeFrom 62 = .ok (.putfield 355, 3) := g_181 bX6_takeFrom rfl
theorem dX6_takeFrom_65 : decode cX6_takeFrom 65 = .ok (.aload_n 0, 1) := g_42 bX6_takeFrom rfl
theorem dX6_takeFrom_66 : decode cX6_takeFrom 66 = .ok (.aload_n 1, 1) := g_43 bX6_takeFrom rfl
theorem dX6_takeFrom_67 : decode cX6_takeFrom 67 = .ok (.getfield 51, 3) := g_180 bX6_takeFrom rfl
theorem dX6_takeFrom_70 : decode cX6_takeFrom 70 = .ok (.putfield 51, 3) := g_181 bX6_takeFrom rfl
theorem dX6_takeFrom_73 : decode cX6_takeFrom 73 = .ok (.return_, 1) := g_177 bX6_takeFrom rfl
theorem dX6_add_0 : decode cX6_add 0 = .ok (.lload_n 1, 1) := g_31 bX6_add rfl
theorem dX6_add_1 : decode cX6_add 1 = .ok (.lconst 0, 1) := g_9 bX6_add rfl
theorem dX6_add_2 : decode cX6_add 2 = .ok (.ldc2_w 130, 3) := g_20 bX6_add rfl
theorem dX6_add_5 : decode cX6_add 5 = .ok (.invokestatic 74, 3) := g_184 bX6_add rfl
theorem dX6_add_8 : decode cX6_add 8 = .ok (.ifCond .eq 38, 3) := g_153 38 bX6_add rfl rfl
theorem dX6_add_11 : decode cX6_add 11 = .ok (.lload_n 3, 1) := g_33 bX6_add rfl
theorem dX6_add_12 : decode cX6_add 12 = .ok (.lconst 0, 1) := g_9 bX6_add rfl
theorem dX6_add_13 : decode cX6_add 13 = .ok (.ldc2_w 132, 3) := g_20 bX6_add rfl
theorem dX6_add_16 : decode cX6_add 16 = .ok (.invokestatic 74, 3) := g_184 bX6_add rfl
theorem dX6_add_19 : decode cX6_add 19 = .ok (.ifCond .eq 27, 3) := g_153 27 bX6_add rfl rfl
theorem dX6_add_22 : decode cX6_add 22 = .ok (.lload 5, 2) := g_22 bX6_add rfl
theorem dX6_add_24 : decode cX6_add 24 = .ok (.lconst 0, 1) := g_9 bX6_add rfl
theorem dX6_add_25 : decode cX6_add 25 = .ok (.ldc2_w 132, 3) := g_20 bX6_add rfl
theorem dX6_add_28 : decode cX6_add 28 = .ok (.invokestatic 74, 3) := g_184 bX6_add rfl
theorem dX6_add_31 : decode cX6_add 31 = .ok (.ifCond .eq 15, 3) := g_153 15 bX6_add rfl rfl
theorem dX6_add_34 : decode cX6_add 34 = .ok (.lload 7, 2) := g_22 bX6_add rfl
theorem dX6_add_36 : decode cX6_add 36 = .ok (.lconst 0, 1) := g_9 bX6_add rfl
theorem dX6_add_37 : decode cX6_add 37 = .ok (.ldc2_w 132, 3) := g_20 bX6_add rfl
theorem dX6_add_40 : decode cX6_add 40 = .ok (.invokestatic 74, 3) := g_184 bX6_add rfl
theorem dX6_add_43 : decode cX6_add 43 = .ok (.ifCond .ne 6, 3) := g_154 6 bX6_add rfl rfl
theorem dX6_add_46 : decode cX6_add 46 = .ok (.bipush (-2), 2) := g_16 254 bX6_add rfl rfl
theorem dX6_add_48 : decode cX6_add 48 = .ok (.ireturn, 1) := g_172 bX6_add rfl
theorem dX6_add_49 : decode cX6_add 49 = .ok (.aload_n 0, 1) := g_42 bX6_add rfl
theorem dX6_add_50 : decode cX6_add 50 = .ok (.getfield 78, 3) := g_180 bX6_add rfl
theorem dX6_add_53 : decode cX6_add 53 = .ok (.bipush 8, 2) := g_16 8 bX6_add rfl rfl
theorem dX6_add_55 : decode cX6_add 55 = .ok (.if_icmp .ne 6, 3) := g_160 6 bX6_add rfl rfl
theorem dX6_add_58 : decode cX6_add 58 = .ok (.bipush (-6), 2) := g_16 250 bX6_add rfl rfl
theorem dX6_add_60 : decode cX6_add 60 = .ok (.ireturn, 1) := g_172 bX6_add rfl
theorem dX6_add_61 : decode cX6_add 61 = .ok (.aload_n 0, 1) := g_42 bX6_add rfl
theorem dX6_add_62 : decode cX6_add 62 = .ok (.invokevirtual 134, 3) := g_182 bX6_add rfl
theorem dX6_add_65 : decode cX6_add 65 = .ok (.aload_n 0, 1) := g_42 bX6_add rfl
theorem dX6_add_66 : decode cX6_add 66 = .ok (.getfield 45, 3) := g_180 bX6_add rfl
theorem dX6_add_69 : decode cX6_add 69 = .ok (.aload_n 0, 1) := g_42 bX6_add rfl
theorem dX6_add_70 : decode cX6_add 70 = .ok (.getfield 78, 3) := g_180 bX6_add rfl
theorem dX6_add_73 : decode cX6_add 73 = .ok (.aaload, 1) := g_50 bX6_add rfl
theorem dX6_add_74 : decode cX6_add 74 = .ok (.iconst 0, 1) := g_3 bX6_add rfl
theorem dX6_add_75 : decode cX6_add 75 = .ok (.lload_n 1, 1) := g_31 bX6_add rfl
theorem dX6_add_76 : decode cX6_add 76 = .ok (.l2i, 1) := g_136 bX6_add rfl
theorem dX6_add_77 : decode cX6_add 77 = .ok (.iastore, 1) := g_79 bX6_add rfl
theorem dX6_add_78 : decode cX6_add 78 = .ok (.aload_n 0, 1) := g_42 bX6_add rfl
theorem dX6_add_79 : decode cX6_add 79 = .ok (.getfield 45, 3) := g_180 bX6_add rfl
theorem dX6_add_82 : decode cX6_add 82 = .ok (.aload_n 0, 1) := g_42 bX6_add rfl
theorem dX6_add_83 : decode cX6_add 83 = .ok (.getfield 78, 3) := g_180 bX6_add rfl
theorem dX6_add_86 : decode cX6_add 86 = .ok (.aaload, 1) := g_50 bX6_add rfl
theorem dX6_add_87 : decode cX6_add 87 = .ok (.iconst 1, 1) := g_4 bX6_add rfl
theorem dX6_add_88 : decode cX6_add 88 = .ok (.lload_n 3, 1) := g_33 bX6_add rfl
theorem dX6_add_89 : decode cX6_add 89 = .ok (.l2i, 1) := g_136 bX6_add rfl
theorem dX6_add_90 : decode cX6_add 90 = .ok (.iastore, 1) := g_79 bX6_add rfl
theorem dX6_add_91 : decode cX6_add 91 = .ok (.aload_n 0, 1) := g_42 bX6_add rfl
theorem dX6_add_92 : decode cX6_add 92 = .ok (.getfield 45, 3) := g_180 bX6_add rfl
theorem dX6_add_95 : decode cX6_add 95 = .ok (.aload_n 0, 1) := g_42 bX6_add rfl
theorem dX6_add_96 : decode cX6_add 96 = .ok (.getfield 78, 3) := g_180 bX6_add rfl
theorem dX6_add_99 : decode cX6_add 99 = .ok (.aaload, 1) := g_50 bX6_add rfl
theorem dX6_add_100 : decode cX6_add 100 = .ok (.iconst 2, 1) := g_5 bX6_add rfl
theorem dX6_add_101 : decode cX6_add 101 = .ok (.lload 5, 2) := g_22 bX6_add rfl
theorem dX6_add_103 : decode cX6_add 103 = .ok (.l2i, 1) := g_136 bX6_add rfl
theorem dX6_add_104 : decode cX6_add 104 = .ok (.iastore, 1) := g_79 bX6_add rfl
theorem dX6_add_105 : decode cX6_add 105 = .ok (.aload_n 0, 1) := g_42 bX6_add rfl
theorem dX6_add_106 : decode cX6_add 106 = .ok (.getfield 45, 3) := g_180 bX6_add rfl
theorem dX6_add_109 : decode cX6_add 109 = .ok (.aload_n 0, 1) := g_42 bX6_add rfl
theorem dX6_add_110 : decode cX6_add 110 = .ok (.getfield 78, 3) := g_180 bX6_add rfl
theorem dX6_add_113 : decode cX6_add 113 = .ok (.aaload, 1) := g_50 bX6_add rfl
theorem dX6_add_114 : decode cX6_add 114 = .ok (.iconst 3, 1) := g_6 bX6_add rfl
theorem dX6_add_115 : decode cX6_add 115 = .ok (.lload 7, 2) := g_22 bX6_add rfl
theorem dX6_add_117 : decode cX6_add 117 = .ok (.l2i, 1) := g_136 bX6_add rfl
theorem dX6_add_118 : decode cX6_add 118 = .ok (.iastore, 1) := g_79 bX6_add rfl
theorem dX6_add_119 : decode cX6_add 119 = .ok (.aload_n 0, 1) := g_42 bX6_add rfl
theorem dX6_add_120 : decode cX6_add 120 = .ok (.dup, 1) := g_89 bX6_add rfl
theorem dX6_add_121 : decode cX6_add 121 = .ok (.getfield 78, 3) := g_180 bX6_add rfl
theorem dX6_add_124 : decode cX6_add 124 = .ok (.dup_x1, 1) := g_90 bX6_add rfl
theorem dX6_add_125 : decode cX6_add 125 = .ok (.iconst 1, 1) := g_4 bX6_add rfl
theorem dX6_add_126 : decode cX6_add 126 = .ok (.iadd, 1) := g_96 bX6_add rfl
theorem dX6_add_127 : decode cX6_add 127 = .ok (.putfield 78, 3) := g_181 bX6_add rfl
theorem dX6_add_130 : decode cX6_add 130 = .ok (.ireturn, 1) := g_172 bX6_add rfl
theorem dX6_fit_0 : decode cX6_fit 0 = .ok (.iload_n 0, 1) := g_26 bX6_fit rfl
theorem dX6_fit_1 : decode cX6_fit 1 = .ok (.tableswitch 47 0 3 #[31, 36, 41, 45], 31) := by decide +kernel
theorem dX6_fit_32 : decode cX6_fit 32 = .ok (.lload_n 1, 1) := g_31 bX6_fit rfl
theorem dX6_fit_33 : decode cX6_fit 33 = .ok (.l2i, 1) := g_136 bX6_fit rfl
theorem dX6_fit_34 : decode cX6_fit 34 = .ok (.i2b, 1) := g_145 bX6_fit rfl
theorem dX6_fit_35 : decode cX6_fit 35 = .ok (.i2l, 1) := g_133 bX6_fit rfl
theorem dX6_fit_36 : decode cX6_fit 36 = .ok (.lreturn, 1) := g_173 bX6_fit rfl
theorem dX6_fit_37 : decode cX6_fit 37 = .ok (.lload_n 1, 1) := g_31 bX6_fit rfl
theorem dX6_fit_38 : decode cX6_fit 38 = .ok (.l2i, 1) := g_136 bX6_fit rfl
theorem dX6_fit_39 : decode cX6_fit 39 = .ok (.i2s, 1) := g_147 bX6_fit rfl
theorem dX6_fit_40 : decode cX6_fit 40 = .ok (.i2l, 1) := g_133 bX6_fit rfl
theorem dX6_fit_41 : decode cX6_fit 41 = .ok (.lreturn, 1) := g_173 bX6_fit rfl
theorem dX6_fit_42 : decode cX6_fit 42 = .ok (.lload_n 1, 1) := g_31 bX6_fit rfl
theorem dX6_fit_43 : decode cX6_fit 43 = .ok (.l2i, 1) := g_136 bX6_fit rfl
theorem dX6_fit_44 : decode cX6_fit 44 = .ok (.i2l, 1) := g_133 bX6_fit rfl
theorem dX6_fit_45 : decode cX6_fit 45 = .ok (.lreturn, 1) := g_173 bX6_fit rfl
theorem dX6_fit_46 : decode cX6_fit 46 = .ok (.lload_n 1, 1) := g_31 bX6_fit rfl
theorem dX6_fit_47 : decode cX6_fit 47 = .ok (.lreturn, 1) := g_173 bX6_fit rfl
theorem dX6_fit_48 : decode cX6_fit 48 = .ok (.lload_n 1, 1) := g_31 bX6_fit rfl
theorem dX6_fit_49 : decode cX6_fit 49 = .ok (.lconst 0, 1) := g_9 bX6_fit rfl
theorem dX6_fit_50 : decode cX6_fit 50 = .ok (.lcmp, 1) := g_148 bX6_fit rfl
theorem dX6_fit_51 : decode cX6_fit 51 = .ok (.ifCond .eq 7, 3) := g_153 7 bX6_fit rfl rfl
theorem dX6_fit_54 : decode cX6_fit 54 = .ok (.lconst 1, 1) := g_10 bX6_fit rfl
theorem dX6_fit_55 : decode cX6_fit 55 = .ok (.goto 4, 3) := g_167 4 bX6_fit rfl rfl
theorem dX6_fit_58 : decode cX6_fit 58 = .ok (.lconst 0, 1) := g_9 bX6_fit rfl
theorem dX6_fit_59 : decode cX6_fit 59 = .ok (.lreturn, 1) := g_173 bX6_fit rfl
theorem dX6_isUnder_0 : decode cX6_isUnder 0 = .ok (.iload_n 1, 1) := g_27 bX6_isUnder rfl
theorem dX6_isUnder_1 : decode cX6_isUnder 1 = .ok (.ifCond .eq 28, 3) := g_153 28 bX6_isUnder rfl rfl
theorem dX6_isUnder_4 : decode cX6_isUnder 4 = .ok (.iload_n 0, 1) := g_26 bX6_isUnder rfl
theorem dX6_isUnder_5 : decode cX6_isUnder 5 = .ok (.iload_n 1, 1) := g_27 bX6_isUnder rfl
theorem dX6_isUnder_6 : decode cX6_isUnder 6 = .ok (.if_icmp .eq 23, 3) := g_159 23 bX6_isUnder rfl rfl
theorem dX6_isUnder_9 : decode cX6_isUnder 9 = .ok (.iload_n 1, 1) := g_27 bX6_isUnder rfl
theorem dX6_isUnder_10 : decode cX6_isUnder 10 = .ok (.iconst 1, 1) := g_4 bX6_isUnder rfl
theorem dX6_isUnder_11 : decode cX6_isUnder 11 = .ok (.if_icmp .ne 8, 3) := g_160 8 bX6_isUnder rfl rfl
theorem dX6_isUnder_14 : decode cX6_isUnder 14 = .ok (.iload_n 0, 1) := g_26 bX6_isUnder rfl
theorem dX6_isUnder_15 : decode cX6_isUnder 15 = .ok (.iconst 3, 1) := g_6 bX6_isUnder rfl
theorem dX6_isUnder_16 : decode cX6_isUnder 16 = .ok (.if_icmp .le 13, 3) := g_164 13 bX6_isUnder rfl rfl
theorem dX6_isUnder_19 : decode cX6_isUnder 19 = .ok (.iload_n 1, 1) := g_27 bX6_isUnder rfl
theorem dX6_isUnder_20 : decode cX6_isUnder 20 = .ok (.iconst 4, 1) := g_7 bX6_isUnder rfl
theorem dX6_isUnder_21 : decode cX6_isUnder 21 = .ok (.if_icmp .ne 12, 3) := g_160 12 bX6_isUnder rfl rfl
theorem dX6_isUnder_24 : decode cX6_isUnder 24 = .ok (.iload_n 0, 1) := g_26 bX6_isUnder rfl
theorem dX6_isUnder_25 : decode cX6_isUnder 25 = .ok (.iconst 4, 1) := g_7 bX6_isUnder rfl
theorem dX6_isUnder_26 : decode cX6_isUnder 26 = .ok (.if_icmp .lt 7, 3) := g_161 7 bX6_isUnder rfl rfl
theorem dX6_isUnder_29 : decode cX6_isUnder 29 = .ok (.iconst 1, 1) := g_4 bX6_isUnder rfl
theorem dX6_isUnder_30 : decode cX6_isUnder 30 = .ok (.goto 4, 3) := g_167 4 bX6_isUnder rfl rfl
theorem dX6_isUnder_33 : decode cX6_isUnder 33 = .ok (.iconst 0, 1) := g_3 bX6_isUnder rfl
theorem dX6_isUnder_34 : decode cX6_isUnder 34 = .ok (.ireturn, 1) := g_172 bX6_isUnder rfl
theorem dX6_newBook_0 : decode cX6_newBook 0 = .ok (.aload_n 0, 1) := g_42 bX6_newBook rfl
theorem dX6_newBook_1 : decode cX6_newBook 1 = .ok (.getfield 42, 3) := g_180 bX6_newBook rfl
theorem dX6_newBook_4 : decode cX6_newBook 4 = .ok (.aload_n 0, 1) := g_42 bX6_newBook rfl
theorem dX6_newBook_5 : decode cX6_newBook 5 = .ok (.getfield 71, 3) := g_180 bX6_newBook rfl
theorem dX6_newBook_8 : decode cX6_newBook 8 = .ok (.aaload, 1) := g_50 bX6_newBook rfl
theorem dX6_newBook_9 : decode cX6_newBook 9 = .ok (.iconst 0, 1) := g_3 bX6_newBook rfl
theorem dX6_newBook_10 : decode cX6_newBook 10 = .ok (.iload_n 1, 1) := g_27 bX6_newBook rfl
theorem dX6_newBook_11 : decode cX6_newBook 11 = .ok (.iastore, 1) := g_79 bX6_newBook rfl
theorem dX6_newBook_12 : decode cX6_newBook 12 = .ok (.aload_n 0, 1) := g_42 bX6_newBook rfl
theorem dX6_newBook_13 : decode cX6_newBook 13 = .ok (.getfield 42, 3) := g_180 bX6_newBook rfl
theorem dX6_newBook_16 : decode cX6_newBook 16 = .ok (.aload_n 0, 1) := g_42 bX6_newBook rfl
theorem dX6_newBook_17 : decode cX6_newBook 17 = .ok (.getfield 71, 3) := g_180 bX6_newBook rfl
theorem dX6_newBook_20 : decode cX6_newBook 20 = .ok (.aaload, 1) := g_50 bX6_newBook rfl
theorem dX6_newBook_21 : decode cX6_newBook 21 = .ok (.iconst 1, 1) := g_4 bX6_newBook rfl
theorem dX6_newBook_22 : decode cX6_newBook 22 = .ok (.iconst 0, 1) := g_3 bX6_newBook rfl
theorem dX6_newBook_23 : decode cX6_newBook 23 = .ok (.iastore, 1) := g_79 bX6_newBook rfl
theorem dX6_newBook_24 : decode cX6_newBook 24 = .ok (.aload_n 0, 1) := g_42 bX6_newBook rfl
theorem dX6_newBook_25 : decode cX6_newBook 25 = .ok (.getfield 42, 3) := g_180 bX6_newBook rfl
theorem dX6_newBook_28 : decode cX6_newBook 28 = .ok (.aload_n 0, 1) := g_42 bX6_newBook rfl
theorem dX6_newBook_29 : decode cX6_newBook 29 = .ok (.getfield 71, 3) := g_180 bX6_newBook rfl
theorem dX6_newBook_32 : decode cX6_newBook 32 = .ok (.aaload, 1) := g_50 bX6_newBook rfl
theorem dX6_newBook_33 : decode cX6_newBook 33 = .ok (.iconst 2, 1) := g_5 bX6_newBook rfl
theorem dX6_newBook_34 : decode cX6_newBook 34 = .ok (.sipush 1000, 3) := g_17 1000 bX6_newBook rfl rfl
theorem dX6_newBook_37 : decode cX6_newBook 37 = .ok (.iastore, 1) := g_79 bX6_newBook rfl
theorem dX6_newBook_38 : decode cX6_newBook 38 = .ok (.aload_n 0, 1) := g_42 bX6_newBook rfl
theorem dX6_newBook_39 : decode cX6_newBook 39 = .ok (.getfield 42, 3) := g_180 bX6_newBook rfl
theorem dX6_newBook_42 : decode cX6_newBook 42 = .ok (.aload_n 0, 1) := g_42 bX6_newBook rfl
theorem dX6_newBook_43 : decode cX6_newBook 43 = .ok (.getfield 71, 3) := g_180 bX6_newBook rfl
theorem dX6_newBook_46 : decode cX6_newBook 46 = .ok (.aaload, 1) := g_50 bX6_newBook rfl
theorem dX6_newBook_47 : decode cX6_newBook 47 = .ok (.iconst 3, 1) := g_6 bX6_newBook rfl
theorem dX6_newBook_48 : decode cX6_newBook 48 = .ok (.iconst 0, 1) := g_3 bX6_newBook rfl
theorem dX6_newBook_49 : decode cX6_newBook 49 = .ok (.iastore, 1) := g_79 bX6_newBook rfl
theorem dX6_newBook_50 : decode cX6_newBook 50 = .ok (.iconst 0, 1) := g_3 bX6_newBook rfl
theorem dX6_newBook_51 : decode cX6_newBook 51 = .ok (.istore_n 2, 1) := g_61 bX6_newBook rfl
theorem dX6_newBook_52 : decode cX6_newBook 52 = .ok (.iload_n 2, 1) := g_28 bX6_newBook rfl
theorem dX6_newBook_53 : decode cX6_newBook 53 = .ok (.bipush 8, 2) := g_16 8 bX6_newBook rfl rfl
theorem dX6_newBook_55 : decode cX6_newBook 55 = .ok (.if_icmp .ge 21, 3) := g_162 21 bX6_newBook rfl rfl
theorem dX6_newBook_58 : decode cX6_newBook 58 = .ok (.aload_n 0, 1) := g_42 bX6_newBook rfl
theorem dX6_newBook_59 : decode cX6_newBook 59 = .ok (.getfield 48, 3) := g_180 bX6_newBook rfl
theorem dX6_newBook_62 : decode cX6_newBook 62 = .ok (.iload_n 2, 1) := g_28 bX6_newBook rfl
theorem dX6_newBook_63 : decode cX6_newBook 63 = .ok (.aaload, 1) := g_50 bX6_newBook rfl
theorem dX6_newBook_64 : decode cX6_newBook 64 = .ok (.aload_n 0, 1) := g_42 bX6_newBook rfl
theorem dX6_newBook_65 : decode cX6_newBook 65 = .ok (.getfield 71, 3) := g_180 bX6_newBook rfl
theorem dX6_newBook_68 : decode cX6_newBook 68 = .ok (.iconst 0, 1) := g_3 bX6_newBook rfl
theorem dX6_newBook_69 : decode cX6_newBook 69 = .ok (.iastore, 1) := g_79 bX6_newBook rfl
theorem dX6_newBook_70 : decode cX6_newBook 70 = .ok (.iinc 2 1, 3) := g_132 1 bX6_newBook rfl rfl
theorem dX6_newBook_73 : decode cX6_newBook 73 = .ok (.goto (-21), 3) := g_167 65515 bX6_newBook rfl rfl
theorem dX6_newBook_76 : decode cX6_newBook 76 = .ok (.return_, 1) := g_177 bX6_newBook rfl
theorem dX6_newOne_0 : decode cX6_newOne 0 = .ok (.aload_n 0, 1) := g_42 bX6_newOne rfl
theorem dX6_newOne_1 : decode cX6_newOne 1 = .ok (.getfield 45, 3) := g_180 bX6_newOne rfl
theorem dX6_newOne_4 : decode cX6_newOne 4 = .ok (.aload_n 0, 1) := g_42 bX6_newOne rfl
theorem dX6_newOne_5 : decode cX6_newOne 5 = .ok (.getfield 78, 3) := g_180 bX6_newOne rfl
theorem dX6_newOne_8 : decode cX6_newOne 8 = .ok (.aaload, 1) := g_50 bX6_newOne rfl
theorem dX6_newOne_9 : decode cX6_newOne 9 = .ok (.iconst 1, 1) := g_4 bX6_newOne rfl
theorem dX6_newOne_10 : decode cX6_newOne 10 = .ok (.iconst 5, 1) := g_8 bX6_newOne rfl
theorem dX6_newOne_11 : decode cX6_newOne 11 = .ok (.iastore, 1) := g_79 bX6_newOne rfl
theorem dX6_newOne_12 : decode cX6_newOne 12 = .ok (.aload_n 0, 1) := g_42 bX6_newOne rfl
theorem dX6_newOne_13 : decode cX6_newOne 13 = .ok (.getfield 45, 3) := g_180 bX6_newOne rfl
theorem dX6_newOne_16 : decode cX6_newOne 16 = .ok (.aload_n 0, 1) := g_42 bX6_newOne rfl
theorem dX6_newOne_17 : decode cX6_newOne 17 = .ok (.getfield 78, 3) := g_180 bX6_newOne rfl
theorem dX6_newOne_20 : decode cX6_newOne 20 = .ok (.aaload, 1) := g_50 bX6_newOne rfl
theorem dX6_newOne_21 : decode cX6_newOne 21 = .ok (.iconst 2, 1) := g_5 bX6_newOne rfl
theorem dX6_newOne_22 : decode cX6_newOne 22 = .ok (.iconst 5, 1) := g_8 bX6_newOne rfl
theorem dX6_newOne_23 : decode cX6_newOne 23 = .ok (.iastore, 1) := g_79 bX6_newOne rfl
theorem dX6_newOne_24 : decode cX6_newOne 24 = .ok (.aload_n 0, 1) := g_42 bX6_newOne rfl
theorem dX6_newOne_25 : decode cX6_newOne 25 = .ok (.getfield 45, 3) := g_180 bX6_newOne rfl
theorem dX6_newOne_28 : decode cX6_newOne 28 = .ok (.aload_n 0, 1) := g_42 bX6_newOne rfl
theorem dX6_newOne_29 : decode cX6_newOne 29 = .ok (.getfield 78, 3) := g_180 bX6_newOne rfl
theorem dX6_newOne_32 : decode cX6_newOne 32 = .ok (.aaload, 1) := g_50 bX6_newOne rfl
theorem dX6_newOne_33 : decode cX6_newOne 33 = .ok (.iconst 3, 1) := g_6 bX6_newOne rfl
theorem dX6_newOne_34 : decode cX6_newOne 34 = .ok (.iconst 5, 1) := g_8 bX6_newOne rfl
theorem dX6_newOne_35 : decode cX6_newOne 35 = .ok (.iastore, 1) := g_79 bX6_newOne rfl
theorem dX6_newOne_36 : decode cX6_newOne 36 = .ok (.aload_n 0, 1) := g_42 bX6_newOne rfl
theorem dX6_newOne_37 : decode cX6_newOne 37 = .ok (.getfield 45, 3) := g_180 bX6_newOne rfl
theorem dX6_newOne_40 : decode cX6_newOne 40 = .ok (.aload_n 0, 1) := g_42 bX6_newOne rfl
theorem dX6_newOne_41 : decode cX6_newOne 41 = .ok (.getfield 78, 3) := g_180 bX6_newOne rfl
theorem dX6_newOne_44 : decode cX6_newOne 44 = .ok (.aaload, 1) := g_50 bX6_newOne rfl
theorem dX6_newOne_45 : decode cX6_newOne 45 = .ok (.iconst 4, 1) := g_7 bX6_newOne rfl
theorem dX6_newOne_46 : decode cX6_newOne 46 = .ok (.iconst 0, 1) := g_3 bX6_newOne rfl
theorem dX6_newOne_47 : decode cX6_newOne 47 = .ok (.iastore, 1) := g_79 bX6_newOne rfl
theorem dX6_newOne_48 : decode cX6_newOne 48 = .ok (.iconst 0, 1) := g_3 bX6_newOne rfl
theorem dX6_newOne_49 : decode cX6_newOne 49 = .ok (.istore_n 1, 1) := g_60 bX6_newOne rfl
theorem dX6_newOne_50 : decode cX6_newOne 50 = .ok (.iload_n 1, 1) := g_27 bX6_newOne rfl
theorem dX6_newOne_51 : decode cX6_newOne 51 = .ok (.bipush 8, 2) := g_16 8 bX6_newOne rfl rfl
theorem dX6_newOne_53 : decode cX6_newOne 53 = .ok (.if_icmp .ge 21, 3) := g_162 21 bX6_newOne rfl rfl
theorem dX6_newOne_56 : decode cX6_newOne 56 = .ok (.aload_n 0, 1) := g_42 bX6_newOne rfl
theorem dX6_newOne_57 : decode cX6_newOne 57 = .ok (.getfield 48, 3) := g_180 bX6_newOne rfl
theorem dX6_newOne_60 : decode cX6_newOne 60 = .ok (.aload_n 0, 1) := g_42 bX6_newOne rfl
theorem dX6_newOne_61 : decode cX6_newOne 61 = .ok (.getfield 78, 3) := g_180 bX6_newOne rfl
theorem dX6_newOne_64 : decode cX6_newOne 64 = .ok (.aaload, 1) := g_50 bX6_newOne rfl
theorem dX6_newOne_65 : decode cX6_newOne 65 = .ok (.iload_n 1, 1) := g_27 bX6_newOne rfl
theorem dX6_newOne_66 : decode cX6_newOne 66 = .ok (.iconst 0, 1) := g_3 bX6_newOne rfl
theorem dX6_newOne_67 : decode cX6_newOne 67 = .ok (.iastore, 1) := g_79 bX6_newOne rfl
theorem dX6_newOne_68 : decode cX6_newOne 68 = .ok (.iinc 1 1, 3) := g_132 1 bX6_newOne rfl rfl
theorem dX6_newOne_71 : decode cX6_newOne 71 = .ok (.goto (-21), 3) := g_167 65515 bX6_newOne rfl rfl
theorem dX6_newOne_74 : decode cX6_newOne 74 = .ok (.return_, 1) := g_177 bX6_newOne rfl
theorem dX6_noReading_0 : decode cX6_noReading 0 = .ok (.aload_n 0, 1) := g_42 bX6_noReading rfl
theorem dX6_noReading_1 : decode cX6_noReading 1 = .ok (.iload_n 1, 1) := g_27 bX6_noReading rfl
theorem dX6_noReading_2 : decode cX6_noReading 2 = .ok (.i2l, 1) := g_133 bX6_noReading rfl
theorem dX6_noReading_3 : decode cX6_noReading 3 = .ok (.invokevirtual 236, 3) := g_182 bX6_noReading rfl
theorem dX6_noReading_6 : decode cX6_noReading 6 = .ok (.ifCond .eq 12, 3) := g_153 12 bX6_noReading rfl rfl
theorem dX6_noReading_9 : decode cX6_noReading 9 = .ok (.aload_n 0, 1) := g_42 bX6_noReading rfl
theorem dX6_noReading_10 : decode cX6_noReading 10 = .ok (.iload_n 2, 1) := g_28 bX6_noReading rfl
theorem dX6_noReading_11 : decode cX6_noReading 11 = .ok (.i2l, 1) := g_133 bX6_noReading rfl
theorem dX6_noReading_12 : decode cX6_noReading 12 = .ok (.invokevirtual 229, 3) := g_182 bX6_noReading rfl
theorem dX6_noReading_15 : decode cX6_noReading 15 = .ok (.ifCond .ne 10, 3) := g_154 10 bX6_noReading rfl rfl
theorem dX6_noReading_18 : decode cX6_noReading 18 = .ok (.aload_n 0, 1) := g_42 bX6_noReading rfl
theorem dX6_noReading_19 : decode cX6_noReading 19 = .ok (.bipush (-2), 2) := g_16 254 bX6_noReading rfl rfl
theorem dX6_noReading_21 : decode cX6_noReading 21 = .ok (.invokevirtual 91, 3) := g_182 bX6_noReading rfl
theorem dX6_noReading_24 : decode cX6_noReading 24 = .ok (.ireturn, 1) := g_172 bX6_noReading rfl
theorem dX6_noReading_25 : decode cX6_noReading 25 = .ok (.aload_n 0, 1) := g_42 bX6_noReading rfl
theorem dX6_noReading_26 : decode cX6_noReading 26 = .ok (.iload_n 2, 1) := g_28 bX6_noReading rfl
theorem dX6_noReading_27 : decode cX6_noReading 27 = .ok (.invokevirtual 248, 3) := g_182 bX6_noReading rfl
theorem dX6_noReading_30 : decode cX6_noReading 30 = .ok (.ifCond .ne 11, 3) := g_154 11 bX6_noReading rfl rfl
theorem dX6_noReading_33 : decode cX6_noReading 33 = .ok (.aload_n 0, 1) := g_42 bX6_noReading rfl
theorem dX6_noReading_34 : decode cX6_noReading 34 = .ok (.iload_n 1, 1) := g_27 bX6_noReading rfl
theorem dX6_noReading_35 : decode cX6_noReading 35 = .ok (.invokevirtual 81, 3) := g_182 bX6_noReading rfl
theorem dX6_noReading_38 : decode cX6_noReading 38 = .ok (.ifCond .ne 12, 3) := g_154 12 bX6_noReading rfl rfl
theorem dX6_noReading_41 : decode cX6_noReading 41 = .ok (.aload_n 0, 1) := g_42 bX6_noReading rfl
theorem dX6_noReading_42 : decode cX6_noReading 42 = .ok (.bipush (-5), 2) := g_16 251 bX6_noReading rfl rfl
theorem dX6_noReading_44 : decode cX6_noReading 44 = .ok (.invokevirtual 91, 3) := g_182 bX6_noReading rfl
theorem dX6_noReading_47 : decode cX6_noReading 47 = .ok (.goto 4, 3) := g_167 4 bX6_noReading rfl rfl
theorem dX6_noReading_50 : decode cX6_noReading 50 = .ok (.iconst 0, 1) := g_3 bX6_noReading rfl
theorem dX6_noReading_51 : decode cX6_noReading 51 = .ok (.ireturn, 1) := g_172 bX6_noReading rfl
theorem dX6_noRow_0 : decode cX6_noRow 0 = .ok (.iload_n 1, 1) := g_27 bX6_noRow rfl
theorem dX6_noRow_1 : decode cX6_noRow 1 = .ok (.i2l, 1) := g_133 bX6_noRow rfl
theorem dX6_noRow_2 : decode cX6_noRow 2 = .ok (.lconst 0, 1) := g_9 bX6_noRow rfl
theorem dX6_noRow_3 : decode cX6_noRow 3 = .ok (.ldc2_w 85, 3) := g_20 bX6_noRow rfl
theorem dX6_noRow_6 : decode cX6_noRow 6 = .ok (.invokestatic 74, 3) := g_184 bX6_noRow rfl
theorem dX6_noRow_9 : decode cX6_noRow 9 = .ok (.ifCond .ne 10, 3) := g_154 10 bX6_noRow rfl rfl
theorem dX6_noRow_12 : decode cX6_noRow 12 = .ok (.aload_n 0, 1) := g_42 bX6_noRow rfl
theorem dX6_noRow_13 : decode cX6_noRow 13 = .ok (.bipush (-2), 2) := g_16 254 bX6_noRow rfl rfl
theorem dX6_noRow_15 : decode cX6_noRow 15 = .ok (.invokevirtual 91, 3) := g_182 bX6_noRow rfl
theorem dX6_noRow_18 : decode cX6_noRow 18 = .ok (.ireturn, 1) := g_172 bX6_noRow rfl
theorem dX6_noRow_19 : decode cX6_noRow 19 = .ok (.aload_n 0, 1) := g_42 bX6_noRow rfl
theorem dX6_noRow_20 : decode cX6_noRow 20 = .ok (.getfield 7, 3) := g_180 bX6_noRow rfl
theorem dX6_noRow_23 : decode cX6_noRow 23 = .ok (.iload_n 1, 1) := g_27 bX6_noRow rfl
theorem dX6_noRow_24 : decode cX6_noRow 24 = .ok (.iaload, 1) := g_46 bX6_noRow rfl
theorem dX6_noRow_25 : decode cX6_noRow 25 = .ok (.iconst 2, 1) := g_5 bX6_noRow rfl
theorem dX6_noRow_26 : decode cX6_noRow 26 = .ok (.if_icmp .ne 10, 3) := g_160 10 bX6_noRow rfl rfl
theorem dX6_noRow_29 : decode cX6_noRow 29 = .ok (.aload_n 0, 1) := g_42 bX6_noRow rfl
theorem dX6_noRow_30 : decode cX6_noRow 30 = .ok (.bipush (-3), 2) := g_16 253 bX6_noRow rfl rfl
theorem dX6_noRow_32 : decode cX6_noRow 32 = .ok (.invokevirtual 91, 3) := g_182 bX6_noRow rfl
theorem dX6_noRow_35 : decode cX6_noRow 35 = .ok (.ireturn, 1) := g_172 bX6_noRow rfl
theorem dX6_noRow_36 : decode cX6_noRow 36 = .ok (.aload_n 0, 1) := g_42 bX6_noRow rfl
theorem dX6_noRow_37 : decode cX6_noRow 37 = .ok (.getfield 7, 3) := g_180 bX6_noRow rfl
theorem dX6_noRow_40 : decode cX6_noRow 40 = .ok (.iload_n 1, 1) := g_27 bX6_noRow rfl
theorem dX6_noRow_41 : decode cX6_noRow 41 = .ok (.iaload, 1) := g_46 bX6_noRow rfl
theorem dX6_noRow_42 : decode cX6_noRow 42 = .ok (.ifCond .ne 12, 3) := g_154 12 bX6_noRow rfl rfl
theorem dX6_noRow_45 : decode cX6_noRow 45 = .ok (.aload_n 0, 1) := g_42 bX6_noRow rfl
theorem dX6_noRow_46 : decode cX6_noRow 46 = .ok (.bipush (-4), 2) := g_16 252 bX6_noRow rfl rfl
theorem dX6_noRow_48 : decode cX6_noRow 48 = .ok (.invokevirtual 91, 3) := g_182 bX6_noRow rfl
theorem dX6_noRow_51 : decode cX6_noRow 51 = .ok (.goto 4, 3) := g_167 4 bX6_noRow rfl rfl
theorem dX6_noRow_54 : decode cX6_noRow 54 = .ok (.iconst 0, 1) := g_3 bX6_noRow rfl
theorem dX6_noRow_55 : decode cX6_noRow 55 = .ok (.ireturn, 1) := g_172 bX6_noRow rfl
theorem dX6_noRule_0 : decode cX6_noRule 0 = .ok (.iload_n 1, 1) := g_27 bX6_noRule rfl
theorem dX6_noRule_1 : decode cX6_noRule 1 = .ok (.i2l, 1) := g_133 bX6_noRule rfl
theorem dX6_noRule_2 : decode cX6_noRule 2 = .ok (.lconst 0, 1) := g_9 bX6_noRule rfl
theorem dX6_noRule_3 : decode cX6_noRule 3 = .ok (.ldc2_w 85, 3) := g_20 bX6_noRule rfl
theorem dX6_noRule_6 : decode cX6_noRule 6 = .ok (.invokestatic 74, 3) := g_184 bX6_noRule rfl
theorem dX6_noRule_9 : decode cX6_noRule 9 = .ok (.ifCond .ne 10, 3) := g_154 10 bX6_noRule rfl rfl
theorem dX6_noRule_12 : decode cX6_noRule 12 = .ok (.aload_n 0, 1) := g_42 bX6_noRule rfl
theorem dX6_noRule_13 : decode cX6_noRule 13 = .ok (.bipush (-2), 2) := g_16 254 bX6_noRule rfl rfl
theorem dX6_noRule_15 : decode cX6_noRule 15 = .ok (.invokevirtual 91, 3) := g_182 bX6_noRule rfl
theorem dX6_noRule_18 : decode cX6_noRule 18 = .ok (.ireturn, 1) := g_172 bX6_noRule rfl
theorem dX6_noRule_19 : decode cX6_noRule 19 = .ok (.aload_n 0, 1) := g_42 bX6_noRule rfl
theorem dX6_noRule_20 : decode cX6_noRule 20 = .ok (.getfield 7, 3) := g_180 bX6_noRule rfl
theorem dX6_noRule_23 : decode cX6_noRule 23 = .ok (.iload_n 1, 1) := g_27 bX6_noRule rfl
theorem dX6_noRule_24 : decode cX6_noRule 24 = .ok (.iaload, 1) := g_46 bX6_noRule rfl
theorem dX6_noRule_25 : decode cX6_noRule 25 = .ok (.iconst 1, 1) := g_4 bX6_noRule rfl
theorem dX6_noRule_26 : decode cX6_noRule 26 = .ok (.if_icmp .ne 10, 3) := g_160 10 bX6_noRule rfl rfl
theorem dX6_noRule_29 : decode cX6_noRule 29 = .ok (.aload_n 0, 1) := g_42 bX6_noRule rfl
theorem dX6_noRule_30 : decode cX6_noRule 30 = .ok (.bipush (-3), 2) := g_16 253 bX6_noRule rfl rfl
theorem dX6_noRule_32 : decode cX6_noRule 32 = .ok (.invokevirtual 91, 3) := g_182 bX6_noRule rfl
theorem dX6_noRule_35 : decode cX6_noRule 35 = .ok (.ireturn, 1) := g_172 bX6_noRule rfl
theorem dX6_noRule_36 : decode cX6_noRule 36 = .ok (.aload_n 0, 1) := g_42 bX6_noRule rfl
theorem dX6_noRule_37 : decode cX6_noRule 37 = .ok (.getfield 7, 3) := g_180 bX6_noRule rfl
theorem dX6_noRule_40 : decode cX6_noRule 40 = .ok (.iload_n 1, 1) := g_27 bX6_noRule rfl
theorem dX6_noRule_41 : decode cX6_noRule 41 = .ok (.iaload, 1) := g_46 bX6_noRule rfl
theorem dX6_noRule_42 : decode cX6_noRule 42 = .ok (.ifCond .ne 12, 3) := g_154 12 bX6_noRule rfl rfl
theorem dX6_noRule_45 : decode cX6_noRule 45 = .ok (.aload_n 0, 1) := g_42 bX6_noRule rfl
theorem dX6_noRule_46 : decode cX6_noRule 46 = .ok (.bipush (-4), 2) := g_16 252 bX6_noRule rfl rfl
theorem dX6_noRule_48 : decode cX6_noRule 48 = .ok (.invokevirtual 91, 3) := g_182 bX6_noRule rfl
theorem dX6_noRule_51 : decode cX6_noRule 51 = .ok (.goto 4, 3) := g_167 4 bX6_noRule rfl rfl
theorem dX6_noRule_54 : decode cX6_noRule 54 = .ok (.iconst 0, 1) := g_3 bX6_noRule rfl
theorem dX6_noRule_55 : decode cX6_noRule 55 = .ok (.ireturn, 1) := g_172 bX6_noRule rfl
theorem dX6_isDigit_0 : decode cX6_isDigit 0 = .ok (.iload_n 0, 1) := g_26 bX6_isDigit rfl
theorem dX6_isDigit_1 : decode cX6_isDigit 1 = .ok (.bipush 48, 2) := g_16 48 bX6_isDigit rfl rfl
theorem dX6_isDigit_3 : decode cX6_isDigit 3 = .ok (.if_icmp .lt 13, 3) := g_161 13 bX6_isDigit rfl rfl
theorem dX6_isDigit_6 : decode cX6_isDigit 6 = .ok (.iload_n 0, 1) := g_26 bX6_isDigit rfl
theorem dX6_isDigit_7 : decode cX6_isDigit 7 = .ok (.bipush 57, 2) := g_16 57 bX6_isDigit rfl rfl
theorem dX6_isDigit_9 : decode cX6_isDigit 9 = .ok (.if_icmp .gt 7, 3) := g_163 7 bX6_isDigit rfl rfl
theorem dX6_isDigit_12 : decode cX6_isDigit 12 = .ok (.iconst 1, 1) := g_4 bX6_isDigit rfl
theorem dX6_isDigit_13 : decode cX6_isDigit 13 = .ok (.goto 4, 3) := g_167 4 bX6_isDigit rfl rfl
theorem dX6_isDigit_16 : decode cX6_isDigit 16 = .ok (.iconst 0, 1) := g_3 bX6_isDigit rfl
theorem dX6_isDigit_17 : decode cX6_isDigit 17 = .ok (.ireturn, 1) := g_172 bX6_isDigit rfl
theorem dX6_isLetter_0 : decode cX6_isLetter 0 = .ok (.iload_n 0, 1) := g_26 bX6_isLetter rfl
theorem dX6_isLetter_1 : decode cX6_isLetter 1 = .ok (.bipush 97, 2) := g_16 97 bX6_isLetter rfl rfl
theorem dX6_isLetter_3 : decode cX6_isLetter 3 = .ok (.if_icmp .lt 13, 3) := g_161 13 bX6_isLetter rfl rfl
theorem dX6_isLetter_6 : decode cX6_isLetter 6 = .ok (.iload_n 0, 1) := g_26 bX6_isLetter rfl
theorem dX6_isLetter_7 : decode cX6_isLetter 7 = .ok (.bipush 122, 2) := g_16 122 bX6_isLetter rfl rfl
theorem dX6_isLetter_9 : decode cX6_isLetter 9 = .ok (.if_icmp .gt 7, 3) := g_163 7 bX6_isLetter rfl rfl
theorem dX6_isLetter_12 : decode cX6_isLetter 12 = .ok (.iconst 1, 1) := g_4 bX6_isLetter rfl
theorem dX6_isLetter_13 : decode cX6_isLetter 13 = .ok (.goto 4, 3) := g_167 4 bX6_isLetter rfl rfl
theorem dX6_isLetter_16 : decode cX6_isLetter 16 = .ok (.iconst 0, 1) := g_3 bX6_isLetter rfl
theorem dX6_isLetter_17 : decode cX6_isLetter 17 = .ok (.ireturn, 1) := g_172 bX6_isLetter rfl
theorem dX6_isWord_0 : decode cX6_isWord 0 = .ok (.aload_n 0, 1) := g_42 bX6_isWord rfl
theorem dX6_isWord_1 : decode cX6_isWord 1 = .ok (.getfield 154, 3) := g_180 bX6_isWord rfl
theorem dX6_isWord_4 : decode cX6_isWord 4 = .ok (.iconst 1, 1) := g_4 bX6_isWord rfl
theorem dX6_isWord_5 : decode cX6_isWord 5 = .ok (.if_icmp .ne 19, 3) := g_160 19 bX6_isWord rfl rfl
theorem dX6_isWord_8 : decode cX6_isWord 8 = .ok (.aload_n 0, 1) := g_42 bX6_isWord rfl
theorem dX6_isWord_9 : decode cX6_isWord 9 = .ok (.getfield 144, 3) := g_180 bX6_isWord rfl
theorem dX6_isWord_12 : decode cX6_isWord 12 = .ok (.aload_n 0, 1) := g_42 bX6_isWord rfl
theorem dX6_isWord_13 : decode cX6_isWord 13 = .ok (.getfield 147, 3) := g_180 bX6_isWord rfl
theorem dX6_isWord_16 : decode cX6_isWord 16 = .ok (.isub, 1) := g_100 bX6_isWord rfl
theorem dX6_isWord_17 : decode cX6_isWord 17 = .ok (.aload_n 1, 1) := g_43 bX6_isWord rfl
theorem dX6_isWord_18 : decode cX6_isWord 18 = .ok (.invokevirtual 170, 3) := g_182 bX6_isWord rfl
theorem dX6_isWord_21 : decode cX6_isWord 21 = .ok (.if_icmp .eq 5, 3) := g_159 5 bX6_isWord rfl rfl
theorem dX6_isWord_24 : decode cX6_isWord 24 = .ok (.iconst 0, 1) := g_3 bX6_isWord rfl
theorem dX6_isWord_25 : decode cX6_isWord 25 = .ok (.ireturn, 1) := g_172 bX6_isWord rfl
theorem dX6_isWord_26 : decode cX6_isWord 26 = .ok (.iconst 0, 1) := g_3 bX6_isWord rfl
theorem dX6_isWord_27 : decode cX6_isWord 27 = .ok (.istore_n 2, 1) := g_61 bX6_isWord rfl
theorem dX6_isWord_28 : decode cX6_isWord 28 = .ok (.iload_n 2, 1) := g_28 bX6_isWord rfl
theorem dX6_isWord_29 : decode cX6_isWord 29 = .ok (.aload_n 1, 1) := g_43 bX6_isWord rfl
theorem dX6_isWord_30 : decode cX6_isWord 30 = .ok (.invokevirtual 170, 3) := g_182 bX6_isWord rfl
theorem dX6_isWord_33 : decode cX6_isWord 33 = .ok (.if_icmp .ge 30, 3) := g_162 30 bX6_isWord rfl rfl
theorem dX6_isWord_36 : decode cX6_isWord 36 = .ok (.aload_n 0, 1) := g_42 bX6_isWord rfl
theorem dX6_isWord_37 : decode cX6_isWord 37 = .ok (.getfield 34, 3) := g_180 bX6_isWord rfl
theorem dX6_isWord_40 : decode cX6_isWord 40 = .ok (.aload_n 0, 1) := g_42 bX6_isWord rfl
theorem dX6_isWord_41 : decode cX6_isWord 41 = .ok (.getfield 147, 3) := g_180 bX6_isWord rfl
theorem dX6_isWord_44 : decode cX6_isWord 44 = .ok (.iload_n 2, 1) := g_28 bX6_isWord rfl
theorem dX6_isWord_45 : decode cX6_isWord 45 = .ok (.iadd, 1) := g_96 bX6_isWord rfl
theorem dX6_isWord_46 : decode cX6_isWord 46 = .ok (.iaload, 1) := g_46 bX6_isWord rfl
theorem dX6_isWord_47 : decode cX6_isWord 47 = .ok (.aload_n 1, 1) := g_43 bX6_isWord rfl
theorem dX6_isWord_48 : decode cX6_isWord 48 = .ok (.iload_n 2, 1) := g_28 bX6_isWord rfl
theorem dX6_isWord_49 : decode cX6_isWord 49 = .ok (.invokevirtual 175, 3) := g_182 bX6_isWord rfl
theorem dX6_isWord_52 : decode cX6_isWord 52 = .ok (.if_icmp .eq 5, 3) := g_159 5 bX6_isWord rfl rfl
theorem dX6_isWord_55 : decode cX6_isWord 55 = .ok (.iconst 0, 1) := g_3 bX6_isWord rfl
theorem dX6_isWord_56 : decode cX6_isWord 56 = .ok (.ireturn, 1) := g_172 bX6_isWord rfl
theorem dX6_isWord_57 : decode cX6_isWord 57 = .ok (.iinc 2 1, 3) := g_132 1 bX6_isWord rfl rfl
theorem dX6_isWord_60 : decode cX6_isWord 60 = .ok (.goto (-32), 3) := g_167 65504 bX6_isWord rfl rfl
theorem dX6_isWord_63 : decode cX6_isWord 63 = .ok (.iconst 1, 1) := g_4 bX6_isWord rfl
theorem dX6_isWord_64 : decode cX6_isWord 64 = .ok (.ireturn, 1) := g_172 bX6_isWord rfl
theorem dX6_look_0 : decode cX6_look 0 = .ok (.aload_n 0, 1) := g_42 bX6_look rfl
theorem dX6_look_1 : decode cX6_look 1 = .ok (.getfield 144, 3) := g_180 bX6_look rfl
theorem dX6_look_4 : decode cX6_look 4 = .ok (.aload_n 0, 1) := g_42 bX6_look rfl
theorem dX6_look_5 : decode cX6_look 5 = .ok (.getfield 141, 3) := g_180 bX6_look rfl
theorem dX6_look_8 : decode cX6_look 8 = .ok (.if_icmp .ge 30, 3) := g_162 30 bX6_look rfl rfl
theorem dX6_look_11 : decode cX6_look 11 = .ok (.aload_n 0, 1) := g_42 bX6_look rfl
theorem dX6_look_12 : decode cX6_look 12 = .ok (.getfield 34, 3) := g_180 bX6_look rfl
theorem dX6_look_15 : decode cX6_look 15 = .ok (.aload_n 0, 1) := g_42 bX6_look rfl
theorem dX6_look_16 : decode cX6_look 16 = .ok (.getfield 144, 3) := g_180 bX6_look rfl
theorem dX6_look_19 : decode cX6_look 19 = .ok (.iaload, 1) := g_46 bX6_look rfl
theorem dX6_look_20 : decode cX6_look 20 = .ok (.bipush 32, 2) := g_16 32 bX6_look rfl rfl
theorem dX6_look_22 : decode cX6_look 22 = .ok (.if_icmp .ne 16, 3) := g_160 16 bX6_look rfl rfl
theorem dX6_look_25 : decode cX6_look 25 = .ok (.aload_n 0, 1) := g_42 bX6_look rfl
theorem dX6_look_26 : decode cX6_look 26 = .ok (.dup, 1) := g_89 bX6_look rfl
theorem dX6_look_27 : decode cX6_look 27 = .ok (.getfield 144, 3) := g_180 bX6_look rfl
theorem dX6_look_30 : decode cX6_look 30 = .ok (.iconst 1, 1) := g_4 bX6_look rfl
theorem dX6_look_31 : decode cX6_look 31 = .ok (.iadd, 1) := g_96 bX6_look rfl
theorem dX6_look_32 : decode cX6_look 32 = .ok (.putfield 144, 3) := g_181 bX6_look rfl
theorem dX6_look_35 : decode cX6_look 35 = .ok (.goto (-35), 3) := g_167 65501 bX6_look rfl rfl
theorem dX6_look_38 : decode cX6_look 38 = .ok (.aload_n 0, 1) := g_42 bX6_look rfl
theorem dX6_look_39 : decode cX6_look 39 = .ok (.aload_n 0, 1) := g_42 bX6_look rfl
theorem dX6_look_40 : decode cX6_look 40 = .ok (.getfield 144, 3) := g_180 bX6_look rfl
theorem dX6_look_43 : decode cX6_look 43 = .ok (.putfield 147, 3) := g_181 bX6_look rfl
theorem dX6_look_46 : decode cX6_look 46 = .ok (.aload_n 0, 1) := g_42 bX6_look rfl
theorem dX6_look_47 : decode cX6_look 47 = .ok (.lconst 0, 1) := g_9 bX6_look rfl
theorem dX6_look_48 : decode cX6_look 48 = .ok (.putfield 150, 3) := g_181 bX6_look rfl
theorem dX6_look_51 : decode cX6_look 51 = .ok (.aload_n 0, 1) := g_42 bX6_look rfl
theorem dX6_look_52 : decode cX6_look 52 = .ok (.getfield 144, 3) := g_180 bX6_look rfl
theorem dX6_look_55 : decode cX6_look 55 = .ok (.aload_n 0, 1) := g_42 bX6_look rfl
theorem dX6_look_56 : decode cX6_look 56 = .ok (.getfield 141, 3) := g_180 bX6_look rfl
theorem dX6_look_59 : decode cX6_look 59 = .ok (.if_icmp .ne 11, 3) := g_160 11 bX6_look rfl rfl
theorem dX6_look_62 : decode cX6_look 62 = .ok (.aload_n 0, 1) := g_42 bX6_look rfl
theorem dX6_look_63 : decode cX6_look 63 = .ok (.iconst 0, 1) := g_3 bX6_look rfl
theorem dX6_look_64 : decode cX6_look 64 = .ok (.putfield 154, 3) := g_181 bX6_look rfl
theorem dX6_look_67 : decode cX6_look 67 = .ok (.goto 200, 3) := g_167 200 bX6_look rfl rfl
theorem dX6_look_70 : decode cX6_look 70 = .ok (.aload_n 0, 1) := g_42 bX6_look rfl
theorem dX6_look_71 : decode cX6_look 71 = .ok (.getfield 34, 3) := g_180 bX6_look rfl
theorem dX6_look_74 : decode cX6_look 74 = .ok (.aload_n 0, 1) := g_42 bX6_look rfl
theorem dX6_look_75 : decode cX6_look 75 = .ok (.getfield 144, 3) := g_180 bX6_look rfl
theorem dX6_look_78 : decode cX6_look 78 = .ok (.iaload, 1) := g_46 bX6_look rfl
theorem dX6_look_79 : decode cX6_look 79 = .ok (.invokestatic 157, 3) := g_184 bX6_look rfl
theorem dX6_look_82 : decode cX6_look 82 = .ok (.ifCond .eq 47, 3) := g_153 47 bX6_look rfl rfl
theorem dX6_look_85 : decode cX6_look 85 = .ok (.aload_n 0, 1) := g_42 bX6_look rfl
theorem dX6_look_86 : decode cX6_look 86 = .ok (.iconst 1, 1) := g_4 bX6_look rfl
theorem dX6_look_87 : decode cX6_look 87 = .ok (.putfield 154, 3) := g_181 bX6_look rfl
theorem dX6_look_90 : decode cX6_look 90 = .ok (.aload_n 0, 1) := g_42 bX6_look rfl
theorem dX6_look_91 : decode cX6_look 91 = .ok (.getfield 144, 3) := g_180 bX6_look rfl
theorem dX6_look_94 : decode cX6_look 94 = .ok (.aload_n 0, 1) := g_42 bX6_look rfl
theorem dX6_look_95 : decode cX6_look 95 = .ok (.getfield 141, 3) := g_180 bX6_look rfl
theorem dX6_look_98 : decode cX6_look 98 = .ok (.if_icmp .ge 169, 3) := g_162 169 bX6_look rfl rfl
theorem dX6_look_101 : decode cX6_look 101 = .ok (.aload_n 0, 1) := g_42 bX6_look rfl
theorem dX6_look_102 : decode cX6_look 102 = .ok (.getfield 34, 3) := g_180 bX6_look rfl
theorem dX6_look_105 : decode cX6_look 105 = .ok (.aload_n 0, 1) := g_42 bX6_look rfl
theorem dX6_look_106 : decode cX6_look 106 = .ok (.getfield 144, 3) := g_180 bX6_look rfl
theorem dX6_look_109 : decode cX6_look 109 = .ok (.iaload, 1) := g_46 bX6_look rfl
theorem dX6_look_110 : decode cX6_look 110 = .ok (.invokestatic 157, 3) := g_184 bX6_look rfl
theorem dX6_look_113 : decode cX6_look 113 = .ok (.ifCond .eq 154, 3) := g_153 154 bX6_look rfl rfl
theorem dX6_look_116 : decode cX6_look 116 = .ok (.aload_n 0, 1) := g_42 bX6_look rfl
theorem dX6_look_117 : decode cX6_look 117 = .ok (.dup, 1) := g_89 bX6_look rfl
theorem dX6_look_118 : decode cX6_look 118 = .ok (.getfield 144, 3) := g_180 bX6_look rfl
theorem dX6_look_121 : decode cX6_look 121 = .ok (.iconst 1, 1) := g_4 bX6_look rfl
theorem dX6_look_122 : decode cX6_look 122 = .ok (.iadd, 1) := g_96 bX6_look rfl
theorem dX6_look_123 : decode cX6_look 123 = .ok (.putfield 144, 3) := g_181 bX6_look rfl
theorem dX6_look_126 : decode cX6_look 126 = .ok (.goto (-36), 3) := g_167 65500 bX6_look rfl rfl
theorem dX6_look_129 : decode cX6_look 129 = .ok (.aload_n 0, 1) := g_42 bX6_look rfl
theorem dX6_look_130 : decode cX6_look 130 = .ok (.getfield 34, 3) := g_180 bX6_look rfl
theorem dX6_look_133 : decode cX6_look 133 = .ok (.aload_n 0, 1) := g_42 bX6_look rfl
theorem dX6_look_134 : decode cX6_look 134 = .ok (.getfield 144, 3) := g_180 bX6_look rfl
theorem dX6_look_137 : decode cX6_look 137 = .ok (.iaload, 1) := g_46 bX6_look rfl
theorem dX6_look_138 : decode cX6_look 138 = .ok (.invokestatic 160, 3) := g_184 bX6_look rfl
theorem dX6_look_141 : decode cX6_look 141 = .ok (.ifCond .eq 93, 3) := g_153 93 bX6_look rfl rfl
theorem dX6_look_144 : decode cX6_look 144 = .ok (.aload_n 0, 1) := g_42 bX6_look rfl
theorem dX6_look_145 : decode cX6_look 145 = .ok (.iconst 2, 1) := g_5 bX6_look rfl
theorem dX6_look_146 : decode cX6_look 146 = .ok (.putfield 154, 3) := g_181 bX6_look rfl
theorem dX6_look_149 : decode cX6_look 149 = .ok (.aload_n 0, 1) := g_42 bX6_look rfl
theorem dX6_look_150 : decode cX6_look 150 = .ok (.getfield 144, 3) := g_180 bX6_look rfl
theorem dX6_look_153 : decode cX6_look 153 = .ok (.aload_n 0, 1) := g_42 bX6_look rfl
theorem dX6_look_154 : decode cX6_look 154 = .ok (.getfield 141, 3) := g_180 bX6_look rfl
theorem dX6_look_157 : decode cX6_look 157 = .ok (.if_icmp .ge 110, 3) := g_162 110 bX6_look rfl rfl
theorem dX6_look_160 : decode cX6_look 160 = .ok (.aload_n 0, 1) := g_42 bX6_look rfl
theorem dX6_look_161 : decode cX6_look 161 = .ok (.getfield 34, 3) := g_180 bX6_look rfl
theorem dX6_look_164 : decode cX6_look 164 = .ok (.aload_n 0, 1) := g_42 bX6_look rfl
theorem dX6_look_165 : decode cX6_look 165 = .ok (.getfield 144, 3) := g_180 bX6_look rfl
theorem dX6_look_168 : decode cX6_look 168 = .ok (.iaload, 1) := g_46 bX6_look rfl
theorem dX6_look_169 : decode cX6_look 169 = .ok (.invokestatic 160, 3) := g_184 bX6_look rfl
theorem dX6_look_172 : decode cX6_look 172 = .ok (.ifCond .eq 95, 3) := g_153 95 bX6_look rfl rfl
theorem dX6_look_175 : decode cX6_look 175 = .ok (.aload_n 0, 1) := g_42 bX6_look rfl
theorem dX6_look_176 : decode cX6_look 176 = .ok (.aload_n 0, 1) := g_42 bX6_look rfl
theorem dX6_look_177 : decode cX6_look 177 = .ok (.getfield 144, 3) := g_180 bX6_look rfl
theorem dX6_look_180 : decode cX6_look 180 = .ok (.aload_n 0, 1) := g_42 bX6_look rfl
theorem dX6_look_181 : decode cX6_look 181 = .ok (.getfield 147, 3) := g_180 bX6_look rfl
theorem dX6_look_184 : decode cX6_look 184 = .ok (.isub, 1) := g_100 bX6_look rfl
theorem dX6_look_185 : decode cX6_look 185 = .ok (.iconst 3, 1) := g_6 bX6_look rfl
theorem dX6_look_186 : decode cX6_look 186 = .ok (.if_icmp .ge 29, 3) := g_162 29 bX6_look rfl rfl
theorem dX6_look_189 : decode cX6_look 189 = .ok (.aload_n 0, 1) := g_42 bX6_look rfl
theorem dX6_look_190 : decode cX6_look 190 = .ok (.getfield 150, 3) := g_180 bX6_look rfl
theorem dX6_look_193 : decode cX6_look 193 = .ok (.ldc2_w 132, 3) := g_20 bX6_look rfl
theorem dX6_look_196 : decode cX6_look 196 = .ok (.lmul, 1) := g_105 bX6_look rfl
theorem dX6_look_197 : decode cX6_look 197 = .ok (.aload_n 0, 1) := g_42 bX6_look rfl
theorem dX6_look_198 : decode cX6_look 198 = .ok (.getfield 34, 3) := g_180 bX6_look rfl
theorem dX6_look_201 : decode cX6_look 201 = .ok (.aload_n 0, 1) := g_42 bX6_look rfl
theorem dX6_look_202 : decode cX6_look 202 = .ok (.getfield 144, 3) := g_180 bX6_look rfl
theorem dX6_look_205 : decode cX6_look 205 = .ok (.iaload, 1) := g_46 bX6_look rfl
theorem dX6_look_206 : decode cX6_look 206 = .ok (.i2l, 1) := g_133 bX6_look rfl
theorem dX6_look_207 : decode cX6_look 207 = .ok (.ladd, 1) := g_97 bX6_look rfl
theorem dX6_look_208 : decode cX6_look 208 = .ok (.ldc2_w 163, 3) := g_20 bX6_look rfl
theorem dX6_look_211 : decode cX6_look 211 = .ok (.lsub, 1) := g_101 bX6_look rfl
theorem dX6_look_212 : decode cX6_look 212 = .ok (.goto 6, 3) := g_167 6 bX6_look rfl rfl
theorem dX6_look_215 : decode cX6_look 215 = .ok (.ldc2_w 165, 3) := g_20 bX6_look rfl
theorem dX6_look_218 : decode cX6_look 218 = .ok (.putfield 150, 3) := g_181 bX6_look rfl
theorem dX6_look_221 : decode cX6_look 221 = .ok (.aload_n 0, 1) := g_42 bX6_look rfl
theorem dX6_look_222 : decode cX6_look 222 = .ok (.dup, 1) := g_89 bX6_look rfl
theorem dX6_look_223 : decode cX6_look 223 = .ok (.getfield 144, 3) := g_180 bX6_look rfl
theorem dX6_look_226 : decode cX6_look 226 = .ok (.iconst 1, 1) := g_4 bX6_look rfl
theorem dX6_look_227 : decode cX6_look 227 = .ok (.iadd, 1) := g_96 bX6_look rfl
theorem dX6_look_228 : decode cX6_look 228 = .ok (.putfield 144, 3) := g_181 bX6_look rfl
theorem dX6_look_231 : decode cX6_look 231 = .ok (.goto (-82), 3) := g_167 65454 bX6_look rfl rfl
theorem dX6_look_234 : decode cX6_look 234 = .ok (.aload_n 0, 1) := g_42 bX6_look rfl
theorem dX6_look_235 : decode cX6_look 235 = .ok (.aload_n 0, 1) := g_42 bX6_look rfl
theorem dX6_look_236 : decode cX6_look 236 = .ok (.getfield 34, 3) := g_180 bX6_look rfl
theorem dX6_look_239 : decode cX6_look 239 = .ok (.aload_n 0, 1) := g_42 bX6_look rfl
theorem dX6_look_240 : decode cX6_look 240 = .ok (.getfield 144, 3) := g_180 bX6_look rfl
theorem dX6_look_243 : decode cX6_look 243 = .ok (.iaload, 1) := g_46 bX6_look rfl
theorem dX6_look_244 : decode cX6_look 244 = .ok (.bipush 59, 2) := g_16 59 bX6_look rfl rfl
theorem dX6_look_246 : decode cX6_look 246 = .ok (.if_icmp .ne 7, 3) := g_160 7 bX6_look rfl rfl
theorem dX6_look_249 : decode cX6_look 249 = .ok (.iconst 3, 1) := g_6 bX6_look rfl
theorem dX6_look_250 : decode cX6_look 250 = .ok (.goto 4, 3) := g_167 4 bX6_look rfl rfl
theorem dX6_look_253 : decode cX6_look 253 = .ok (.iconst 4, 1) := g_7 bX6_look rfl
theorem dX6_look_254 : decode cX6_look 254 = .ok (.putfield 154, 3) := g_181 bX6_look rfl
theorem dX6_look_257 : decode cX6_look 257 = .ok (.aload_n 0, 1) := g_42 bX6_look rfl
theorem dX6_look_258 : decode cX6_look 258 = .ok (.dup, 1) := g_89 bX6_look rfl
theorem dX6_look_259 : decode cX6_look 259 = .ok (.getfield 144, 3) := g_180 bX6_look rfl
theorem dX6_look_262 : decode cX6_look 262 = .ok (.iconst 1, 1) := g_4 bX6_look rfl
theorem dX6_look_263 : decode cX6_look 263 = .ok (.iadd, 1) := g_96 bX6_look rfl
theorem dX6_look_264 : decode cX6_look 264 = .ok (.putfield 144, 3) := g_181 bX6_look rfl
theorem dX6_look_267 : decode cX6_look 267 = .ok (.return_, 1) := g_177 bX6_look rfl
theorem dX6_wrong_0 : decode cX6_wrong 0 = .ok (.aload_n 0, 1) := g_42 bX6_wrong rfl
theorem dX6_wrong_1 : decode cX6_wrong 1 = .ok (.aload_n 0, 1) := g_42 bX6_wrong rfl
theorem dX6_wrong_2 : decode cX6_wrong 2 = .ok (.getfield 147, 3) := g_180 bX6_wrong rfl
theorem dX6_wrong_5 : decode cX6_wrong 5 = .ok (.putfield 167, 3) := g_181 bX6_wrong rfl
theorem dX6_wrong_8 : decode cX6_wrong 8 = .ok (.iconst 0, 1) := g_3 bX6_wrong rfl
theorem dX6_wrong_9 : decode cX6_wrong 9 = .ok (.ireturn, 1) := g_172 bX6_wrong rfl
theorem dX6_number_0 : decode cX6_number 0 = .ok (.aload_n 0, 1) := g_42 bX6_number rfl
theorem dX6_number_1 : decode cX6_number 1 = .ok (.getfield 154, 3) := g_180 bX6_number rfl
theorem dX6_number_4 : decode cX6_number 4 = .ok (.iconst 2, 1) := g_5 bX6_number rfl
theorem dX6_number_5 : decode cX6_number 5 = .ok (.if_icmp .ne 18, 3) := g_160 18 bX6_number rfl rfl
theorem dX6_number_8 : decode cX6_number 8 = .ok (.aload_n 0, 1) := g_42 bX6_number rfl
theorem dX6_number_9 : decode cX6_number 9 = .ok (.getfield 150, 3) := g_180 bX6_number rfl
theorem dX6_number_12 : decode cX6_number 12 = .ok (.iload_n 3, 1) := g_29 bX6_number rfl
theorem dX6_number_13 : decode cX6_number 13 = .ok (.i2l, 1) := g_133 bX6_number rfl
theorem dX6_number_14 : decode cX6_number 14 = .ok (.iload 4, 2) := g_21 bX6_number rfl
theorem dX6_number_16 : decode cX6_number 16 = .ok (.i2l, 1) := g_133 bX6_number rfl
theorem dX6_number_17 : decode cX6_number 17 = .ok (.invokestatic 74, 3) := g_184 bX6_number rfl
theorem dX6_number_20 : decode cX6_number 20 = .ok (.ifCond .ne 8, 3) := g_154 8 bX6_number rfl rfl
theorem dX6_number_23 : decode cX6_number 23 = .ok (.aload_n 0, 1) := g_42 bX6_number rfl
theorem dX6_number_24 : decode cX6_number 24 = .ok (.invokevirtual 179, 3) := g_182 bX6_number rfl
theorem dX6_number_27 : decode cX6_number 27 = .ok (.ireturn, 1) := g_172 bX6_number rfl
theorem dX6_number_28 : decode cX6_number 28 = .ok (.aload_n 1, 1) := g_43 bX6_number rfl
theorem dX6_number_29 : decode cX6_number 29 = .ok (.iload_n 2, 1) := g_28 bX6_number rfl
theorem dX6_number_30 : decode cX6_number 30 = .ok (.aload_n 0, 1) := g_42 bX6_number rfl
theorem dX6_number_31 : decode cX6_number 31 = .ok (.getfield 150, 3) := g_180 bX6_number rfl
theorem dX6_number_34 : decode cX6_number 34 = .ok (.l2i, 1) := g_136 bX6_number rfl
theorem dX6_number_35 : decode cX6_number 35 = .ok (.iastore, 1) := g_79 bX6_number rfl
theorem dX6_number_36 : decode cX6_number 36 = .ok (.aload_n 0, 1) := g_42 bX6_number rfl
theorem dX6_number_37 : decode cX6_number 37 = .ok (.invokevirtual 183, 3) := g_182 bX6_number rfl
theorem dX6_number_40 : decode cX6_number 40 = .ok (.iconst 1, 1) := g_4 bX6_number rfl
theorem dX6_number_41 : decode cX6_number 41 = .ok (.ireturn, 1) := g_172 bX6_number rfl
theorem dX6_perhaps_0 : decode cX6_perhaps 0 = .ok (.aload_n 0, 1) := g_42 bX6_perhaps rfl
theorem dX6_perhaps_1 : decode cX6_perhaps 1 = .ok (.aload_n 1, 1) := g_43 bX6_perhaps rfl
theorem dX6_perhaps_2 : decode cX6_perhaps 2 = .ok (.invokevirtual 186, 3) := g_182 bX6_perhaps rfl
theorem dX6_perhaps_5 : decode cX6_perhaps 5 = .ok (.ifCond .eq 17, 3) := g_153 17 bX6_perhaps rfl rfl
theorem dX6_perhaps_8 : decode cX6_perhaps 8 = .ok (.aload_n 0, 1) := g_42 bX6_perhaps rfl
theorem dX6_perhaps_9 : decode cX6_perhaps 9 = .ok (.aload_n 1, 1) := g_43 bX6_perhaps rfl
theorem dX6_perhaps_10 : decode cX6_perhaps 10 = .ok (.aload_n 2, 1) := g_44 bX6_perhaps rfl
theorem dX6_perhaps_11 : decode cX6_perhaps 11 = .ok (.iload_n 3, 1) := g_29 bX6_perhaps rfl
theorem dX6_perhaps_12 : decode cX6_perhaps 12 = .ok (.iload 4, 2) := g_21 bX6_perhaps rfl
theorem dX6_perhaps_14 : decode cX6_perhaps 14 = .ok (.iload 5, 2) := g_21 bX6_perhaps rfl
theorem dX6_perhaps_16 : decode cX6_perhaps 16 = .ok (.invokevirtual 194, 3) := g_182 bX6_perhaps rfl
theorem dX6_perhaps_19 : decode cX6_perhaps 19 = .ok (.ifCond .eq 7, 3) := g_153 7 bX6_perhaps rfl rfl
theorem dX6_perhaps_22 : decode cX6_perhaps 22 = .ok (.iconst 1, 1) := g_4 bX6_perhaps rfl
theorem dX6_perhaps_23 : decode cX6_perhaps 23 = .ok (.goto 4, 3) := g_167 4 bX6_perhaps rfl rfl
theorem dX6_perhaps_26 : decode cX6_perhaps 26 = .ok (.iconst 0, 1) := g_3 bX6_perhaps rfl
theorem dX6_perhaps_27 : decode cX6_perhaps 27 = .ok (.ireturn, 1) := g_172 bX6_perhaps rfl
theorem dX6_tells_0 : decode cX6_tells 0 = .ok (.aload_n 0, 1) := g_42 bX6_tells rfl
theorem dX6_tells_1 : decode cX6_tells 1 = .ok (.aload_n 1, 1) := g_43 bX6_tells rfl
theorem dX6_tells_2 : decode cX6_tells 2 = .ok (.invokevirtual 186, 3) := g_182 bX6_tells rfl
theorem dX6_tells_5 : decode cX6_tells 5 = .ok (.ifCond .ne 8, 3) := g_154 8 bX6_tells rfl rfl
theorem dX6_tells_8 : decode cX6_tells 8 = .ok (.aload_n 0, 1) := g_42 bX6_tells rfl
theorem dX6_tells_9 : decode cX6_tells 9 = .ok (.invokevirtual 179, 3) := g_182 bX6_tells rfl
theorem dX6_tells_12 : decode cX6_tells 12 = .ok (.ireturn, 1) := g_172 bX6_tells rfl
theorem dX6_tells_13 : decode cX6_tells 13 = .ok (.aload_n 0, 1) := g_42 bX6_tells rfl
theorem dX6_tells_14 : decode cX6_tells 14 = .ok (.invokevirtual 183, 3) := g_182 bX6_tells rfl
theorem dX6_tells_17 : decode cX6_tells 17 = .ok (.aload_n 0, 1) := g_42 bX6_tells rfl
theorem dX6_tells_18 : decode cX6_tells 18 = .ok (.aload_n 2, 1) := g_44 bX6_tells rfl
theorem dX6_tells_19 : decode cX6_tells 19 = .ok (.iload_n 3, 1) := g_29 bX6_tells rfl
theorem dX6_tells_20 : decode cX6_tells 20 = .ok (.iload 4, 2) := g_21 bX6_tells rfl
theorem dX6_tells_22 : decode cX6_tells 22 = .ok (.iload 5, 2) := g_21 bX6_tells rfl
theorem dX6_tells_24 : decode cX6_tells 24 = .ok (.invokevirtual 190, 3) := g_182 bX6_tells rfl
theorem dX6_tells_27 : decode cX6_tells 27 = .ok (.ireturn, 1) := g_172 bX6_tells rfl
theorem dX6_readAll_0 : decode cX6_readAll 0 = .ok (.aload_n 0, 1) := g_42 bX6_readAll rfl
theorem dX6_readAll_1 : decode cX6_readAll 1 = .ok (.iconst 1, 1) := g_4 bX6_readAll rfl
theorem dX6_readAll_2 : decode cX6_readAll 2 = .ok (.putfield 216, 3) := g_181 bX6_readAll rfl
theorem dX6_readAll_5 : decode cX6_readAll 5 = .ok (.aload_n 0, 1) := g_42 bX6_readAll rfl
theorem dX6_readAll_6 : decode cX6_readAll 6 = .ok (.iconst 0, 1) := g_3 bX6_readAll rfl
theorem dX6_readAll_7 : decode cX6_readAll 7 = .ok (.putfield 144, 3) := g_181 bX6_readAll rfl
theorem dX6_readAll_10 : decode cX6_readAll 10 = .ok (.aload_n 0, 1) := g_42 bX6_readAll rfl
theorem dX6_readAll_11 : decode cX6_readAll 11 = .ok (.invokevirtual 183, 3) := g_182 bX6_readAll rfl
theorem dX6_readAll_14 : decode cX6_readAll 14 = .ok (.aload_n 0, 1) := g_42 bX6_readAll rfl
theorem dX6_readAll_15 : decode cX6_readAll 15 = .ok (.invokevirtual 219, 3) := g_182 bX6_readAll rfl
theorem dX6_readAll_18 : decode cX6_readAll 18 = .ok (.ifCond .ne 5, 3) := g_154 5 bX6_readAll rfl rfl
theorem dX6_readAll_21 : decode cX6_readAll 21 = .ok (.iconst 0, 1) := g_3 bX6_readAll rfl
theorem dX6_readAll_22 : decode cX6_readAll 22 = .ok (.ireturn, 1) := g_172 bX6_readAll rfl
theorem dX6_readAll_23 : decode cX6_readAll 23 = .ok (.aload_n 0, 1) := g_42 bX6_readAll rfl
theorem dX6_readAll_24 : decode cX6_readAll 24 = .ok (.getfield 154, 3) := g_180 bX6_readAll rfl
theorem dX6_readAll_27 : decode cX6_readAll 27 = .ok (.ifCond .eq 42, 3) := g_153 42 bX6_readAll rfl rfl
theorem dX6_readAll_30 : decode cX6_readAll 30 = .ok (.aload_n 0, 1) := g_42 bX6_readAll rfl
theorem dX6_readAll_31 : decode cX6_readAll 31 = .ok (.getfield 154, 3) := g_180 bX6_readAll rfl
theorem dX6_readAll_34 : decode cX6_readAll 34 = .ok (.iconst 3, 1) := g_6 bX6_readAll rfl
theorem dX6_readAll_35 : decode cX6_readAll 35 = .ok (.if_icmp .eq 8, 3) := g_159 8 bX6_readAll rfl rfl
theorem dX6_readAll_38 : decode cX6_readAll 38 = .ok (.aload_n 0, 1) := g_42 bX6_readAll rfl
theorem dX6_readAll_39 : decode cX6_readAll 39 = .ok (.invokevirtual 179, 3) := g_182 bX6_readAll rfl
theorem dX6_readAll_42 : decode cX6_readAll 42 = .ok (.ireturn, 1) := g_172 bX6_readAll rfl
theorem dX6_readAll_43 : decode cX6_readAll 43 = .ok (.aload_n 0, 1) := g_42 bX6_readAll rfl
theorem dX6_readAll_44 : decode cX6_readAll 44 = .ok (.invokevirtual 183, 3) := g_182 bX6_readAll rfl
theorem dX6_readAll_47 : decode cX6_readAll 47 = .ok (.aload_n 0, 1) := g_42 bX6_readAll rfl
theorem dX6_readAll_48 : decode cX6_readAll 48 = .ok (.invokevirtual 219, 3) := g_182 bX6_readAll rfl
theorem dX6_readAll_51 : decode cX6_readAll 51 = .ok (.ifCond .ne 5, 3) := g_154 5 bX6_readAll rfl rfl
theorem dX6_readAll_54 : decode cX6_readAll 54 = .ok (.iconst 0, 1) := g_3 bX6_readAll rfl
theorem dX6_readAll_55 : decode cX6_readAll 55 = .ok (.ireturn, 1) := g_172 bX6_readAll rfl
theorem dX6_readAll_56 : decode cX6_readAll 56 = .ok (.aload_n 0, 1) := g_42 bX6_readAll rfl
theorem dX6_readAll_57 : decode cX6_readAll 57 = .ok (.dup, 1) := g_89 bX6_readAll rfl
theorem dX6_readAll_58 : decode cX6_readAll 58 = .ok (.getfield 216, 3) := g_180 bX6_readAll rfl
theorem dX6_readAll_61 : decode cX6_readAll 61 = .ok (.iconst 1, 1) := g_4 bX6_readAll rfl
theorem dX6_readAll_62 : decode cX6_readAll 62 = .ok (.iadd, 1) := g_96 bX6_readAll rfl
theorem dX6_readAll_63 : decode cX6_readAll 63 = .ok (.putfield 216, 3) := g_181 bX6_readAll rfl
theorem dX6_readAll_66 : decode cX6_readAll 66 = .ok (.goto (-43), 3) := g_167 65493 bX6_readAll rfl rfl
theorem dX6_readAll_69 : decode cX6_readAll 69 = .ok (.iconst 1, 1) := g_4 bX6_readAll rfl
theorem dX6_readAll_70 : decode cX6_readAll 70 = .ok (.ireturn, 1) := g_172 bX6_readAll rfl
theorem dX6_statement_0 : decode cX6_statement 0 = .ok (.aload_n 0, 1) := g_42 bX6_statement rfl
theorem dX6_statement_1 : decode cX6_statement 1 = .ok (.ldc 198, 2) := g_18 bX6_statement rfl
theorem dX6_statement_3 : decode cX6_statement 3 = .ok (.invokevirtual 186, 3) := g_182 bX6_statement rfl
theorem dX6_statement_6 : decode cX6_statement 6 = .ok (.ifCond .eq 76, 3) := g_153 76 bX6_statement rfl rfl
theorem dX6_statement_9 : decode cX6_statement 9 = .ok (.aload_n 0, 1) := g_42 bX6_statement rfl
theorem dX6_statement_10 : decode cX6_statement 10 = .ok (.getfield 71, 3) := g_180 bX6_statement rfl
theorem dX6_statement_13 : decode cX6_statement 13 = .ok (.bipush 8, 2) := g_16 8 bX6_statement rfl rfl
theorem dX6_statement_15 : decode cX6_statement 15 = .ok (.if_icmp .ge 67, 3) := g_162 67 bX6_statement rfl rfl
theorem dX6_statement_18 : decode cX6_statement 18 = .ok (.aload_n 0, 1) := g_42 bX6_statement rfl
theorem dX6_statement_19 : decode cX6_statement 19 = .ok (.iconst 0, 1) := g_3 bX6_statement rfl
theorem dX6_statement_20 : decode cX6_statement 20 = .ok (.invokevirtual 126, 3) := g_182 bX6_statement rfl
theorem dX6_statement_23 : decode cX6_statement 23 = .ok (.aload_n 0, 1) := g_42 bX6_statement rfl
theorem dX6_statement_24 : decode cX6_statement 24 = .ok (.ldc 198, 2) := g_18 bX6_statement rfl
theorem dX6_statement_26 : decode cX6_statement 26 = .ok (.aload_n 0, 1) := g_42 bX6_statement rfl
theorem dX6_statement_27 : decode cX6_statement 27 = .ok (.getfield 42, 3) := g_180 bX6_statement rfl
theorem dX6_statement_30 : decode cX6_statement 30 = .ok (.aload_n 0, 1) := g_42 bX6_statement rfl
theorem dX6_statement_31 : decode cX6_statement 31 = .ok (.getfield 71, 3) := g_180 bX6_statement rfl
theorem dX6_statement_34 : decode cX6_statement 34 = .ok (.aaload, 1) := g_50 bX6_statement rfl
theorem dX6_statement_35 : decode cX6_statement 35 = .ok (.iconst 0, 1) := g_3 bX6_statement rfl
theorem dX6_statement_36 : decode cX6_statement 36 = .ok (.iconst 1, 1) := g_4 bX6_statement rfl
theorem dX6_statement_37 : decode cX6_statement 37 = .ok (.bipush 99, 2) := g_16 99 bX6_statement rfl rfl
theorem dX6_statement_39 : decode cX6_statement 39 = .ok (.invokevirtual 194, 3) := g_182 bX6_statement rfl
theorem dX6_statement_42 : decode cX6_statement 42 = .ok (.ifCond .eq 26, 3) := g_153 26 bX6_statement rfl rfl
theorem dX6_statement_45 : decode cX6_statement 45 = .ok (.aload_n 0, 1) := g_42 bX6_statement rfl
theorem dX6_statement_46 : decode cX6_statement 46 = .ok (.ldc 199, 2) := g_18 bX6_statement rfl
theorem dX6_statement_48 : decode cX6_statement 48 = .ok (.aload_n 0, 1) := g_42 bX6_statement rfl
theorem dX6_statement_49 : decode cX6_statement 49 = .ok (.getfield 42, 3) := g_180 bX6_statement rfl
theorem dX6_statement_52 : decode cX6_statement 52 = .ok (.aload_n 0, 1) := g_42 bX6_statement rfl
theorem dX6_statement_53 : decode cX6_statement 53 = .ok (.getfield 71, 3) := g_180 bX6_statement rfl
theorem dX6_statement_56 : decode cX6_statement 56 = .ok (.aaload, 1) := g_50 bX6_statement rfl
theorem dX6_statement_57 : decode cX6_statement 57 = .ok (.iconst 2, 1) := g_5 bX6_statement rfl
theorem dX6_statement_58 : decode cX6_statement 58 = .ok (.iconst 0, 1) := g_3 bX6_statement rfl
theorem dX6_statement_59 : decode cX6_statement 59 = .ok (.sipush 1000, 3) := g_17 1000 bX6_statement rfl rfl
theorem dX6_statement_62 : decode cX6_statement 62 = .ok (.invokevirtual 201, 3) := g_182 bX6_statement rfl
theorem dX6_statement_65 : decode cX6_statement 65 = .ok (.ifCond .ne 5, 3) := g_154 5 bX6_statement rfl rfl
theorem dX6_statement_68 : decode cX6_statement 68 = .ok (.iconst 0, 1) := g_3 bX6_statement rfl
theorem dX6_statement_69 : decode cX6_statement 69 = .ok (.ireturn, 1) := g_172 bX6_statement rfl
theorem dX6_statement_70 : decode cX6_statement 70 = .ok (.aload_n 0, 1) := g_42 bX6_statement rfl
theorem dX6_statement_71 : decode cX6_statement 71 = .ok (.dup, 1) := g_89 bX6_statement rfl
theorem dX6_statement_72 : decode cX6_statement 72 = .ok (.getfield 71, 3) := g_180 bX6_statement rfl
theorem dX6_statement_75 : decode cX6_statement 75 = .ok (.iconst 1, 1) := g_4 bX6_statement rfl
theorem dX6_statement_76 : decode cX6_statement 76 = .ok (.iadd, 1) := g_96 bX6_statement rfl
theorem dX6_statement_77 : decode cX6_statement 77 = .ok (.putfield 71, 3) := g_181 bX6_statement rfl
theorem dX6_statement_80 : decode cX6_statement 80 = .ok (.iconst 1, 1) := g_4 bX6_statement rfl
theorem dX6_statement_81 : decode cX6_statement 81 = .ok (.ireturn, 1) := g_172 bX6_statement rfl
theorem dX6_statement_82 : decode cX6_statement 82 = .ok (.aload_n 0, 1) := g_42 bX6_statement rfl
theorem dX6_statement_83 : decode cX6_statement 83 = .ok (.ldc 204, 2) := g_18 bX6_statement rfl
theorem dX6_statement_85 : decode cX6_statement 85 = .ok (.invokevirtual 186, 3) := g_182 bX6_statement rfl
theorem dX6_statement_88 : decode cX6_statement 88 = .ok (.ifCond .eq 98, 3) := g_153 98 bX6_statement rfl rfl
theorem dX6_statement_91 : decode cX6_statement 91 = .ok (.aload_n 0, 1) := g_42 bX6_statement rfl
theorem dX6_statement_92 : decode cX6_statement 92 = .ok (.getfield 78, 3) := g_180 bX6_statement rfl
theorem dX6_statement_95 : decode cX6_statement 95 = .ok (.bipush 8, 2) := g_16 8 bX6_statement rfl rfl
theorem dX6_statement_97 : decode cX6_statement 97 = .ok (.if_icmp .ge 89, 3) := g_162 89 bX6_statement rfl rfl
theorem dX6_statement_100 : decode cX6_statement 100 = .ok (.aload_n 0, 1) := g_42 bX6_statement rfl
theorem dX6_statement_101 : decode cX6_statement 101 = .ok (.invokevirtual 134, 3) := g_182 bX6_statement rfl
theorem dX6_statement_104 : decode cX6_statement 104 = .ok (.aload_n 0, 1) := g_42 bX6_statement rfl
theorem dX6_statement_105 : decode cX6_statement 105 = .ok (.getfield 45, 3) := g_180 bX6_statement rfl
theorem dX6_statement_108 : decode cX6_statement 108 = .ok (.aload_n 0, 1) := g_42 bX6_statement rfl
theorem dX6_statement_109 : decode cX6_statement 109 = .ok (.getfield 78, 3) := g_180 bX6_statement rfl
theorem dX6_statement_112 : decode cX6_statement 112 = .ok (.aaload, 1) := g_50 bX6_statement rfl
theorem dX6_statement_113 : decode cX6_statement 113 = .ok (.astore_n 1, 1) := g_76 bX6_statement rfl
theorem dX6_statement_114 : decode cX6_statement 114 = .ok (.aload_n 0, 1) := g_42 bX6_statement rfl
theorem dX6_statement_115 : decode cX6_statement 115 = .ok (.ldc 204, 2) := g_18 bX6_statement rfl
theorem dX6_statement_117 : decode cX6_statement 117 = .ok (.aload_n 1, 1) := g_43 bX6_statement rfl
theorem dX6_statement_118 : decode cX6_statement 118 = .ok (.iconst 0, 1) := g_3 bX6_statement rfl
theorem dX6_statement_119 : decode cX6_statement 119 = .ok (.iconst 0, 1) := g_3 bX6_statement rfl
theorem dX6_statement_120 : decode cX6_statement 120 = .ok (.bipush 9, 2) := g_16 9 bX6_statement rfl rfl
theorem dX6_statement_122 : decode cX6_statement 122 = .ok (.invokevirtual 194, 3) := g_182 bX6_statement rfl
theorem dX6_statement_125 : decode cX6_statement 125 = .ok (.ifCond .eq 17, 3) := g_153 17 bX6_statement rfl rfl
theorem dX6_statement_128 : decode cX6_statement 128 = .ok (.aload_n 0, 1) := g_42 bX6_statement rfl
theorem dX6_statement_129 : decode cX6_statement 129 = .ok (.ldc 205, 2) := g_18 bX6_statement rfl
theorem dX6_statement_131 : decode cX6_statement 131 = .ok (.aload_n 1, 1) := g_43 bX6_statement rfl
theorem dX6_statement_132 : decode cX6_statement 132 = .ok (.iconst 1, 1) := g_4 bX6_statement rfl
theorem dX6_statement_133 : decode cX6_statement 133 = .ok (.iconst 0, 1) := g_3 bX6_statement rfl
theorem dX6_statement_134 : decode cX6_statement 134 = .ok (.bipush 10, 2) := g_16 10 bX6_statement rfl rfl
theorem dX6_statement_136 : decode cX6_statement 136 = .ok (.invokevirtual 201, 3) := g_182 bX6_statement rfl
theorem dX6_statement_139 : decode cX6_statement 139 = .ok (.ifCond .ne 5, 3) := g_154 5 bX6_statement rfl rfl
theorem dX6_statement_142 : decode cX6_statement 142 = .ok (.iconst 0, 1) := g_3 bX6_statement rfl
theorem dX6_statement_143 : decode cX6_statement 143 = .ok (.ireturn, 1) := g_172 bX6_statement rfl
theorem dX6_statement_144 : decode cX6_statement 144 = .ok (.aload_n 0, 1) := g_42 bX6_statement rfl
theorem dX6_statement_145 : decode cX6_statement 145 = .ok (.ldc 207, 2) := g_18 bX6_statement rfl
theorem dX6_statement_147 : decode cX6_statement 147 = .ok (.aload_n 1, 1) := g_43 bX6_statement rfl
theorem dX6_statement_148 : decode cX6_statement 148 = .ok (.iconst 2, 1) := g_5 bX6_statement rfl
theorem dX6_statement_149 : decode cX6_statement 149 = .ok (.iconst 0, 1) := g_3 bX6_statement rfl
theorem dX6_statement_150 : decode cX6_statement 150 = .ok (.bipush 10, 2) := g_16 10 bX6_statement rfl rfl
theorem dX6_statement_152 : decode cX6_statement 152 = .ok (.invokevirtual 201, 3) := g_182 bX6_statement rfl
theorem dX6_statement_155 : decode cX6_statement 155 = .ok (.ifCond .eq 17, 3) := g_153 17 bX6_statement rfl rfl
theorem dX6_statement_158 : decode cX6_statement 158 = .ok (.aload_n 0, 1) := g_42 bX6_statement rfl
theorem dX6_statement_159 : decode cX6_statement 159 = .ok (.ldc 209, 2) := g_18 bX6_statement rfl
theorem dX6_statement_161 : decode cX6_statement 161 = .ok (.aload_n 1, 1) := g_43 bX6_statement rfl
theorem dX6_statement_162 : decode cX6_statement 162 = .ok (.iconst 3, 1) := g_6 bX6_statement rfl
theorem dX6_statement_163 : decode cX6_statement 163 = .ok (.iconst 0, 1) := g_3 bX6_statement rfl
theorem dX6_statement_164 : decode cX6_statement 164 = .ok (.bipush 10, 2) := g_16 10 bX6_statement rfl rfl
theorem dX6_statement_166 : decode cX6_statement 166 = .ok (.invokevirtual 201, 3) := g_182 bX6_statement rfl
theorem dX6_statement_169 : decode cX6_statement 169 = .ok (.ifCond .ne 5, 3) := g_154 5 bX6_statement rfl rfl
theorem dX6_statement_172 : decode cX6_statement 172 = .ok (.iconst 0, 1) := g_3 bX6_statement rfl
theorem dX6_statement_173 : decode cX6_statement 173 = .ok (.ireturn, 1) := g_172 bX6_statement rfl
theorem dX6_statement_174 : decode cX6_statement 174 = .ok (.aload_n 0, 1) := g_42 bX6_statement rfl
theorem dX6_statement_175 : decode cX6_statement 175 = .ok (.dup, 1) := g_89 bX6_statement rfl
theorem dX6_statement_176 : decode cX6_statement 176 = .ok (.getfield 78, 3) := g_180 bX6_statement rfl
theorem dX6_statement_179 : decode cX6_statement 179 = .ok (.iconst 1, 1) := g_4 bX6_statement rfl
theorem dX6_statement_180 : decode cX6_statement 180 = .ok (.iadd, 1) := g_96 bX6_statement rfl
theorem dX6_statement_181 : decode cX6_statement 181 = .ok (.putfield 78, 3) := g_181 bX6_statement rfl
theorem dX6_statement_184 : decode cX6_statement 184 = .ok (.iconst 1, 1) := g_4 bX6_statement rfl
theorem dX6_statement_185 : decode cX6_statement 185 = .ok (.ireturn, 1) := g_172 bX6_statement rfl
theorem dX6_statement_186 : decode cX6_statement 186 = .ok (.aload_n 0, 1) := g_42 bX6_statement rfl
theorem dX6_statement_187 : decode cX6_statement 187 = .ok (.ldc 210, 2) := g_18 bX6_statement rfl
theorem dX6_statement_189 : decode cX6_statement 189 = .ok (.invokevirtual 186, 3) := g_182 bX6_statement rfl
theorem dX6_statement_192 : decode cX6_statement 192 = .ok (.ifCond .eq 73, 3) := g_153 73 bX6_statement rfl rfl
theorem dX6_statement_195 : decode cX6_statement 195 = .ok (.aload_n 0, 1) := g_42 bX6_statement rfl
theorem dX6_statement_196 : decode cX6_statement 196 = .ok (.ldc 210, 2) := g_18 bX6_statement rfl
theorem dX6_statement_198 : decode cX6_statement 198 = .ok (.aload_n 0, 1) := g_42 bX6_statement rfl
theorem dX6_statement_199 : decode cX6_statement 199 = .ok (.getfield 55, 3) := g_180 bX6_statement rfl
theorem dX6_statement_202 : decode cX6_statement 202 = .ok (.iconst 0, 1) := g_3 bX6_statement rfl
theorem dX6_statement_203 : decode cX6_statement 203 = .ok (.iconst 0, 1) := g_3 bX6_statement rfl
theorem dX6_statement_204 : decode cX6_statement 204 = .ok (.aload_n 0, 1) := g_42 bX6_statement rfl
theorem dX6_statement_205 : decode cX6_statement 205 = .ok (.getfield 71, 3) := g_180 bX6_statement rfl
theorem dX6_statement_208 : decode cX6_statement 208 = .ok (.iconst 1, 1) := g_4 bX6_statement rfl
theorem dX6_statement_209 : decode cX6_statement 209 = .ok (.isub, 1) := g_100 bX6_statement rfl
theorem dX6_statement_210 : decode cX6_statement 210 = .ok (.invokevirtual 194, 3) := g_182 bX6_statement rfl
theorem dX6_statement_213 : decode cX6_statement 213 = .ok (.ifCond .eq 24, 3) := g_153 24 bX6_statement rfl rfl
theorem dX6_statement_216 : decode cX6_statement 216 = .ok (.aload_n 0, 1) := g_42 bX6_statement rfl
theorem dX6_statement_217 : decode cX6_statement 217 = .ok (.aload_n 0, 1) := g_42 bX6_statement rfl
theorem dX6_statement_218 : decode cX6_statement 218 = .ok (.getfield 55, 3) := g_180 bX6_statement rfl
theorem dX6_statement_221 : decode cX6_statement 221 = .ok (.iconst 1, 1) := g_4 bX6_statement rfl
theorem dX6_statement_222 : decode cX6_statement 222 = .ok (.iconst 0, 1) := g_3 bX6_statement rfl
theorem dX6_statement_223 : decode cX6_statement 223 = .ok (.aload_n 0, 1) := g_42 bX6_statement rfl
theorem dX6_statement_224 : decode cX6_statement 224 = .ok (.getfield 55, 3) := g_180 bX6_statement rfl
theorem dX6_statement_227 : decode cX6_statement 227 = .ok (.iconst 0, 1) := g_3 bX6_statement rfl
theorem dX6_statement_228 : decode cX6_statement 228 = .ok (.iaload, 1) := g_46 bX6_statement rfl
theorem dX6_statement_229 : decode cX6_statement 229 = .ok (.iconst 1, 1) := g_4 bX6_statement rfl
theorem dX6_statement_230 : decode cX6_statement 230 = .ok (.isub, 1) := g_100 bX6_statement rfl
theorem dX6_statement_231 : decode cX6_statement 231 = .ok (.invokevirtual 190, 3) := g_182 bX6_statement rfl
theorem dX6_statement_234 : decode cX6_statement 234 = .ok (.ifCond .ne 5, 3) := g_154 5 bX6_statement rfl rfl
theorem dX6_statement_237 : decode cX6_statement 237 = .ok (.iconst 0, 1) := g_3 bX6_statement rfl
theorem dX6_statement_238 : decode cX6_statement 238 = .ok (.ireturn, 1) := g_172 bX6_statement rfl
theorem dX6_statement_239 : decode cX6_statement 239 = .ok (.aload_n 0, 1) := g_42 bX6_statement rfl
theorem dX6_statement_240 : decode cX6_statement 240 = .ok (.getfield 42, 3) := g_180 bX6_statement rfl
theorem dX6_statement_243 : decode cX6_statement 243 = .ok (.aload_n 0, 1) := g_42 bX6_statement rfl
theorem dX6_statement_244 : decode cX6_statement 244 = .ok (.getfield 55, 3) := g_180 bX6_statement rfl
theorem dX6_statement_247 : decode cX6_statement 247 = .ok (.iconst 0, 1) := g_3 bX6_statement rfl
theorem dX6_statement_248 : decode cX6_statement 248 = .ok (.iaload, 1) := g_46 bX6_statement rfl
theorem dX6_statement_249 : decode cX6_statement 249 = .ok (.aaload, 1) := g_50 bX6_statement rfl
theorem dX6_statement_250 : decode cX6_statement 250 = .ok (.iconst 1, 1) := g_4 bX6_statement rfl
theorem dX6_statement_251 : decode cX6_statement 251 = .ok (.dup2, 1) := g_92 bX6_statement rfl
theorem dX6_statement_252 : decode cX6_statement 252 = .ok (.iaload, 1) := g_46 bX6_statement rfl
theorem dX6_statement_253 : decode cX6_statement 253 = .ok (.iconst 1, 1) := g_4 bX6_statement rfl
theorem dX6_statement_254 : decode cX6_statement 254 = .ok (.aload_n 0, 1) := g_42 bX6_statement rfl
theorem dX6_statement_255 : decode cX6_statement 255 = .ok (.getfield 55, 3) := g_180 bX6_statement rfl
theorem dX6_statement_258 : decode cX6_statement 258 = .ok (.iconst 1, 1) := g_4 bX6_statement rfl
theorem dX6_statement_259 : decode cX6_statement 259 = .ok (.iaload, 1) := g_46 bX6_statement rfl
theorem dX6_statement_260 : decode cX6_statement 260 = .ok (.ishl, 1) := g_120 bX6_statement rfl
theorem dX6_statement_261 : decode cX6_statement 261 = .ok (.ior, 1) := g_128 bX6_statement rfl
theorem dX6_statement_262 : decode cX6_statement 262 = .ok (.iastore, 1) := g_79 bX6_statement rfl
theorem dX6_statement_263 : decode cX6_statement 263 = .ok (.iconst 1, 1) := g_4 bX6_statement rfl
theorem dX6_statement_264 : decode cX6_statement 264 = .ok (.ireturn, 1) := g_172 bX6_statement rfl
theorem dX6_statement_265 : decode cX6_statement 265 = .ok (.aload_n 0, 1) := g_42 bX6_statement rfl
theorem dX6_statement_266 : decode cX6_statement 266 = .ok (.ldc 212, 2) := g_18 bX6_statement rfl
theorem dX6_statement_268 : decode cX6_statement 268 = .ok (.invokevirtual 186, 3) := g_182 bX6_statement rfl
theorem dX6_statement_271 : decode cX6_statement 271 = .ok (.ifCond .eq 87, 3) := g_153 87 bX6_statement rfl rfl
theorem dX6_statement_274 : decode cX6_statement 274 = .ok (.aload_n 0, 1) := g_42 bX6_statement rfl
theorem dX6_statement_275 : decode cX6_statement 275 = .ok (.ldc 212, 2) := g_18 bX6_statement rfl
theorem dX6_statement_277 : decode cX6_statement 277 = .ok (.aload_n 0, 1) := g_42 bX6_statement rfl
theorem dX6_statement_278 : decode cX6_statement 278 = .ok (.getfield 55, 3) := g_180 bX6_statement rfl
theorem dX6_statement_281 : decode cX6_statement 281 = .ok (.iconst 0, 1) := g_3 bX6_statement rfl
theorem dX6_statement_282 : decode cX6_statement 282 = .ok (.iconst 0, 1) := g_3 bX6_statement rfl
theorem dX6_statement_283 : decode cX6_statement 283 = .ok (.aload_n 0, 1) := g_42 bX6_statement rfl
theorem dX6_statement_284 : decode cX6_statement 284 = .ok (.getfield 78, 3) := g_180 bX6_statement rfl
theorem dX6_statement_287 : decode cX6_statement 287 = .ok (.iconst 1, 1) := g_4 bX6_statement rfl
theorem dX6_statement_288 : decode cX6_statement 288 = .ok (.isub, 1) := g_100 bX6_statement rfl
theorem dX6_statement_289 : decode cX6_statement 289 = .ok (.invokevirtual 194, 3) := g_182 bX6_statement rfl
theorem dX6_statement_292 : decode cX6_statement 292 = .ok (.ifCond .eq 38, 3) := g_153 38 bX6_statement rfl rfl
theorem dX6_statement_295 : decode cX6_statement 295 = .ok (.aload_n 0, 1) := g_42 bX6_statement rfl
theorem dX6_statement_296 : decode cX6_statement 296 = .ok (.aload_n 0, 1) := g_42 bX6_statement rfl
theorem dX6_statement_297 : decode cX6_statement 297 = .ok (.getfield 55, 3) := g_180 bX6_statement rfl
theorem dX6_statement_300 : decode cX6_statement 300 = .ok (.iconst 1, 1) := g_4 bX6_statement rfl
theorem dX6_statement_301 : decode cX6_statement 301 = .ok (.iconst 0, 1) := g_3 bX6_statement rfl
theorem dX6_statement_302 : decode cX6_statement 302 = .ok (.aload_n 0, 1) := g_42 bX6_statement rfl
theorem dX6_statement_303 : decode cX6_statement 303 = .ok (.getfield 71, 3) := g_180 bX6_statement rfl
theorem dX6_statement_306 : decode cX6_statement 306 = .ok (.iconst 1, 1) := g_4 bX6_statement rfl
theorem dX6_statement_307 : decode cX6_statement 307 = .ok (.isub, 1) := g_100 bX6_statement rfl
theorem dX6_statement_308 : decode cX6_statement 308 = .ok (.invokevirtual 190, 3) := g_182 bX6_statement rfl
theorem dX6_statement_311 : decode cX6_statement 311 = .ok (.ifCond .eq 19, 3) := g_153 19 bX6_statement rfl rfl
theorem dX6_statement_314 : decode cX6_statement 314 = .ok (.aload_n 0, 1) := g_42 bX6_statement rfl
theorem dX6_statement_315 : decode cX6_statement 315 = .ok (.aload_n 0, 1) := g_42 bX6_statement rfl
theorem dX6_statement_316 : decode cX6_statement 316 = .ok (.getfield 55, 3) := g_180 bX6_statement rfl
theorem dX6_statement_319 : decode cX6_statement 319 = .ok (.iconst 2, 1) := g_5 bX6_statement rfl
theorem dX6_statement_320 : decode cX6_statement 320 = .ok (.iconst 0, 1) := g_3 bX6_statement rfl
theorem dX6_statement_321 : decode cX6_statement 321 = .ok (.sipush 1000, 3) := g_17 1000 bX6_statement rfl rfl
theorem dX6_statement_324 : decode cX6_statement 324 = .ok (.invokevirtual 190, 3) := g_182 bX6_statement rfl
theorem dX6_statement_327 : decode cX6_statement 327 = .ok (.ifCond .ne 5, 3) := g_154 5 bX6_statement rfl rfl
theorem dX6_statement_330 : decode cX6_statement 330 = .ok (.iconst 0, 1) := g_3 bX6_statement rfl
theorem dX6_statement_331 : decode cX6_statement 331 = .ok (.ireturn, 1) := g_172 bX6_statement rfl
theorem dX6_statement_332 : decode cX6_statement 332 = .ok (.aload_n 0, 1) := g_42 bX6_statement rfl
theorem dX6_statement_333 : decode cX6_statement 333 = .ok (.getfield 48, 3) := g_180 bX6_statement rfl
theorem dX6_statement_336 : decode cX6_statement 336 = .ok (.aload_n 0, 1) := g_42 bX6_statement rfl
theorem dX6_statement_337 : decode cX6_statement 337 = .ok (.getfield 55, 3) := g_180 bX6_statement rfl
theorem dX6_statement_340 : decode cX6_statement 340 = .ok (.iconst 0, 1) := g_3 bX6_statement rfl
theorem dX6_statement_341 : decode cX6_statement 341 = .ok (.iaload, 1) := g_46 bX6_statement rfl
theorem dX6_statement_342 : decode cX6_statement 342 = .ok (.aaload, 1) := g_50 bX6_statement rfl
theorem dX6_statement_343 : decode cX6_statement 343 = .ok (.aload_n 0, 1) := g_42 bX6_statement rfl
theorem dX6_statement_344 : decode cX6_statement 344 = .ok (.getfield 55, 3) := g_180 bX6_statement rfl
theorem dX6_statement_347 : decode cX6_statement 347 = .ok (.iconst 1, 1) := g_4 bX6_statement rfl
theorem dX6_statement_348 : decode cX6_statement 348 = .ok (.iaload, 1) := g_46 bX6_statement rfl
theorem dX6_statement_349 : decode cX6_statement 349 = .ok (.aload_n 0, 1) := g_42 bX6_statement rfl
theorem dX6_statement_350 : decode cX6_statement 350 = .ok (.getfield 55, 3) := g_180 bX6_statement rfl
theorem dX6_statement_353 : decode cX6_statement 353 = .ok (.iconst 2, 1) := g_5 bX6_statement rfl
theorem dX6_statement_354 : decode cX6_statement 354 = .ok (.iaload, 1) := g_46 bX6_statement rfl
theorem dX6_statement_355 : decode cX6_statement 355 = .ok (.iastore, 1) := g_79 bX6_statement rfl
theorem dX6_statement_356 : decode cX6_statement 356 = .ok (.iconst 1, 1) := g_4 bX6_statement rfl
theorem dX6_statement_357 : decode cX6_statement 357 = .ok (.ireturn, 1) := g_172 bX6_statement rfl
theorem dX6_statement_358 : decode cX6_statement 358 = .ok (.aload_n 0, 1) := g_42 bX6_statement rfl
theorem dX6_statement_359 : decode cX6_statement 359 = .ok (.ldc 214, 2) := g_18 bX6_statement rfl
theorem dX6_statement_361 : decode cX6_statement 361 = .ok (.aload_n 0, 1) := g_42 bX6_statement rfl
theorem dX6_statement_362 : decode cX6_statement 362 = .ok (.getfield 55, 3) := g_180 bX6_statement rfl
theorem dX6_statement_365 : decode cX6_statement 365 = .ok (.iconst 0, 1) := g_3 bX6_statement rfl
theorem dX6_statement_366 : decode cX6_statement 366 = .ok (.iconst 0, 1) := g_3 bX6_statement rfl
theorem dX6_statement_367 : decode cX6_statement 367 = .ok (.aload_n 0, 1) := g_42 bX6_statement rfl
theorem dX6_statement_368 : decode cX6_statement 368 = .ok (.getfield 71, 3) := g_180 bX6_statement rfl
theorem dX6_statement_371 : decode cX6_statement 371 = .ok (.iconst 1, 1) := g_4 bX6_statement rfl
theorem dX6_statement_372 : decode cX6_statement 372 = .ok (.isub, 1) := g_100 bX6_statement rfl
theorem dX6_statement_373 : decode cX6_statement 373 = .ok (.invokevirtual 194, 3) := g_182 bX6_statement rfl
theorem dX6_statement_376 : decode cX6_statement 376 = .ok (.ifCond .ne 5, 3) := g_154 5 bX6_statement rfl rfl
theorem dX6_statement_379 : decode cX6_statement 379 = .ok (.iconst 0, 1) := g_3 bX6_statement rfl
theorem dX6_statement_380 : decode cX6_statement 380 = .ok (.ireturn, 1) := g_172 bX6_statement rfl
theorem dX6_statement_381 : decode cX6_statement 381 = .ok (.aload_n 0, 1) := g_42 bX6_statement rfl
theorem dX6_statement_382 : decode cX6_statement 382 = .ok (.getfield 42, 3) := g_180 bX6_statement rfl
theorem dX6_statement_385 : decode cX6_statement 385 = .ok (.aload_n 0, 1) := g_42 bX6_statement rfl
theorem dX6_statement_386 : decode cX6_statement 386 = .ok (.getfield 55, 3) := g_180 bX6_statement rfl
theorem dX6_statement_389 : decode cX6_statement 389 = .ok (.iconst 0, 1) := g_3 bX6_statement rfl
theorem dX6_statement_390 : decode cX6_statement 390 = .ok (.iaload, 1) := g_46 bX6_statement rfl
theorem dX6_statement_391 : decode cX6_statement 391 = .ok (.aaload, 1) := g_50 bX6_statement rfl
theorem dX6_statement_392 : decode cX6_statement 392 = .ok (.iconst 3, 1) := g_6 bX6_statement rfl
theorem dX6_statement_393 : decode cX6_statement 393 = .ok (.iconst 1, 1) := g_4 bX6_statement rfl
theorem dX6_statement_394 : decode cX6_statement 394 = .ok (.iastore, 1) := g_79 bX6_statement rfl
theorem dX6_statement_395 : decode cX6_statement 395 = .ok (.iconst 1, 1) := g_4 bX6_statement rfl
theorem dX6_statement_396 : decode cX6_statement 396 = .ok (.ireturn, 1) := g_172 bX6_statement rfl
theorem dX6_copy_0 : decode cX6_copy 0 = .ok (.iload_n 1, 1) := g_27 bX6_copy rfl
theorem dX6_copy_1 : decode cX6_copy 1 = .ok (.i2l, 1) := g_133 bX6_copy rfl
theorem dX6_copy_2 : decode cX6_copy 2 = .ok (.lconst 0, 1) := g_9 bX6_copy rfl
theorem dX6_copy_3 : decode cX6_copy 3 = .ok (.ldc2_w 85, 3) := g_20 bX6_copy rfl
theorem dX6_copy_6 : decode cX6_copy 6 = .ok (.invokestatic 74, 3) := g_184 bX6_copy rfl
theorem dX6_copy_9 : decode cX6_copy 9 = .ok (.ifCond .eq 15, 3) := g_153 15 bX6_copy rfl rfl
theorem dX6_copy_12 : decode cX6_copy 12 = .ok (.iload_n 2, 1) := g_28 bX6_copy rfl
theorem dX6_copy_13 : decode cX6_copy 13 = .ok (.i2l, 1) := g_133 bX6_copy rfl
theorem dX6_copy_14 : decode cX6_copy 14 = .ok (.lconst 0, 1) := g_9 bX6_copy rfl
theorem dX6_copy_15 : decode cX6_copy 15 = .ok (.ldc2_w 85, 3) := g_20 bX6_copy rfl
theorem dX6_copy_18 : decode cX6_copy 18 = .ok (.invokestatic 74, 3) := g_184 bX6_copy rfl
theorem dX6_copy_21 : decode cX6_copy 21 = .ok (.ifCond .ne 10, 3) := g_154 10 bX6_copy rfl rfl
theorem dX6_copy_24 : decode cX6_copy 24 = .ok (.aload_n 0, 1) := g_42 bX6_copy rfl
theorem dX6_copy_25 : decode cX6_copy 25 = .ok (.bipush (-2), 2) := g_16 254 bX6_copy rfl rfl
theorem dX6_copy_27 : decode cX6_copy 27 = .ok (.invokevirtual 91, 3) := g_182 bX6_copy rfl
theorem dX6_copy_30 : decode cX6_copy 30 = .ok (.ireturn, 1) := g_172 bX6_copy rfl
theorem dX6_copy_31 : decode cX6_copy 31 = .ok (.aload_n 0, 1) := g_42 bX6_copy rfl
theorem dX6_copy_32 : decode cX6_copy 32 = .ok (.getfield 7, 3) := g_180 bX6_copy rfl
theorem dX6_copy_35 : decode cX6_copy 35 = .ok (.iload_n 1, 1) := g_27 bX6_copy rfl
theorem dX6_copy_36 : decode cX6_copy 36 = .ok (.iaload, 1) := g_46 bX6_copy rfl
theorem dX6_copy_37 : decode cX6_copy 37 = .ok (.iconst 2, 1) := g_5 bX6_copy rfl
theorem dX6_copy_38 : decode cX6_copy 38 = .ok (.if_icmp .eq 48, 3) := g_159 48 bX6_copy rfl rfl
theorem dX6_copy_41 : decode cX6_copy 41 = .ok (.aload_n 0, 1) := g_42 bX6_copy rfl
theorem dX6_copy_42 : decode cX6_copy 42 = .ok (.getfield 7, 3) := g_180 bX6_copy rfl
theorem dX6_copy_45 : decode cX6_copy 45 = .ok (.iload_n 2, 1) := g_28 bX6_copy rfl
theorem dX6_copy_46 : decode cX6_copy 46 = .ok (.iaload, 1) := g_46 bX6_copy rfl
theorem dX6_copy_47 : decode cX6_copy 47 = .ok (.iconst 2, 1) := g_5 bX6_copy rfl
theorem dX6_copy_48 : decode cX6_copy 48 = .ok (.if_icmp .eq 38, 3) := g_159 38 bX6_copy rfl rfl
theorem dX6_copy_51 : decode cX6_copy 51 = .ok (.aload_n 0, 1) := g_42 bX6_copy rfl
theorem dX6_copy_52 : decode cX6_copy 52 = .ok (.getfield 7, 3) := g_180 bX6_copy rfl
theorem dX6_copy_55 : decode cX6_copy 55 = .ok (.iload_n 1, 1) := g_27 bX6_copy rfl
theorem dX6_copy_56 : decode cX6_copy 56 = .ok (.iaload, 1) := g_46 bX6_copy rfl
theorem dX6_copy_57 : decode cX6_copy 57 = .ok (.iconst 1, 1) := g_4 bX6_copy rfl
theorem dX6_copy_58 : decode cX6_copy 58 = .ok (.if_icmp .ne 35, 3) := g_160 35 bX6_copy rfl rfl
theorem dX6_copy_61 : decode cX6_copy 61 = .ok (.aload_n 0, 1) := g_42 bX6_copy rfl
theorem dX6_copy_62 : decode cX6_copy 62 = .ok (.getfield 7, 3) := g_180 bX6_copy rfl
theorem dX6_copy_65 : decode cX6_copy 65 = .ok (.iload_n 2, 1) := g_28 bX6_copy rfl
theorem dX6_copy_66 : decode cX6_copy 66 = .ok (.iaload, 1) := g_46 bX6_copy rfl
theorem dX6_copy_67 : decode cX6_copy 67 = .ok (.iconst 1, 1) := g_4 bX6_copy rfl
theorem dX6_copy_68 : decode cX6_copy 68 = .ok (.if_icmp .ne 25, 3) := g_160 25 bX6_copy rfl rfl
theorem dX6_copy_71 : decode cX6_copy 71 = .ok (.aload_n 0, 1) := g_42 bX6_copy rfl
theorem dX6_copy_72 : decode cX6_copy 72 = .ok (.getfield 13, 3) := g_180 bX6_copy rfl
theorem dX6_copy_75 : decode cX6_copy 75 = .ok (.iload_n 1, 1) := g_27 bX6_copy rfl
theorem dX6_copy_76 : decode cX6_copy 76 = .ok (.iaload, 1) := g_46 bX6_copy rfl
theorem dX6_copy_77 : decode cX6_copy 77 = .ok (.aload_n 0, 1) := g_42 bX6_copy rfl
theorem dX6_copy_78 : decode cX6_copy 78 = .ok (.getfield 13, 3) := g_180 bX6_copy rfl
theorem dX6_copy_81 : decode cX6_copy 81 = .ok (.iload_n 2, 1) := g_28 bX6_copy rfl
theorem dX6_copy_82 : decode cX6_copy 82 = .ok (.iaload, 1) := g_46 bX6_copy rfl
theorem dX6_copy_83 : decode cX6_copy 83 = .ok (.if_icmp .eq 10, 3) := g_159 10 bX6_copy rfl rfl
theorem dX6_copy_86 : decode cX6_copy 86 = .ok (.aload_n 0, 1) := g_42 bX6_copy rfl
theorem dX6_copy_87 : decode cX6_copy 87 = .ok (.bipush (-3), 2) := g_16 253 bX6_copy rfl rfl
theorem dX6_copy_89 : decode cX6_copy 89 = .ok (.invokevirtual 91, 3) := g_182 bX6_copy rfl
theorem dX6_copy_92 : decode cX6_copy 92 = .ok (.ireturn, 1) := g_172 bX6_copy rfl
theorem dX6_copy_93 : decode cX6_copy 93 = .ok (.aload_n 0, 1) := g_42 bX6_copy rfl
theorem dX6_copy_94 : decode cX6_copy 94 = .ok (.getfield 7, 3) := g_180 bX6_copy rfl
theorem dX6_copy_97 : decode cX6_copy 97 = .ok (.iload_n 1, 1) := g_27 bX6_copy rfl
theorem dX6_copy_98 : decode cX6_copy 98 = .ok (.iaload, 1) := g_46 bX6_copy rfl
theorem dX6_copy_99 : decode cX6_copy 99 = .ok (.ifCond .eq 12, 3) := g_153 12 bX6_copy rfl rfl
theorem dX6_copy_102 : decode cX6_copy 102 = .ok (.aload_n 0, 1) := g_42 bX6_copy rfl
theorem dX6_copy_103 : decode cX6_copy 103 = .ok (.getfield 7, 3) := g_180 bX6_copy rfl
theorem dX6_copy_106 : decode cX6_copy 106 = .ok (.iload_n 2, 1) := g_28 bX6_copy rfl
theorem dX6_copy_107 : decode cX6_copy 107 = .ok (.iaload, 1) := g_46 bX6_copy rfl
theorem dX6_copy_108 : decode cX6_copy 108 = .ok (.ifCond .ne 10, 3) := g_154 10 bX6_copy rfl rfl
theorem dX6_copy_111 : decode cX6_copy 111 = .ok (.aload_n 0, 1) := g_42 bX6_copy rfl
theorem dX6_copy_112 : decode cX6_copy 112 = .ok (.bipush (-4), 2) := g_16 252 bX6_copy rfl rfl
theorem dX6_copy_114 : decode cX6_copy 114 = .ok (.invokevirtual 91, 3) := g_182 bX6_copy rfl
theorem dX6_copy_117 : decode cX6_copy 117 = .ok (.ireturn, 1) := g_172 bX6_copy rfl
theorem dX6_copy_118 : decode cX6_copy 118 = .ok (.iload 5, 2) := g_21 bX6_copy rfl
theorem dX6_copy_120 : decode cX6_copy 120 = .ok (.ifCond .lt 61, 3) := g_155 61 bX6_copy rfl rfl
theorem dX6_copy_123 : decode cX6_copy 123 = .ok (.iload_n 3, 1) := g_29 bX6_copy rfl
theorem dX6_copy_124 : decode cX6_copy 124 = .ok (.ifCond .lt 57, 3) := g_155 57 bX6_copy rfl rfl
theorem dX6_copy_127 : decode cX6_copy 127 = .ok (.iload 4, 2) := g_21 bX6_copy rfl
theorem dX6_copy_129 : decode cX6_copy 129 = .ok (.ifCond .lt 52, 3) := g_155 52 bX6_copy rfl rfl
theorem dX6_copy_132 : decode cX6_copy 132 = .ok (.iload 5, 2) := g_21 bX6_copy rfl
theorem dX6_copy_134 : decode cX6_copy 134 = .ok (.aload_n 0, 1) := g_42 bX6_copy rfl
theorem dX6_copy_135 : decode cX6_copy 135 = .ok (.getfield 16, 3) := g_180 bX6_copy rfl
theorem dX6_copy_138 : decode cX6_copy 138 = .ok (.iload_n 1, 1) := g_27 bX6_copy rfl
theorem dX6_copy_139 : decode cX6_copy 139 = .ok (.iaload, 1) := g_46 bX6_copy rfl
theorem dX6_copy_140 : decode cX6_copy 140 = .ok (.if_icmp .gt 41, 3) := g_163 41 bX6_copy rfl rfl
theorem dX6_copy_143 : decode cX6_copy 143 = .ok (.iload 5, 2) := g_21 bX6_copy rfl
theorem dX6_copy_145 : decode cX6_copy 145 = .ok (.aload_n 0, 1) := g_42 bX6_copy rfl
theorem dX6_copy_146 : decode cX6_copy 146 = .ok (.getfield 16, 3) := g_180 bX6_copy rfl
theorem dX6_copy_149 : decode cX6_copy 149 = .ok (.iload_n 2, 1) := g_28 bX6_copy rfl
theorem dX6_copy_150 : decode cX6_copy 150 = .ok (.iaload, 1) := g_46 bX6_copy rfl
theorem dX6_copy_151 : decode cX6_copy 151 = .ok (.if_icmp .gt 30, 3) := g_163 30 bX6_copy rfl rfl
theorem dX6_copy_154 : decode cX6_copy 154 = .ok (.iload_n 3, 1) := g_29 bX6_copy rfl
theorem dX6_copy_155 : decode cX6_copy 155 = .ok (.aload_n 0, 1) := g_42 bX6_copy rfl
theorem dX6_copy_156 : decode cX6_copy 156 = .ok (.getfield 16, 3) := g_180 bX6_copy rfl
theorem dX6_copy_159 : decode cX6_copy 159 = .ok (.iload_n 1, 1) := g_27 bX6_copy rfl
theorem dX6_copy_160 : decode cX6_copy 160 = .ok (.iaload, 1) := g_46 bX6_copy rfl
theorem dX6_copy_161 : decode cX6_copy 161 = .ok (.iload 5, 2) := g_21 bX6_copy rfl
theorem dX6_copy_163 : decode cX6_copy 163 = .ok (.isub, 1) := g_100 bX6_copy rfl
theorem dX6_copy_164 : decode cX6_copy 164 = .ok (.if_icmp .gt 17, 3) := g_163 17 bX6_copy rfl rfl
theorem dX6_copy_167 : decode cX6_copy 167 = .ok (.iload 4, 2) := g_21 bX6_copy rfl
theorem dX6_copy_169 : decode cX6_copy 169 = .ok (.aload_n 0, 1) := g_42 bX6_copy rfl
theorem dX6_copy_170 : decode cX6_copy 170 = .ok (.getfield 16, 3) := g_180 bX6_copy rfl
theorem dX6_copy_173 : decode cX6_copy 173 = .ok (.iload_n 2, 1) := g_28 bX6_copy rfl
theorem dX6_copy_174 : decode cX6_copy 174 = .ok (.iaload, 1) := g_46 bX6_copy rfl
theorem dX6_copy_175 : decode cX6_copy 175 = .ok (.iload 5, 2) := g_21 bX6_copy rfl
theorem dX6_copy_177 : decode cX6_copy 177 = .ok (.isub, 1) := g_100 bX6_copy rfl
theorem dX6_copy_178 : decode cX6_copy 178 = .ok (.if_icmp .le 10, 3) := g_164 10 bX6_copy rfl rfl
theorem dX6_copy_181 : decode cX6_copy 181 = .ok (.aload_n 0, 1) := g_42 bX6_copy rfl
theorem dX6_copy_182 : decode cX6_copy 182 = .ok (.bipush (-2), 2) := g_16 254 bX6_copy rfl rfl
theorem dX6_copy_184 : decode cX6_copy 184 = .ok (.invokevirtual 91, 3) := g_182 bX6_copy rfl
theorem dX6_copy_187 : decode cX6_copy 187 = .ok (.ireturn, 1) := g_172 bX6_copy rfl
theorem dX6_copy_188 : decode cX6_copy 188 = .ok (.iconst 0, 1) := g_3 bX6_copy rfl
theorem dX6_copy_189 : decode cX6_copy 189 = .ok (.istore 6, 2) := g_54 bX6_copy rfl
theorem dX6_copy_191 : decode cX6_copy 191 = .ok (.iload 6, 2) := g_21 bX6_copy rfl
theorem dX6_copy_193 : decode cX6_copy 193 = .ok (.iload 5, 2) := g_21 bX6_copy rfl
theorem dX6_copy_195 : decode cX6_copy 195 = .ok (.if_icmp .ge 27, 3) := g_162 27 bX6_copy rfl rfl
theorem dX6_copy_198 : decode cX6_copy 198 = .ok (.aload_n 0, 1) := g_42 bX6_copy rfl
theorem dX6_copy_199 : decode cX6_copy 199 = .ok (.getfield 24, 3) := g_180 bX6_copy rfl
theorem dX6_copy_202 : decode cX6_copy 202 = .ok (.iload 6, 2) := g_21 bX6_copy rfl
theorem dX6_copy_204 : decode cX6_copy 204 = .ok (.aload_n 0, 1) := g_42 bX6_copy rfl
theorem dX6_copy_205 : decode cX6_copy 205 = .ok (.getfield 21, 3) := g_180 bX6_copy rfl
theorem dX6_copy_208 : decode cX6_copy 208 = .ok (.iload_n 1, 1) := g_27 bX6_copy rfl
theorem dX6_copy_209 : decode cX6_copy 209 = .ok (.aaload, 1) := g_50 bX6_copy rfl
theorem dX6_copy_210 : decode cX6_copy 210 = .ok (.iload_n 3, 1) := g_29 bX6_copy rfl
theorem dX6_copy_211 : decode cX6_copy 211 = .ok (.iload 6, 2) := g_21 bX6_copy rfl
theorem dX6_copy_213 : decode cX6_copy 213 = .ok (.iadd, 1) := g_96 bX6_copy rfl
theorem dX6_copy_214 : decode cX6_copy 214 = .ok (.laload, 1) := g_47 bX6_copy rfl
theorem dX6_copy_215 : decode cX6_copy 215 = .ok (.lastore, 1) := g_80 bX6_copy rfl
theorem dX6_copy_216 : decode cX6_copy 216 = .ok (.iinc 6 1, 3) := g_132 1 bX6_copy rfl rfl
theorem dX6_copy_219 : decode cX6_copy 219 = .ok (.goto (-28), 3) := g_167 65508 bX6_copy rfl rfl
theorem dX6_copy_222 : decode cX6_copy 222 = .ok (.iconst 0, 1) := g_3 bX6_copy rfl
theorem dX6_copy_223 : decode cX6_copy 223 = .ok (.istore 6, 2) := g_54 bX6_copy rfl
theorem dX6_copy_225 : decode cX6_copy 225 = .ok (.iload 6, 2) := g_21 bX6_copy rfl
theorem dX6_copy_227 : decode cX6_copy 227 = .ok (.iload 5, 2) := g_21 bX6_copy rfl
theorem dX6_copy_229 : decode cX6_copy 229 = .ok (.if_icmp .ge 28, 3) := g_162 28 bX6_copy rfl rfl
theorem dX6_copy_232 : decode cX6_copy 232 = .ok (.aload_n 0, 1) := g_42 bX6_copy rfl
theorem dX6_copy_233 : decode cX6_copy 233 = .ok (.getfield 21, 3) := g_180 bX6_copy rfl
theorem dX6_copy_236 : decode cX6_copy 236 = .ok (.iload_n 2, 1) := g_28 bX6_copy rfl
theorem dX6_copy_237 : decode cX6_copy 237 = .ok (.aaload, 1) := g_50 bX6_copy rfl
theorem dX6_copy_238 : decode cX6_copy 238 = .ok (.iload 4, 2) := g_21 bX6_copy rfl
theorem dX6_copy_240 : decode cX6_copy 240 = .ok (.iload 6, 2) := g_21 bX6_copy rfl
theorem dX6_copy_242 : decode cX6_copy 242 = .ok (.iadd, 1) := g_96 bX6_copy rfl
theorem dX6_copy_243 : decode cX6_copy 243 = .ok (.aload_n 0, 1) := g_42 bX6_copy rfl
theorem dX6_copy_244 : decode cX6_copy 244 = .ok (.getfield 24, 3) := g_180 bX6_copy rfl
theorem dX6_copy_247 : decode cX6_copy 247 = .ok (.iload 6, 2) := g_21 bX6_copy rfl
theorem dX6_copy_249 : decode cX6_copy 249 = .ok (.laload, 1) := g_47 bX6_copy rfl
theorem dX6_copy_250 : decode cX6_copy 250 = .ok (.lastore, 1) := g_80 bX6_copy rfl
theorem dX6_copy_251 : decode cX6_copy 251 = .ok (.iinc 6 1, 3) := g_132 1 bX6_copy rfl rfl
theorem dX6_copy_254 : decode cX6_copy 254 = .ok (.goto (-29), 3) := g_167 65507 bX6_copy rfl rfl
theorem dX6_copy_257 : decode cX6_copy 257 = .ok (.iload 5, 2) := g_21 bX6_copy rfl
theorem dX6_copy_259 : decode cX6_copy 259 = .ok (.ireturn, 1) := g_172 bX6_copy rfl
theorem dX6_element_0 : decode cX6_element 0 = .ok (.iload_n 1, 1) := g_27 bX6_element rfl
theorem dX6_element_1 : decode cX6_element 1 = .ok (.i2l, 1) := g_133 bX6_element rfl
theorem dX6_element_2 : decode cX6_element 2 = .ok (.lconst 0, 1) := g_9 bX6_element rfl
theorem dX6_element_3 : decode cX6_element 3 = .ok (.ldc2_w 85, 3) := g_20 bX6_element rfl
theorem dX6_element_6 : decode cX6_element 6 = .ok (.invokestatic 74, 3) := g_184 bX6_element rfl
theorem dX6_element_9 : decode cX6_element 9 = .ok (.ifCond .eq 42, 3) := g_153 42 bX6_element rfl rfl
theorem dX6_element_12 : decode cX6_element 12 = .ok (.aload_n 0, 1) := g_42 bX6_element rfl
theorem dX6_element_13 : decode cX6_element 13 = .ok (.getfield 7, 3) := g_180 bX6_element rfl
theorem dX6_element_16 : decode cX6_element 16 = .ok (.iload_n 1, 1) := g_27 bX6_element rfl
theorem dX6_element_17 : decode cX6_element 17 = .ok (.iaload, 1) := g_46 bX6_element rfl
theorem dX6_element_18 : decode cX6_element 18 = .ok (.iconst 1, 1) := g_4 bX6_element rfl
theorem dX6_element_19 : decode cX6_element 19 = .ok (.if_icmp .ne 32, 3) := g_160 32 bX6_element rfl rfl
theorem dX6_element_22 : decode cX6_element 22 = .ok (.iload_n 2, 1) := g_28 bX6_element rfl
theorem dX6_element_23 : decode cX6_element 23 = .ok (.i2l, 1) := g_133 bX6_element rfl
theorem dX6_element_24 : decode cX6_element 24 = .ok (.lconst 0, 1) := g_9 bX6_element rfl
theorem dX6_element_25 : decode cX6_element 25 = .ok (.aload_n 0, 1) := g_42 bX6_element rfl
theorem dX6_element_26 : decode cX6_element 26 = .ok (.getfield 16, 3) := g_180 bX6_element rfl
theorem dX6_element_29 : decode cX6_element 29 = .ok (.iload_n 1, 1) := g_27 bX6_element rfl
theorem dX6_element_30 : decode cX6_element 30 = .ok (.iaload, 1) := g_46 bX6_element rfl
theorem dX6_element_31 : decode cX6_element 31 = .ok (.iconst 1, 1) := g_4 bX6_element rfl
theorem dX6_element_32 : decode cX6_element 32 = .ok (.isub, 1) := g_100 bX6_element rfl
theorem dX6_element_33 : decode cX6_element 33 = .ok (.i2l, 1) := g_133 bX6_element rfl
theorem dX6_element_34 : decode cX6_element 34 = .ok (.invokestatic 74, 3) := g_184 bX6_element rfl
theorem dX6_element_37 : decode cX6_element 37 = .ok (.ifCond .eq 14, 3) := g_153 14 bX6_element rfl rfl
theorem dX6_element_40 : decode cX6_element 40 = .ok (.aload_n 0, 1) := g_42 bX6_element rfl
theorem dX6_element_41 : decode cX6_element 41 = .ok (.getfield 21, 3) := g_180 bX6_element rfl
theorem dX6_element_44 : decode cX6_element 44 = .ok (.iload_n 1, 1) := g_27 bX6_element rfl
theorem dX6_element_45 : decode cX6_element 45 = .ok (.aaload, 1) := g_50 bX6_element rfl
theorem dX6_element_46 : decode cX6_element 46 = .ok (.iload_n 2, 1) := g_28 bX6_element rfl
theorem dX6_element_47 : decode cX6_element 47 = .ok (.laload, 1) := g_47 bX6_element rfl
theorem dX6_element_48 : decode cX6_element 48 = .ok (.goto 4, 3) := g_167 4 bX6_element rfl rfl
theorem dX6_element_51 : decode cX6_element 51 = .ok (.lconst 0, 1) := g_9 bX6_element rfl
theorem dX6_element_52 : decode cX6_element 52 = .ok (.lreturn, 1) := g_173 bX6_element rfl
theorem dX6_holds_0 : decode cX6_holds 0 = .ok (.iload_n 1, 1) := g_27 bX6_holds rfl
theorem dX6_holds_1 : decode cX6_holds 1 = .ok (.i2l, 1) := g_133 bX6_holds rfl
theorem dX6_holds_2 : decode cX6_holds 2 = .ok (.lconst 0, 1) := g_9 bX6_holds rfl
theorem dX6_holds_3 : decode cX6_holds 3 = .ok (.ldc2_w 85, 3) := g_20 bX6_holds rfl
theorem dX6_holds_6 : decode cX6_holds 6 = .ok (.invokestatic 74, 3) := g_184 bX6_holds rfl
theorem dX6_holds_9 : decode cX6_holds 9 = .ok (.ifCond .eq 12, 3) := g_153 12 bX6_holds rfl rfl
theorem dX6_holds_12 : decode cX6_holds 12 = .ok (.aload_n 0, 1) := g_42 bX6_holds rfl
theorem dX6_holds_13 : decode cX6_holds 13 = .ok (.getfield 7, 3) := g_180 bX6_holds rfl
theorem dX6_holds_16 : decode cX6_holds 16 = .ok (.iload_n 1, 1) := g_27 bX6_holds rfl
theorem dX6_holds_17 : decode cX6_holds 17 = .ok (.iaload, 1) := g_46 bX6_holds rfl
theorem dX6_holds_18 : decode cX6_holds 18 = .ok (.ifCond .ne 5, 3) := g_154 5 bX6_holds rfl rfl
theorem dX6_holds_21 : decode cX6_holds 21 = .ok (.iconst (-1), 1) := g_2 bX6_holds rfl
theorem dX6_holds_22 : decode cX6_holds 22 = .ok (.ireturn, 1) := g_172 bX6_holds rfl
theorem dX6_holds_23 : decode cX6_holds 23 = .ok (.aload_n 0, 1) := g_42 bX6_holds rfl
theorem dX6_holds_24 : decode cX6_holds 24 = .ok (.getfield 7, 3) := g_180 bX6_holds rfl
theorem dX6_holds_27 : decode cX6_holds 27 = .ok (.iload_n 1, 1) := g_27 bX6_holds rfl
theorem dX6_holds_28 : decode cX6_holds 28 = .ok (.iaload, 1) := g_46 bX6_holds rfl
theorem dX6_holds_29 : decode cX6_holds 29 = .ok (.iconst 1, 1) := g_4 bX6_holds rfl
theorem dX6_holds_30 : decode cX6_holds 30 = .ok (.if_icmp .ne 12, 3) := g_160 12 bX6_holds rfl rfl
theorem dX6_holds_33 : decode cX6_holds 33 = .ok (.aload_n 0, 1) := g_42 bX6_holds rfl
theorem dX6_holds_34 : decode cX6_holds 34 = .ok (.getfield 13, 3) := g_180 bX6_holds rfl
theorem dX6_holds_37 : decode cX6_holds 37 = .ok (.iload_n 1, 1) := g_27 bX6_holds rfl
theorem dX6_holds_38 : decode cX6_holds 38 = .ok (.iaload, 1) := g_46 bX6_holds rfl
theorem dX6_holds_39 : decode cX6_holds 39 = .ok (.goto 12, 3) := g_167 12 bX6_holds rfl rfl
theorem dX6_holds_42 : decode cX6_holds 42 = .ok (.bipush 10, 2) := g_16 10 bX6_holds rfl rfl
theorem dX6_holds_44 : decode cX6_holds 44 = .ok (.aload_n 0, 1) := g_42 bX6_holds rfl
theorem dX6_holds_45 : decode cX6_holds 45 = .ok (.getfield 28, 3) := g_180 bX6_holds rfl
theorem dX6_holds_48 : decode cX6_holds 48 = .ok (.iload_n 1, 1) := g_27 bX6_holds rfl
theorem dX6_holds_49 : decode cX6_holds 49 = .ok (.iaload, 1) := g_46 bX6_holds rfl
theorem dX6_holds_50 : decode cX6_holds 50 = .ok (.iadd, 1) := g_96 bX6_holds rfl
theorem dX6_holds_51 : decode cX6_holds 51 = .ok (.ireturn, 1) := g_172 bX6_holds rfl
theorem dX6_row_0 : decode cX6_row 0 = .ok (.iload_n 1, 1) := g_27 bX6_row rfl
theorem dX6_row_1 : decode cX6_row 1 = .ok (.i2l, 1) := g_133 bX6_row rfl
theorem dX6_row_2 : decode cX6_row 2 = .ok (.lconst 0, 1) := g_9 bX6_row rfl
theorem dX6_row_3 : decode cX6_row 3 = .ok (.ldc2_w 85, 3) := g_20 bX6_row rfl
theorem dX6_row_6 : decode cX6_row 6 = .ok (.invokestatic 74, 3) := g_184 bX6_row rfl
theorem dX6_row_9 : decode cX6_row 9 = .ok (.ifCond .eq 27, 3) := g_153 27 bX6_row rfl rfl
theorem dX6_row_12 : decode cX6_row 12 = .ok (.iload_n 2, 1) := g_28 bX6_row rfl
theorem dX6_row_13 : decode cX6_row 13 = .ok (.i2l, 1) := g_133 bX6_row rfl
theorem dX6_row_14 : decode cX6_row 14 = .ok (.lconst 0, 1) := g_9 bX6_row rfl
theorem dX6_row_15 : decode cX6_row 15 = .ok (.ldc2_w 87, 3) := g_20 bX6_row rfl
theorem dX6_row_18 : decode cX6_row 18 = .ok (.invokestatic 74, 3) := g_184 bX6_row rfl
theorem dX6_row_21 : decode cX6_row 21 = .ok (.ifCond .eq 15, 3) := g_153 15 bX6_row rfl rfl
theorem dX6_row_24 : decode cX6_row 24 = .ok (.iload_n 3, 1) := g_29 bX6_row rfl
theorem dX6_row_25 : decode cX6_row 25 = .ok (.i2l, 1) := g_133 bX6_row rfl
theorem dX6_row_26 : decode cX6_row 26 = .ok (.lconst 0, 1) := g_9 bX6_row rfl
theorem dX6_row_27 : decode cX6_row 27 = .ok (.ldc2_w 89, 3) := g_20 bX6_row rfl
theorem dX6_row_30 : decode cX6_row 30 = .ok (.invokestatic 74, 3) := g_184 bX6_row rfl
theorem dX6_row_33 : decode cX6_row 33 = .ok (.ifCond .ne 10, 3) := g_154 10 bX6_row rfl rfl
theorem dX6_row_36 : decode cX6_row 36 = .ok (.aload_n 0, 1) := g_42 bX6_row rfl
theorem dX6_row_37 : decode cX6_row 37 = .ok (.bipush (-2), 2) := g_16 254 bX6_row rfl rfl
theorem dX6_row_39 : decode cX6_row 39 = .ok (.invokevirtual 91, 3) := g_182 bX6_row rfl
theorem dX6_row_42 : decode cX6_row 42 = .ok (.ireturn, 1) := g_172 bX6_row rfl
theorem dX6_row_43 : decode cX6_row 43 = .ok (.aload_n 0, 1) := g_42 bX6_row rfl
theorem dX6_row_44 : decode cX6_row 44 = .ok (.getfield 7, 3) := g_180 bX6_row rfl
theorem dX6_row_47 : decode cX6_row 47 = .ok (.iload_n 1, 1) := g_27 bX6_row rfl
theorem dX6_row_48 : decode cX6_row 48 = .ok (.iconst 1, 1) := g_4 bX6_row rfl
theorem dX6_row_49 : decode cX6_row 49 = .ok (.iastore, 1) := g_79 bX6_row rfl
theorem dX6_row_50 : decode cX6_row 50 = .ok (.aload_n 0, 1) := g_42 bX6_row rfl
theorem dX6_row_51 : decode cX6_row 51 = .ok (.getfield 13, 3) := g_180 bX6_row rfl
theorem dX6_row_54 : decode cX6_row 54 = .ok (.iload_n 1, 1) := g_27 bX6_row rfl
theorem dX6_row_55 : decode cX6_row 55 = .ok (.iload_n 2, 1) := g_28 bX6_row rfl
theorem dX6_row_56 : decode cX6_row 56 = .ok (.iastore, 1) := g_79 bX6_row rfl
theorem dX6_row_57 : decode cX6_row 57 = .ok (.aload_n 0, 1) := g_42 bX6_row rfl
theorem dX6_row_58 : decode cX6_row 58 = .ok (.getfield 16, 3) := g_180 bX6_row rfl
theorem dX6_row_61 : decode cX6_row 61 = .ok (.iload_n 1, 1) := g_27 bX6_row rfl
theorem dX6_row_62 : decode cX6_row 62 = .ok (.iload_n 3, 1) := g_29 bX6_row rfl
theorem dX6_row_63 : decode cX6_row 63 = .ok (.iastore, 1) := g_79 bX6_row rfl
theorem dX6_row_64 : decode cX6_row 64 = .ok (.iconst 0, 1) := g_3 bX6_row rfl
theorem dX6_row_65 : decode cX6_row 65 = .ok (.istore 4, 2) := g_54 bX6_row rfl
theorem dX6_row_67 : decode cX6_row 67 = .ok (.iload 4, 2) := g_21 bX6_row rfl
theorem dX6_row_69 : decode cX6_row 69 = .ok (.bipush 40, 2) := g_16 40 bX6_row rfl rfl
theorem dX6_row_71 : decode cX6_row 71 = .ok (.if_icmp .ge 19, 3) := g_162 19 bX6_row rfl rfl
theorem dX6_row_74 : decode cX6_row 74 = .ok (.aload_n 0, 1) := g_42 bX6_row rfl
theorem dX6_row_75 : decode cX6_row 75 = .ok (.getfield 21, 3) := g_180 bX6_row rfl
theorem dX6_row_78 : decode cX6_row 78 = .ok (.iload_n 1, 1) := g_27 bX6_row rfl
theorem dX6_row_79 : decode cX6_row 79 = .ok (.aaload, 1) := g_50 bX6_row rfl
theorem dX6_row_80 : decode cX6_row 80 = .ok (.iload 4, 2) := g_21 bX6_row rfl
theorem dX6_row_82 : decode cX6_row 82 = .ok (.lconst 0, 1) := g_9 bX6_row rfl
theorem dX6_row_83 : decode cX6_row 83 = .ok (.lastore, 1) := g_80 bX6_row rfl
theorem dX6_row_84 : decode cX6_row 84 = .ok (.iinc 4 1, 3) := g_132 1 bX6_row rfl rfl
theorem dX6_row_87 : decode cX6_row 87 = .ok (.goto (-20), 3) := g_167 65516 bX6_row rfl rfl
theorem dX6_row_90 : decode cX6_row 90 = .ok (.iconst 1, 1) := g_4 bX6_row rfl
theorem dX6_row_91 : decode cX6_row 91 = .ok (.ireturn, 1) := g_172 bX6_row rfl
theorem dX6_rule_0 : decode cX6_rule 0 = .ok (.iload_n 1, 1) := g_27 bX6_rule rfl
theorem dX6_rule_1 : decode cX6_rule 1 = .ok (.i2l, 1) := g_133 bX6_rule rfl
theorem dX6_rule_2 : decode cX6_rule 2 = .ok (.lconst 0, 1) := g_9 bX6_rule rfl
theorem dX6_rule_3 : decode cX6_rule 3 = .ok (.ldc2_w 85, 3) := g_20 bX6_rule rfl
theorem dX6_rule_6 : decode cX6_rule 6 = .ok (.invokestatic 74, 3) := g_184 bX6_rule rfl
theorem dX6_rule_9 : decode cX6_rule 9 = .ok (.ifCond .eq 27, 3) := g_153 27 bX6_rule rfl rfl
theorem dX6_rule_12 : decode cX6_rule 12 = .ok (.iload_n 2, 1) := g_28 bX6_rule rfl
theorem dX6_rule_13 : decode cX6_rule 13 = .ok (.i2l, 1) := g_133 bX6_rule rfl
theorem dX6_rule_14 : decode cX6_rule 14 = .ok (.lconst 1, 1) := g_10 bX6_rule rfl
theorem dX6_rule_15 : decode cX6_rule 15 = .ok (.ldc2_w 102, 3) := g_20 bX6_rule rfl
theorem dX6_rule_18 : decode cX6_rule 18 = .ok (.invokestatic 74, 3) := g_184 bX6_rule rfl
theorem dX6_rule_21 : decode cX6_rule 21 = .ok (.ifCond .eq 15, 3) := g_153 15 bX6_rule rfl rfl
theorem dX6_rule_24 : decode cX6_rule 24 = .ok (.iload_n 3, 1) := g_29 bX6_rule rfl
theorem dX6_rule_25 : decode cX6_rule 25 = .ok (.i2l, 1) := g_133 bX6_rule rfl
theorem dX6_rule_26 : decode cX6_rule 26 = .ok (.lconst 0, 1) := g_9 bX6_rule rfl
theorem dX6_rule_27 : decode cX6_rule 27 = .ok (.ldc2_w 104, 3) := g_20 bX6_rule rfl
theorem dX6_rule_30 : decode cX6_rule 30 = .ok (.invokestatic 74, 3) := g_184 bX6_rule rfl
theorem dX6_rule_33 : decode cX6_rule 33 = .ok (.ifCond .ne 10, 3) := g_154 10 bX6_rule rfl rfl
theorem dX6_rule_36 : decode cX6_rule 36 = .ok (.aload_n 0, 1) := g_42 bX6_rule rfl
theorem dX6_rule_37 : decode cX6_rule 37 = .ok (.bipush (-2), 2) := g_16 254 bX6_rule rfl rfl
theorem dX6_rule_39 : decode cX6_rule 39 = .ok (.invokevirtual 91, 3) := g_182 bX6_rule rfl
theorem dX6_rule_42 : decode cX6_rule 42 = .ok (.ireturn, 1) := g_172 bX6_rule rfl
theorem dX6_rule_43 : decode cX6_rule 43 = .ok (.aload_n 0, 1) := g_42 bX6_rule rfl
theorem dX6_rule_44 : decode cX6_rule 44 = .ok (.getfield 7, 3) := g_180 bX6_rule rfl
theorem dX6_rule_47 : decode cX6_rule 47 = .ok (.iload_n 1, 1) := g_27 bX6_rule rfl
theorem dX6_rule_48 : decode cX6_rule 48 = .ok (.iconst 2, 1) := g_5 bX6_rule rfl
theorem dX6_rule_49 : decode cX6_rule 49 = .ok (.iastore, 1) := g_79 bX6_rule rfl
theorem dX6_rule_50 : decode cX6_rule 50 = .ok (.aload_n 0, 1) := g_42 bX6_rule rfl
theorem dX6_rule_51 : decode cX6_rule 51 = .ok (.getfield 28, 3) := g_180 bX6_rule rfl
theorem dX6_rule_54 : decode cX6_rule 54 = .ok (.iload_n 1, 1) := g_27 bX6_rule rfl
theorem dX6_rule_55 : decode cX6_rule 55 = .ok (.iload_n 2, 1) := g_28 bX6_rule rfl
theorem dX6_rule_56 : decode cX6_rule 56 = .ok (.iastore, 1) := g_79 bX6_rule rfl
theorem dX6_rule_57 : decode cX6_rule 57 = .ok (.aload_n 0, 1) := g_42 bX6_rule rfl
theorem dX6_rule_58 : decode cX6_rule 58 = .ok (.getfield 31, 3) := g_180 bX6_rule rfl
theorem dX6_rule_61 : decode cX6_rule 61 = .ok (.iload_n 1, 1) := g_27 bX6_rule rfl
theorem dX6_rule_62 : decode cX6_rule 62 = .ok (.iload_n 3, 1) := g_29 bX6_rule rfl
theorem dX6_rule_63 : decode cX6_rule 63 = .ok (.iastore, 1) := g_79 bX6_rule rfl
theorem dX6_rule_64 : decode cX6_rule 64 = .ok (.iconst 1, 1) := g_4 bX6_rule rfl
theorem dX6_rule_65 : decode cX6_rule 65 = .ok (.ireturn, 1) := g_172 bX6_rule rfl
theorem dX6_set_0 : decode cX6_set 0 = .ok (.aload_n 0, 1) := g_42 bX6_set rfl
theorem dX6_set_1 : decode cX6_set 1 = .ok (.iload_n 1, 1) := g_27 bX6_set rfl
theorem dX6_set_2 : decode cX6_set 2 = .ok (.invokevirtual 95, 3) := g_182 bX6_set rfl
theorem dX6_set_5 : decode cX6_set 5 = .ok (.istore 5, 2) := g_54 bX6_set rfl
theorem dX6_set_7 : decode cX6_set 7 = .ok (.iload 5, 2) := g_21 bX6_set rfl
theorem dX6_set_9 : decode cX6_set 9 = .ok (.ifCond .eq 6, 3) := g_153 6 bX6_set rfl rfl
theorem dX6_set_12 : decode cX6_set 12 = .ok (.iload 5, 2) := g_21 bX6_set rfl
theorem dX6_set_14 : decode cX6_set 14 = .ok (.ireturn, 1) := g_172 bX6_set rfl
theorem dX6_set_15 : decode cX6_set 15 = .ok (.iload_n 2, 1) := g_28 bX6_set rfl
theorem dX6_set_16 : decode cX6_set 16 = .ok (.i2l, 1) := g_133 bX6_set rfl
theorem dX6_set_17 : decode cX6_set 17 = .ok (.lconst 0, 1) := g_9 bX6_set rfl
theorem dX6_set_18 : decode cX6_set 18 = .ok (.aload_n 0, 1) := g_42 bX6_set rfl
theorem dX6_set_19 : decode cX6_set 19 = .ok (.getfield 16, 3) := g_180 bX6_set rfl
theorem dX6_set_22 : decode cX6_set 22 = .ok (.iload_n 1, 1) := g_27 bX6_set rfl
theorem dX6_set_23 : decode cX6_set 23 = .ok (.iaload, 1) := g_46 bX6_set rfl
theorem dX6_set_24 : decode cX6_set 24 = .ok (.iconst 1, 1) := g_4 bX6_set rfl
theorem dX6_set_25 : decode cX6_set 25 = .ok (.isub, 1) := g_100 bX6_set rfl
theorem dX6_set_26 : decode cX6_set 26 = .ok (.i2l, 1) := g_133 bX6_set rfl
theorem dX6_set_27 : decode cX6_set 27 = .ok (.invokestatic 74, 3) := g_184 bX6_set rfl
theorem dX6_set_30 : decode cX6_set 30 = .ok (.ifCond .ne 10, 3) := g_154 10 bX6_set rfl rfl
theorem dX6_set_33 : decode cX6_set 33 = .ok (.aload_n 0, 1) := g_42 bX6_set rfl
theorem dX6_set_34 : decode cX6_set 34 = .ok (.bipush (-2), 2) := g_16 254 bX6_set rfl rfl
theorem dX6_set_36 : decode cX6_set 36 = .ok (.invokevirtual 91, 3) := g_182 bX6_set rfl
theorem dX6_set_39 : decode cX6_set 39 = .ok (.ireturn, 1) := g_172 bX6_set rfl
theorem dX6_set_40 : decode cX6_set 40 = .ok (.aload_n 0, 1) := g_42 bX6_set rfl
theorem dX6_set_41 : decode cX6_set 41 = .ok (.getfield 21, 3) := g_180 bX6_set rfl
theorem dX6_set_44 : decode cX6_set 44 = .ok (.iload_n 1, 1) := g_27 bX6_set rfl
theorem dX6_set_45 : decode cX6_set 45 = .ok (.aaload, 1) := g_50 bX6_set rfl
theorem dX6_set_46 : decode cX6_set 46 = .ok (.iload_n 2, 1) := g_28 bX6_set rfl
theorem dX6_set_47 : decode cX6_set 47 = .ok (.aload_n 0, 1) := g_42 bX6_set rfl
theorem dX6_set_48 : decode cX6_set 48 = .ok (.getfield 13, 3) := g_180 bX6_set rfl
theorem dX6_set_51 : decode cX6_set 51 = .ok (.iload_n 1, 1) := g_27 bX6_set rfl
theorem dX6_set_52 : decode cX6_set 52 = .ok (.iaload, 1) := g_46 bX6_set rfl
theorem dX6_set_53 : decode cX6_set 53 = .ok (.lload_n 3, 1) := g_33 bX6_set rfl
theorem dX6_set_54 : decode cX6_set 54 = .ok (.invokestatic 98, 3) := g_184 bX6_set rfl
theorem dX6_set_57 : decode cX6_set 57 = .ok (.lastore, 1) := g_80 bX6_set rfl
theorem dX6_set_58 : decode cX6_set 58 = .ok (.iconst 1, 1) := g_4 bX6_set rfl
theorem dX6_set_59 : decode cX6_set 59 = .ok (.ireturn, 1) := g_172 bX6_set rfl
theorem dX6_aloud_0 : decode cX6_aloud 0 = .ok (.aload_n 0, 1) := g_42 bX6_aloud rfl
theorem dX6_aloud_1 : decode cX6_aloud 1 = .ok (.iload_n 1, 1) := g_27 bX6_aloud rfl
theorem dX6_aloud_2 : decode cX6_aloud 2 = .ok (.i2l, 1) := g_133 bX6_aloud rfl
theorem dX6_aloud_3 : decode cX6_aloud 3 = .ok (.invokevirtual 236, 3) := g_182 bX6_aloud rfl
theorem dX6_aloud_6 : decode cX6_aloud 6 = .ok (.ifCond .eq 30, 3) := g_153 30 bX6_aloud rfl rfl
theorem dX6_aloud_9 : decode cX6_aloud 9 = .ok (.aload_n 0, 1) := g_42 bX6_aloud rfl
theorem dX6_aloud_10 : decode cX6_aloud 10 = .ok (.iload_n 2, 1) := g_28 bX6_aloud rfl
theorem dX6_aloud_11 : decode cX6_aloud 11 = .ok (.i2l, 1) := g_133 bX6_aloud rfl
theorem dX6_aloud_12 : decode cX6_aloud 12 = .ok (.invokevirtual 229, 3) := g_182 bX6_aloud rfl
theorem dX6_aloud_15 : decode cX6_aloud 15 = .ok (.ifCond .eq 21, 3) := g_153 21 bX6_aloud rfl rfl
theorem dX6_aloud_18 : decode cX6_aloud 18 = .ok (.iload_n 3, 1) := g_29 bX6_aloud rfl
theorem dX6_aloud_19 : decode cX6_aloud 19 = .ok (.i2l, 1) := g_133 bX6_aloud rfl
theorem dX6_aloud_20 : decode cX6_aloud 20 = .ok (.lconst 0, 1) := g_9 bX6_aloud rfl
theorem dX6_aloud_21 : decode cX6_aloud 21 = .ok (.iconst 1, 1) := g_4 bX6_aloud rfl
theorem dX6_aloud_22 : decode cX6_aloud 22 = .ok (.aload_n 0, 1) := g_42 bX6_aloud rfl
theorem dX6_aloud_23 : decode cX6_aloud 23 = .ok (.getfield 78, 3) := g_180 bX6_aloud rfl
theorem dX6_aloud_26 : decode cX6_aloud 26 = .ok (.ishl, 1) := g_120 bX6_aloud rfl
theorem dX6_aloud_27 : decode cX6_aloud 27 = .ok (.iconst 1, 1) := g_4 bX6_aloud rfl
theorem dX6_aloud_28 : decode cX6_aloud 28 = .ok (.isub, 1) := g_100 bX6_aloud rfl
theorem dX6_aloud_29 : decode cX6_aloud 29 = .ok (.i2l, 1) := g_133 bX6_aloud rfl
theorem dX6_aloud_30 : decode cX6_aloud 30 = .ok (.invokestatic 74, 3) := g_184 bX6_aloud rfl
theorem dX6_aloud_33 : decode cX6_aloud 33 = .ok (.ifCond .ne 10, 3) := g_154 10 bX6_aloud rfl rfl
theorem dX6_aloud_36 : decode cX6_aloud 36 = .ok (.aload_n 0, 1) := g_42 bX6_aloud rfl
theorem dX6_aloud_37 : decode cX6_aloud 37 = .ok (.bipush (-2), 2) := g_16 254 bX6_aloud rfl rfl
theorem dX6_aloud_39 : decode cX6_aloud 39 = .ok (.invokevirtual 91, 3) := g_182 bX6_aloud rfl
theorem dX6_aloud_42 : decode cX6_aloud 42 = .ok (.ireturn, 1) := g_172 bX6_aloud rfl
theorem dX6_aloud_43 : decode cX6_aloud 43 = .ok (.aload_n 0, 1) := g_42 bX6_aloud rfl
theorem dX6_aloud_44 : decode cX6_aloud 44 = .ok (.iload_n 1, 1) := g_27 bX6_aloud rfl
theorem dX6_aloud_45 : decode cX6_aloud 45 = .ok (.iload_n 2, 1) := g_28 bX6_aloud rfl
theorem dX6_aloud_46 : decode cX6_aloud 46 = .ok (.invokevirtual 251, 3) := g_182 bX6_aloud rfl
theorem dX6_aloud_49 : decode cX6_aloud 49 = .ok (.istore 4, 2) := g_54 bX6_aloud rfl
theorem dX6_aloud_51 : decode cX6_aloud 51 = .ok (.iload 4, 2) := g_21 bX6_aloud rfl
theorem dX6_aloud_53 : decode cX6_aloud 53 = .ok (.ifCond .eq 8, 3) := g_153 8 bX6_aloud rfl rfl
theorem dX6_aloud_56 : decode cX6_aloud 56 = .ok (.iload 4, 2) := g_21 bX6_aloud rfl
theorem dX6_aloud_58 : decode cX6_aloud 58 = .ok (.goto 10, 3) := g_167 10 bX6_aloud rfl rfl
theorem dX6_aloud_61 : decode cX6_aloud 61 = .ok (.aload_n 0, 1) := g_42 bX6_aloud rfl
theorem dX6_aloud_62 : decode cX6_aloud 62 = .ok (.iload_n 1, 1) := g_27 bX6_aloud rfl
theorem dX6_aloud_63 : decode cX6_aloud 63 = .ok (.iload_n 2, 1) := g_28 bX6_aloud rfl
theorem dX6_aloud_64 : decode cX6_aloud 64 = .ok (.iload_n 3, 1) := g_29 bX6_aloud rfl
theorem dX6_aloud_65 : decode cX6_aloud 65 = .ok (.invokevirtual 260, 3) := g_182 bX6_aloud rfl
theorem dX6_aloud_68 : decode cX6_aloud 68 = .ok (.ireturn, 1) := g_172 bX6_aloud rfl
theorem dX6_alter_0 : decode cX6_alter 0 = .ok (.aload_n 0, 1) := g_42 bX6_alter rfl
theorem dX6_alter_1 : decode cX6_alter 1 = .ok (.iload_n 1, 1) := g_27 bX6_alter rfl
theorem dX6_alter_2 : decode cX6_alter 2 = .ok (.i2l, 1) := g_133 bX6_alter rfl
theorem dX6_alter_3 : decode cX6_alter 3 = .ok (.invokevirtual 236, 3) := g_182 bX6_alter rfl
theorem dX6_alter_6 : decode cX6_alter 6 = .ok (.ifCond .eq 24, 3) := g_153 24 bX6_alter rfl rfl
theorem dX6_alter_9 : decode cX6_alter 9 = .ok (.aload_n 0, 1) := g_42 bX6_alter rfl
theorem dX6_alter_10 : decode cX6_alter 10 = .ok (.iload_n 2, 1) := g_28 bX6_alter rfl
theorem dX6_alter_11 : decode cX6_alter 11 = .ok (.i2l, 1) := g_133 bX6_alter rfl
theorem dX6_alter_12 : decode cX6_alter 12 = .ok (.invokevirtual 229, 3) := g_182 bX6_alter rfl
theorem dX6_alter_15 : decode cX6_alter 15 = .ok (.ifCond .eq 15, 3) := g_153 15 bX6_alter rfl rfl
theorem dX6_alter_18 : decode cX6_alter 18 = .ok (.iload_n 3, 1) := g_29 bX6_alter rfl
theorem dX6_alter_19 : decode cX6_alter 19 = .ok (.i2l, 1) := g_133 bX6_alter rfl
theorem dX6_alter_20 : decode cX6_alter 20 = .ok (.lconst 0, 1) := g_9 bX6_alter rfl
theorem dX6_alter_21 : decode cX6_alter 21 = .ok (.ldc2_w 239, 3) := g_20 bX6_alter rfl
theorem dX6_alter_24 : decode cX6_alter 24 = .ok (.invokestatic 74, 3) := g_184 bX6_alter rfl
theorem dX6_alter_27 : decode cX6_alter 27 = .ok (.ifCond .ne 10, 3) := g_154 10 bX6_alter rfl rfl
theorem dX6_alter_30 : decode cX6_alter 30 = .ok (.aload_n 0, 1) := g_42 bX6_alter rfl
theorem dX6_alter_31 : decode cX6_alter 31 = .ok (.bipush (-2), 2) := g_16 254 bX6_alter rfl rfl
theorem dX6_alter_33 : decode cX6_alter 33 = .ok (.invokevirtual 91, 3) := g_182 bX6_alter rfl
theorem dX6_alter_36 : decode cX6_alter 36 = .ok (.ireturn, 1) := g_172 bX6_alter rfl
theorem dX6_alter_37 : decode cX6_alter 37 = .ok (.aload_n 0, 1) := g_42 bX6_alter rfl
theorem dX6_alter_38 : decode cX6_alter 38 = .ok (.iload_n 1, 1) := g_27 bX6_alter rfl
theorem dX6_alter_39 : decode cX6_alter 39 = .ok (.invokevirtual 81, 3) := g_182 bX6_alter rfl
theorem dX6_alter_42 : decode cX6_alter 42 = .ok (.ifCond .ne 10, 3) := g_154 10 bX6_alter rfl rfl
theorem dX6_alter_45 : decode cX6_alter 45 = .ok (.aload_n 0, 1) := g_42 bX6_alter rfl
theorem dX6_alter_46 : decode cX6_alter 46 = .ok (.bipush (-5), 2) := g_16 251 bX6_alter rfl rfl
theorem dX6_alter_48 : decode cX6_alter 48 = .ok (.invokevirtual 91, 3) := g_182 bX6_alter rfl
theorem dX6_alter_51 : decode cX6_alter 51 = .ok (.ireturn, 1) := g_172 bX6_alter rfl
theorem dX6_alter_52 : decode cX6_alter 52 = .ok (.aload_n 0, 1) := g_42 bX6_alter rfl
theorem dX6_alter_53 : decode cX6_alter 53 = .ok (.getfield 48, 3) := g_180 bX6_alter rfl
theorem dX6_alter_56 : decode cX6_alter 56 = .ok (.iload_n 1, 1) := g_27 bX6_alter rfl
theorem dX6_alter_57 : decode cX6_alter 57 = .ok (.aaload, 1) := g_50 bX6_alter rfl
theorem dX6_alter_58 : decode cX6_alter 58 = .ok (.iload_n 2, 1) := g_28 bX6_alter rfl
theorem dX6_alter_59 : decode cX6_alter 59 = .ok (.iaload, 1) := g_46 bX6_alter rfl
theorem dX6_alter_60 : decode cX6_alter 60 = .ok (.istore 4, 2) := g_54 bX6_alter rfl
theorem dX6_alter_62 : decode cX6_alter 62 = .ok (.aload_n 0, 1) := g_42 bX6_alter rfl
theorem dX6_alter_63 : decode cX6_alter 63 = .ok (.getfield 48, 3) := g_180 bX6_alter rfl
theorem dX6_alter_66 : decode cX6_alter 66 = .ok (.iload_n 1, 1) := g_27 bX6_alter rfl
theorem dX6_alter_67 : decode cX6_alter 67 = .ok (.aaload, 1) := g_50 bX6_alter rfl
theorem dX6_alter_68 : decode cX6_alter 68 = .ok (.iload_n 2, 1) := g_28 bX6_alter rfl
theorem dX6_alter_69 : decode cX6_alter 69 = .ok (.iload_n 3, 1) := g_29 bX6_alter rfl
theorem dX6_alter_70 : decode cX6_alter 70 = .ok (.iastore, 1) := g_79 bX6_alter rfl
theorem dX6_alter_71 : decode cX6_alter 71 = .ok (.iload 4, 2) := g_21 bX6_alter rfl
theorem dX6_alter_73 : decode cX6_alter 73 = .ok (.ireturn, 1) := g_172 bX6_alter rfl
theorem dX6_book_0 : decode cX6_book 0 = .ok (.iload_n 1, 1) := g_27 bX6_book rfl
theorem dX6_book_1 : decode cX6_book 1 = .ok (.i2l, 1) := g_133 bX6_book rfl
theorem dX6_book_2 : decode cX6_book 2 = .ok (.lconst 1, 1) := g_10 bX6_book rfl
theorem dX6_book_3 : decode cX6_book 3 = .ok (.ldc2_w 104, 3) := g_20 bX6_book rfl
theorem dX6_book_6 : decode cX6_book 6 = .ok (.invokestatic 74, 3) := g_184 bX6_book rfl
theorem dX6_book_9 : decode cX6_book 9 = .ok (.ifCond .eq 21, 3) := g_153 21 bX6_book rfl rfl
theorem dX6_book_12 : decode cX6_book 12 = .ok (.iload_n 2, 1) := g_28 bX6_book rfl
theorem dX6_book_13 : decode cX6_book 13 = .ok (.i2l, 1) := g_133 bX6_book rfl
theorem dX6_book_14 : decode cX6_book 14 = .ok (.lconst 0, 1) := g_9 bX6_book rfl
theorem dX6_book_15 : decode cX6_book 15 = .ok (.iconst 1, 1) := g_4 bX6_book rfl
theorem dX6_book_16 : decode cX6_book 16 = .ok (.aload_n 0, 1) := g_42 bX6_book rfl
theorem dX6_book_17 : decode cX6_book 17 = .ok (.getfield 71, 3) := g_180 bX6_book rfl
theorem dX6_book_20 : decode cX6_book 20 = .ok (.ishl, 1) := g_120 bX6_book rfl
theorem dX6_book_21 : decode cX6_book 21 = .ok (.iconst 1, 1) := g_4 bX6_book rfl
theorem dX6_book_22 : decode cX6_book 22 = .ok (.isub, 1) := g_100 bX6_book rfl
theorem dX6_book_23 : decode cX6_book 23 = .ok (.i2l, 1) := g_133 bX6_book rfl
theorem dX6_book_24 : decode cX6_book 24 = .ok (.invokestatic 74, 3) := g_184 bX6_book rfl
theorem dX6_book_27 : decode cX6_book 27 = .ok (.ifCond .ne 10, 3) := g_154 10 bX6_book rfl rfl
theorem dX6_book_30 : decode cX6_book 30 = .ok (.aload_n 0, 1) := g_42 bX6_book rfl
theorem dX6_book_31 : decode cX6_book 31 = .ok (.bipush (-2), 2) := g_16 254 bX6_book rfl rfl
theorem dX6_book_33 : decode cX6_book 33 = .ok (.invokevirtual 91, 3) := g_182 bX6_book rfl
theorem dX6_book_36 : decode cX6_book 36 = .ok (.ireturn, 1) := g_172 bX6_book rfl
theorem dX6_book_37 : decode cX6_book 37 = .ok (.aload_n 0, 1) := g_42 bX6_book rfl
theorem dX6_book_38 : decode cX6_book 38 = .ok (.getfield 71, 3) := g_180 bX6_book rfl
theorem dX6_book_41 : decode cX6_book 41 = .ok (.bipush 8, 2) := g_16 8 bX6_book rfl rfl
theorem dX6_book_43 : decode cX6_book 43 = .ok (.if_icmp .ne 10, 3) := g_160 10 bX6_book rfl rfl
theorem dX6_book_46 : decode cX6_book 46 = .ok (.aload_n 0, 1) := g_42 bX6_book rfl
theorem dX6_book_47 : decode cX6_book 47 = .ok (.bipush (-6), 2) := g_16 250 bX6_book rfl rfl
theorem dX6_book_49 : decode cX6_book 49 = .ok (.invokevirtual 91, 3) := g_182 bX6_book rfl
theorem dX6_book_52 : decode cX6_book 52 = .ok (.ireturn, 1) := g_172 bX6_book rfl
theorem dX6_book_53 : decode cX6_book 53 = .ok (.aload_n 0, 1) := g_42 bX6_book rfl
theorem dX6_book_54 : decode cX6_book 54 = .ok (.iload_n 1, 1) := g_27 bX6_book rfl
theorem dX6_book_55 : decode cX6_book 55 = .ok (.invokevirtual 126, 3) := g_182 bX6_book rfl
theorem dX6_book_58 : decode cX6_book 58 = .ok (.aload_n 0, 1) := g_42 bX6_book rfl
theorem dX6_book_59 : decode cX6_book 59 = .ok (.getfield 42, 3) := g_180 bX6_book rfl
theorem dX6_book_62 : decode cX6_book 62 = .ok (.aload_n 0, 1) := g_42 bX6_book rfl
theorem dX6_book_63 : decode cX6_book 63 = .ok (.getfield 71, 3) := g_180 bX6_book rfl
theorem dX6_book_66 : decode cX6_book 66 = .ok (.aaload, 1) := g_50 bX6_book rfl
theorem dX6_book_67 : decode cX6_book 67 = .ok (.iconst 1, 1) := g_4 bX6_book rfl
theorem dX6_book_68 : decode cX6_book 68 = .ok (.iload_n 2, 1) := g_28 bX6_book rfl
theorem dX6_book_69 : decode cX6_book 69 = .ok (.iastore, 1) := g_79 bX6_book rfl
theorem dX6_book_70 : decode cX6_book 70 = .ok (.aload_n 0, 1) := g_42 bX6_book rfl
theorem dX6_book_71 : decode cX6_book 71 = .ok (.dup, 1) := g_89 bX6_book rfl
theorem dX6_book_72 : decode cX6_book 72 = .ok (.getfield 71, 3) := g_180 bX6_book rfl
theorem dX6_book_75 : decode cX6_book 75 = .ok (.dup_x1, 1) := g_90 bX6_book rfl
theorem dX6_book_76 : decode cX6_book 76 = .ok (.iconst 1, 1) := g_4 bX6_book rfl
theorem dX6_book_77 : decode cX6_book 77 = .ok (.iadd, 1) := g_96 bX6_book rfl
theorem dX6_book_78 : decode cX6_book 78 = .ok (.putfield 71, 3) := g_181 bX6_book rfl
theorem dX6_book_81 : decode cX6_book 81 = .ok (.ireturn, 1) := g_172 bX6_book rfl
theorem dX6_bookOf_0 : decode cX6_bookOf 0 = .ok (.aload_n 0, 1) := g_42 bX6_bookOf rfl
theorem dX6_bookOf_1 : decode cX6_bookOf 1 = .ok (.iload_n 1, 1) := g_27 bX6_bookOf rfl
theorem dX6_bookOf_2 : decode cX6_bookOf 2 = .ok (.i2l, 1) := g_133 bX6_bookOf rfl
theorem dX6_bookOf_3 : decode cX6_bookOf 3 = .ok (.invokevirtual 229, 3) := g_182 bX6_bookOf rfl
theorem dX6_bookOf_6 : decode cX6_bookOf 6 = .ok (.ifCond .eq 15, 3) := g_153 15 bX6_bookOf rfl rfl
theorem dX6_bookOf_9 : decode cX6_bookOf 9 = .ok (.iload_n 2, 1) := g_28 bX6_bookOf rfl
theorem dX6_bookOf_10 : decode cX6_bookOf 10 = .ok (.i2l, 1) := g_133 bX6_bookOf rfl
theorem dX6_bookOf_11 : decode cX6_bookOf 11 = .ok (.lconst 0, 1) := g_9 bX6_bookOf rfl
theorem dX6_bookOf_12 : decode cX6_bookOf 12 = .ok (.ldc2_w 87, 3) := g_20 bX6_bookOf rfl
theorem dX6_bookOf_15 : decode cX6_bookOf 15 = .ok (.invokestatic 74, 3) := g_184 bX6_bookOf rfl
theorem dX6_bookOf_18 : decode cX6_bookOf 18 = .ok (.ifCond .ne 10, 3) := g_154 10 bX6_bookOf rfl rfl
theorem dX6_bookOf_21 : decode cX6_bookOf 21 = .ok (.aload_n 0, 1) := g_42 bX6_bookOf rfl
theorem dX6_bookOf_22 : decode cX6_bookOf 22 = .ok (.bipush (-2), 2) := g_16 254 bX6_bookOf rfl rfl
theorem dX6_bookOf_24 : decode cX6_bookOf 24 = .ok (.invokevirtual 91, 3) := g_182 bX6_bookOf rfl
theorem dX6_bookOf_27 : decode cX6_bookOf 27 = .ok (.ireturn, 1) := g_172 bX6_bookOf rfl
theorem dX6_bookOf_28 : decode cX6_bookOf 28 = .ok (.iload_n 2, 1) := g_28 bX6_bookOf rfl
theorem dX6_bookOf_29 : decode cX6_bookOf 29 = .ok (.iconst 4, 1) := g_7 bX6_bookOf rfl
theorem dX6_bookOf_30 : decode cX6_bookOf 30 = .ok (.if_icmp .ne 19, 3) := g_160 19 bX6_bookOf rfl rfl
theorem dX6_bookOf_33 : decode cX6_bookOf 33 = .ok (.aload_n 0, 1) := g_42 bX6_bookOf rfl
theorem dX6_bookOf_34 : decode cX6_bookOf 34 = .ok (.iload_n 1, 1) := g_27 bX6_bookOf rfl
theorem dX6_bookOf_35 : decode cX6_bookOf 35 = .ok (.iconst 1, 1) := g_4 bX6_bookOf rfl
theorem dX6_bookOf_36 : decode cX6_bookOf 36 = .ok (.aload_n 0, 1) := g_42 bX6_bookOf rfl
theorem dX6_bookOf_37 : decode cX6_bookOf 37 = .ok (.getfield 78, 3) := g_180 bX6_bookOf rfl
theorem dX6_bookOf_40 : decode cX6_bookOf 40 = .ok (.ishl, 1) := g_120 bX6_bookOf rfl
theorem dX6_bookOf_41 : decode cX6_bookOf 41 = .ok (.iconst 1, 1) := g_4 bX6_bookOf rfl
theorem dX6_bookOf_42 : decode cX6_bookOf 42 = .ok (.isub, 1) := g_100 bX6_bookOf rfl
theorem dX6_bookOf_43 : decode cX6_bookOf 43 = .ok (.invokevirtual 233, 3) := g_182 bX6_bookOf rfl
theorem dX6_bookOf_46 : decode cX6_bookOf 46 = .ok (.goto 11, 3) := g_167 11 bX6_bookOf rfl rfl
theorem dX6_bookOf_49 : decode cX6_bookOf 49 = .ok (.aload_n 0, 1) := g_42 bX6_bookOf rfl
theorem dX6_bookOf_50 : decode cX6_bookOf 50 = .ok (.getfield 42, 3) := g_180 bX6_bookOf rfl
theorem dX6_bookOf_53 : decode cX6_bookOf 53 = .ok (.iload_n 1, 1) := g_27 bX6_bookOf rfl
theorem dX6_bookOf_54 : decode cX6_bookOf 54 = .ok (.aaload, 1) := g_50 bX6_bookOf rfl
theorem dX6_bookOf_55 : decode cX6_bookOf 55 = .ok (.iload_n 2, 1) := g_28 bX6_bookOf rfl
theorem dX6_bookOf_56 : decode cX6_bookOf 56 = .ok (.iaload, 1) := g_46 bX6_bookOf rfl
theorem dX6_bookOf_57 : decode cX6_bookOf 57 = .ok (.ireturn, 1) := g_172 bX6_bookOf rfl
theorem dX6_feed_0 : decode cX6_feed 0 = .ok (.iload_n 2, 1) := g_28 bX6_feed rfl
theorem dX6_feed_1 : decode cX6_feed 1 = .ok (.i2l, 1) := g_133 bX6_feed rfl
theorem dX6_feed_2 : decode cX6_feed 2 = .ok (.lconst 1, 1) := g_10 bX6_feed rfl
theorem dX6_feed_3 : decode cX6_feed 3 = .ok (.ldc2_w 87, 3) := g_20 bX6_feed rfl
theorem dX6_feed_6 : decode cX6_feed 6 = .ok (.invokestatic 74, 3) := g_184 bX6_feed rfl
theorem dX6_feed_9 : decode cX6_feed 9 = .ok (.ifCond .ne 10, 3) := g_154 10 bX6_feed rfl rfl
theorem dX6_feed_12 : decode cX6_feed 12 = .ok (.aload_n 0, 1) := g_42 bX6_feed rfl
theorem dX6_feed_13 : decode cX6_feed 13 = .ok (.bipush (-2), 2) := g_16 254 bX6_feed rfl rfl
theorem dX6_feed_15 : decode cX6_feed 15 = .ok (.invokevirtual 91, 3) := g_182 bX6_feed rfl
theorem dX6_feed_18 : decode cX6_feed 18 = .ok (.ireturn, 1) := g_172 bX6_feed rfl
theorem dX6_feed_19 : decode cX6_feed 19 = .ok (.iload_n 2, 1) := g_28 bX6_feed rfl
theorem dX6_feed_20 : decode cX6_feed 20 = .ok (.sipush 250, 3) := g_17 250 bX6_feed rfl rfl
theorem dX6_feed_23 : decode cX6_feed 23 = .ok (.aload_n 0, 1) := g_42 bX6_feed rfl
theorem dX6_feed_24 : decode cX6_feed 24 = .ok (.getfield 141, 3) := g_180 bX6_feed rfl
theorem dX6_feed_27 : decode cX6_feed 27 = .ok (.isub, 1) := g_100 bX6_feed rfl
theorem dX6_feed_28 : decode cX6_feed 28 = .ok (.if_icmp .le 10, 3) := g_164 10 bX6_feed rfl rfl
theorem dX6_feed_31 : decode cX6_feed 31 = .ok (.aload_n 0, 1) := g_42 bX6_feed rfl
theorem dX6_feed_32 : decode cX6_feed 32 = .ok (.bipush (-6), 2) := g_16 250 bX6_feed rfl rfl
theorem dX6_feed_34 : decode cX6_feed 34 = .ok (.invokevirtual 91, 3) := g_182 bX6_feed rfl
theorem dX6_feed_37 : decode cX6_feed 37 = .ok (.ireturn, 1) := g_172 bX6_feed rfl
theorem dX6_feed_38 : decode cX6_feed 38 = .ok (.iload_n 2, 1) := g_28 bX6_feed rfl
theorem dX6_feed_39 : decode cX6_feed 39 = .ok (.iconst 1, 1) := g_4 bX6_feed rfl
theorem dX6_feed_40 : decode cX6_feed 40 = .ok (.isub, 1) := g_100 bX6_feed rfl
theorem dX6_feed_41 : decode cX6_feed 41 = .ok (.istore_n 3, 1) := g_62 bX6_feed rfl
theorem dX6_feed_42 : decode cX6_feed 42 = .ok (.iload_n 3, 1) := g_29 bX6_feed rfl
theorem dX6_feed_43 : decode cX6_feed 43 = .ok (.ifCond .lt 35, 3) := g_155 35 bX6_feed rfl rfl
theorem dX6_feed_46 : decode cX6_feed 46 = .ok (.aload_n 0, 1) := g_42 bX6_feed rfl
theorem dX6_feed_47 : decode cX6_feed 47 = .ok (.getfield 34, 3) := g_180 bX6_feed rfl
theorem dX6_feed_50 : decode cX6_feed 50 = .ok (.aload_n 0, 1) := g_42 bX6_feed rfl
theorem dX6_feed_51 : decode cX6_feed 51 = .ok (.dup, 1) := g_89 bX6_feed rfl
theorem dX6_feed_52 : decode cX6_feed 52 = .ok (.getfield 141, 3) := g_180 bX6_feed rfl
theorem dX6_feed_55 : decode cX6_feed 55 = .ok (.dup_x1, 1) := g_90 bX6_feed rfl
theorem dX6_feed_56 : decode cX6_feed 56 = .ok (.iconst 1, 1) := g_4 bX6_feed rfl
theorem dX6_feed_57 : decode cX6_feed 57 = .ok (.iadd, 1) := g_96 bX6_feed rfl
theorem dX6_feed_58 : decode cX6_feed 58 = .ok (.putfield 141, 3) := g_181 bX6_feed rfl
theorem dX6_feed_61 : decode cX6_feed 61 = .ok (.iload_n 1, 1) := g_27 bX6_feed rfl
theorem dX6_feed_62 : decode cX6_feed 62 = .ok (.bipush 8, 2) := g_16 8 bX6_feed rfl rfl
theorem dX6_feed_64 : decode cX6_feed 64 = .ok (.iload_n 3, 1) := g_29 bX6_feed rfl
theorem dX6_feed_65 : decode cX6_feed 65 = .ok (.imul, 1) := g_104 bX6_feed rfl
theorem dX6_feed_66 : decode cX6_feed 66 = .ok (.ishr, 1) := g_122 bX6_feed rfl
theorem dX6_feed_67 : decode cX6_feed 67 = .ok (.sipush 255, 3) := g_17 255 bX6_feed rfl rfl
theorem dX6_feed_70 : decode cX6_feed 70 = .ok (.iand, 1) := g_126 bX6_feed rfl
theorem dX6_feed_71 : decode cX6_feed 71 = .ok (.iastore, 1) := g_79 bX6_feed rfl
theorem dX6_feed_72 : decode cX6_feed 72 = .ok (.iinc 3 (-1), 3) := g_132 255 bX6_feed rfl rfl
theorem dX6_feed_75 : decode cX6_feed 75 = .ok (.goto (-33), 3) := g_167 65503 bX6_feed rfl rfl
theorem dX6_feed_78 : decode cX6_feed 78 = .ok (.aload_n 0, 1) := g_42 bX6_feed rfl
theorem dX6_feed_79 : decode cX6_feed 79 = .ok (.getfield 141, 3) := g_180 bX6_feed rfl
theorem dX6_feed_82 : decode cX6_feed 82 = .ok (.ireturn, 1) := g_172 bX6_feed rfl
theorem dX6_ground_0 : decode cX6_ground 0 = .ok (.aload_n 0, 1) := g_42 bX6_ground rfl
theorem dX6_ground_1 : decode cX6_ground 1 = .ok (.iload_n 1, 1) := g_27 bX6_ground rfl
theorem dX6_ground_2 : decode cX6_ground 2 = .ok (.i2l, 1) := g_133 bX6_ground rfl
theorem dX6_ground_3 : decode cX6_ground 3 = .ok (.invokevirtual 236, 3) := g_182 bX6_ground rfl
theorem dX6_ground_6 : decode cX6_ground 6 = .ok (.ifCond .eq 21, 3) := g_153 21 bX6_ground rfl rfl
theorem dX6_ground_9 : decode cX6_ground 9 = .ok (.aload_n 0, 1) := g_42 bX6_ground rfl
theorem dX6_ground_10 : decode cX6_ground 10 = .ok (.iload_n 2, 1) := g_28 bX6_ground rfl
theorem dX6_ground_11 : decode cX6_ground 11 = .ok (.i2l, 1) := g_133 bX6_ground rfl
theorem dX6_ground_12 : decode cX6_ground 12 = .ok (.invokevirtual 229, 3) := g_182 bX6_ground rfl
theorem dX6_ground_15 : decode cX6_ground 15 = .ok (.ifCond .eq 12, 3) := g_153 12 bX6_ground rfl rfl
theorem dX6_ground_18 : decode cX6_ground 18 = .ok (.aload_n 0, 1) := g_42 bX6_ground rfl
theorem dX6_ground_19 : decode cX6_ground 19 = .ok (.iload_n 1, 1) := g_27 bX6_ground rfl
theorem dX6_ground_20 : decode cX6_ground 20 = .ok (.iload_n 2, 1) := g_28 bX6_ground rfl
theorem dX6_ground_21 : decode cX6_ground 21 = .ok (.invokevirtual 241, 3) := g_182 bX6_ground rfl
theorem dX6_ground_24 : decode cX6_ground 24 = .ok (.goto 9, 3) := g_167 9 bX6_ground rfl rfl
theorem dX6_ground_27 : decode cX6_ground 27 = .ok (.aload_n 0, 1) := g_42 bX6_ground rfl
theorem dX6_ground_28 : decode cX6_ground 28 = .ok (.bipush (-2), 2) := g_16 254 bX6_ground rfl rfl
theorem dX6_ground_30 : decode cX6_ground 30 = .ok (.invokevirtual 91, 3) := g_182 bX6_ground rfl
theorem dX6_ground_33 : decode cX6_ground 33 = .ok (.ireturn, 1) := g_172 bX6_ground rfl
theorem dX6_known_0 : decode cX6_known 0 = .ok (.aload_n 0, 1) := g_42 bX6_known rfl
theorem dX6_known_1 : decode cX6_known 1 = .ok (.iload_n 1, 1) := g_27 bX6_known rfl
theorem dX6_known_2 : decode cX6_known 2 = .ok (.i2l, 1) := g_133 bX6_known rfl
theorem dX6_known_3 : decode cX6_known 3 = .ok (.invokevirtual 236, 3) := g_182 bX6_known rfl
theorem dX6_known_6 : decode cX6_known 6 = .ok (.ifCond .eq 23, 3) := g_153 23 bX6_known rfl rfl
theorem dX6_known_9 : decode cX6_known 9 = .ok (.aload_n 0, 1) := g_42 bX6_known rfl
theorem dX6_known_10 : decode cX6_known 10 = .ok (.iload_n 2, 1) := g_28 bX6_known rfl
theorem dX6_known_11 : decode cX6_known 11 = .ok (.i2l, 1) := g_133 bX6_known rfl
theorem dX6_known_12 : decode cX6_known 12 = .ok (.invokevirtual 229, 3) := g_182 bX6_known rfl
theorem dX6_known_15 : decode cX6_known 15 = .ok (.ifCond .eq 14, 3) := g_153 14 bX6_known rfl rfl
theorem dX6_known_18 : decode cX6_known 18 = .ok (.aload_n 0, 1) := g_42 bX6_known rfl
theorem dX6_known_19 : decode cX6_known 19 = .ok (.getfield 48, 3) := g_180 bX6_known rfl
theorem dX6_known_22 : decode cX6_known 22 = .ok (.iload_n 1, 1) := g_27 bX6_known rfl
theorem dX6_known_23 : decode cX6_known 23 = .ok (.aaload, 1) := g_50 bX6_known rfl
theorem dX6_known_24 : decode cX6_known 24 = .ok (.iload_n 2, 1) := g_28 bX6_known rfl
theorem dX6_known_25 : decode cX6_known 25 = .ok (.iaload, 1) := g_46 bX6_known rfl
theorem dX6_known_26 : decode cX6_known 26 = .ok (.goto 9, 3) := g_167 9 bX6_known rfl rfl
theorem dX6_known_29 : decode cX6_known 29 = .ok (.aload_n 0, 1) := g_42 bX6_known rfl
theorem dX6_known_30 : decode cX6_known 30 = .ok (.bipush (-2), 2) := g_16 254 bX6_known rfl rfl
theorem dX6_known_32 : decode cX6_known 32 = .ok (.invokevirtual 91, 3) := g_182 bX6_known rfl
theorem dX6_known_35 : decode cX6_known 35 = .ok (.ireturn, 1) := g_172 bX6_known rfl
theorem dX6_needs_0 : decode cX6_needs 0 = .ok (.aload_n 0, 1) := g_42 bX6_needs rfl
theorem dX6_needs_1 : decode cX6_needs 1 = .ok (.iload_n 1, 1) := g_27 bX6_needs rfl
theorem dX6_needs_2 : decode cX6_needs 2 = .ok (.i2l, 1) := g_133 bX6_needs rfl
theorem dX6_needs_3 : decode cX6_needs 3 = .ok (.invokevirtual 229, 3) := g_182 bX6_needs rfl
theorem dX6_needs_6 : decode cX6_needs 6 = .ok (.ifCond .ne 10, 3) := g_154 10 bX6_needs rfl rfl
theorem dX6_needs_9 : decode cX6_needs 9 = .ok (.aload_n 0, 1) := g_42 bX6_needs rfl
theorem dX6_needs_10 : decode cX6_needs 10 = .ok (.bipush (-2), 2) := g_16 254 bX6_needs rfl rfl
theorem dX6_needs_12 : decode cX6_needs 12 = .ok (.invokevirtual 91, 3) := g_182 bX6_needs rfl
theorem dX6_needs_15 : decode cX6_needs 15 = .ok (.ireturn, 1) := g_172 bX6_needs rfl
theorem dX6_needs_16 : decode cX6_needs 16 = .ok (.iconst 0, 1) := g_3 bX6_needs rfl
theorem dX6_needs_17 : decode cX6_needs 17 = .ok (.istore_n 3, 1) := g_62 bX6_needs rfl
theorem dX6_needs_18 : decode cX6_needs 18 = .ok (.iload_n 2, 1) := g_28 bX6_needs rfl
theorem dX6_needs_19 : decode cX6_needs 19 = .ok (.ifCond .eq 54, 3) := g_153 54 bX6_needs rfl rfl
theorem dX6_needs_22 : decode cX6_needs 22 = .ok (.iload_n 1, 1) := g_27 bX6_needs rfl
theorem dX6_needs_23 : decode cX6_needs 23 = .ok (.iconst 1, 1) := g_4 bX6_needs rfl
theorem dX6_needs_24 : decode cX6_needs 24 = .ok (.iadd, 1) := g_96 bX6_needs rfl
theorem dX6_needs_25 : decode cX6_needs 25 = .ok (.istore 4, 2) := g_54 bX6_needs rfl
theorem dX6_needs_27 : decode cX6_needs 27 = .ok (.iload 4, 2) := g_21 bX6_needs rfl
theorem dX6_needs_29 : decode cX6_needs 29 = .ok (.aload_n 0, 1) := g_42 bX6_needs rfl
theorem dX6_needs_30 : decode cX6_needs 30 = .ok (.getfield 71, 3) := g_180 bX6_needs rfl
theorem dX6_needs_33 : decode cX6_needs 33 = .ok (.if_icmp .ge 38, 3) := g_162 38 bX6_needs rfl rfl
theorem dX6_needs_36 : decode cX6_needs 36 = .ok (.iload_n 3, 1) := g_29 bX6_needs rfl
theorem dX6_needs_37 : decode cX6_needs 37 = .ok (.aload_n 0, 1) := g_42 bX6_needs rfl
theorem dX6_needs_38 : decode cX6_needs 38 = .ok (.getfield 42, 3) := g_180 bX6_needs rfl
theorem dX6_needs_41 : decode cX6_needs 41 = .ok (.iload 4, 2) := g_21 bX6_needs rfl
theorem dX6_needs_43 : decode cX6_needs 43 = .ok (.aaload, 1) := g_50 bX6_needs rfl
theorem dX6_needs_44 : decode cX6_needs 44 = .ok (.iconst 1, 1) := g_4 bX6_needs rfl
theorem dX6_needs_45 : decode cX6_needs 45 = .ok (.iaload, 1) := g_46 bX6_needs rfl
theorem dX6_needs_46 : decode cX6_needs 46 = .ok (.iload_n 3, 1) := g_29 bX6_needs rfl
theorem dX6_needs_47 : decode cX6_needs 47 = .ok (.iconst 1, 1) := g_4 bX6_needs rfl
theorem dX6_needs_48 : decode cX6_needs 48 = .ok (.iload_n 1, 1) := g_27 bX6_needs rfl
theorem dX6_needs_49 : decode cX6_needs 49 = .ok (.ishl, 1) := g_120 bX6_needs rfl
theorem dX6_needs_50 : decode cX6_needs 50 = .ok (.ior, 1) := g_128 bX6_needs rfl
theorem dX6_needs_51 : decode cX6_needs 51 = .ok (.iand, 1) := g_126 bX6_needs rfl
theorem dX6_needs_52 : decode cX6_needs 52 = .ok (.ifCond .eq 10, 3) := g_153 10 bX6_needs rfl rfl
theorem dX6_needs_55 : decode cX6_needs 55 = .ok (.iconst 1, 1) := g_4 bX6_needs rfl
theorem dX6_needs_56 : decode cX6_needs 56 = .ok (.iload 4, 2) := g_21 bX6_needs rfl
theorem dX6_needs_58 : decode cX6_needs 58 = .ok (.ishl, 1) := g_120 bX6_needs rfl
theorem dX6_needs_59 : decode cX6_needs 59 = .ok (.goto 4, 3) := g_167 4 bX6_needs rfl rfl
theorem dX6_needs_62 : decode cX6_needs 62 = .ok (.iconst 0, 1) := g_3 bX6_needs rfl
theorem dX6_needs_63 : decode cX6_needs 63 = .ok (.ior, 1) := g_128 bX6_needs rfl
theorem dX6_needs_64 : decode cX6_needs 64 = .ok (.istore_n 3, 1) := g_62 bX6_needs rfl
theorem dX6_needs_65 : decode cX6_needs 65 = .ok (.iinc 4 1, 3) := g_132 1 bX6_needs rfl rfl
theorem dX6_needs_68 : decode cX6_needs 68 = .ok (.goto (-41), 3) := g_167 65495 bX6_needs rfl rfl
theorem dX6_needs_71 : decode cX6_needs 71 = .ok (.iload_n 3, 1) := g_29 bX6_needs rfl
theorem dX6_needs_72 : decode cX6_needs 72 = .ok (.ireturn, 1) := g_172 bX6_needs rfl
theorem dX6_needs_73 : decode cX6_needs 73 = .ok (.aload_n 0, 1) := g_42 bX6_needs rfl
theorem dX6_needs_74 : decode cX6_needs 74 = .ok (.getfield 42, 3) := g_180 bX6_needs rfl
theorem dX6_needs_77 : decode cX6_needs 77 = .ok (.iload_n 1, 1) := g_27 bX6_needs rfl
theorem dX6_needs_78 : decode cX6_needs 78 = .ok (.aaload, 1) := g_50 bX6_needs rfl
theorem dX6_needs_79 : decode cX6_needs 79 = .ok (.iconst 1, 1) := g_4 bX6_needs rfl
theorem dX6_needs_80 : decode cX6_needs 80 = .ok (.iaload, 1) := g_46 bX6_needs rfl
theorem dX6_needs_81 : decode cX6_needs 81 = .ok (.istore_n 3, 1) := g_62 bX6_needs rfl
theorem dX6_needs_82 : decode cX6_needs 82 = .ok (.iload_n 1, 1) := g_27 bX6_needs rfl
theorem dX6_needs_83 : decode cX6_needs 83 = .ok (.iconst 1, 1) := g_4 bX6_needs rfl
theorem dX6_needs_84 : decode cX6_needs 84 = .ok (.isub, 1) := g_100 bX6_needs rfl
theorem dX6_needs_85 : decode cX6_needs 85 = .ok (.istore 4, 2) := g_54 bX6_needs rfl
theorem dX6_needs_87 : decode cX6_needs 87 = .ok (.iload 4, 2) := g_21 bX6_needs rfl
theorem dX6_needs_89 : decode cX6_needs 89 = .ok (.ifCond .lt 34, 3) := g_155 34 bX6_needs rfl rfl
theorem dX6_needs_92 : decode cX6_needs 92 = .ok (.iload_n 3, 1) := g_29 bX6_needs rfl
theorem dX6_needs_93 : decode cX6_needs 93 = .ok (.iload_n 3, 1) := g_29 bX6_needs rfl
theorem dX6_needs_94 : decode cX6_needs 94 = .ok (.iload 4, 2) := g_21 bX6_needs rfl
theorem dX6_needs_96 : decode cX6_needs 96 = .ok (.ishr, 1) := g_122 bX6_needs rfl
theorem dX6_needs_97 : decode cX6_needs 97 = .ok (.iconst 1, 1) := g_4 bX6_needs rfl
theorem dX6_needs_98 : decode cX6_needs 98 = .ok (.iand, 1) := g_126 bX6_needs rfl
theorem dX6_needs_99 : decode cX6_needs 99 = .ok (.ifCond .eq 15, 3) := g_153 15 bX6_needs rfl rfl
theorem dX6_needs_102 : decode cX6_needs 102 = .ok (.aload_n 0, 1) := g_42 bX6_needs rfl
theorem dX6_needs_103 : decode cX6_needs 103 = .ok (.getfield 42, 3) := g_180 bX6_needs rfl
theorem dX6_needs_106 : decode cX6_needs 106 = .ok (.iload 4, 2) := g_21 bX6_needs rfl
theorem dX6_needs_108 : decode cX6_needs 108 = .ok (.aaload, 1) := g_50 bX6_needs rfl
theorem dX6_needs_109 : decode cX6_needs 109 = .ok (.iconst 1, 1) := g_4 bX6_needs rfl
theorem dX6_needs_110 : decode cX6_needs 110 = .ok (.iaload, 1) := g_46 bX6_needs rfl
theorem dX6_needs_111 : decode cX6_needs 111 = .ok (.goto 4, 3) := g_167 4 bX6_needs rfl rfl
theorem dX6_needs_114 : decode cX6_needs 114 = .ok (.iconst 0, 1) := g_3 bX6_needs rfl
theorem dX6_needs_115 : decode cX6_needs 115 = .ok (.ior, 1) := g_128 bX6_needs rfl
theorem dX6_needs_116 : decode cX6_needs 116 = .ok (.istore_n 3, 1) := g_62 bX6_needs rfl
