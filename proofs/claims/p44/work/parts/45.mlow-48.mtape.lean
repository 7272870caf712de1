section
theorem dX6_add_0 : decode cX6_add 0 = .ok (.lload_n 1, 1) := g_31 bX6_add rfl
theorem dX6_add_1 : decode cX6_add 1 = .ok (.lconst 0, 1) := g_9 bX6_add rfl
theorem dX6_add_2 : decode cX6_add 2 = .ok (.ldc2_w 130, 3) := g_20 bX6_add rfl
theorem dX6_add_5 : decode cX6_add 5 = .ok (.invokestatic 74, 3) := g_184 bX6_add rfl
theorem dX6_add_8 : decode cX6_add 8 = .ok (.ifCond .eq 38, 3) := g_153 38 bX6_add rfl rfl
theorem dX6_add_11 : decode cX6_add 11 = .ok (.lload_n 3, 1) := g_33 bX6_add rfl
theorem dX6_add_12 : decode cX6_add 12 = .ok (.lconst 0, 1) := g_9 bX6_add rfl
theorem dX6_add_13 : decode cX6_add 13 = .ok (.ldc2_w 132, 3) := g_20 bX6_add rfl
theorem dX6_add_16 : decode cX6_add 16 = .ok (.invokestatic 74, 3) := g_184 bX6_add rfl
theorem dX6_add_19 : decode cX6_add 19 = .ok (.ifCond .eq 27, 3) := g_153 27 bX6_add rfl rfl
theorem dX6_add_22 : decode cX6_add 22 = .ok (.lload 5, 2) := g_22 bX6_add rfl
theorem dX6_add_24 : decode cX6_add 24 = .ok (.lconst 0, 1) := g_9 bX6_add rfl
theorem dX6_add_25 : decode cX6_add 25 = .ok (.ldc2_w 132, 3) := g_20 bX6_add rfl
theorem dX6_add_28 : decode cX6_add 28 = .ok (.invokestatic 74, 3) := g_184 bX6_add rfl
theorem dX6_add_31 : decode cX6_add 31 = .ok (.ifCond .eq 15, 3) := g_153 15 bX6_add rfl rfl
theorem dX6_add_34 : decode cX6_add 34 = .ok (.lload 7, 2) := g_22 bX6_add rfl
theorem dX6_add_36 : decode cX6_add 36 = .ok (.lconst 0, 1) := g_9 bX6_add rfl
theorem dX6_add_37 : decode cX6_add 37 = .ok (.ldc2_w 132, 3) := g_20 bX6_add rfl
theorem dX6_add_40 : decode cX6_add 40 = .ok (.invokestatic 74, 3) := g_184 bX6_add rfl
theorem dX6_add_43 : decode cX6_add 43 = .ok (.ifCond .ne 6, 3) := g_154 6 bX6_add rfl rfl
theorem dX6_add_46 : decode cX6_add 46 = .ok (.bipush (-2), 2) := g_16 254 bX6_add rfl rfl
theorem dX6_add_48 : decode cX6_add 48 = .ok (.ireturn, 1) := g_172 bX6_add rfl
theorem dX6_add_49 : decode cX6_add 49 = .ok (.aload_n 0, 1) := g_42 bX6_add rfl
theorem dX6_add_50 : decode cX6_add 50 = .ok (.getfield 78, 3) := g_180 bX6_add rfl
theorem dX6_add_53 : decode cX6_add 53 = .ok (.bipush 8, 2) := g_16 8 bX6_add rfl rfl
theorem dX6_add_55 : decode cX6_add 55 = .ok (.if_icmp .ne 6, 3) := g_160 6 bX6_add rfl rfl
theorem dX6_add_58 : decode cX6_add 58 = .ok (.bipush (-6), 2) := g_16 250 bX6_add rfl rfl
theorem dX6_add_60 : decode cX6_add 60 = .ok (.ireturn, 1) := g_172 bX6_add rfl
theorem dX6_add_61 : decode cX6_add 61 = .ok (.aload_n 0, 1) := g_42 bX6_add rfl
theorem dX6_add_62 : decode cX6_add 62 = .ok (.invokevirtual 134, 3) := g_182 bX6_add rfl
theorem dX6_add_65 : decode cX6_add 65 = .ok (.aload_n 0, 1) := g_42 bX6_add rfl
theorem dX6_add_66 : decode cX6_add 66 = .ok (.getfield 45, 3) := g_180 bX6_add rfl
theorem dX6_add_69 : decode cX6_add 69 = .ok (.aload_n 0, 1) := g_42 bX6_add rfl
theorem dX6_add_70 : decode cX6_add 70 = .ok (.getfield 78, 3) := g_180 bX6_add rfl
theorem dX6_add_73 : decode cX6_add 73 = .ok (.aaload, 1) := g_50 bX6_add rfl
theorem dX6_add_74 : decode cX6_add 74 = .ok (.iconst 0, 1) := g_3 bX6_add rfl
theorem dX6_add_75 : decode cX6_add 75 = .ok (.lload_n 1, 1) := g_31 bX6_add rfl
theorem dX6_add_76 : decode cX6_add 76 = .ok (.l2i, 1) := g_136 bX6_add rfl
theorem dX6_add_77 : decode cX6_add 77 = .ok (.iastore, 1) := g_79 bX6_add rfl
theorem dX6_add_78 : decode cX6_add 78 = .ok (.aload_n 0, 1) := g_42 bX6_add rfl
theorem dX6_add_79 : decode cX6_add 79 = .ok (.getfield 45, 3) := g_180 bX6_add rfl
theorem dX6_add_82 : decode cX6_add 82 = .ok (.aload_n 0, 1) := g_42 bX6_add rfl
theorem dX6_add_83 : decode cX6_add 83 = .ok (.getfield 78, 3) := g_180 bX6_add rfl
theorem dX6_add_86 : decode cX6_add 86 = .ok (.aaload, 1) := g_50 bX6_add rfl
theorem dX6_add_87 : decode cX6_add 87 = .ok (.iconst 1, 1) := g_4 bX6_add rfl
theorem dX6_add_88 : decode cX6_add 88 = .ok (.lload_n 3, 1) := g_33 bX6_add rfl
theorem dX6_add_89 : decode cX6_add 89 = .ok (.l2i, 1) := g_136 bX6_add rfl
theorem dX6_add_90 : decode cX6_add 90 = .ok (.iastore, 1) := g_79 bX6_add rfl
theorem dX6_add_91 : decode cX6_add 91 = .ok (.aload_n 0, 1) := g_42 bX6_add rfl
theorem dX6_add_92 : decode cX6_add 92 = .ok (.getfield 45, 3) := g_180 bX6_add rfl
theorem dX6_add_95 : decode cX6_add 95 = .ok (.aload_n 0, 1) := g_42 bX6_add rfl
theorem dX6_add_96 : decode cX6_add 96 = .ok (.getfield 78, 3) := g_180 bX6_add rfl
theorem dX6_add_99 : decode cX6_add 99 = .ok (.aaload, 1) := g_50 bX6_add rfl
theorem dX6_add_100 : decode cX6_add 100 = .ok (.iconst 2, 1) := g_5 bX6_add rfl
theorem dX6_add_101 : decode cX6_add 101 = .ok (.lload 5, 2) := g_22 bX6_add rfl
theorem dX6_add_103 : decode cX6_add 103 = .ok (.l2i, 1) := g_136 bX6_add rfl
theorem dX6_add_104 : decode cX6_add 104 = .ok (.iastore, 1) := g_79 bX6_add rfl
theorem dX6_add_105 : decode cX6_add 105 = .ok (.aload_n 0, 1) := g_42 bX6_add rfl
theorem dX6_add_106 : decode cX6_add 106 = .ok (.getfield 45, 3) := g_180 bX6_add rfl
theorem dX6_add_109 : decode cX6_add 109 = .ok (.aload_n 0, 1) := g_42 bX6_add rfl
theorem dX6_add_110 : decode cX6_add 110 = .ok (.getfield 78, 3) := g_180 bX6_add rfl
theorem dX6_add_113 : decode cX6_add 113 = .ok (.aaload, 1) := g_50 bX6_add rfl
theorem dX6_add_114 : decode cX6_add 114 = .ok (.iconst 3, 1) := g_6 bX6_add rfl
theorem dX6_add_115 : decode cX6_add 115 = .ok (.lload 7, 2) := g_22 bX6_add rfl
theorem dX6_add_117 : decode cX6_add 117 = .ok (.l2i, 1) := g_136 bX6_add rfl
theorem dX6_add_118 : decode cX6_add 118 = .ok (.iastore, 1) := g_79 bX6_add rfl
theorem dX6_add_119 : decode cX6_add 119 = .ok (.aload_n 0, 1) := g_42 bX6_add rfl
theorem dX6_add_120 : decode cX6_add 120 = .ok (.dup, 1) := g_89 bX6_add rfl
theorem dX6_add_121 : decode cX6_add 121 = .ok (.getfield 78, 3) := g_180 bX6_add rfl
theorem dX6_add_124 : decode cX6_add 124 = .ok (.dup_x1, 1) := g_90 bX6_add rfl
theorem dX6_add_125 : decode cX6_add 125 = .ok (.iconst 1, 1) := g_4 bX6_add rfl
theorem dX6_add_126 : decode cX6_add 126 = .ok (.iadd, 1) := g_96 bX6_add rfl
theorem dX6_add_127 : decode cX6_add 127 = .ok (.putfield 78, 3) := g_181 bX6_add rfl
theorem dX6_add_130 : decode cX6_add 130 = .ok (.ireturn, 1) := g_172 bX6_add rfl
theorem dX6_fit_0 : decode cX6_fit 0 = .ok (.iload_n 0, 1) := g_26 bX6_fit rfl
theorem dX6_fit_1 : decode cX6_fit 1 = .ok (.tableswitch 47 0 3 #[31, 36, 41, 45], 31) := by decide +kernel
theorem dX6_fit_32 : decode cX6_fit 32 = .ok (.lload_n 1, 1) := g_31 bX6_fit rfl
theorem dX6_fit_33 : decode cX6_fit 33 = .ok (.l2i, 1) := g_136 bX6_fit rfl
theorem dX6_fit_34 : decode cX6_fit 34 = .ok (.i2b, 1) := g_145 bX6_fit rfl
theorem dX6_fit_35 : decode cX6_fit 35 = .ok (.i2l, 1) := g_133 bX6_fit rfl
theorem dX6_fit_36 : decode cX6_fit 36 = .ok (.lreturn, 1) := g_173 bX6_fit rfl
theorem dX6_fit_37 : decode cX6_fit 37 = .ok (.lload_n 1, 1) := g_31 bX6_fit rfl
theorem dX6_fit_38 : decode cX6_fit 38 = .ok (.l2i, 1) := g_136 bX6_fit rfl
theorem dX6_fit_39 : decode cX6_fit 39 = .ok (.i2s, 1) := g_147 bX6_fit rfl
theorem dX6_fit_40 : decode cX6_fit 40 = .ok (.i2l, 1) := g_133 bX6_fit rfl
theorem dX6_fit_41 : decode cX6_fit 41 = .ok (.lreturn, 1) := g_173 bX6_fit rfl
theorem dX6_fit_42 : decode cX6_fit 42 = .ok (.lload_n 1, 1) := g_31 bX6_fit rfl
theorem dX6_fit_43 : decode cX6_fit 43 = .ok (.l2i, 1) := g_136 bX6_fit rfl
theorem dX6_fit_44 : decode cX6_fit 44 = .ok (.i2l, 1) := g_133 bX6_fit rfl
theorem dX6_fit_45 : decode cX6_fit 45 = .ok (.lreturn, 1) := g_173 bX6_fit rfl
theorem dX6_fit_46 : decode cX6_fit 46 = .ok (.lload_n 1, 1) := g_31 bX6_fit rfl
theorem dX6_fit_47 : decode cX6_fit 47 = .ok (.lreturn, 1) := g_173 bX6_fit rfl
theorem dX6_fit_48 : decode cX6_fit 48 = .ok (.lload_n 1, 1) := g_31 bX6_fit rfl
theorem dX6_fit_49 : decode cX6_fit 49 = .ok (.lconst 0, 1) := g_9 bX6_fit rfl
theorem dX6_fit_50 : decode cX6_fit 50 = .ok (.lcmp, 1) := g_148 bX6_fit rfl
theorem dX6_fit_51 : decode cX6_fit 51 = .ok (.ifCond .eq 7, 3) := g_153 7 bX6_fit rfl rfl
theorem dX6_fit_54 : decode cX6_fit 54 = .ok (.lconst 1, 1) := g_10 bX6_fit rfl
theorem dX6_fit_55 : decode cX6_fit 55 = .ok (.goto 4, 3) := g_167 4 bX6_fit rfl rfl
theorem dX6_fit_58 : decode cX6_fit 58 = .ok (.lconst 0, 1) := g_9 bX6_fit rfl
theorem dX6_fit_59 : decode cX6_fit 59 = .ok (.lreturn, 1) := g_173 bX6_fit rfl
theorem dX6_isUnder_0 : decode cX6_isUnder 0 = .ok (.iload_n 1, 1) := g_27 bX6_isUnder rfl
theorem dX6_isUnder_1 : decode cX6_isUnder 1 = .ok (.ifCond .eq 28, 3) := g_153 28 bX6_isUnder rfl rfl
theorem dX6_isUnder_4 : decode cX6_isUnder 4 = .ok (.iload_n 0, 1) := g_26 bX6_isUnder rfl
theorem dX6_isUnder_5 : decode cX6_isUnder 5 = .ok (.iload_n 1, 1) := g_27 bX6_isUnder rfl
theorem dX6_isUnder_6 : decode cX6_isUnder 6 = .ok (.if_icmp .eq 23, 3) := g_159 23 bX6_isUnder rfl rfl
theorem dX6_isUnder_9 : decode cX6_isUnder 9 = .ok (.iload_n 1, 1) := g_27 bX6_isUnder rfl
theorem dX6_isUnder_10 : decode cX6_isUnder 10 = .ok (.iconst 1, 1) := g_4 bX6_isUnder rfl
theorem dX6_isUnder_11 : decode cX6_isUnder 11 = .ok (.if_icmp .ne 8, 3) := g_160 8 bX6_isUnder rfl rfl
theorem dX6_isUnder_14 : decode cX6_isUnder 14 = .ok (.iload_n 0, 1) := g_26 bX6_isUnder rfl
theorem dX6_isUnder_15 : decode cX6_isUnder 15 = .ok (.iconst 3, 1) := g_6 bX6_isUnder rfl
theorem dX6_isUnder_16 : decode cX6_isUnder 16 = .ok (.if_icmp .le 13, 3) := g_164 13 bX6_isUnder rfl rfl
theorem dX6_isUnder_19 : decode cX6_isUnder 19 = .ok (.iload_n 1, 1) := g_27 bX6_isUnder rfl
theorem dX6_isUnder_20 : decode cX6_isUnder 20 = .ok (.iconst 4, 1) := g_7 bX6_isUnder rfl
theorem dX6_isUnder_21 : decode cX6_isUnder 21 = .ok (.if_icmp .ne 12, 3) := g_160 12 bX6_isUnder rfl rfl
theorem dX6_isUnder_24 : decode cX6_isUnder 24 = .ok (.iload_n 0, 1) := g_26 bX6_isUnder rfl
theorem dX6_isUnder_25 : decode cX6_isUnder 25 = .ok (.iconst 4, 1) := g_7 bX6_isUnder rfl
theorem dX6_isUnder_26 : decode cX6_isUnder 26 = .ok (.if_icmp .lt 7, 3) := g_161 7 bX6_isUnder rfl rfl
theorem dX6_isUnder_29 : decode cX6_isUnder 29 = .ok (.iconst 1, 1) := g_4 bX6_isUnder rfl
theorem dX6_isUnder_30 : decode cX6_isUnder 30 = .ok (.goto 4, 3) := g_167 4 bX6_isUnder rfl rfl
theorem dX6_isUnder_33 : decode cX6_isUnder 33 = .ok (.iconst 0, 1) := g_3 bX6_isUnder rfl
theorem dX6_isUnder_34 : decode cX6_isUnder 34 = .ok (.ireturn, 1) := g_172 bX6_isUnder rfl
theorem dX6_newBook_0 : decode cX6_newBook 0 = .ok (.aload_n 0, 1) := g_42 bX6_newBook rfl
theorem dX6_newBook_1 : decode cX6_newBook 1 = .ok (.getfield 42, 3) := g_180 bX6_newBook rfl
theorem dX6_newBook_4 : decode cX6_newBook 4 = .ok (.aload_n 0, 1) := g_42 bX6_newBook rfl
theorem dX6_newBook_5 : decode cX6_newBook 5 = .ok (.getfield 71, 3) := g_180 bX6_newBook rfl
theorem dX6_newBook_8 : decode cX6_newBook 8 = .ok (.aaload, 1) := g_50 bX6_newBook rfl
theorem dX6_newBook_9 : decode cX6_newBook 9 = .ok (.iconst 0, 1) := g_3 bX6_newBook rfl
theorem dX6_newBook_10 : decode cX6_newBook 10 = .ok (.iload_n 1, 1) := g_27 bX6_newBook rfl
theorem dX6_newBook_11 : decode cX6_newBook 11 = .ok (.iastore, 1) := g_79 bX6_newBook rfl
theorem dX6_newBook_12 : decode cX6_newBook 12 = .ok (.aload_n 0, 1) := g_42 bX6_newBook rfl
theorem dX6_newBook_13 : decode cX6_newBook 13 = .ok (.getfield 42, 3) := g_180 bX6_newBook rfl
theorem dX6_newBook_16 : decode cX6_newBook 16 = .ok (.aload_n 0, 1) := g_42 bX6_newBook rfl
theorem dX6_newBook_17 : decode cX6_newBook 17 = .ok (.getfield 71, 3) := g_180 bX6_newBook rfl
theorem dX6_newBook_20 : decode cX6_newBook 20 = .ok (.aaload, 1) := g_50 bX6_newBook rfl
theorem dX6_newBook_21 : decode cX6_newBook 21 = .ok (.iconst 1, 1) := g_4 bX6_newBook rfl
theorem dX6_newBook_22 : decode cX6_newBook 22 = .ok (.iconst 0, 1) := g_3 bX6_newBook rfl
theorem dX6_newBook_23 : decode cX6_newBook 23 = .ok (.iastore, 1) := g_79 bX6_newBook rfl
theorem dX6_newBook_24 : decode cX6_newBook 24 = .ok (.aload_n 0, 1) := g_42 bX6_newBook rfl
theorem dX6_newBook_25 : decode cX6_newBook 25 = .ok (.getfield 42, 3) := g_180 bX6_newBook rfl
theorem dX6_newBook_28 : decode cX6_newBook 28 = .ok (.aload_n 0, 1) := g_42 bX6_newBook rfl
theorem dX6_newBook_29 : decode cX6_newBook 29 = .ok (.getfield 71, 3) := g_180 bX6_newBook rfl
theorem dX6_newBook_32 : decode cX6_newBook 32 = .ok (.aaload, 1) := g_50 bX6_newBook rfl
theorem dX6_newBook_33 : decode cX6_newBook 33 = .ok (.iconst 2, 1) := g_5 bX6_newBook rfl
theorem dX6_newBook_34 : decode cX6_newBook 34 = .ok (.sipush 1000, 3) := g_17 1000 bX6_newBook rfl rfl
theorem dX6_newBook_37 : decode cX6_newBook 37 = .ok (.iastore, 1) := g_79 bX6_newBook rfl
theorem dX6_newBook_38 : decode cX6_newBook 38 = .ok (.aload_n 0, 1) := g_42 bX6_newBook rfl
theorem dX6_newBook_39 : decode cX6_newBook 39 = .ok (.getfield 42, 3) := g_180 bX6_newBook rfl
theorem dX6_newBook_42 : decode cX6_newBook 42 = .ok (.aload_n 0, 1) := g_42 bX6_newBook rfl
theorem dX6_newBook_43 : decode cX6_newBook 43 = .ok (.getfield 71, 3) := g_180 bX6_newBook rfl
theorem dX6_newBook_46 : decode cX6_newBook 46 = .ok (.aaload, 1) := g_50 bX6_newBook rfl
theorem dX6_newBook_47 : decode cX6_newBook 47 = .ok (.iconst 3, 1) := g_6 bX6_newBook rfl
theorem dX6_newBook_48 : decode cX6_newBook 48 = .ok (.iconst 0, 1) := g_3 bX6_newBook rfl
theorem dX6_newBook_49 : decode cX6_newBook 49 = .ok (.iastore, 1) := g_79 bX6_newBook rfl
theorem dX6_newBook_50 : decode cX6_newBook 50 = .ok (.iconst 0, 1) := g_3 bX6_newBook rfl
theorem dX6_newBook_51 : decode cX6_newBook 51 = .ok (.istore_n 2, 1) := g_61 bX6_newBook rfl
theorem dX6_newBook_52 : decode cX6_newBook 52 = .ok (.iload_n 2, 1) := g_28 bX6_newBook rfl
theorem dX6_newBook_53 : decode cX6_newBook 53 = .ok (.bipush 8, 2) := g_16 8 bX6_newBook rfl rfl
theorem dX6_newBook_55 : decode cX6_newBook 55 = .ok (.if_icmp .ge 21, 3) := g_162 21 bX6_newBook rfl rfl
theorem dX6_newBook_58 : decode cX6_newBook 58 = .ok (.aload_n 0, 1) := g_42 bX6_newBook rfl
theorem dX6_newBook_59 : decode cX6_newBook 59 = .ok (.getfield 48, 3) := g_180 bX6_newBook rfl
theorem dX6_newBook_62 : decode cX6_newBook 62 = .ok (.iload_n 2, 1) := g_28 bX6_newBook rfl
theorem dX6_newBook_63 : decode cX6_newBook 63 = .ok (.aaload, 1) := g_50 bX6_newBook rfl
theorem dX6_newBook_64 : decode cX6_newBook 64 = .ok (.aload_n 0, 1) := g_42 bX6_newBook rfl
theorem dX6_newBook_65 : decode cX6_newBook 65 = .ok (.getfield 71, 3) := g_180 bX6_newBook rfl
theorem dX6_newBook_68 : decode cX6_newBook 68 = .ok (.iconst 0, 1) := g_3 bX6_newBook rfl
theorem dX6_newBook_69 : decode cX6_newBook 69 = .ok (.iastore, 1) := g_79 bX6_newBook rfl
theorem dX6_newBook_70 : decode cX6_newBook 70 = .ok (.iinc 2 1, 3) := g_132 1 bX6_newBook rfl rfl
theorem dX6_newBook_73 : decode cX6_newBook 73 = .ok (.goto (-21), 3) := g_167 65515 bX6_newBook rfl rfl
theorem dX6_newBook_76 : decode cX6_newBook 76 = .ok (.return_, 1) := g_177 bX6_newBook rfl
theorem dX6_newOne_0 : decode cX6_newOne 0 = .ok (.aload_n 0, 1) := g_42 bX6_newOne rfl
theorem dX6_newOne_1 : decode cX6_newOne 1 = .ok (.getfield 45, 3) := g_180 bX6_newOne rfl
theorem dX6_newOne_4 : decode cX6_newOne 4 = .ok (.aload_n 0, 1) := g_42 bX6_newOne rfl
theorem dX6_newOne_5 : decode cX6_newOne 5 = .ok (.getfield 78, 3) := g_180 bX6_newOne rfl
theorem dX6_newOne_8 : decode cX6_newOne 8 = .ok (.aaload, 1) := g_50 bX6_newOne rfl
theorem dX6_newOne_9 : decode cX6_newOne 9 = .ok (.iconst 1, 1) := g_4 bX6_newOne rfl
theorem dX6_newOne_10 : decode cX6_newOne 10 = .ok (.iconst 5, 1) := g_8 bX6_newOne rfl
theorem dX6_newOne_11 : decode cX6_newOne 11 = .ok (.iastore, 1) := g_79 bX6_newOne rfl
theorem dX6_newOne_12 : decode cX6_newOne 12 = .ok (.aload_n 0, 1) := g_42 bX6_newOne rfl
theorem dX6_newOne_13 : decode cX6_newOne 13 = .ok (.getfield 45, 3) := g_180 bX6_newOne rfl
theorem dX6_newOne_16 : decode cX6_newOne 16 = .ok (.aload_n 0, 1) := g_42 bX6_newOne rfl
theorem dX6_newOne_17 : decode cX6_newOne 17 = .ok (.getfield 78, 3) := g_180 bX6_newOne rfl
theorem dX6_newOne_20 : decode cX6_newOne 20 = .ok (.aaload, 1) := g_50 bX6_newOne rfl
theorem dX6_newOne_21 : decode cX6_newOne 21 = .ok (.iconst 2, 1) := g_5 bX6_newOne rfl
theorem dX6_newOne_22 : decode cX6_newOne 22 = .ok (.iconst 5, 1) := g_8 bX6_newOne rfl
theorem dX6_newOne_23 : decode cX6_newOne 23 = .ok (.iastore, 1) := g_79 bX6_newOne rfl
theorem dX6_newOne_24 : decode cX6_newOne 24 = .ok (.aload_n 0, 1) := g_42 bX6_newOne rfl
theorem dX6_newOne_25 : decode cX6_newOne 25 = .ok (.getfield 45, 3) := g_180 bX6_newOne rfl
theorem dX6_newOne_28 : decode cX6_newOne 28 = .ok (.aload_n 0, 1) := g_42 bX6_newOne rfl
theorem dX6_newOne_29 : decode cX6_newOne 29 = .ok (.getfield 78, 3) := g_180 bX6_newOne rfl
theorem dX6_newOne_32 : decode cX6_newOne 32 = .ok (.aaload, 1) := g_50 bX6_newOne rfl
theorem dX6_newOne_33 : decode cX6_newOne 33 = .ok (.iconst 3, 1) := g_6 bX6_newOne rfl
theorem dX6_newOne_34 : decode cX6_newOne 34 = .ok (.iconst 5, 1) := g_8 bX6_newOne rfl
theorem dX6_newOne_35 : decode cX6_newOne 35 = .ok (.iastore, 1) := g_79 bX6_newOne rfl
theorem dX6_newOne_36 : decode cX6_newOne 36 = .ok (.aload_n 0, 1) := g_42 bX6_newOne rfl
theorem dX6_newOne_37 : decode cX6_newOne 37 = .ok (.getfield 45, 3) := g_180 bX6_newOne rfl
theorem dX6_newOne_40 : decode cX6_newOne 40 = .ok (.aload_n 0, 1) := g_42 bX6_newOne rfl
theorem dX6_newOne_41 : decode cX6_newOne 41 = .ok (.getfield 78, 3) := g_180 bX6_newOne rfl
theorem dX6_newOne_44 : decode cX6_newOne 44 = .ok (.aaload, 1) := g_50 bX6_newOne rfl
theorem dX6_newOne_45 : decode cX6_newOne 45 = .ok (.iconst 4, 1) := g_7 bX6_newOne rfl
theorem dX6_newOne_46 : decode cX6_newOne 46 = .ok (.iconst 0, 1) := g_3 bX6_newOne rfl
theorem dX6_newOne_47 : decode cX6_newOne 47 = .ok (.iastore, 1) := g_79 bX6_newOne rfl
theorem dX6_newOne_48 : decode cX6_newOne 48 = .ok (.iconst 0, 1) := g_3 bX6_newOne rfl
theorem dX6_newOne_49 : decode cX6_newOne 49 = .ok (.istore_n 1, 1) := g_60 bX6_newOne rfl
theorem dX6_newOne_50 : decode cX6_newOne 50 = .ok (.iload_n 1, 1) := g_27 bX6_newOne rfl
theorem dX6_newOne_51 : decode cX6_newOne 51 = .ok (.bipush 8, 2) := g_16 8 bX6_newOne rfl rfl
theorem dX6_newOne_53 : decode cX6_newOne 53 = .ok (.if_icmp .ge 21, 3) := g_162 21 bX6_newOne rfl rfl
theorem dX6_newOne_56 : decode cX6_newOne 56 = .ok (.aload_n 0, 1) := g_42 bX6_newOne rfl
theorem dX6_newOne_57 : decode cX6_newOne 57 = .ok (.getfield 48, 3) := g_180 bX6_newOne rfl
theorem dX6_newOne_60 : decode cX6_newOne 60 = .ok (.aload_n 0, 1) := g_42 bX6_newOne rfl
theorem dX6_newOne_61 : decode cX6_newOne 61 = .ok (.getfield 78, 3) := g_180 bX6_newOne rfl
theorem dX6_newOne_64 : decode cX6_newOne 64 = .ok (.aaload, 1) := g_50 bX6_newOne rfl
theorem dX6_newOne_65 : decode cX6_newOne 65 = .ok (.iload_n 1, 1) := g_27 bX6_newOne rfl
theorem dX6_newOne_66 : decode cX6_newOne 66 = .ok (.iconst 0, 1) := g_3 bX6_newOne rfl
theorem dX6_newOne_67 : decode cX6_newOne 67 = .ok (.iastore, 1) := g_79 bX6_newOne rfl
theorem dX6_newOne_68 : decode cX6_newOne 68 = .ok (.iinc 1 1, 3) := g_132 1 bX6_newOne rfl rfl
theorem dX6_newOne_71 : decode cX6_newOne 71 = .ok (.goto (-21), 3) := g_167 65515 bX6_newOne rfl rfl
theorem dX6_newOne_74 : decode cX6_newOne 74 = .ok (.return_, 1) := g_177 bX6_newOne rfl
theorem dX6_noReading_0 : decode cX6_noReading 0 = .ok (.aload_n 0, 1) := g_42 bX6_noReading rfl
theorem dX6_noReading_1 : decode cX6_noReading 1 = .ok (.iload_n 1, 1) := g_27 bX6_noReading rfl
theorem dX6_noReading_2 : decode cX6_noReading 2 = .ok (.i2l, 1) := g_133 bX6_noReading rfl
theorem dX6_noReading_3 : decode cX6_noReading 3 = .ok (.invokevirtual 236, 3) := g_182 bX6_noReading rfl
theorem dX6_noReading_6 : decode cX6_noReading 6 = .ok (.ifCond .eq 12, 3) := g_153 12 bX6_noReading rfl rfl
theorem dX6_noReading_9 : decode cX6_noReading 9 = .ok (.aload_n 0, 1) := g_42 bX6_noReading rfl
theorem dX6_noReading_10 : decode cX6_noReading 10 = .ok (.iload_n 2, 1) := g_28 bX6_noReading rfl
theorem dX6_noReading_11 : decode cX6_noReading 11 = .ok (.i2l, 1) := g_133 bX6_noReading rfl
theorem dX6_noReading_12 : decode cX6_noReading 12 = .ok (.invokevirtual 229, 3) := g_182 bX6_noReading rfl
theorem dX6_noReading_15 : decode cX6_noReading 15 = .ok (.ifCond .ne 10, 3) := g_154 10 bX6_noReading rfl rfl
theorem dX6_noReading_18 : decode cX6_noReading 18 = .ok (.aload_n 0, 1) := g_42 bX6_noReading rfl
theorem dX6_noReading_19 : decode cX6_noReading 19 = .ok (.bipush (-2), 2) := g_16 254 bX6_noReading rfl rfl
theorem dX6_noReading_21 : decode cX6_noReading 21 = .ok (.invokevirtual 91, 3) := g_182 bX6_noReading rfl
theorem dX6_noReading_24 : decode cX6_noReading 24 = .ok (.ireturn, 1) := g_172 bX6_noReading rfl
theorem dX6_noReading_25 : decode cX6_noReading 25 = .ok (.aload_n 0, 1) := g_42 bX6_noReading rfl
theorem dX6_noReading_26 : decode cX6_noReading 26 = .ok (.iload_n 2, 1) := g_28 bX6_noReading rfl
theorem dX6_noReading_27 : decode cX6_noReading 27 = .ok (.invokevirtual 248, 3) := g_182 bX6_noReading rfl
theorem dX6_noReading_30 : decode cX6_noReading 30 = .ok (.ifCond .ne 11, 3) := g_154 11 bX6_noReading rfl rfl
theorem dX6_noReading_33 : decode cX6_noReading 33 = .ok (.aload_n 0, 1) := g_42 bX6_noReading rfl
theorem dX6_noReading_34 : decode cX6_noReading 34 = .ok (.iload_n 1, 1) := g_27 bX6_noReading rfl
theorem dX6_noReading_35 : decode cX6_noReading 35 = .ok (.invokevirtual 81, 3) := g_182 bX6_noReading rfl
theorem dX6_noReading_38 : decode cX6_noReading 38 = .ok (.ifCond .ne 12, 3) := g_154 12 bX6_noReading rfl rfl
theorem dX6_noReading_41 : decode cX6_noReading 41 = .ok (.aload_n 0, 1) := g_42 bX6_noReading rfl
theorem dX6_noReading_42 : decode cX6_noReading 42 = .ok (.bipush (-5), 2) := g_16 251 bX6_noReading rfl rfl
theorem dX6_noReading_44 : decode cX6_noReading 44 = .ok (.invokevirtual 91, 3) := g_182 bX6_noReading rfl
theorem dX6_noReading_47 : decode cX6_noReading 47 = .ok (.goto 4, 3) := g_167 4 bX6_noReading rfl rfl
theorem dX6_noReading_50 : decode cX6_noReading 50 = .ok (.iconst 0, 1) := g_3 bX6_noReading rfl
theorem dX6_noReading_51 : decode cX6_noReading 51 = .ok (.ireturn, 1) := g_172 bX6_noReading rfl
theorem dX6_noRow_0 : decode cX6_noRow 0 = .ok (.iload_n 1, 1) := g_27 bX6_noRow rfl
theorem dX6_noRow_1 : decode cX6_noRow 1 = .ok (.i2l, 1) := g_133 bX6_noRow rfl
theorem dX6_noRow_2 : decode cX6_noRow 2 = .ok (.lconst 0, 1) := g_9 bX6_noRow rfl
theorem dX6_noRow_3 : decode cX6_noRow 3 = .ok (.ldc2_w 85, 3) := g_20 bX6_noRow rfl
theorem dX6_noRow_6 : decode cX6_noRow 6 = .ok (.invokestatic 74, 3) := g_184 bX6_noRow rfl
theorem dX6_noRow_9 : decode cX6_noRow 9 = .ok (.ifCond .ne 10, 3) := g_154 10 bX6_noRow rfl rfl
theorem dX6_noRow_12 : decode cX6_noRow 12 = .ok (.aload_n 0, 1) := g_42 bX6_noRow rfl
theorem dX6_noRow_13 : decode cX6_noRow 13 = .ok (.bipush (-2), 2) := g_16 254 bX6_noRow rfl rfl
theorem dX6_noRow_15 : decode cX6_noRow 15 = .ok (.invokevirtual 91, 3) := g_182 bX6_noRow rfl
theorem dX6_noRow_18 : decode cX6_noRow 18 = .ok (.ireturn, 1) := g_172 bX6_noRow rfl
theorem dX6_noRow_19 : decode cX6_noRow 19 = .ok (.aload_n 0, 1) := g_42 bX6_noRow rfl
theorem dX6_noRow_20 : decode cX6_noRow 20 = .ok (.getfield 7, 3) := g_180 bX6_noRow rfl
theorem dX6_noRow_23 : decode cX6_noRow 23 = .ok (.iload_n 1, 1) := g_27 bX6_noRow rfl
theorem dX6_noRow_24 : decode cX6_noRow 24 = .ok (.iaload, 1) := g_46 bX6_noRow rfl
theorem dX6_noRow_25 : decode cX6_noRow 25 = .ok (.iconst 2, 1) := g_5 bX6_noRow rfl
theorem dX6_noRow_26 : decode cX6_noRow 26 = .ok (.if_icmp .ne 10, 3) := g_160 10 bX6_noRow rfl rfl
theorem dX6_noRow_29 : decode cX6_noRow 29 = .ok (.aload_n 0, 1) := g_42 bX6_noRow rfl
theorem dX6_noRow_30 : decode cX6_noRow 30 = .ok (.bipush (-3), 2) := g_16 253 bX6_noRow rfl rfl
theorem dX6_noRow_32 : decode cX6_noRow 32 = .ok (.invokevirtual 91, 3) := g_182 bX6_noRow rfl
theorem dX6_noRow_35 : decode cX6_noRow 35 = .ok (.ireturn, 1) := g_172 bX6_noRow rfl
theorem dX6_noRow_36 : decode cX6_noRow 36 = .ok (.aload_n 0, 1) := g_42 bX6_noRow rfl
theorem dX6_noRow_37 : decode cX6_noRow 37 = .ok (.getfield 7, 3) := g_180 bX6_noRow rfl
theorem dX6_noRow_40 : decode cX6_noRow 40 = .ok (.iload_n 1, 1) := g_27 bX6_noRow rfl
theorem dX6_noRow_41 : decode cX6_noRow 41 = .ok (.iaload, 1) := g_46 bX6_noRow rfl
theorem dX6_noRow_42 : decode cX6_noRow 42 = .ok (.ifCond .ne 12, 3) := g_154 12 bX6_noRow rfl rfl
theorem dX6_noRow_45 : decode cX6_noRow 45 = .ok (.aload_n 0, 1) := g_42 bX6_noRow rfl
theorem dX6_noRow_46 : decode cX6_noRow 46 = .ok (.bipush (-4), 2) := g_16 252 bX6_noRow rfl rfl
theorem dX6_noRow_48 : decode cX6_noRow 48 = .ok (.invokevirtual 91, 3) := g_182 bX6_noRow rfl
theorem dX6_noRow_51 : decode cX6_noRow 51 = .ok (.goto 4, 3) := g_167 4 bX6_noRow rfl rfl
theorem dX6_noRow_54 : decode cX6_noRow 54 = .ok (.iconst 0, 1) := g_3 bX6_noRow rfl
theorem dX6_noRow_55 : decode cX6_noRow 55 = .ok (.ireturn, 1) := g_172 bX6_noRow rfl
theorem dX6_noRule_0 : decode cX6_noRule 0 = .ok (.iload_n 1, 1) := g_27 bX6_noRule rfl
theorem dX6_noRule_1 : decode cX6_noRule 1 = .ok (.i2l, 1) := g_133 bX6_noRule rfl
theorem dX6_noRule_2 : decode cX6_noRule 2 = .ok (.lconst 0, 1) := g_9 bX6_noRule rfl
theorem dX6_noRule_3 : decode cX6_noRule 3 = .ok (.ldc2_w 85, 3) := g_20 bX6_noRule rfl
theorem dX6_noRule_6 : decode cX6_noRule 6 = .ok (.invokestatic 74, 3) := g_184 bX6_noRule rfl
theorem dX6_noRule_9 : decode cX6_noRule 9 = .ok (.ifCond .ne 10, 3) := g_154 10 bX6_noRule rfl rfl
theorem dX6_noRule_12 : decode cX6_noRule 12 = .ok (.aload_n 0, 1) := g_42 bX6_noRule rfl
theorem dX6_noRule_13 : decode cX6_noRule 13 = .ok (.bipush (-2), 2) := g_16 254 bX6_noRule rfl rfl
theorem dX6_noRule_15 : decode cX6_noRule 15 = .ok (.invokevirtual 91, 3) := g_182 bX6_noRule rfl
theorem dX6_noRule_18 : decode cX6_noRule 18 = .ok (.ireturn, 1) := g_172 bX6_noRule rfl
theorem dX6_noRule_19 : decode cX6_noRule 19 = .ok (.aload_n 0, 1) := g_42 bX6_noRule rfl
theorem dX6_noRule_20 : decode cX6_noRule 20 = .ok (.getfield 7, 3) := g_180 bX6_noRule rfl
theorem dX6_noRule_23 : decode cX6_noRule 23 = .ok (.iload_n 1, 1) := g_27 bX6_noRule rfl
theorem dX6_noRule_24 : decode cX6_noRule 24 = .ok (.iaload, 1) := g_46 bX6_noRule rfl
theorem dX6_noRule_25 : decode cX6_noRule 25 = .ok (.iconst 1, 1) := g_4 bX6_noRule rfl
theorem dX6_noRule_26 : decode cX6_noRule 26 = .ok (.if_icmp .ne 10, 3) := g_160 10 bX6_noRule rfl rfl
theorem dX6_noRule_29 : decode cX6_noRule 29 = .ok (.aload_n 0, 1) := g_42 bX6_noRule rfl
theorem dX6_noRule_30 : decode cX6_noRule 30 = .ok (.bipush (-3), 2) := g_16 253 bX6_noRule rfl rfl
theorem dX6_noRule_32 : decode cX6_noRule 32 = .ok (.invokevirtual 91, 3) := g_182 bX6_noRule rfl
theorem dX6_noRule_35 : decode cX6_noRule 35 = .ok (.ireturn, 1) := g_172 bX6_noRule rfl
theorem dX6_noRule_36 : decode cX6_noRule 36 = .ok (.aload_n 0, 1) := g_42 bX6_noRule rfl
theorem dX6_noRule_37 : decode cX6_noRule 37 = .ok (.getfield 7, 3) := g_180 bX6_noRule rfl
theorem dX6_noRule_40 : decode cX6_noRule 40 = .ok (.iload_n 1, 1) := g_27 bX6_noRule rfl
theorem dX6_noRule_41 : decode cX6_noRule 41 = .ok (.iaload, 1) := g_46 bX6_noRule rfl
theorem dX6_noRule_42 : decode cX6_noRule 42 = .ok (.ifCond .ne 12, 3) := g_154 12 bX6_noRule rfl rfl
theorem dX6_noRule_45 : decode cX6_noRule 45 = .ok (.aload_n 0, 1) := g_42 bX6_noRule rfl
theorem dX6_noRule_46 : decode cX6_noRule 46 = .ok (.bipush (-4), 2) := g_16 252 bX6_noRule rfl rfl
theorem dX6_noRule_48 : decode cX6_noRule 48 = .ok (.invokevirtual 91, 3) := g_182 bX6_noRule rfl
theorem dX6_noRule_51 : decode cX6_noRule 51 = .ok (.goto 4, 3) := g_167 4 bX6_noRule rfl rfl
theorem dX6_noRule_54 : decode cX6_noRule 54 = .ok (.iconst 0, 1) := g_3 bX6_noRule rfl
theorem dX6_noRule_55 : decode cX6_noRule 55 = .ok (.ireturn, 1) := g_172 bX6_noRule rfl
/-! newBook, newOne, add -/
noncomputable def nb0 (t : TA) (a : Int32) : TA := T_mk (T_nb t) (T_np t) (T_sd t) (updB (T_wh t) (T_nb t) false) (T_gn t) (upd (T_wo t) (T_nb t) a) (upd (T_ne t) (T_nb t) 0) (upd (T_go t) (T_nb t) 1000) (T_ag t) (T_re t) (T_me t) (T_te t) (T_kn t)
noncomputable def nbF (t : TA) : Nat → TA
  | 0 => t
  | j + 1 => T_setkn (nbF t j) (updM (T_kn (nbF t j)) j (T_nb (nbF t j)) 0)
theorem nbF_nb (t : TA) : ∀ j, T_nb (nbF t j) = T_nb t ∧ T_np (nbF t j) = T_np t := by
  intro j
  induction j with
  | zero => exact ⟨rfl, rfl⟩
  | succ j ih => exact ih
noncomputable def zNB (t : TA) (a : Int32) : TA := nbF (nb0 t a) 8
noncomputable def no0 (t : TA) : TA := T_mk (T_nb t) (T_np t) (T_sd t) (T_wh t) (updB (T_gn t) (T_np t) false) (T_wo t) (T_ne t) (T_go t) (T_ag t) (upd (T_re t) (T_np t) 5) (upd (T_me t) (T_np t) 5) (upd (T_te t) (T_np t) 5) (T_kn t)
noncomputable def noF (p : Nat) (t : TA) : Nat → TA
  | 0 => t
  | j + 1 => T_setkn (noF p t j) (updM (T_kn (noF p t j)) p j 0)
theorem noF_nb (p : Nat) (t : TA) : ∀ j, T_nb (noF p t j) = T_nb t ∧ T_np (noF p t j) = T_np t := by
  intro j
  induction j with
  | zero => exact ⟨rfl, rfl⟩
  | succ j ih => exact ih
noncomputable def zNO (t : TA) : TA := noF (T_np t) (no0 t) 8
theorem nb_NB (t : TA) (a : Int32) : T_nb (zNB t a) = T_nb t := (nbF_nb _ _).1
theorem np_NB (t : TA) (a : Int32) : T_np (zNB t a) = T_np t := (nbF_nb _ _).2
theorem nb_NO (t : TA) : T_nb (zNO t) = T_nb t := (noF_nb _ _ _).1
theorem np_NO (t : TA) : T_np (zNO t) = T_np t := (noF_nb _ _ _).2
theorem TI_mk {nb np : Nat} {sd : Int32} {wh gn : Nat → Bool} {wo ne go ag re me te : Nat → Int32} {kn : Nat → Nat → Int32} (h : nb ≤ 8 ∧ np ≤ 8) (h1 : ∀ p b, R0 1000 (kn p b)) (h2 : ∀ b, R0 1000 (go b)) (h3 : ∀ p, R0 10 (re p)) (h4 : ∀ p, R0 10 (me p)) (h5 : ∀ p, R0 10 (te p)) : TI (T_mk nb np sd wh gn wo ne go ag re me te kn) := ⟨h, h1, h2, h3, h4, h5⟩
noncomputable def zADD (t : TA) (a b c d : Int64) : TA := T_mk (T_nb (zNO t)) (T_np (zNO t) + 1) (T_sd (zNO t)) (T_wh (zNO t)) (T_gn (zNO t)) (T_wo (zNO t)) (T_ne (zNO t)) (T_go (zNO t)) (upd (T_ag (zNO t)) (T_np (zNO t)) a.toInt32) (upd (T_re (zNO t)) (T_np (zNO t)) b.toInt32) (upd (T_me (zNO t)) (T_np (zNO t)) c.toInt32) (upd (T_te (zNO t)) (T_np (zNO t)) d.toInt32) (T_kn (zNO t))
theorem r_iv64 {v : Int64} {b : Int64} (n : Nat) (hn : n < 2 ^ 31) (hb : b.toInt = n) (h : Iv v 0 b) : R0 n v.toInt32 := by
  obtain ⟨h1, h2⟩ := Iv_iff.mp h
  rw [Int64.le_iff_toInt_le] at h1 h2
  have e0 : (0 : Int64).toInt = 0 := by decide
  rw [e0] at h1
  rw [hb] at h2
  refine ⟨v.toInt.toNat, by omega, ?_⟩
  apply Int32.toInt_inj.mp
  rw [nI_toInt (by omega), Int64.toInt_toInt32, Int.bmod_def]
  omega
theorem nI_nn {k : Nat} (hk : k < 2 ^ 31) : ¬ nI k < 0 := nI_pos hk
theorem ne_of8 {n : Nat} (h : n ≤ 8) (c : ¬ nI n = 8) : n < 8 := by
  rcases Nat.lt_or_ge n 8 with q | q
  · exact q
  · exact absurd (by rw [show n = 8 by omega]; rfl) c
noncomputable def zft (sort : Int32) (v : Int64) : Int64 := if sort = 0 then v.toInt32.toInt8.toInt32.toInt64 else if sort = 1 then v.toInt32.toInt16.toInt32.toInt64 else if sort = 2 then v.toInt32.toInt64 else if sort = 3 then v else (if lg_cmp v 0 = 0 then 0 else 1)
theorem ft_d {x : Int32} (h : x.toInt < 0 ∨ 3 < x.toInt) (v : Int64) : zft x v = (if lg_cmp v 0 = 0 then 0 else 1) := by
  have n : ∀ c : Int32, 0 ≤ c.toInt → c.toInt ≤ 3 → ¬ x = c := fun c h1 h2 e => by subst e; omega
  exact (if_neg (n 0 (by decide) (by decide))).trans ((if_neg (n 1 (by decide) (by decide))).trans ((if_neg (n 2 (by decide) (by decide))).trans (if_neg (n 3 (by decide) (by decide)))))
theorem sw_0_3 (x : Int32) : x = 0 ∨ x = 1 ∨ x = 2 ∨ x = 3 ∨ (x.toInt < 0 ∨ 3 < x.toInt) := by
  rcases sw_0_4 x with e | e | e | e | e | e
  · exact Or.inl e
  · exact Or.inr (Or.inl e)
  · exact Or.inr (Or.inr (Or.inl e))
  · exact Or.inr (Or.inr (Or.inr (Or.inl e)))
  · exact Or.inr (Or.inr (Or.inr (Or.inr (by rw [e]; decide))))
  · exact Or.inr (Or.inr (Or.inr (Or.inr (by omega))))
set_option maxHeartbeats 4000000 in
set_option maxRecDepth 100000 in
theorem c_X6_newBook (l : Launch) (G : va_G) (cy : Nat → ClassId) (sz : Nat) (qm : Nat) (v0 : Value) (v1 : Value) (v2 : Value) (v3 : Value) (v4 : Value) (v5 : Value) (v6 : Value) (v7 : Value) (v8 : Value) (v9 : Value) (tA : TA) (qmB : Nat) (qmO : Nat) (qmK : Nat) (iEn : Int32) (iTk : Int32) (v18 : Value) (v19 : Value) (v20 : Value) (v21 : Value) (v22 : Value) (v23 : Value) (v24 : Value) (v25 : Value) (v26 : Value) (iLv : Int32) (iWs : Int32) (v29 : Value) (v30 : Value) (v31 : Value) (v32 : Value) (v33 : Value) (v34 : Value) (rB : Nat → Nat) (rO : Nat → Nat) (rK : Nat → Nat) (iA : Int32)  (hB : T_nb tA < 8) : MW l yX6_newBook cX6_newBook 3 none 1 0 0 G cy [zzO qm 5 [v0, v1, v2, v3, v4, v5, v6, v7, v8, v9, .int (nI (T_nb tA)), .ref qmB, .int (nI (T_np tA)), .ref qmO, .ref qmK, .int iEn, .int iTk, .int (T_sd tA), v18, v19, v20, v21, v22, v23, v24, v25, v26, .int iLv, .int iWs, v29, v30, v31, v32, v33, v34], zzG cy 3 qmB rB, zzI cy (rB 0) 4 (bkR tA 0), zzI cy (rB 1) 4 (bkR tA 1), zzI cy (rB 2) 4 (bkR tA 2), zzI cy (rB 3) 4 (bkR tA 3), zzI cy (rB 4) 4 (bkR tA 4), zzI cy (rB 5) 4 (bkR tA 5), zzI cy (rB 6) 4 (bkR tA 6), zzI cy (rB 7) 4 (bkR tA 7), zzG cy 3 qmO rO, zzI cy (rO 0) 5 (onR tA 0), zzI cy (rO 1) 5 (onR tA 1), zzI cy (rO 2) 5 (onR tA 2), zzI cy (rO 3) 5 (onR tA 3), zzI cy (rO 4) 5 (onR tA 4), zzI cy (rO 5) 5 (onR tA 5), zzI cy (rO 6) 5 (onR tA 6), zzI cy (rO 7) 5 (onR tA 7), zzG cy 3 qmK rK, zzI cy (rK 0) 8 (T_kn tA 0), zzI cy (rK 1) 8 (T_kn tA 1), zzI cy (rK 2) 8 (T_kn tA 2), zzI cy (rK 3) 8 (T_kn tA 3), zzI cy (rK 4) 8 (T_kn tA 4), zzI cy (rK 5) 8 (T_kn tA 5), zzI cy (rK 6) 8 (T_kn tA 6), zzI cy (rK 7) 8 (T_kn tA 7)] sz [.ref qm, .int iA] (Wv G (fun u => u = [zzO qm 5 [v0, v1, v2, v3, v4, v5, v6, v7, v8, v9, .int (nI (T_nb (zNB tA iA))), .ref qmB, .int (nI (T_np (zNB tA iA))), .ref qmO, .ref qmK, .int iEn, .int iTk, .int (T_sd (zNB tA iA)), v18, v19, v20, v21, v22, v23, v24, v25, v26, .int iLv, .int iWs, v29, v30, v31, v32, v33, v34], zzG cy 3 qmB rB, zzI cy (rB 0) 4 (bkR (zNB tA iA) 0), zzI cy (rB 1) 4 (bkR (zNB tA iA) 1), zzI cy (rB 2) 4 (bkR (zNB tA iA) 2), zzI cy (rB 3) 4 (bkR (zNB tA iA) 3), zzI cy (rB 4) 4 (bkR (zNB tA iA) 4), zzI cy (rB 5) 4 (bkR (zNB tA iA) 5), zzI cy (rB 6) 4 (bkR (zNB tA iA) 6), zzI cy (rB 7) 4 (bkR (zNB tA iA) 7), zzG cy 3 qmO rO, zzI cy (rO 0) 5 (onR (zNB tA iA) 0), zzI cy (rO 1) 5 (onR (zNB tA iA) 1), zzI cy (rO 2) 5 (onR (zNB tA iA) 2), zzI cy (rO 3) 5 (onR (zNB tA iA) 3), zzI cy (rO 4) 5 (onR (zNB tA iA) 4), zzI cy (rO 5) 5 (onR (zNB tA iA) 5), zzI cy (rO 6) 5 (onR (zNB tA iA) 6), zzI cy (rO 7) 5 (onR (zNB tA iA) 7), zzG cy 3 qmK rK, zzI cy (rK 0) 8 (T_kn (zNB tA iA) 0), zzI cy (rK 1) 8 (T_kn (zNB tA iA) 1), zzI cy (rK 2) 8 (T_kn (zNB tA iA) 2), zzI cy (rK 3) 8 (T_kn (zNB tA iA) 3), zzI cy (rK 4) 8 (T_kn (zNB tA iA) 4), zzI cy (rK 5) 8 (T_kn (zNB tA iA) 5), zzI cy (rK 6) 8 (T_kn (zNB tA iA) 6), zzI cy (rK 7) 8 (T_kn (zNB tA iA) 7)])) := by
  refine enW RX6 (by decide) rfl (Nat.le_of_ble_eq_true rfl) (fun p e s m below meth c ls A hx hb hml hown hts hr hlocks hP hN hl hin hD hA hS => ?_)
  have hin : meth.name = _ := hin
  have hK := hN.1
  replace hl : lv_has ls 3 [(0, .ref qm), (1, .int iA)] := hl
  refine lv_aload_n hx hb dX6_newBook_0 rfl (lv_at hl 0 rfl) ?_
  refine va_get (D := G) (ci := 5) (v := .ref qmB) (C := RX6) (T := TX6) (N := 35) hx hb hts iX_X6 hown hK hP 0 rfl rfl 11 (by decide) (hts _ m_t861) (fun _ h9 => h9) rfl dX6_newBook_1 ?_
  refine lv_aload_n hx hb dX6_newBook_4 rfl (lv_at hl 0 rfl) ?_
  refine va_get (D := G) (ci := 5) (v := .int (nI (T_nb tA))) (C := RX6) (T := TX6) (N := 35) hx hb hts iX_X6 hown hK hP 0 rfl rfl 10 (by decide) (hts _ m_t860) (fun _ h9 => h9) rfl dX6_newBook_5 ?_
  refine va_alda hx hb hK hP 1 3 rfl rfl (in8 (by omega)) dX6_newBook_8 ?_
  refine lv_setv (v := .ref (rB (T_nb tA))) (g_ref (by omega)) ?_
  refine lv_iconst (v := 0) hx hb dX6_newBook_9 (by decide) ?_
  refine lv_iload_n hx hb dX6_newBook_10 rfl (lv_at hl 1 rfl) ?_
  refine va_iast hx hb hK hP hD hS (2 + (T_nb tA)) 0 ((sg8 (n0 := 2) (f := (fun j => zzI cy (rB j) 4 (bkR tA j))) rfl rfl rfl rfl rfl rfl rfl rfl) (T_nb tA) (by omega)) rfl (in_c rfl) dX6_newBook_11 (fun H locs => ?_)
  clear hP hD hS
  intro hP hD hS
  have hPD := st8PD (ws' := [zzO qm 5 [v0, v1, v2, v3, v4, v5, v6, v7, v8, v9, .int (nI (T_nb tA)), .ref qmB, .int (nI (T_np tA)), .ref qmO, .ref qmK, .int iEn, .int iTk, .int (T_sd tA), v18, v19, v20, v21, v22, v23, v24, v25, v26, .int iLv, .int iWs, v29, v30, v31, v32, v33, v34], zzG cy 3 qmB rB, zzI cy (rB 0) 4 (bkR (T_mk (T_nb tA) (T_np tA) (T_sd tA) (T_wh tA) (T_gn tA) (upd (T_wo tA) (T_nb tA) iA) (T_ne tA) (T_go tA) (T_ag tA) (T_re tA) (T_me tA) (T_te tA) (T_kn tA)) 0), zzI cy (rB 1) 4 (bkR (T_mk (T_nb tA) (T_np tA) (T_sd tA) (T_wh tA) (T_gn tA) (upd (T_wo tA) (T_nb tA) iA) (T_ne tA) (T_go tA) (T_ag tA) (T_re tA) (T_me tA) (T_te tA) (T_kn tA)) 1), zzI cy (rB 2) 4 (bkR (T_mk (T_nb tA) (T_np tA) (T_sd tA) (T_wh tA) (T_gn tA) (upd (T_wo tA) (T_nb tA) iA) (T_ne tA) (T_go tA) (T_ag tA) (T_re tA) (T_me tA) (T_te tA) (T_kn tA)) 2), zzI cy (rB 3) 4 (bkR (T_mk (T_nb tA) (T_np tA) (T_sd tA) (T_wh tA) (T_gn tA) (upd (T_wo tA) (T_nb tA) iA) (T_ne tA) (T_go tA) (T_ag tA) (T_re tA) (T_me tA) (T_te tA) (T_kn tA)) 3), zzI cy (rB 4) 4 (bkR (T_mk (T_nb tA) (T_np tA) (T_sd tA) (T_wh tA) (T_gn tA) (upd (T_wo tA) (T_nb tA) iA) (T_ne tA) (T_go tA) (T_ag tA) (T_re tA) (T_me tA) (T_te tA) (T_kn tA)) 4), zzI cy (rB 5) 4 (bkR (T_mk (T_nb tA) (T_np tA) (T_sd tA) (T_wh tA) (T_gn tA) (upd (T_wo tA) (T_nb tA) iA) (T_ne tA) (T_go tA) (T_ag tA) (T_re tA) (T_me tA) (T_te tA) (T_kn tA)) 5), zzI cy (rB 6) 4 (bkR (T_mk (T_nb tA) (T_np tA) (T_sd tA) (T_wh tA) (T_gn tA) (upd (T_wo tA) (T_nb tA) iA) (T_ne tA) (T_go tA) (T_ag tA) (T_re tA) (T_me tA) (T_te tA) (T_kn tA)) 6), zzI cy (rB 7) 4 (bkR (T_mk (T_nb tA) (T_np tA) (T_sd tA) (T_wh tA) (T_gn tA) (upd (T_wo tA) (T_nb tA) iA) (T_ne tA) (T_go tA) (T_ag tA) (T_re tA) (T_me tA) (T_te tA) (T_kn tA)) 7), zzG cy 3 qmO rO, zzI cy (rO 0) 5 (onR (T_mk (T_nb tA) (T_np tA) (T_sd tA) (T_wh tA) (T_gn tA) (upd (T_wo tA) (T_nb tA) iA) (T_ne tA) (T_go tA) (T_ag tA) (T_re tA) (T_me tA) (T_te tA) (T_kn tA)) 0), zzI cy (rO 1) 5 (onR (T_mk (T_nb tA) (T_np tA) (T_sd tA) (T_wh tA) (T_gn tA) (upd (T_wo tA) (T_nb tA) iA) (T_ne tA) (T_go tA) (T_ag tA) (T_re tA) (T_me tA) (T_te tA) (T_kn tA)) 1), zzI cy (rO 2) 5 (onR (T_mk (T_nb tA) (T_np tA) (T_sd tA) (T_wh tA) (T_gn tA) (upd (T_wo tA) (T_nb tA) iA) (T_ne tA) (T_go tA) (T_ag tA) (T_re tA) (T_me tA) (T_te tA) (T_kn tA)) 2), zzI cy (rO 3) 5 (onR (T_mk (T_nb tA) (T_np tA) (T_sd tA) (T_wh tA) (T_gn tA) (upd (T_wo tA) (T_nb tA) iA) (T_ne tA) (T_go tA) (T_ag tA) (T_re tA) (T_me tA) (T_te tA) (T_kn tA)) 3), zzI cy (rO 4) 5 (onR (T_mk (T_nb tA) (T_np tA) (T_sd tA) (T_wh tA) (T_gn tA) (upd (T_wo tA) (T_nb tA) iA) (T_ne tA) (T_go tA) (T_ag tA) (T_re tA) (T_me tA) (T_te tA) (T_kn tA)) 4), zzI cy (rO 5) 5 (onR (T_mk (T_nb tA) (T_np tA) (T_sd tA) (T_wh tA) (T_gn tA) (upd (T_wo tA) (T_nb tA) iA) (T_ne tA) (T_go tA) (T_ag tA) (T_re tA) (T_me tA) (T_te tA) (T_kn tA)) 5), zzI cy (rO 6) 5 (onR (T_mk (T_nb tA) (T_np tA) (T_sd tA) (T_wh tA) (T_gn tA) (upd (T_wo tA) (T_nb tA) iA) (T_ne tA) (T_go tA) (T_ag tA) (T_re tA) (T_me tA) (T_te tA) (T_kn tA)) 6), zzI cy (rO 7) 5 (onR (T_mk (T_nb tA) (T_np tA) (T_sd tA) (T_wh tA) (T_gn tA) (upd (T_wo tA) (T_nb tA) iA) (T_ne tA) (T_go tA) (T_ag tA) (T_re tA) (T_me tA) (T_te tA) (T_kn tA)) 7), zzG cy 3 qmK rK, zzI cy (rK 0) 8 (T_kn (T_mk (T_nb tA) (T_np tA) (T_sd tA) (T_wh tA) (T_gn tA) (upd (T_wo tA) (T_nb tA) iA) (T_ne tA) (T_go tA) (T_ag tA) (T_re tA) (T_me tA) (T_te tA) (T_kn tA)) 0), zzI cy (rK 1) 8 (T_kn (T_mk (T_nb tA) (T_np tA) (T_sd tA) (T_wh tA) (T_gn tA) (upd (T_wo tA) (T_nb tA) iA) (T_ne tA) (T_go tA) (T_ag tA) (T_re tA) (T_me tA) (T_te tA) (T_kn tA)) 1), zzI cy (rK 2) 8 (T_kn (T_mk (T_nb tA) (T_np tA) (T_sd tA) (T_wh tA) (T_gn tA) (upd (T_wo tA) (T_nb tA) iA) (T_ne tA) (T_go tA) (T_ag tA) (T_re tA) (T_me tA) (T_te tA) (T_kn tA)) 2), zzI cy (rK 3) 8 (T_kn (T_mk (T_nb tA) (T_np tA) (T_sd tA) (T_wh tA) (T_gn tA) (upd (T_wo tA) (T_nb tA) iA) (T_ne tA) (T_go tA) (T_ag tA) (T_re tA) (T_me tA) (T_te tA) (T_kn tA)) 3), zzI cy (rK 4) 8 (T_kn (T_mk (T_nb tA) (T_np tA) (T_sd tA) (T_wh tA) (T_gn tA) (upd (T_wo tA) (T_nb tA) iA) (T_ne tA) (T_go tA) (T_ag tA) (T_re tA) (T_me tA) (T_te tA) (T_kn tA)) 4), zzI cy (rK 5) 8 (T_kn (T_mk (T_nb tA) (T_np tA) (T_sd tA) (T_wh tA) (T_gn tA) (upd (T_wo tA) (T_nb tA) iA) (T_ne tA) (T_go tA) (T_ag tA) (T_re tA) (T_me tA) (T_te tA) (T_kn tA)) 5), zzI cy (rK 6) 8 (T_kn (T_mk (T_nb tA) (T_np tA) (T_sd tA) (T_wh tA) (T_gn tA) (upd (T_wo tA) (T_nb tA) iA) (T_ne tA) (T_go tA) (T_ag tA) (T_re tA) (T_me tA) (T_te tA) (T_kn tA)) 6), zzI cy (rK 7) 8 (T_kn (T_mk (T_nb tA) (T_np tA) (T_sd tA) (T_wh tA) (T_gn tA) (upd (T_wo tA) (T_nb tA) iA) (T_ne tA) (T_go tA) (T_ag tA) (T_re tA) (T_me tA) (T_te tA) (T_kn tA)) 7)]) (k := (T_nb tA)) (g1 := bkR (T_mk (T_nb tA) (T_np tA) (T_sd tA) (T_wh tA) (T_gn tA) (upd (T_wo tA) (T_nb tA) iA) (T_ne tA) (T_go tA) (T_ag tA) (T_re tA) (T_me tA) (T_te tA) (T_kn tA)) (T_nb tA)) hP hD (sg8 (n0 := 2) (f := (fun j => zzI cy (rB j) 4 (bkR tA j))) rfl rfl rfl rfl rfl rfl rfl rfl) (sg8 (n0 := 2) (f := (fun j => zzI cy (rB j) 4 (bkR (T_mk (T_nb tA) (T_np tA) (T_sd tA) (T_wh tA) (T_gn tA) (upd (T_wo tA) (T_nb tA) iA) (T_ne tA) (T_go tA) (T_ag tA) (T_re tA) (T_me tA) (T_te tA) (T_kn tA)) j))) rfl rfl rfl rfl rfl rfl rfl rfl) rfl rfl (by omega) rfl (fun i _ => (congrFun (bk_u0 tA (T_nb tA) iA) i).symm) (fun j hj => congrArg (zzI cy (rB j) 4) (bk_n0 tA (T_nb tA) iA hj))
  clear hP hD
  obtain ⟨hP, hD⟩ := hPD
  refine lv_aload_n hx hb dX6_newBook_12 rfl (lv_at hl 0 rfl) ?_
  refine va_get (D := G) (ci := 5) (v := .ref qmB) (C := RX6) (T := TX6) (N := 35) hx hb hts iX_X6 hown hK hP 0 rfl rfl 11 (by decide) (hts _ m_t861) (fun _ h9 => h9) rfl dX6_newBook_13 ?_
  refine lv_aload_n hx hb dX6_newBook_16 rfl (lv_at hl 0 rfl) ?_
  refine va_get (D := G) (ci := 5) (v := .int (nI (T_nb tA))) (C := RX6) (T := TX6) (N := 35) hx hb hts iX_X6 hown hK hP 0 rfl rfl 10 (by decide) (hts _ m_t860) (fun _ h9 => h9) rfl dX6_newBook_17 ?_
  refine va_alda hx hb hK hP 1 3 rfl rfl (in8 (by omega)) dX6_newBook_20 ?_
  refine lv_setv (v := .ref (rB (T_nb tA))) (g_ref (by omega)) ?_
  refine lv_iconst (v := 1) hx hb dX6_newBook_21 (by decide) ?_
  refine lv_iconst (v := 0) hx hb dX6_newBook_22 (by decide) ?_
  refine va_iast hx hb hK hP hD hS (2 + (T_nb tA)) 0 ((sg8 (n0 := 2) (f := (fun j => zzI cy (rB j) 4 (bkR (T_mk (T_nb tA) (T_np tA) (T_sd tA) (T_wh tA) (T_gn tA) (upd (T_wo tA) (T_nb tA) iA) (T_ne tA) (T_go tA) (T_ag tA) (T_re tA) (T_me tA) (T_te tA) (T_kn tA)) j))) rfl rfl rfl rfl rfl rfl rfl rfl) (T_nb tA) (by omega)) rfl (in_c rfl) dX6_newBook_23 (fun H locs => ?_)
  clear hP hD hS
  intro hP hD hS
  have hPD := st8PD (ws' := [zzO qm 5 [v0, v1, v2, v3, v4, v5, v6, v7, v8, v9, .int (nI (T_nb tA)), .ref qmB, .int (nI (T_np tA)), .ref qmO, .ref qmK, .int iEn, .int iTk, .int (T_sd tA), v18, v19, v20, v21, v22, v23, v24, v25, v26, .int iLv, .int iWs, v29, v30, v31, v32, v33, v34], zzG cy 3 qmB rB, zzI cy (rB 0) 4 (bkR (T_mk (T_nb tA) (T_np tA) (T_sd tA) (T_wh tA) (T_gn tA) (upd (T_wo tA) (T_nb tA) iA) (upd (T_ne tA) (T_nb tA) 0) (T_go tA) (T_ag tA) (T_re tA) (T_me tA) (T_te tA) (T_kn tA)) 0), zzI cy (rB 1) 4 (bkR (T_mk (T_nb tA) (T_np tA) (T_sd tA) (T_wh tA) (T_gn tA) (upd (T_wo tA) (T_nb tA) iA) (upd (T_ne tA) (T_nb tA) 0) (T_go tA) (T_ag tA) (T_re tA) (T_me tA) (T_te tA) (T_kn tA)) 1), zzI cy (rB 2) 4 (bkR (T_mk (T_nb tA) (T_np tA) (T_sd tA) (T_wh tA) (T_gn tA) (upd (T_wo tA) (T_nb tA) iA) (upd (T_ne tA) (T_nb tA) 0) (T_go tA) (T_ag tA) (T_re tA) (T_me tA) (T_te tA) (T_kn tA)) 2), zzI cy (rB 3) 4 (bkR (T_mk (T_nb tA) (T_np tA) (T_sd tA) (T_wh tA) (T_gn tA) (upd (T_wo tA) (T_nb tA) iA) (upd (T_ne tA) (T_nb tA) 0) (T_go tA) (T_ag tA) (T_re tA) (T_me tA) (T_te tA) (T_kn tA)) 3), zzI cy (rB 4) 4 (bkR (T_mk (T_nb tA) (T_np tA) (T_sd tA) (T_wh tA) (T_gn tA) (upd (T_wo tA) (T_nb tA) iA) (upd (T_ne tA) (T_nb tA) 0) (T_go tA) (T_ag tA) (T_re tA) (T_me tA) (T_te tA) (T_kn tA)) 4), zzI cy (rB 5) 4 (bkR (T_mk (T_nb tA) (T_np tA) (T_sd tA) (T_wh tA) (T_gn tA) (upd (T_wo tA) (T_nb tA) iA) (upd (T_ne tA) (T_nb tA) 0) (T_go tA) (T_ag tA) (T_re tA) (T_me tA) (T_te tA) (T_kn tA)) 5), zzI cy (rB 6) 4 (bkR (T_mk (T_nb tA) (T_np tA) (T_sd tA) (T_wh tA) (T_gn tA) (upd (T_wo tA) (T_nb tA) iA) (upd (T_ne tA) (T_nb tA) 0) (T_go tA) (T_ag tA) (T_re tA) (T_me tA) (T_te tA) (T_kn tA)) 6), zzI cy (rB 7) 4 (bkR (T_mk (T_nb tA) (T_np tA) (T_sd tA) (T_wh tA) (T_gn tA) (upd (T_wo tA) (T_nb tA) iA) (upd (T_ne tA) (T_nb tA) 0) (T_go tA) (T_ag tA) (T_re tA) (T_me tA) (T_te tA) (T_kn tA)) 7), zzG cy 3 qmO rO, zzI cy (rO 0) 5 (onR (T_mk (T_nb tA) (T_np tA) (T_sd tA) (T_wh tA) (T_gn tA) (upd (T_wo tA) (T_nb tA) iA) (upd (T_ne tA) (T_nb tA) 0) (T_go tA) (T_ag tA) (T_re tA) (T_me tA) (T_te tA) (T_kn tA)) 0), zzI cy (rO 1) 5 (onR (T_mk (T_nb tA) (T_np tA) (T_sd tA) (T_wh tA) (T_gn tA) (upd (T_wo tA) (T_nb tA) iA) (upd (T_ne tA) (T_nb tA) 0) (T_go tA) (T_ag tA) (T_re tA) (T_me tA) (T_te tA) (T_kn tA)) 1), zzI cy (rO 2) 5 (onR (T_mk (T_nb tA) (T_np tA) (T_sd tA) (T_wh tA) (T_gn tA) (upd (T_wo tA) (T_nb tA) iA) (upd (T_ne tA) (T_nb tA) 0) (T_go tA) (T_ag tA) (T_re tA) (T_me tA) (T_te tA) (T_kn tA)) 2), zzI cy (rO 3) 5 (onR (T_mk (T_nb tA) (T_np tA) (T_sd tA) (T_wh tA) (T_gn tA) (upd (T_wo tA) (T_nb tA) iA) (upd (T_ne tA) (T_nb tA) 0) (T_go tA) (T_ag tA) (T_re tA) (T_me tA) (T_te tA) (T_kn tA)) 3), zzI cy (rO 4) 5 (onR (T_mk (T_nb tA) (T_np tA) (T_sd tA) (T_wh tA) (T_gn tA) (upd (T_wo tA) (T_nb tA) iA) (upd (T_ne tA) (T_nb tA) 0) (T_go tA) (T_ag tA) (T_re tA) (T_me tA) (T_te tA) (T_kn tA)) 4), zzI cy (rO 5) 5 (onR (T_mk (T_nb tA) (T_np tA) (T_sd tA) (T_wh tA) (T_gn tA) (upd (T_wo tA) (T_nb tA) iA) (upd (T_ne tA) (T_nb tA) 0) (T_go tA) (T_ag tA) (T_re tA) (T_me tA) (T_te tA) (T_kn tA)) 5), zzI cy (rO 6) 5 (onR (T_mk (T_nb tA) (T_np tA) (T_sd tA) (T_wh tA) (T_gn tA) (upd (T_wo tA) (T_nb tA) iA) (upd (T_ne tA) (T_nb tA) 0) (T_go tA) (T_ag tA) (T_re tA) (T_me tA) (T_te tA) (T_kn tA)) 6), zzI cy (rO 7) 5 (onR (T_mk (T_nb tA) (T_np tA) (T_sd tA) (T_wh tA) (T_gn tA) (upd (T_wo tA) (T_nb tA) iA) (upd (T_ne tA) (T_nb tA) 0) (T_go tA) (T_ag tA) (T_re tA) (T_me tA) (T_te tA) (T_kn tA)) 7), zzG cy 3 qmK rK, zzI cy (rK 0) 8 (T_kn (T_mk (T_nb tA) (T_np tA) (T_sd tA) (T_wh tA) (T_gn tA) (upd (T_wo tA) (T_nb tA) iA) (upd (T_ne tA) (T_nb tA) 0) (T_go tA) (T_ag tA) (T_re tA) (T_me tA) (T_te tA) (T_kn tA)) 0), zzI cy (rK 1) 8 (T_kn (T_mk (T_nb tA) (T_np tA) (T_sd tA) (T_wh tA) (T_gn tA) (upd (T_wo tA) (T_nb tA) iA) (upd (T_ne tA) (T_nb tA) 0) (T_go tA) (T_ag tA) (T_re tA) (T_me tA) (T_te tA) (T_kn tA)) 1), zzI cy (rK 2) 8 (T_kn (T_mk (T_nb tA) (T_np tA) (T_sd tA) (T_wh tA) (T_gn tA) (upd (T_wo tA) (T_nb tA) iA) (upd (T_ne tA) (T_nb tA) 0) (T_go tA) (T_ag tA) (T_re tA) (T_me tA) (T_te tA) (T_kn tA)) 2), zzI cy (rK 3) 8 (T_kn (T_mk (T_nb tA) (T_np tA) (T_sd tA) (T_wh tA) (T_gn tA) (upd (T_wo tA) (T_nb tA) iA) (upd (T_ne tA) (T_nb tA) 0) (T_go tA) (T_ag tA) (T_re tA) (T_me tA) (T_te tA) (T_kn tA)) 3), zzI cy (rK 4) 8 (T_kn (T_mk (T_nb tA) (T_np tA) (T_sd tA) (T_wh tA) (T_gn tA) (upd (T_wo tA) (T_nb tA) iA) (upd (T_ne tA) (T_nb tA) 0) (T_go tA) (T_ag tA) (T_re tA) (T_me tA) (T_te tA) (T_kn tA)) 4), zzI cy (rK 5) 8 (T_kn (T_mk (T_nb tA) (T_np tA) (T_sd tA) (T_wh tA) (T_gn tA) (upd (T_wo tA) (T_nb tA) iA) (upd (T_ne tA) (T_nb tA) 0) (T_go tA) (T_ag tA) (T_re tA) (T_me tA) (T_te tA) (T_kn tA)) 5), zzI cy (rK 6) 8 (T_kn (T_mk (T_nb tA) (T_np tA) (T_sd tA) (T_wh tA) (T_gn tA) (upd (T_wo tA) (T_nb tA) iA) (upd (T_ne tA) (T_nb tA) 0) (T_go tA) (T_ag tA) (T_re tA) (T_me tA) (T_te tA) (T_kn tA)) 6), zzI cy (rK 7) 8 (T_kn (T_mk (T_nb tA) (T_np tA) (T_sd tA) (T_wh tA) (T_gn tA) (upd (T_wo tA) (T_nb tA) iA) (upd (T_ne tA) (T_nb tA) 0) (T_go tA) (T_ag tA) (T_re tA) (T_me tA) (T_te tA) (T_kn tA)) 7)]) (k := (T_nb tA)) (g1 := bkR (T_mk (T_nb tA) (T_np tA) (T_sd tA) (T_wh tA) (T_gn tA) (upd (T_wo tA) (T_nb tA) iA) (upd (T_ne tA) (T_nb tA) 0) (T_go tA) (T_ag tA) (T_re tA) (T_me tA) (T_te tA) (T_kn tA)) (T_nb tA)) hP hD (sg8 (n0 := 2) (f := (fun j => zzI cy (rB j) 4 (bkR (T_mk (T_nb tA) (T_np tA) (T_sd tA) (T_wh tA) (T_gn tA) (upd (T_wo tA) (T_nb tA) iA) (T_ne tA) (T_go tA) (T_ag tA) (T_re tA) (T_me tA) (T_te tA) (T_kn tA)) j))) rfl rfl rfl rfl rfl rfl rfl rfl) (sg8 (n0 := 2) (f := (fun j => zzI cy (rB j) 4 (bkR (T_mk (T_nb tA) (T_np tA) (T_sd tA) (T_wh tA) (T_gn tA) (upd (T_wo tA) (T_nb tA) iA) (upd (T_ne tA) (T_nb tA) 0) (T_go tA) (T_ag tA) (T_re tA) (T_me tA) (T_te tA) (T_kn tA)) j))) rfl rfl rfl rfl rfl rfl rfl rfl) rfl rfl (by omega) rfl (fun i _ => (congrFun (bk_u1 (T_mk (T_nb tA) (T_np tA) (T_sd tA) (T_wh tA) (T_gn tA) (upd (T_wo tA) (T_nb tA) iA) (T_ne tA) (T_go tA) (T_ag tA) (T_re tA) (T_me tA) (T_te tA) (T_kn tA)) (T_nb tA) 0) i).symm) (fun j hj => congrArg (zzI cy (rB j) 4) (bk_n1 (T_mk (T_nb tA) (T_np tA) (T_sd tA) (T_wh tA) (T_gn tA) (upd (T_wo tA) (T_nb tA) iA) (T_ne tA) (T_go tA) (T_ag tA) (T_re tA) (T_me tA) (T_te tA) (T_kn tA)) (T_nb tA) 0 hj))
  clear hP hD
  obtain ⟨hP, hD⟩ := hPD
  refine lv_aload_n hx hb dX6_newBook_24 rfl (lv_at hl 0 rfl) ?_
  refine va_get (D := G) (ci := 5) (v := .ref qmB) (C := RX6) (T := TX6) (N := 35) hx hb hts iX_X6 hown hK hP 0 rfl rfl 11 (by decide) (hts _ m_t861) (fun _ h9 => h9) rfl dX6_newBook_25 ?_
  refine lv_aload_n hx hb dX6_newBook_28 rfl (lv_at hl 0 rfl) ?_
  refine va_get (D := G) (ci := 5) (v := .int (nI (T_nb tA))) (C := RX6) (T := TX6) (N := 35) hx hb hts iX_X6 hown hK hP 0 rfl rfl 10 (by decide) (hts _ m_t860) (fun _ h9 => h9) rfl dX6_newBook_29 ?_
  refine va_alda hx hb hK hP 1 3 rfl rfl (in8 (by omega)) dX6_newBook_32 ?_
  refine lv_setv (v := .ref (rB (T_nb tA))) (g_ref (by omega)) ?_
  refine lv_iconst (v := 2) hx hb dX6_newBook_33 (by decide) ?_
  refine lv_sipush (v := 1000) hx hb dX6_newBook_34 (by decide) ?_
  refine va_iast hx hb hK hP hD hS (2 + (T_nb tA)) 0 ((sg8 (n0 := 2) (f := (fun j => zzI cy (rB j) 4 (bkR (T_mk (T_nb tA) (T_np tA) (T_sd tA) (T_wh tA) (T_gn tA) (upd (T_wo tA) (T_nb tA) iA) (upd (T_ne tA) (T_nb tA) 0) (T_go tA) (T_ag tA) (T_re tA) (T_me tA) (T_te tA) (T_kn tA)) j))) rfl rfl rfl rfl rfl rfl rfl rfl) (T_nb tA) (by omega)) rfl (in_c rfl) dX6_newBook_37 (fun H locs => ?_)
  clear hP hD hS
  intro hP hD hS
  have hPD := st8PD (ws' := [zzO qm 5 [v0, v1, v2, v3, v4, v5, v6, v7, v8, v9, .int (nI (T_nb tA)), .ref qmB, .int (nI (T_np tA)), .ref qmO, .ref qmK, .int iEn, .int iTk, .int (T_sd tA), v18, v19, v20, v21, v22, v23, v24, v25, v26, .int iLv, .int iWs, v29, v30, v31, v32, v33, v34], zzG cy 3 qmB rB, zzI cy (rB 0) 4 (bkR (T_mk (T_nb tA) (T_np tA) (T_sd tA) (T_wh tA) (T_gn tA) (upd (T_wo tA) (T_nb tA) iA) (upd (T_ne tA) (T_nb tA) 0) (upd (T_go tA) (T_nb tA) 1000) (T_ag tA) (T_re tA) (T_me tA) (T_te tA) (T_kn tA)) 0), zzI cy (rB 1) 4 (bkR (T_mk (T_nb tA) (T_np tA) (T_sd tA) (T_wh tA) (T_gn tA) (upd (T_wo tA) (T_nb tA) iA) (upd (T_ne tA) (T_nb tA) 0) (upd (T_go tA) (T_nb tA) 1000) (T_ag tA) (T_re tA) (T_me tA) (T_te tA) (T_kn tA)) 1), zzI cy (rB 2) 4 (bkR (T_mk (T_nb tA) (T_np tA) (T_sd tA) (T_wh tA) (T_gn tA) (upd (T_wo tA) (T_nb tA) iA) (upd (T_ne tA) (T_nb tA) 0) (upd (T_go tA) (T_nb tA) 1000) (T_ag tA) (T_re tA) (T_me tA) (T_te tA) (T_kn tA)) 2), zzI cy (rB 3) 4 (bkR (T_mk (T_nb tA) (T_np tA) (T_sd tA) (T_wh tA) (T_gn tA) (upd (T_wo tA) (T_nb tA) iA) (upd (T_ne tA) (T_nb tA) 0) (upd (T_go tA) (T_nb tA) 1000) (T_ag tA) (T_re tA) (T_me tA) (T_te tA) (T_kn tA)) 3), zzI cy (rB 4) 4 (bkR (T_mk (T_nb tA) (T_np tA) (T_sd tA) (T_wh tA) (T_gn tA) (upd (T_wo tA) (T_nb tA) iA) (upd (T_ne tA) (T_nb tA) 0) (upd (T_go tA) (T_nb tA) 1000) (T_ag tA) (T_re tA) (T_me tA) (T_te tA) (T_kn tA)) 4), zzI cy (rB 5) 4 (bkR (T_mk (T_nb tA) (T_np tA) (T_sd tA) (T_wh tA) (T_gn tA) (upd (T_wo tA) (T_nb tA) iA) (upd (T_ne tA) (T_nb tA) 0) (upd (T_go tA) (T_nb tA) 1000) (T_ag tA) (T_re tA) (T_me tA) (T_te tA) (T_kn tA)) 5), zzI cy (rB 6) 4 (bkR (T_mk (T_nb tA) (T_np tA) (T_sd tA) (T_wh tA) (T_gn tA) (upd (T_wo tA) (T_nb tA) iA) (upd (T_ne tA) (T_nb tA) 0) (upd (T_go tA) (T_nb tA) 1000) (T_ag tA) (T_re tA) (T_me tA) (T_te tA) (T_kn tA)) 6), zzI cy (rB 7) 4 (bkR (T_mk (T_nb tA) (T_np tA) (T_sd tA) (T_wh tA) (T_gn tA) (upd (T_wo tA) (T_nb tA) iA) (upd (T_ne tA) (T_nb tA) 0) (upd (T_go tA) (T_nb tA) 1000) (T_ag tA) (T_re tA) (T_me tA) (T_te tA) (T_kn tA)) 7), zzG cy 3 qmO rO, zzI cy (rO 0) 5 (onR (T_mk (T_nb tA) (T_np tA) (T_sd tA) (T_wh tA) (T_gn tA) (upd (T_wo tA) (T_nb tA) iA) (upd (T_ne tA) (T_nb tA) 0) (upd (T_go tA) (T_nb tA) 1000) (T_ag tA) (T_re tA) (T_me tA) (T_te tA) (T_kn tA)) 0), zzI cy (rO 1) 5 (onR (T_mk (T_nb tA) (T_np tA) (T_sd tA) (T_wh tA) (T_gn tA) (upd (T_wo tA) (T_nb tA) iA) (upd (T_ne tA) (T_nb tA) 0) (upd (T_go tA) (T_nb tA) 1000) (T_ag tA) (T_re tA) (T_me tA) (T_te tA) (T_kn tA)) 1), zzI cy (rO 2) 5 (onR (T_mk (T_nb tA) (T_np tA) (T_sd tA) (T_wh tA) (T_gn tA) (upd (T_wo tA) (T_nb tA) iA) (upd (T_ne tA) (T_nb tA) 0) (upd (T_go tA) (T_nb tA) 1000) (T_ag tA) (T_re tA) (T_me tA) (T_te tA) (T_kn tA)) 2), zzI cy (rO 3) 5 (onR (T_mk (T_nb tA) (T_np tA) (T_sd tA) (T_wh tA) (T_gn tA) (upd (T_wo tA) (T_nb tA) iA) (upd (T_ne tA) (T_nb tA) 0) (upd (T_go tA) (T_nb tA) 1000) (T_ag tA) (T_re tA) (T_me tA) (T_te tA) (T_kn tA)) 3), zzI cy (rO 4) 5 (onR (T_mk (T_nb tA) (T_np tA) (T_sd tA) (T_wh tA) (T_gn tA) (upd (T_wo tA) (T_nb tA) iA) (upd (T_ne tA) (T_nb tA) 0) (upd (T_go tA) (T_nb tA) 1000) (T_ag tA) (T_re tA) (T_me tA) (T_te tA) (T_kn tA)) 4), zzI cy (rO 5) 5 (onR (T_mk (T_nb tA) (T_np tA) (T_sd tA) (T_wh tA) (T_gn tA) (upd (T_wo tA) (T_nb tA) iA) (upd (T_ne tA) (T_nb tA) 0) (upd (T_go tA) (T_nb tA) 1000) (T_ag tA) (T_re tA) (T_me tA) (T_te tA) (T_kn tA)) 5), zzI cy (rO 6) 5 (onR (T_mk (T_nb tA) (T_np tA) (T_sd tA) (T_wh tA) (T_gn tA) (upd (T_wo tA) (T_nb tA) iA) (upd (T_ne tA) (T_nb tA) 0) (upd (T_go tA) (T_nb tA) 1000) (T_ag tA) (T_re tA) (T_me tA) (T_te tA) (T_kn tA)) 6), zzI cy (rO 7) 5 (onR (T_mk (T_nb tA) (T_np tA) (T_sd tA) (T_wh tA) (T_gn tA) (upd (T_wo tA) (T_nb tA) iA) (upd (T_ne tA) (T_nb tA) 0) (upd (T_go tA) (T_nb tA) 1000) (T_ag tA) (T_re tA) (T_me tA) (T_te tA) (T_kn tA)) 7), zzG cy 3 qmK rK, zzI cy (rK 0) 8 (T_kn (T_mk (T_nb tA) (T_np tA) (T_sd tA) (T_wh tA) (T_gn tA) (upd (T_wo tA) (T_nb tA) iA) (upd (T_ne tA) (T_nb tA) 0) (upd (T_go tA) (T_nb tA) 1000) (T_ag tA) (T_re tA) (T_me tA) (T_te tA) (T_kn tA)) 0), zzI cy (rK 1) 8 (T_kn (T_mk (T_nb tA) (T_np tA) (T_sd tA) (T_wh tA) (T_gn tA) (upd (T_wo tA) (T_nb tA) iA) (upd (T_ne tA) (T_nb tA) 0) (upd (T_go tA) (T_nb tA) 1000) (T_ag tA) (T_re tA) (T_me tA) (T_te tA) (T_kn tA)) 1), zzI cy (rK 2) 8 (T_kn (T_mk (T_nb tA) (T_np tA) (T_sd tA) (T_wh tA) (T_gn tA) (upd (T_wo tA) (T_nb tA) iA) (upd (T_ne tA) (T_nb tA) 0) (upd (T_go tA) (T_nb tA) 1000) (T_ag tA) (T_re tA) (T_me tA) (T_te tA) (T_kn tA)) 2), zzI cy (rK 3) 8 (T_kn (T_mk (T_nb tA) (T_np tA) (T_sd tA) (T_wh tA) (T_gn tA) (upd (T_wo tA) (T_nb tA) iA) (upd (T_ne tA) (T_nb tA) 0) (upd (T_go tA) (T_nb tA) 1000) (T_ag tA) (T_re tA) (T_me tA) (T_te tA) (T_kn tA)) 3), zzI cy (rK 4) 8 (T_kn (T_mk (T_nb tA) (T_np tA) (T_sd tA) (T_wh tA) (T_gn tA) (upd (T_wo tA) (T_nb tA) iA) (upd (T_ne tA) (T_nb tA) 0) (upd (T_go tA) (T_nb tA) 1000) (T_ag tA) (T_re tA) (T_me tA) (T_te tA) (T_kn tA)) 4), zzI cy (rK 5) 8 (T_kn (T_mk (T_nb tA) (T_np tA) (T_sd tA) (T_wh tA) (T_gn tA) (upd (T_wo tA) (T_nb tA) iA) (upd (T_ne tA) (T_nb tA) 0) (upd (T_go tA) (T_nb tA) 1000) (T_ag tA) (T_re tA) (T_me tA) (T_te tA) (T_kn tA)) 5), zzI cy (rK 6) 8 (T_kn (T_mk (T_nb tA) (T_np tA) (T_sd tA) (T_wh tA) (T_gn tA) (upd (T_wo tA) (T_nb tA) iA) (upd (T_ne tA) (T_nb tA) 0) (upd (T_go tA) (T_nb tA) 1000) (T_ag tA) (T_re tA) (T_me tA) (T_te tA) (T_kn tA)) 6), zzI cy (rK 7) 8 (T_kn (T_mk (T_nb tA) (T_np tA) (T_sd tA) (T_wh tA) (T_gn tA) (upd (T_wo tA) (T_nb tA) iA) (upd (T_ne tA) (T_nb tA) 0) (upd (T_go tA) (T_nb tA) 1000) (T_ag tA) (T_re tA) (T_me tA) (T_te tA) (T_kn tA)) 7)]) (k := (T_nb tA)) (g1 := bkR (T_mk (T_nb tA) (T_np tA) (T_sd tA) (T_wh tA) (T_gn tA) (upd (T_wo tA) (T_nb tA) iA) (upd (T_ne tA) (T_nb tA) 0) (upd (T_go tA) (T_nb tA) 1000) (T_ag tA) (T_re tA) (T_me tA) (T_te tA) (T_kn tA)) (T_nb tA)) hP hD (sg8 (n0 := 2) (f := (fun j => zzI cy (rB j) 4 (bkR (T_mk (T_nb tA) (T_np tA) (T_sd tA) (T_wh tA) (T_gn tA) (upd (T_wo tA) (T_nb tA) iA) (upd (T_ne tA) (T_nb tA) 0) (T_go tA) (T_ag tA) (T_re tA) (T_me tA) (T_te tA) (T_kn tA)) j))) rfl rfl rfl rfl rfl rfl rfl rfl) (sg8 (n0 := 2) (f := (fun j => zzI cy (rB j) 4 (bkR (T_mk (T_nb tA) (T_np tA) (T_sd tA) (T_wh tA) (T_gn tA) (upd (T_wo tA) (T_nb tA) iA) (upd (T_ne tA) (T_nb tA) 0) (upd (T_go tA) (T_nb tA) 1000) (T_ag tA) (T_re tA) (T_me tA) (T_te tA) (T_kn tA)) j))) rfl rfl rfl rfl rfl rfl rfl rfl) rfl rfl (by omega) rfl (fun i _ => (congrFun (bk_u2 (T_mk (T_nb tA) (T_np tA) (T_sd tA) (T_wh tA) (T_gn tA) (upd (T_wo tA) (T_nb tA) iA) (upd (T_ne tA) (T_nb tA) 0) (T_go tA) (T_ag tA) (T_re tA) (T_me tA) (T_te tA) (T_kn tA)) (T_nb tA) 1000) i).symm) (fun j hj => congrArg (zzI cy (rB j) 4) (bk_n2 (T_mk (T_nb tA) (T_np tA) (T_sd tA) (T_wh tA) (T_gn tA) (upd (T_wo tA) (T_nb tA) iA) (upd (T_ne tA) (T_nb tA) 0) (T_go tA) (T_ag tA) (T_re tA) (T_me tA) (T_te tA) (T_kn tA)) (T_nb tA) 1000 hj))
  clear hP hD
  obtain ⟨hP, hD⟩ := hPD
  refine lv_aload_n hx hb dX6_newBook_38 rfl (lv_at hl 0 rfl) ?_
  refine va_get (D := G) (ci := 5) (v := .ref qmB) (C := RX6) (T := TX6) (N := 35) hx hb hts iX_X6 hown hK hP 0 rfl rfl 11 (by decide) (hts _ m_t861) (fun _ h9 => h9) rfl dX6_newBook_39 ?_
  refine lv_aload_n hx hb dX6_newBook_42 rfl (lv_at hl 0 rfl) ?_
  refine va_get (D := G) (ci := 5) (v := .int (nI (T_nb tA))) (C := RX6) (T := TX6) (N := 35) hx hb hts iX_X6 hown hK hP 0 rfl rfl 10 (by decide) (hts _ m_t860) (fun _ h9 => h9) rfl dX6_newBook_43 ?_
  refine va_alda hx hb hK hP 1 3 rfl rfl (in8 (by omega)) dX6_newBook_46 ?_
  refine lv_setv (v := .ref (rB (T_nb tA))) (g_ref (by omega)) ?_
  refine lv_iconst (v := 3) hx hb dX6_newBook_47 (by decide) ?_
  refine lv_iconst (v := 0) hx hb dX6_newBook_48 (by decide) ?_
  refine va_iast hx hb hK hP hD hS (2 + (T_nb tA)) 0 ((sg8 (n0 := 2) (f := (fun j => zzI cy (rB j) 4 (bkR (T_mk (T_nb tA) (T_np tA) (T_sd tA) (T_wh tA) (T_gn tA) (upd (T_wo tA) (T_nb tA) iA) (upd (T_ne tA) (T_nb tA) 0) (upd (T_go tA) (T_nb tA) 1000) (T_ag tA) (T_re tA) (T_me tA) (T_te tA) (T_kn tA)) j))) rfl rfl rfl rfl rfl rfl rfl rfl) (T_nb tA) (by omega)) rfl (in_c rfl) dX6_newBook_49 (fun H locs => ?_)
  clear hP hD hS
  intro hP hD hS
  have hPD := st8PD (ws' := [zzO qm 5 [v0, v1, v2, v3, v4, v5, v6, v7, v8, v9, .int (nI (T_nb tA)), .ref qmB, .int (nI (T_np tA)), .ref qmO, .ref qmK, .int iEn, .int iTk, .int (T_sd tA), v18, v19, v20, v21, v22, v23, v24, v25, v26, .int iLv, .int iWs, v29, v30, v31, v32, v33, v34], zzG cy 3 qmB rB, zzI cy (rB 0) 4 (bkR (T_mk (T_nb tA) (T_np tA) (T_sd tA) (updB (T_wh tA) (T_nb tA) false) (T_gn tA) (upd (T_wo tA) (T_nb tA) iA) (upd (T_ne tA) (T_nb tA) 0) (upd (T_go tA) (T_nb tA) 1000) (T_ag tA) (T_re tA) (T_me tA) (T_te tA) (T_kn tA)) 0), zzI cy (rB 1) 4 (bkR (T_mk (T_nb tA) (T_np tA) (T_sd tA) (updB (T_wh tA) (T_nb tA) false) (T_gn tA) (upd (T_wo tA) (T_nb tA) iA) (upd (T_ne tA) (T_nb tA) 0) (upd (T_go tA) (T_nb tA) 1000) (T_ag tA) (T_re tA) (T_me tA) (T_te tA) (T_kn tA)) 1), zzI cy (rB 2) 4 (bkR (T_mk (T_nb tA) (T_np tA) (T_sd tA) (updB (T_wh tA) (T_nb tA) false) (T_gn tA) (upd (T_wo tA) (T_nb tA) iA) (upd (T_ne tA) (T_nb tA) 0) (upd (T_go tA) (T_nb tA) 1000) (T_ag tA) (T_re tA) (T_me tA) (T_te tA) (T_kn tA)) 2), zzI cy (rB 3) 4 (bkR (T_mk (T_nb tA) (T_np tA) (T_sd tA) (updB (T_wh tA) (T_nb tA) false) (T_gn tA) (upd (T_wo tA) (T_nb tA) iA) (upd (T_ne tA) (T_nb tA) 0) (upd (T_go tA) (T_nb tA) 1000) (T_ag tA) (T_re tA) (T_me tA) (T_te tA) (T_kn tA)) 3), zzI cy (rB 4) 4 (bkR (T_mk (T_nb tA) (T_np tA) (T_sd tA) (updB (T_wh tA) (T_nb tA) false) (T_gn tA) (upd (T_wo tA) (T_nb tA) iA) (upd (T_ne tA) (T_nb tA) 0) (upd (T_go tA) (T_nb tA) 1000) (T_ag tA) (T_re tA) (T_me tA) (T_te tA) (T_kn tA)) 4), zzI cy (rB 5) 4 (bkR (T_mk (T_nb tA) (T_np tA) (T_sd tA) (updB (T_wh tA) (T_nb tA) false) (T_gn tA) (upd (T_wo tA) (T_nb tA) iA) (upd (T_ne tA) (T_nb tA) 0) (upd (T_go tA) (T_nb tA) 1000) (T_ag tA) (T_re tA) (T_me tA) (T_te tA) (T_kn tA)) 5), zzI cy (rB 6) 4 (bkR (T_mk (T_nb tA) (T_np tA) (T_sd tA) (updB (T_wh tA) (T_nb tA) false) (T_gn tA) (upd (T_wo tA) (T_nb tA) iA) (upd (T_ne tA) (T_nb tA) 0) (upd (T_go tA) (T_nb tA) 1000) (T_ag tA) (T_re tA) (T_me tA) (T_te tA) (T_kn tA)) 6), zzI cy (rB 7) 4 (bkR (T_mk (T_nb tA) (T_np tA) (T_sd tA) (updB (T_wh tA) (T_nb tA) false) (T_gn tA) (upd (T_wo tA) (T_nb tA) iA) (upd (T_ne tA) (T_nb tA) 0) (upd (T_go tA) (T_nb tA) 1000) (T_ag tA) (T_re tA) (T_me tA) (T_te tA) (T_kn tA)) 7), zzG cy 3 qmO rO, zzI cy (rO 0) 5 (onR (T_mk (T_nb tA) (T_np tA) (T_sd tA) (updB (T_wh tA) (T_nb tA) false) (T_gn tA) (upd (T_wo tA) (T_nb tA) iA) (upd (T_ne tA) (T_nb tA) 0) (upd (T_go tA) (T_nb tA) 1000) (T_ag tA) (T_re tA) (T_me tA) (T_te tA) (T_kn tA)) 0), zzI cy (rO 1) 5 (onR (T_mk (T_nb tA) (T_np tA) (T_sd tA) (updB (T_wh tA) (T_nb tA) false) (T_gn tA) (upd (T_wo tA) (T_nb tA) iA) (upd (T_ne tA) (T_nb tA) 0) (upd (T_go tA) (T_nb tA) 1000) (T_ag tA) (T_re tA) (T_me tA) (T_te tA) (T_kn tA)) 1), zzI cy (rO 2) 5 (onR (T_mk (T_nb tA) (T_np tA) (T_sd tA) (updB (T_wh tA) (T_nb tA) false) (T_gn tA) (upd (T_wo tA) (T_nb tA) iA) (upd (T_ne tA) (T_nb tA) 0) (upd (T_go tA) (T_nb tA) 1000) (T_ag tA) (T_re tA) (T_me tA) (T_te tA) (T_kn tA)) 2), zzI cy (rO 3) 5 (onR (T_mk (T_nb tA) (T_np tA) (T_sd tA) (updB (T_wh tA) (T_nb tA) false) (T_gn tA) (upd (T_wo tA) (T_nb tA) iA) (upd (T_ne tA) (T_nb tA) 0) (upd (T_go tA) (T_nb tA) 1000) (T_ag tA) (T_re tA) (T_me tA) (T_te tA) (T_kn tA)) 3), zzI cy (rO 4) 5 (onR (T_mk (T_nb tA) (T_np tA) (T_sd tA) (updB (T_wh tA) (T_nb tA) false) (T_gn tA) (upd (T_wo tA) (T_nb tA) iA) (upd (T_ne tA) (T_nb tA) 0) (upd (T_go tA) (T_nb tA) 1000) (T_ag tA) (T_re tA) (T_me tA) (T_te tA) (T_kn tA)) 4), zzI cy (rO 5) 5 (onR (T_mk (T_nb tA) (T_np tA) (T_sd tA) (updB (T_wh tA) (T_nb tA) false) (T_gn tA) (upd (T_wo tA) (T_nb tA) iA) (upd (T_ne tA) (T_nb tA) 0) (upd (T_go tA) (T_nb tA) 1000) (T_ag tA) (T_re tA) (T_me tA) (T_te tA) (T_kn tA)) 5), zzI cy (rO 6) 5 (onR (T_mk (T_nb tA) (T_np tA) (T_sd tA) (updB (T_wh tA) (T_nb tA) false) (T_gn tA) (upd (T_wo tA) (T_nb tA) iA) (upd (T_ne tA) (T_nb tA) 0) (upd (T_go tA) (T_nb tA) 1000) (T_ag tA) (T_re tA) (T_me tA) (T_te tA) (T_kn tA)) 6), zzI cy (rO 7) 5 (onR (T_mk (T_nb tA) (T_np tA) (T_sd tA) (updB (T_wh tA) (T_nb tA) false) (T_gn tA) (upd (T_wo tA) (T_nb tA) iA) (upd (T_ne tA) (T_nb tA) 0) (upd (T_go tA) (T_nb tA) 1000) (T_ag tA) (T_re tA) (T_me tA) (T_te tA) (T_kn tA)) 7), zzG cy 3 qmK rK, zzI cy (rK 0) 8 (T_kn (T_mk (T_nb tA) (T_np tA) (T_sd tA) (updB (T_wh tA) (T_nb tA) false) (T_gn tA) (upd (T_wo tA) (T_nb tA) iA) (upd (T_ne tA) (T_nb tA) 0) (upd (T_go tA) (T_nb tA) 1000) (T_ag tA) (T_re tA) (T_me tA) (T_te tA) (T_kn tA)) 0), zzI cy (rK 1) 8 (T_kn (T_mk (T_nb tA) (T_np tA) (T_sd tA) (updB (T_wh tA) (T_nb tA) false) (T_gn tA) (upd (T_wo tA) (T_nb tA) iA) (upd (T_ne tA) (T_nb tA) 0) (upd (T_go tA) (T_nb tA) 1000) (T_ag tA) (T_re tA) (T_me tA) (T_te tA) (T_kn tA)) 1), zzI cy (rK 2) 8 (T_kn (T_mk (T_nb tA) (T_np tA) (T_sd tA) (updB (T_wh tA) (T_nb tA) false) (T_gn tA) (upd (T_wo tA) (T_nb tA) iA) (upd (T_ne tA) (T_nb tA) 0) (upd (T_go tA) (T_nb tA) 1000) (T_ag tA) (T_re tA) (T_me tA) (T_te tA) (T_kn tA)) 2), zzI cy (rK 3) 8 (T_kn (T_mk (T_nb tA) (T_np tA) (T_sd tA) (updB (T_wh tA) (T_nb tA) false) (T_gn tA) (upd (T_wo tA) (T_nb tA) iA) (upd (T_ne tA) (T_nb tA) 0) (upd (T_go tA) (T_nb tA) 1000) (T_ag tA) (T_re tA) (T_me tA) (T_te tA) (T_kn tA)) 3), zzI cy (rK 4) 8 (T_kn (T_mk (T_nb tA) (T_np tA) (T_sd tA) (updB (T_wh tA) (T_nb tA) false) (T_gn tA) (upd (T_wo tA) (T_nb tA) iA) (upd (T_ne tA) (T_nb tA) 0) (upd (T_go tA) (T_nb tA) 1000) (T_ag tA) (T_re tA) (T_me tA) (T_te tA) (T_kn tA)) 4), zzI cy (rK 5) 8 (T_kn (T_mk (T_nb tA) (T_np tA) (T_sd tA) (updB (T_wh tA) (T_nb tA) false) (T_gn tA) (upd (T_wo tA) (T_nb tA) iA) (upd (T_ne tA) (T_nb tA) 0) (upd (T_go tA) (T_nb tA) 1000) (T_ag tA) (T_re tA) (T_me tA) (T_te tA) (T_kn tA)) 5), zzI cy (rK 6) 8 (T_kn (T_mk (T_nb tA) (T_np tA) (T_sd tA) (updB (T_wh tA) (T_nb tA) false) (T_gn tA) (upd (T_wo tA) (T_nb tA) iA) (upd (T_ne tA) (T_nb tA) 0) (upd (T_go tA) (T_nb tA) 1000) (T_ag tA) (T_re tA) (T_me tA) (T_te tA) (T_kn tA)) 6), zzI cy (rK 7) 8 (T_kn (T_mk (T_nb tA) (T_np tA) (T_sd tA) (updB (T_wh tA) (T_nb tA) false) (T_gn tA) (upd (T_wo tA) (T_nb tA) iA) (upd (T_ne tA) (T_nb tA) 0) (upd (T_go tA) (T_nb tA) 1000) (T_ag tA) (T_re tA) (T_me tA) (T_te tA) (T_kn tA)) 7)]) (k := (T_nb tA)) (g1 := bkR (T_mk (T_nb tA) (T_np tA) (T_sd tA) (updB (T_wh tA) (T_nb tA) false) (T_gn tA) (upd (T_wo tA) (T_nb tA) iA) (upd (T_ne tA) (T_nb tA) 0) (upd (T_go tA) (T_nb tA) 1000) (T_ag tA) (T_re tA) (T_me tA) (T_te tA) (T_kn tA)) (T_nb tA)) hP hD (sg8 (n0 := 2) (f := (fun j => zzI cy (rB j) 4 (bkR (T_mk (T_nb tA) (T_np tA) (T_sd tA) (T_wh tA) (T_gn tA) (upd (T_wo tA) (T_nb tA) iA) (upd (T_ne tA) (T_nb tA) 0) (upd (T_go tA) (T_nb tA) 1000) (T_ag tA) (T_re tA) (T_me tA) (T_te tA) (T_kn tA)) j))) rfl rfl rfl rfl rfl rfl rfl rfl) (sg8 (n0 := 2) (f := (fun j => zzI cy (rB j) 4 (bkR (T_mk (T_nb tA) (T_np tA) (T_sd tA) (updB (T_wh tA) (T_nb tA) false) (T_gn tA) (upd (T_wo tA) (T_nb tA) iA) (upd (T_ne tA) (T_nb tA) 0) (upd (T_go tA) (T_nb tA) 1000) (T_ag tA) (T_re tA) (T_me tA) (T_te tA) (T_kn tA)) j))) rfl rfl rfl rfl rfl rfl rfl rfl) rfl rfl (by omega) rfl (bk_w3 (T_mk (T_nb tA) (T_np tA) (T_sd tA) (T_wh tA) (T_gn tA) (upd (T_wo tA) (T_nb tA) iA) (upd (T_ne tA) (T_nb tA) 0) (upd (T_go tA) (T_nb tA) 1000) (T_ag tA) (T_re tA) (T_me tA) (T_te tA) (T_kn tA)) (T_nb tA) false) (fun j hj => congrArg (zzI cy (rB j) 4) (bk_n3 (T_mk (T_nb tA) (T_np tA) (T_sd tA) (T_wh tA) (T_gn tA) (upd (T_wo tA) (T_nb tA) iA) (upd (T_ne tA) (T_nb tA) 0) (upd (T_go tA) (T_nb tA) 1000) (T_ag tA) (T_re tA) (T_me tA) (T_te tA) (T_kn tA)) (T_nb tA) false hj))
  clear hP hD
  obtain ⟨hP, hD⟩ := hPD
  refine lv_iconst (v := 0) hx hb dX6_newBook_50 (by decide) ?_
  refine lv_istore_n (lv' := [(2, .int 0), (0, .ref qm), (1, .int iA)]) hx hb dX6_newBook_51 rfl hl (by decide) rfl (fun ls => ?_)
  clear hl
  intro hl
  have hPD := pd_as [zzO qm 5 [v0, v1, v2, v3, v4, v5, v6, v7, v8, v9, .int (nI (T_nb (nb0 tA iA))), .ref qmB, .int (nI (T_np (nb0 tA iA))), .ref qmO, .ref qmK, .int iEn, .int iTk, .int (T_sd (nb0 tA iA)), v18, v19, v20, v21, v22, v23, v24, v25, v26, .int iLv, .int iWs, v29, v30, v31, v32, v33, v34], zzG cy 3 qmB rB, zzI cy (rB 0) 4 (bkR (nb0 tA iA) 0), zzI cy (rB 1) 4 (bkR (nb0 tA iA) 1), zzI cy (rB 2) 4 (bkR (nb0 tA iA) 2), zzI cy (rB 3) 4 (bkR (nb0 tA iA) 3), zzI cy (rB 4) 4 (bkR (nb0 tA iA) 4), zzI cy (rB 5) 4 (bkR (nb0 tA iA) 5), zzI cy (rB 6) 4 (bkR (nb0 tA iA) 6), zzI cy (rB 7) 4 (bkR (nb0 tA iA) 7), zzG cy 3 qmO rO, zzI cy (rO 0) 5 (onR (nb0 tA iA) 0), zzI cy (rO 1) 5 (onR (nb0 tA iA) 1), zzI cy (rO 2) 5 (onR (nb0 tA iA) 2), zzI cy (rO 3) 5 (onR (nb0 tA iA) 3), zzI cy (rO 4) 5 (onR (nb0 tA iA) 4), zzI cy (rO 5) 5 (onR (nb0 tA iA) 5), zzI cy (rO 6) 5 (onR (nb0 tA iA) 6), zzI cy (rO 7) 5 (onR (nb0 tA iA) 7), zzG cy 3 qmK rK, zzI cy (rK 0) 8 (T_kn (nb0 tA iA) 0), zzI cy (rK 1) 8 (T_kn (nb0 tA iA) 1), zzI cy (rK 2) 8 (T_kn (nb0 tA iA) 2), zzI cy (rK 3) 8 (T_kn (nb0 tA iA) 3), zzI cy (rK 4) 8 (T_kn (nb0 tA iA) 4), zzI cy (rK 5) 8 (T_kn (nb0 tA iA) 5), zzI cy (rK 6) 8 (T_kn (nb0 tA iA) 6), zzI cy (rK 7) 8 (T_kn (nb0 tA iA) 7)] hP hD rfl
  clear hP hD
  obtain ⟨hP, hD⟩ := hPD
  have lp_1 : ∀ (n_2 : Nat) (j_4 : Nat) (tJ_5 : TA), 8 - j_4 < n_2 → j_4 ≤ 8 → tJ_5 = nbF (nb0 tA iA) j_4 → ∀ (H : Heap) (locs : List Loc) (ls : Array Slot), va_P G CL [zzO qm 5 [v0, v1, v2, v3, v4, v5, v6, v7, v8, v9, .int (nI (T_nb tJ_5)), .ref qmB, .int (nI (T_np tJ_5)), .ref qmO, .ref qmK, .int iEn, .int iTk, .int (T_sd tJ_5), v18, v19, v20, v21, v22, v23, v24, v25, v26, .int iLv, .int iWs, v29, v30, v31, v32, v33, v34], zzG cy 3 qmB rB, zzI cy (rB 0) 4 (bkR tJ_5 0), zzI cy (rB 1) 4 (bkR tJ_5 1), zzI cy (rB 2) 4 (bkR tJ_5 2), zzI cy (rB 3) 4 (bkR tJ_5 3), zzI cy (rB 4) 4 (bkR tJ_5 4), zzI cy (rB 5) 4 (bkR tJ_5 5), zzI cy (rB 6) 4 (bkR tJ_5 6), zzI cy (rB 7) 4 (bkR tJ_5 7), zzG cy 3 qmO rO, zzI cy (rO 0) 5 (onR tJ_5 0), zzI cy (rO 1) 5 (onR tJ_5 1), zzI cy (rO 2) 5 (onR tJ_5 2), zzI cy (rO 3) 5 (onR tJ_5 3), zzI cy (rO 4) 5 (onR tJ_5 4), zzI cy (rO 5) 5 (onR tJ_5 5), zzI cy (rO 6) 5 (onR tJ_5 6), zzI cy (rO 7) 5 (onR tJ_5 7), zzG cy 3 qmK rK, zzI cy (rK 0) 8 (T_kn tJ_5 0), zzI cy (rK 1) 8 (T_kn tJ_5 1), zzI cy (rK 2) 8 (T_kn tJ_5 2), zzI cy (rK 3) 8 (T_kn tJ_5 3), zzI cy (rK 4) 8 (T_kn tJ_5 4), zzI cy (rK 5) 8 (T_kn tJ_5 5), zzI cy (rK 6) 8 (T_kn tJ_5 6), zzI cy (rK 7) 8 (T_kn tJ_5 7)] H → va_D A [zzO qm 5 [v0, v1, v2, v3, v4, v5, v6, v7, v8, v9, .int (nI (T_nb tJ_5)), .ref qmB, .int (nI (T_np tJ_5)), .ref qmO, .ref qmK, .int iEn, .int iTk, .int (T_sd tJ_5), v18, v19, v20, v21, v22, v23, v24, v25, v26, .int iLv, .int iWs, v29, v30, v31, v32, v33, v34], zzG cy 3 qmB rB, zzI cy (rB 0) 4 (bkR tJ_5 0), zzI cy (rB 1) 4 (bkR tJ_5 1), zzI cy (rB 2) 4 (bkR tJ_5 2), zzI cy (rB 3) 4 (bkR tJ_5 3), zzI cy (rB 4) 4 (bkR tJ_5 4), zzI cy (rB 5) 4 (bkR tJ_5 5), zzI cy (rB 6) 4 (bkR tJ_5 6), zzI cy (rB 7) 4 (bkR tJ_5 7), zzG cy 3 qmO rO, zzI cy (rO 0) 5 (onR tJ_5 0), zzI cy (rO 1) 5 (onR tJ_5 1), zzI cy (rO 2) 5 (onR tJ_5 2), zzI cy (rO 3) 5 (onR tJ_5 3), zzI cy (rO 4) 5 (onR tJ_5 4), zzI cy (rO 5) 5 (onR tJ_5 5), zzI cy (rO 6) 5 (onR tJ_5 6), zzI cy (rO 7) 5 (onR tJ_5 7), zzG cy 3 qmK rK, zzI cy (rK 0) 8 (T_kn tJ_5 0), zzI cy (rK 1) 8 (T_kn tJ_5 1), zzI cy (rK 2) 8 (T_kn tJ_5 2), zzI cy (rK 3) 8 (T_kn tJ_5 3), zzI cy (rK 4) 8 (T_kn tJ_5 4), zzI cy (rK 5) 8 (T_kn tJ_5 5), zzI cy (rK 6) 8 (T_kn tJ_5 6), zzI cy (rK 7) 8 (T_kn tJ_5 7)] → va_S A s.heap H locs → lv_has ls 3 [(2, .int (nI j_4)), (0, .ref qm), (1, .int iA)] → W p l e (Rm 1 0 0) s m (List.toArray (α := Value) [.ref qm, .int iA]) below meth c H locs 0 0 (MQ below ((Wv G (fun u => u = [zzO qm 5 [v0, v1, v2, v3, v4, v5, v6, v7, v8, v9, .int (nI (T_nb (zNB tA iA))), .ref qmB, .int (nI (T_np (zNB tA iA))), .ref qmO, .ref qmK, .int iEn, .int iTk, .int (T_sd (zNB tA iA)), v18, v19, v20, v21, v22, v23, v24, v25, v26, .int iLv, .int iWs, v29, v30, v31, v32, v33, v34], zzG cy 3 qmB rB, zzI cy (rB 0) 4 (bkR (zNB tA iA) 0), zzI cy (rB 1) 4 (bkR (zNB tA iA) 1), zzI cy (rB 2) 4 (bkR (zNB tA iA) 2), zzI cy (rB 3) 4 (bkR (zNB tA iA) 3), zzI cy (rB 4) 4 (bkR (zNB tA iA) 4), zzI cy (rB 5) 4 (bkR (zNB tA iA) 5), zzI cy (rB 6) 4 (bkR (zNB tA iA) 6), zzI cy (rB 7) 4 (bkR (zNB tA iA) 7), zzG cy 3 qmO rO, zzI cy (rO 0) 5 (onR (zNB tA iA) 0), zzI cy (rO 1) 5 (onR (zNB tA iA) 1), zzI cy (rO 2) 5 (onR (zNB tA iA) 2), zzI cy (rO 3) 5 (onR (zNB tA iA) 3), zzI cy (rO 4) 5 (onR (zNB tA iA) 4), zzI cy (rO 5) 5 (onR (zNB tA iA) 5), zzI cy (rO 6) 5 (onR (zNB tA iA) 6), zzI cy (rO 7) 5 (onR (zNB tA iA) 7), zzG cy 3 qmK rK, zzI cy (rK 0) 8 (T_kn (zNB tA iA) 0), zzI cy (rK 1) 8 (T_kn (zNB tA iA) 1), zzI cy (rK 2) 8 (T_kn (zNB tA iA) 2), zzI cy (rK 3) 8 (T_kn (zNB tA iA) 3), zzI cy (rK 4) 8 (T_kn (zNB tA iA) 4), zzI cy (rK 5) 8 (T_kn (zNB tA iA) 5), zzI cy (rK 6) 8 (T_kn (zNB tA iA) 6), zzI cy (rK 7) 8 (T_kn (zNB tA iA) 7)])) A) (List.toArray (α := Value) [.ref qm, .int iA]) s 0 0 A) (F0 m 52 ls []) := by
    intro n_2
    induction n_2 with
    | zero => intro j_4 tJ_5 hm9; exact absurd hm9 (Nat.not_lt_zero _)
    | succ n_2 ih_3 =>
      intro j_4 tJ_5 hm_8 hj_6 htJ_7 H locs ls hP hD hS hl
      refine lv_iload_n hx hb dX6_newBook_52 rfl (lv_at hl 0 rfl) ?_
      refine lv_bipush (v := 8) hx hb dX6_newBook_53 (by decide) ?_
      refine lv_icmp_ge (tgt := 76) hx hb dX6_newBook_55 (by decide) (fun c_9 => ?_) (fun c_9 => ?_)
      · have hlt_10e : T_nb tJ_5 = T_nb tA := by rw [htJ_7]; exact (nbF_nb _ _).1
        have hlt_10 : j_4 = 8 := Nat.le_antisymm (by omega) (lp_ge rfl (rfl : (8 : Int32) = nI 8) (by omega) (by omega) c_9)
        have e9_11 : tJ_5 = zNB tA iA := by rw [htJ_7, hlt_10]; rfl
        subst e9_11
        exact endV (u := [zzO qm 5 [v0, v1, v2, v3, v4, v5, v6, v7, v8, v9, .int (nI (T_nb (zNB tA iA))), .ref qmB, .int (nI (T_np (zNB tA iA))), .ref qmO, .ref qmK, .int iEn, .int iTk, .int (T_sd (zNB tA iA)), v18, v19, v20, v21, v22, v23, v24, v25, v26, .int iLv, .int iWs, v29, v30, v31, v32, v33, v34], zzG cy 3 qmB rB, zzI cy (rB 0) 4 (bkR (zNB tA iA) 0), zzI cy (rB 1) 4 (bkR (zNB tA iA) 1), zzI cy (rB 2) 4 (bkR (zNB tA iA) 2), zzI cy (rB 3) 4 (bkR (zNB tA iA) 3), zzI cy (rB 4) 4 (bkR (zNB tA iA) 4), zzI cy (rB 5) 4 (bkR (zNB tA iA) 5), zzI cy (rB 6) 4 (bkR (zNB tA iA) 6), zzI cy (rB 7) 4 (bkR (zNB tA iA) 7), zzG cy 3 qmO rO, zzI cy (rO 0) 5 (onR (zNB tA iA) 0), zzI cy (rO 1) 5 (onR (zNB tA iA) 1), zzI cy (rO 2) 5 (onR (zNB tA iA) 2), zzI cy (rO 3) 5 (onR (zNB tA iA) 3), zzI cy (rO 4) 5 (onR (zNB tA iA) 4), zzI cy (rO 5) 5 (onR (zNB tA iA) 5), zzI cy (rO 6) 5 (onR (zNB tA iA) 6), zzI cy (rO 7) 5 (onR (zNB tA iA) 7), zzG cy 3 qmK rK, zzI cy (rK 0) 8 (T_kn (zNB tA iA) 0), zzI cy (rK 1) 8 (T_kn (zNB tA iA) 1), zzI cy (rK 2) 8 (T_kn (zNB tA iA) 2), zzI cy (rK 3) 8 (T_kn (zNB tA iA) 3), zzI cy (rK 4) 8 (T_kn (zNB tA iA) 4), zzI cy (rK 5) 8 (T_kn (zNB tA iA) 5), zzI cy (rK 6) 8 (T_kn (zNB tA iA) 6), zzI cy (rK 7) 8 (T_kn (zNB tA iA) 7)]) hx hb hr hlocks (hP.sub [0, 1, 2, 3, 4, 5, 6, 7, 8, 9, 10, 11, 12, 13, 14, 15, 16, 17, 18, 19, 20, 21, 22, 23, 24, 25, 26, 27] rfl) (hD.sub [0, 1, 2, 3, 4, 5, 6, 7, 8, 9, 10, 11, 12, 13, 14, 15, 16, 17, 18, 19, 20, 21, 22, 23, 24, 25, 26, 27] (by decide +kernel) rfl) hS rfl dX6_newBook_76
      · have hlt_12e : T_nb tJ_5 = T_nb tA := by rw [htJ_7]; exact (nbF_nb _ _).1
        have hlt_12 : j_4 < 8 := lp_lt rfl (rfl : (8 : Int32) = nI 8) (by omega) (by omega) c_9
        refine lv_aload_n hx hb dX6_newBook_58 rfl (lv_at hl 1 rfl) ?_
        refine va_get (D := G) (ci := 5) (v := .ref qmK) (C := RX6) (T := TX6) (N := 35) hx hb hts iX_X6 hown hK hP 0 rfl rfl 14 (by decide) (hts _ m_t864) (fun _ h9 => h9) rfl dX6_newBook_59 ?_
        refine lv_iload_n hx hb dX6_newBook_62 rfl (lv_at hl 0 rfl) ?_
        refine va_alda hx hb hK hP 19 3 rfl rfl (in8 (by omega)) dX6_newBook_63 ?_
        refine lv_setv (v := .ref (rK j_4)) (g_ref (by omega)) ?_
        refine lv_aload_n hx hb dX6_newBook_64 rfl (lv_at hl 1 rfl) ?_
        refine va_get (D := G) (ci := 5) (v := .int (nI (T_nb tJ_5))) (C := RX6) (T := TX6) (N := 35) hx hb hts iX_X6 hown hK hP 0 rfl rfl 10 (by decide) (hts _ m_t860) (fun _ h9 => h9) rfl dX6_newBook_65 ?_
        refine lv_iconst (v := 0) hx hb dX6_newBook_68 (by decide) ?_
        refine va_iast hx hb hK hP hD hS (20 + j_4) 0 ((sg8 (n0 := 20) (f := (fun j => zzI cy (rK j) 8 (T_kn tJ_5 j))) rfl rfl rfl rfl rfl rfl rfl rfl) j_4 (by omega)) rfl (vp_in_nI (by omega) (by omega)) dX6_newBook_69 (fun H locs => ?_)
        clear hP hD hS
        intro hP hD hS
        rw [nI_clamp (n := (T_nb tJ_5)) (by omega)] at hP hD
        have hPD := st8PD (ws' := [zzO qm 5 [v0, v1, v2, v3, v4, v5, v6, v7, v8, v9, .int (nI (T_nb tJ_5)), .ref qmB, .int (nI (T_np tJ_5)), .ref qmO, .ref qmK, .int iEn, .int iTk, .int (T_sd tJ_5), v18, v19, v20, v21, v22, v23, v24, v25, v26, .int iLv, .int iWs, v29, v30, v31, v32, v33, v34], zzG cy 3 qmB rB, zzI cy (rB 0) 4 (bkR (T_mk (T_nb tJ_5) (T_np tJ_5) (T_sd tJ_5) (T_wh tJ_5) (T_gn tJ_5) (T_wo tJ_5) (T_ne tJ_5) (T_go tJ_5) (T_ag tJ_5) (T_re tJ_5) (T_me tJ_5) (T_te tJ_5) (updM (T_kn tJ_5) j_4 (T_nb tJ_5) 0)) 0), zzI cy (rB 1) 4 (bkR (T_mk (T_nb tJ_5) (T_np tJ_5) (T_sd tJ_5) (T_wh tJ_5) (T_gn tJ_5) (T_wo tJ_5) (T_ne tJ_5) (T_go tJ_5) (T_ag tJ_5) (T_re tJ_5) (T_me tJ_5) (T_te tJ_5) (updM (T_kn tJ_5) j_4 (T_nb tJ_5) 0)) 1), zzI cy (rB 2) 4 (bkR (T_mk (T_nb tJ_5) (T_np tJ_5) (T_sd tJ_5) (T_wh tJ_5) (T_gn tJ_5) (T_wo tJ_5) (T_ne tJ_5) (T_go tJ_5) (T_ag tJ_5) (T_re tJ_5) (T_me tJ_5) (T_te tJ_5) (updM (T_kn tJ_5) j_4 (T_nb tJ_5) 0)) 2), zzI cy (rB 3) 4 (bkR (T_mk (T_nb tJ_5) (T_np tJ_5) (T_sd tJ_5) (T_wh tJ_5) (T_gn tJ_5) (T_wo tJ_5) (T_ne tJ_5) (T_go tJ_5) (T_ag tJ_5) (T_re tJ_5) (T_me tJ_5) (T_te tJ_5) (updM (T_kn tJ_5) j_4 (T_nb tJ_5) 0)) 3), zzI cy (rB 4) 4 (bkR (T_mk (T_nb tJ_5) (T_np tJ_5) (T_sd tJ_5) (T_wh tJ_5) (T_gn tJ_5) (T_wo tJ_5) (T_ne tJ_5) (T_go tJ_5) (T_ag tJ_5) (T_re tJ_5) (T_me tJ_5) (T_te tJ_5) (updM (T_kn tJ_5) j_4 (T_nb tJ_5) 0)) 4), zzI cy (rB 5) 4 (bkR (T_mk (T_nb tJ_5) (T_np tJ_5) (T_sd tJ_5) (T_wh tJ_5) (T_gn tJ_5) (T_wo tJ_5) (T_ne tJ_5) (T_go tJ_5) (T_ag tJ_5) (T_re tJ_5) (T_me tJ_5) (T_te tJ_5) (updM (T_kn tJ_5) j_4 (T_nb tJ_5) 0)) 5), zzI cy (rB 6) 4 (bkR (T_mk (T_nb tJ_5) (T_np tJ_5) (T_sd tJ_5) (T_wh tJ_5) (T_gn tJ_5) (T_wo tJ_5) (T_ne tJ_5) (T_go tJ_5) (T_ag tJ_5) (T_re tJ_5) (T_me tJ_5) (T_te tJ_5) (updM (T_kn tJ_5) j_4 (T_nb tJ_5) 0)) 6), zzI cy (rB 7) 4 (bkR (T_mk (T_nb tJ_5) (T_np tJ_5) (T_sd tJ_5) (T_wh tJ_5) (T_gn tJ_5) (T_wo tJ_5) (T_ne tJ_5) (T_go tJ_5) (T_ag tJ_5) (T_re tJ_5) (T_me tJ_5) (T_te tJ_5) (updM (T_kn tJ_5) j_4 (T_nb tJ_5) 0)) 7), zzG cy 3 qmO rO, zzI cy (rO 0) 5 (onR (T_mk (T_nb tJ_5) (T_np tJ_5) (T_sd tJ_5) (T_wh tJ_5) (T_gn tJ_5) (T_wo tJ_5) (T_ne tJ_5) (T_go tJ_5) (T_ag tJ_5) (T_re tJ_5) (T_me tJ_5) (T_te tJ_5) (updM (T_kn tJ_5) j_4 (T_nb tJ_5) 0)) 0), zzI cy (rO 1) 5 (onR (T_mk (T_nb tJ_5) (T_np tJ_5) (T_sd tJ_5) (T_wh tJ_5) (T_gn tJ_5) (T_wo tJ_5) (T_ne tJ_5) (T_go tJ_5) (T_ag tJ_5) (T_re tJ_5) (T_me tJ_5) (T_te tJ_5) (updM (T_kn tJ_5) j_4 (T_nb tJ_5) 0)) 1), zzI cy (rO 2) 5 (onR (T_mk (T_nb tJ_5) (T_np tJ_5) (T_sd tJ_5) (T_wh tJ_5) (T_gn tJ_5) (T_wo tJ_5) (T_ne tJ_5) (T_go tJ_5) (T_ag tJ_5) (T_re tJ_5) (T_me tJ_5) (T_te tJ_5) (updM (T_kn tJ_5) j_4 (T_nb tJ_5) 0)) 2), zzI cy (rO 3) 5 (onR (T_mk (T_nb tJ_5) (T_np tJ_5) (T_sd tJ_5) (T_wh tJ_5) (T_gn tJ_5) (T_wo tJ_5) (T_ne tJ_5) (T_go tJ_5) (T_ag tJ_5) (T_re tJ_5) (T_me tJ_5) (T_te tJ_5) (updM (T_kn tJ_5) j_4 (T_nb tJ_5) 0)) 3), zzI cy (rO 4) 5 (onR (T_mk (T_nb tJ_5) (T_np tJ_5) (T_sd tJ_5) (T_wh tJ_5) (T_gn tJ_5) (T_wo tJ_5) (T_ne tJ_5) (T_go tJ_5) (T_ag tJ_5) (T_re tJ_5) (T_me tJ_5) (T_te tJ_5) (updM (T_kn tJ_5) j_4 (T_nb tJ_5) 0)) 4), zzI cy (rO 5) 5 (onR (T_mk (T_nb tJ_5) (T_np tJ_5) (T_sd tJ_5) (T_wh tJ_5) (T_gn tJ_5) (T_wo tJ_5) (T_ne tJ_5) (T_go tJ_5) (T_ag tJ_5) (T_re tJ_5) (T_me tJ_5) (T_te tJ_5) (updM (T_kn tJ_5) j_4 (T_nb tJ_5) 0)) 5), zzI cy (rO 6) 5 (onR (T_mk (T_nb tJ_5) (T_np tJ_5) (T_sd tJ_5) (T_wh tJ_5) (T_gn tJ_5) (T_wo tJ_5) (T_ne tJ_5) (T_go tJ_5) (T_ag tJ_5) (T_re tJ_5) (T_me tJ_5) (T_te tJ_5) (updM (T_kn tJ_5) j_4 (T_nb tJ_5) 0)) 6), zzI cy (rO 7) 5 (onR (T_mk (T_nb tJ_5) (T_np tJ_5) (T_sd tJ_5) (T_wh tJ_5) (T_gn tJ_5) (T_wo tJ_5) (T_ne tJ_5) (T_go tJ_5) (T_ag tJ_5) (T_re tJ_5) (T_me tJ_5) (T_te tJ_5) (updM (T_kn tJ_5) j_4 (T_nb tJ_5) 0)) 7), zzG cy 3 qmK rK, zzI cy (rK 0) 8 (T_kn (T_mk (T_nb tJ_5) (T_np tJ_5) (T_sd tJ_5) (T_wh tJ_5) (T_gn tJ_5) (T_wo tJ_5) (T_ne tJ_5) (T_go tJ_5) (T_ag tJ_5) (T_re tJ_5) (T_me tJ_5) (T_te tJ_5) (updM (T_kn tJ_5) j_4 (T_nb tJ_5) 0)) 0), zzI cy (rK 1) 8 (T_kn (T_mk (T_nb tJ_5) (T_np tJ_5) (T_sd tJ_5) (T_wh tJ_5) (T_gn tJ_5) (T_wo tJ_5) (T_ne tJ_5) (T_go tJ_5) (T_ag tJ_5) (T_re tJ_5) (T_me tJ_5) (T_te tJ_5) (updM (T_kn tJ_5) j_4 (T_nb tJ_5) 0)) 1), zzI cy (rK 2) 8 (T_kn (T_mk (T_nb tJ_5) (T_np tJ_5) (T_sd tJ_5) (T_wh tJ_5) (T_gn tJ_5) (T_wo tJ_5) (T_ne tJ_5) (T_go tJ_5) (T_ag tJ_5) (T_re tJ_5) (T_me tJ_5) (T_te tJ_5) (updM (T_kn tJ_5) j_4 (T_nb tJ_5) 0)) 2), zzI cy (rK 3) 8 (T_kn (T_mk (T_nb tJ_5) (T_np tJ_5) (T_sd tJ_5) (T_wh tJ_5) (T_gn tJ_5) (T_wo tJ_5) (T_ne tJ_5) (T_go tJ_5) (T_ag tJ_5) (T_re tJ_5) (T_me tJ_5) (T_te tJ_5) (updM (T_kn tJ_5) j_4 (T_nb tJ_5) 0)) 3), zzI cy (rK 4) 8 (T_kn (T_mk (T_nb tJ_5) (T_np tJ_5) (T_sd tJ_5) (T_wh tJ_5) (T_gn tJ_5) (T_wo tJ_5) (T_ne tJ_5) (T_go tJ_5) (T_ag tJ_5) (T_re tJ_5) (T_me tJ_5) (T_te tJ_5) (updM (T_kn tJ_5) j_4 (T_nb tJ_5) 0)) 4), zzI cy (rK 5) 8 (T_kn (T_mk (T_nb tJ_5) (T_np tJ_5) (T_sd tJ_5) (T_wh tJ_5) (T_gn tJ_5) (T_wo tJ_5) (T_ne tJ_5) (T_go tJ_5) (T_ag tJ_5) (T_re tJ_5) (T_me tJ_5) (T_te tJ_5) (updM (T_kn tJ_5) j_4 (T_nb tJ_5) 0)) 5), zzI cy (rK 6) 8 (T_kn (T_mk (T_nb tJ_5) (T_np tJ_5) (T_sd tJ_5) (T_wh tJ_5) (T_gn tJ_5) (T_wo tJ_5) (T_ne tJ_5) (T_go tJ_5) (T_ag tJ_5) (T_re tJ_5) (T_me tJ_5) (T_te tJ_5) (updM (T_kn tJ_5) j_4 (T_nb tJ_5) 0)) 6), zzI cy (rK 7) 8 (T_kn (T_mk (T_nb tJ_5) (T_np tJ_5) (T_sd tJ_5) (T_wh tJ_5) (T_gn tJ_5) (T_wo tJ_5) (T_ne tJ_5) (T_go tJ_5) (T_ag tJ_5) (T_re tJ_5) (T_me tJ_5) (T_te tJ_5) (updM (T_kn tJ_5) j_4 (T_nb tJ_5) 0)) 7)]) (k := j_4) (g1 := T_kn (T_mk (T_nb tJ_5) (T_np tJ_5) (T_sd tJ_5) (T_wh tJ_5) (T_gn tJ_5) (T_wo tJ_5) (T_ne tJ_5) (T_go tJ_5) (T_ag tJ_5) (T_re tJ_5) (T_me tJ_5) (T_te tJ_5) (updM (T_kn tJ_5) j_4 (T_nb tJ_5) 0)) j_4) hP hD (sg8 (n0 := 20) (f := (fun j => zzI cy (rK j) 8 (T_kn tJ_5 j))) rfl rfl rfl rfl rfl rfl rfl rfl) (sg8 (n0 := 20) (f := (fun j => zzI cy (rK j) 8 (T_kn (T_mk (T_nb tJ_5) (T_np tJ_5) (T_sd tJ_5) (T_wh tJ_5) (T_gn tJ_5) (T_wo tJ_5) (T_ne tJ_5) (T_go tJ_5) (T_ag tJ_5) (T_re tJ_5) (T_me tJ_5) (T_te tJ_5) (updM (T_kn tJ_5) j_4 (T_nb tJ_5) 0)) j))) rfl rfl rfl rfl rfl rfl rfl rfl) rfl rfl (by omega) rfl (fun i _ => (congrFun (kn_u tJ_5 j_4 (T_nb tJ_5) 0) i).symm) (fun j hj => congrArg (zzI cy (rK j) 8) (kn_n tJ_5 j_4 (T_nb tJ_5) 0 hj))
        clear hP hD
        obtain ⟨hP, hD⟩ := hPD
        refine lv_iinc (v := nI (j_4 + 1)) (lv' := [(2, .int (nI (j_4 + 1))), (0, .ref qm), (1, .int iA)]) hx hb dX6_newBook_70 hl (k := 0) rfl (nI_1 _) (by decide) rfl (fun ls => ?_)
        clear hl
        intro hl
        refine lv_goto (tgt := 52) hx hb dX6_newBook_73 (by decide) ?_
        exact ih_3 (j_4 + 1) (T_mk (T_nb tJ_5) (T_np tJ_5) (T_sd tJ_5) (T_wh tJ_5) (T_gn tJ_5) (T_wo tJ_5) (T_ne tJ_5) (T_go tJ_5) (T_ag tJ_5) (T_re tJ_5) (T_me tJ_5) (T_te tJ_5) (updM (T_kn tJ_5) j_4 (T_nb tJ_5) 0)) (by omega) (by omega) (by rw [htJ_7]; rfl) _ _ _ hP hD hS (lv_sub hl [0, 1, 2] rfl)
  exact lp_1 ((8 - 0) + 1) 0 (nb0 tA iA) (Nat.lt_succ_self _) (Nat.zero_le _) rfl _ _ ls hP hD hS (lv_sub hl [0, 1, 2] rfl)
set_option maxHeartbeats 4000000 in
set_option maxRecDepth 100000 in
theorem c_X6_newOne (l : Launch) (G : va_G) (cy : Nat → ClassId) (sz : Nat) (qm : Nat) (v0 : Value) (v1 : Value) (v2 : Value) (v3 : Value) (v4 : Value) (v5 : Value) (v6 : Value) (v7 : Value) (v8 : Value) (v9 : Value) (tA : TA) (qmB : Nat) (qmO : Nat) (qmK : Nat) (iEn : Int32) (iTk : Int32) (v18 : Value) (v19 : Value) (v20 : Value) (v21 : Value) (v22 : Value) (v23 : Value) (v24 : Value) (v25 : Value) (v26 : Value) (iLv : Int32) (iWs : Int32) (v29 : Value) (v30 : Value) (v31 : Value) (v32 : Value) (v33 : Value) (v34 : Value) (rB : Nat → Nat) (rO : Nat → Nat) (rK : Nat → Nat)  (hPp : T_np tA < 8) : MW l yX6_newOne cX6_newOne 2 none 1 0 0 G cy [zzO qm 5 [v0, v1, v2, v3, v4, v5, v6, v7, v8, v9, .int (nI (T_nb tA)), .ref qmB, .int (nI (T_np tA)), .ref qmO, .ref qmK, .int iEn, .int iTk, .int (T_sd tA), v18, v19, v20, v21, v22, v23, v24, v25, v26, .int iLv, .int iWs, v29, v30, v31, v32, v33, v34], zzG cy 3 qmB rB, zzI cy (rB 0) 4 (bkR tA 0), zzI cy (rB 1) 4 (bkR tA 1), zzI cy (rB 2) 4 (bkR tA 2), zzI cy (rB 3) 4 (bkR tA 3), zzI cy (rB 4) 4 (bkR tA 4), zzI cy (rB 5) 4 (bkR tA 5), zzI cy (rB 6) 4 (bkR tA 6), zzI cy (rB 7) 4 (bkR tA 7), zzG cy 3 qmO rO, zzI cy (rO 0) 5 (onR tA 0), zzI cy (rO 1) 5 (onR tA 1), zzI cy (rO 2) 5 (onR tA 2), zzI cy (rO 3) 5 (onR tA 3), zzI cy (rO 4) 5 (onR tA 4), zzI cy (rO 5) 5 (onR tA 5), zzI cy (rO 6) 5 (onR tA 6), zzI cy (rO 7) 5 (onR tA 7), zzG cy 3 qmK rK, zzI cy (rK 0) 8 (T_kn tA 0), zzI cy (rK 1) 8 (T_kn tA 1), zzI cy (rK 2) 8 (T_kn tA 2), zzI cy (rK 3) 8 (T_kn tA 3), zzI cy (rK 4) 8 (T_kn tA 4), zzI cy (rK 5) 8 (T_kn tA 5), zzI cy (rK 6) 8 (T_kn tA 6), zzI cy (rK 7) 8 (T_kn tA 7)] sz [.ref qm] (Wv G (fun u => u = [zzO qm 5 [v0, v1, v2, v3, v4, v5, v6, v7, v8, v9, .int (nI (T_nb (zNO tA))), .ref qmB, .int (nI (T_np (zNO tA))), .ref qmO, .ref qmK, .int iEn, .int iTk, .int (T_sd (zNO tA)), v18, v19, v20, v21, v22, v23, v24, v25, v26, .int iLv, .int iWs, v29, v30, v31, v32, v33, v34], zzG cy 3 qmB rB, zzI cy (rB 0) 4 (bkR (zNO tA) 0), zzI cy (rB 1) 4 (bkR (zNO tA) 1), zzI cy (rB 2) 4 (bkR (zNO tA) 2), zzI cy (rB 3) 4 (bkR (zNO tA) 3), zzI cy (rB 4) 4 (bkR (zNO tA) 4), zzI cy (rB 5) 4 (bkR (zNO tA) 5), zzI cy (rB 6) 4 (bkR (zNO tA) 6), zzI cy (rB 7) 4 (bkR (zNO tA) 7), zzG cy 3 qmO rO, zzI cy (rO 0) 5 (onR (zNO tA) 0), zzI cy (rO 1) 5 (onR (zNO tA) 1), zzI cy (rO 2) 5 (onR (zNO tA) 2), zzI cy (rO 3) 5 (onR (zNO tA) 3), zzI cy (rO 4) 5 (onR (zNO tA) 4), zzI cy (rO 5) 5 (onR (zNO tA) 5), zzI cy (rO 6) 5 (onR (zNO tA) 6), zzI cy (rO 7) 5 (onR (zNO tA) 7), zzG cy 3 qmK rK, zzI cy (rK 0) 8 (T_kn (zNO tA) 0), zzI cy (rK 1) 8 (T_kn (zNO tA) 1), zzI cy (rK 2) 8 (T_kn (zNO tA) 2), zzI cy (rK 3) 8 (T_kn (zNO tA) 3), zzI cy (rK 4) 8 (T_kn (zNO tA) 4), zzI cy (rK 5) 8 (T_kn (zNO tA) 5), zzI cy (rK 6) 8 (T_kn (zNO tA) 6), zzI cy (rK 7) 8 (T_kn (zNO tA) 7)])) := by
  refine enW RX6 (by decide) rfl (Nat.le_of_ble_eq_true rfl) (fun p e s m below meth c ls A hx hb hml hown hts hr hlocks hP hN hl hin hD hA hS => ?_)
  have hin : meth.name = _ := hin
  have hK := hN.1
  replace hl : lv_has ls 2 [(0, .ref qm)] := hl
  refine lv_aload_n hx hb dX6_newOne_0 rfl (lv_at hl 0 rfl) ?_
  refine va_get (D := G) (ci := 5) (v := .ref qmO) (C := RX6) (T := TX6) (N := 35) hx hb hts iX_X6 hown hK hP 0 rfl rfl 13 (by decide) (hts _ m_t863) (fun _ h9 => h9) rfl dX6_newOne_1 ?_
  refine lv_aload_n hx hb dX6_newOne_4 rfl (lv_at hl 0 rfl) ?_
  refine va_get (D := G) (ci := 5) (v := .int (nI (T_np tA))) (C := RX6) (T := TX6) (N := 35) hx hb hts iX_X6 hown hK hP 0 rfl rfl 12 (by decide) (hts _ m_t862) (fun _ h9 => h9) rfl dX6_newOne_5 ?_
  refine va_alda hx hb hK hP 10 3 rfl rfl (in8 (by omega)) dX6_newOne_8 ?_
  refine lv_setv (v := .ref (rO (T_np tA))) (g_ref (by omega)) ?_
  refine lv_iconst (v := 1) hx hb dX6_newOne_9 (by decide) ?_
  refine lv_iconst (v := 5) hx hb dX6_newOne_10 (by decide) ?_
  refine va_iast hx hb hK hP hD hS (11 + (T_np tA)) 0 ((sg8 (n0 := 11) (f := (fun j => zzI cy (rO j) 5 (onR tA j))) rfl rfl rfl rfl rfl rfl rfl rfl) (T_np tA) (by omega)) rfl (in_c rfl) dX6_newOne_11 (fun H locs => ?_)
  clear hP hD hS
  intro hP hD hS
  have hPD := st8PD (ws' := [zzO qm 5 [v0, v1, v2, v3, v4, v5, v6, v7, v8, v9, .int (nI (T_nb (T_setre tA (upd (T_re tA) (T_np tA) 5)))), .ref qmB, .int (nI (T_np (T_setre tA (upd (T_re tA) (T_np tA) 5)))), .ref qmO, .ref qmK, .int iEn, .int iTk, .int (T_sd (T_setre tA (upd (T_re tA) (T_np tA) 5))), v18, v19, v20, v21, v22, v23, v24, v25, v26, .int iLv, .int iWs, v29, v30, v31, v32, v33, v34], zzG cy 3 qmB rB, zzI cy (rB 0) 4 (bkR (T_setre tA (upd (T_re tA) (T_np tA) 5)) 0), zzI cy (rB 1) 4 (bkR (T_setre tA (upd (T_re tA) (T_np tA) 5)) 1), zzI cy (rB 2) 4 (bkR (T_setre tA (upd (T_re tA) (T_np tA) 5)) 2), zzI cy (rB 3) 4 (bkR (T_setre tA (upd (T_re tA) (T_np tA) 5)) 3), zzI cy (rB 4) 4 (bkR (T_setre tA (upd (T_re tA) (T_np tA) 5)) 4), zzI cy (rB 5) 4 (bkR (T_setre tA (upd (T_re tA) (T_np tA) 5)) 5), zzI cy (rB 6) 4 (bkR (T_setre tA (upd (T_re tA) (T_np tA) 5)) 6), zzI cy (rB 7) 4 (bkR (T_setre tA (upd (T_re tA) (T_np tA) 5)) 7), zzG cy 3 qmO rO, zzI cy (rO 0) 5 (onR (T_setre tA (upd (T_re tA) (T_np tA) 5)) 0), zzI cy (rO 1) 5 (onR (T_setre tA (upd (T_re tA) (T_np tA) 5)) 1), zzI cy (rO 2) 5 (onR (T_setre tA (upd (T_re tA) (T_np tA) 5)) 2), zzI cy (rO 3) 5 (onR (T_setre tA (upd (T_re tA) (T_np tA) 5)) 3), zzI cy (rO 4) 5 (onR (T_setre tA (upd (T_re tA) (T_np tA) 5)) 4), zzI cy (rO 5) 5 (onR (T_setre tA (upd (T_re tA) (T_np tA) 5)) 5), zzI cy (rO 6) 5 (onR (T_setre tA (upd (T_re tA) (T_np tA) 5)) 6), zzI cy (rO 7) 5 (onR (T_setre tA (upd (T_re tA) (T_np tA) 5)) 7), zzG cy 3 qmK rK, zzI cy (rK 0) 8 (T_kn (T_setre tA (upd (T_re tA) (T_np tA) 5)) 0), zzI cy (rK 1) 8 (T_kn (T_setre tA (upd (T_re tA) (T_np tA) 5)) 1), zzI cy (rK 2) 8 (T_kn (T_setre tA (upd (T_re tA) (T_np tA) 5)) 2), zzI cy (rK 3) 8 (T_kn (T_setre tA (upd (T_re tA) (T_np tA) 5)) 3), zzI cy (rK 4) 8 (T_kn (T_setre tA (upd (T_re tA) (T_np tA) 5)) 4), zzI cy (rK 5) 8 (T_kn (T_setre tA (upd (T_re tA) (T_np tA) 5)) 5), zzI cy (rK 6) 8 (T_kn (T_setre tA (upd (T_re tA) (T_np tA) 5)) 6), zzI cy (rK 7) 8 (T_kn (T_setre tA (upd (T_re tA) (T_np tA) 5)) 7)]) (k := (T_np tA)) (g1 := onR (T_setre tA (upd (T_re tA) (T_np tA) 5)) (T_np tA)) hP hD (sg8 (n0 := 11) (f := (fun j => zzI cy (rO j) 5 (onR tA j))) rfl rfl rfl rfl rfl rfl rfl rfl) (sg8 (n0 := 11) (f := (fun j => zzI cy (rO j) 5 (onR (T_setre tA (upd (T_re tA) (T_np tA) 5)) j))) rfl rfl rfl rfl rfl rfl rfl rfl) rfl rfl (by omega) rfl (fun i _ => (congrFun (on_u1 tA (T_np tA) 5) i).symm) (fun j hj => congrArg (zzI cy (rO j) 5) (on_n1 tA (T_np tA) 5 hj))
  clear hP hD
  obtain ⟨hP, hD⟩ := hPD
  generalize hq_2 : (T_setre tA (upd (T_re tA) (T_np tA) 5)) = t_1 at hP hD
  have hq_2b : T_nb t_1 = T_nb tA := by rw [← hq_2]
  have hq_2p : T_np t_1 = T_np tA := by rw [← hq_2]
  refine lv_aload_n hx hb dX6_newOne_12 rfl (lv_at hl 0 rfl) ?_
  refine va_get (D := G) (ci := 5) (v := .ref qmO) (C := RX6) (T := TX6) (N := 35) hx hb hts iX_X6 hown hK hP 0 rfl rfl 13 (by decide) (hts _ m_t863) (fun _ h9 => h9) rfl dX6_newOne_13 ?_
  refine lv_aload_n hx hb dX6_newOne_16 rfl (lv_at hl 0 rfl) ?_
  refine va_get (D := G) (ci := 5) (v := .int (nI (T_np t_1))) (C := RX6) (T := TX6) (N := 35) hx hb hts iX_X6 hown hK hP 0 rfl rfl 12 (by decide) (hts _ m_t862) (fun _ h9 => h9) rfl dX6_newOne_17 ?_
  refine va_alda hx hb hK hP 10 3 rfl rfl (in8 (by omega)) dX6_newOne_20 ?_
  refine lv_setv (v := .ref (rO (T_np t_1))) (g_ref (by omega)) ?_
  refine lv_iconst (v := 2) hx hb dX6_newOne_21 (by decide) ?_
  refine lv_iconst (v := 5) hx hb dX6_newOne_22 (by decide) ?_
  refine va_iast hx hb hK hP hD hS (11 + (T_np t_1)) 0 ((sg8 (n0 := 11) (f := (fun j => zzI cy (rO j) 5 (onR t_1 j))) rfl rfl rfl rfl rfl rfl rfl rfl) (T_np t_1) (by omega)) rfl (in_c rfl) dX6_newOne_23 (fun H locs => ?_)
  clear hP hD hS
  intro hP hD hS
  have hPD := st8PD (ws' := [zzO qm 5 [v0, v1, v2, v3, v4, v5, v6, v7, v8, v9, .int (nI (T_nb (T_setme t_1 (upd (T_me t_1) (T_np t_1) 5)))), .ref qmB, .int (nI (T_np (T_setme t_1 (upd (T_me t_1) (T_np t_1) 5)))), .ref qmO, .ref qmK, .int iEn, .int iTk, .int (T_sd (T_setme t_1 (upd (T_me t_1) (T_np t_1) 5))), v18, v19, v20, v21, v22, v23, v24, v25, v26, .int iLv, .int iWs, v29, v30, v31, v32, v33, v34], zzG cy 3 qmB rB, zzI cy (rB 0) 4 (bkR (T_setme t_1 (upd (T_me t_1) (T_np t_1) 5)) 0), zzI cy (rB 1) 4 (bkR (T_setme t_1 (upd (T_me t_1) (T_np t_1) 5)) 1), zzI cy (rB 2) 4 (bkR (T_setme t_1 (upd (T_me t_1) (T_np t_1) 5)) 2), zzI cy (rB 3) 4 (bkR (T_setme t_1 (upd (T_me t_1) (T_np t_1) 5)) 3), zzI cy (rB 4) 4 (bkR (T_setme t_1 (upd (T_me t_1) (T_np t_1) 5)) 4), zzI cy (rB 5) 4 (bkR (T_setme t_1 (upd (T_me t_1) (T_np t_1) 5)) 5), zzI cy (rB 6) 4 (bkR (T_setme t_1 (upd (T_me t_1) (T_np t_1) 5)) 6), zzI cy (rB 7) 4 (bkR (T_setme t_1 (upd (T_me t_1) (T_np t_1) 5)) 7), zzG cy 3 qmO rO, zzI cy (rO 0) 5 (onR (T_setme t_1 (upd (T_me t_1) (T_np t_1) 5)) 0), zzI cy (rO 1) 5 (onR (T_setme t_1 (upd (T_me t_1) (T_np t_1) 5)) 1), zzI cy (rO 2) 5 (onR (T_setme t_1 (upd (T_me t_1) (T_np t_1) 5)) 2), zzI cy (rO 3) 5 (onR (T_setme t_1 (upd (T_me t_1) (T_np t_1) 5)) 3), zzI cy (rO 4) 5 (onR (T_setme t_1 (upd (T_me t_1) (T_np t_1) 5)) 4), zzI cy (rO 5) 5 (onR (T_setme t_1 (upd (T_me t_1) (T_np t_1) 5)) 5), zzI cy (rO 6) 5 (onR (T_setme t_1 (upd (T_me t_1) (T_np t_1) 5)) 6), zzI cy (rO 7) 5 (onR (T_setme t_1 (upd (T_me t_1) (T_np t_1) 5)) 7), zzG cy 3 qmK rK, zzI cy (rK 0) 8 (T_kn (T_setme t_1 (upd (T_me t_1) (T_np t_1) 5)) 0), zzI cy (rK 1) 8 (T_kn (T_setme t_1 (upd (T_me t_1) (T_np t_1) 5)) 1), zzI cy (rK 2) 8 (T_kn (T_setme t_1 (upd (T_me t_1) (T_np t_1) 5)) 2), zzI cy (rK 3) 8 (T_kn (T_setme t_1 (upd (T_me t_1) (T_np t_1) 5)) 3), zzI cy (rK 4) 8 (T_kn (T_setme t_1 (upd (T_me t_1) (T_np t_1) 5)) 4), zzI cy (rK 5) 8 (T_kn (T_setme t_1 (upd (T_me t_1) (T_np t_1) 5)) 5), zzI cy (rK 6) 8 (T_kn (T_setme t_1 (upd (T_me t_1) (T_np t_1) 5)) 6), zzI cy (rK 7) 8 (T_kn (T_setme t_1 (upd (T_me t_1) (T_np t_1) 5)) 7)]) (k := (T_np t_1)) (g1 := onR (T_setme t_1 (upd (T_me t_1) (T_np t_1) 5)) (T_np t_1)) hP hD (sg8 (n0 := 11) (f := (fun j => zzI cy (rO j) 5 (onR t_1 j))) rfl rfl rfl rfl rfl rfl rfl rfl) (sg8 (n0 := 11) (f := (fun j => zzI cy (rO j) 5 (onR (T_setme t_1 (upd (T_me t_1) (T_np t_1) 5)) j))) rfl rfl rfl rfl rfl rfl rfl rfl) rfl rfl (by omega) rfl (fun i _ => (congrFun (on_u2 t_1 (T_np t_1) 5) i).symm) (fun j hj => congrArg (zzI cy (rO j) 5) (on_n2 t_1 (T_np t_1) 5 hj))
  clear hP hD
  obtain ⟨hP, hD⟩ := hPD
  generalize hq_4 : (T_setme t_1 (upd (T_me t_1) (T_np t_1) 5)) = t_3 at hP hD
  have hq_4b : T_nb t_3 = T_nb t_1 := by rw [← hq_4]
  have hq_4p : T_np t_3 = T_np t_1 := by rw [← hq_4]
  refine lv_aload_n hx hb dX6_newOne_24 rfl (lv_at hl 0 rfl) ?_
  refine va_get (D := G) (ci := 5) (v := .ref qmO) (C := RX6) (T := TX6) (N := 35) hx hb hts iX_X6 hown hK hP 0 rfl rfl 13 (by decide) (hts _ m_t863) (fun _ h9 => h9) rfl dX6_newOne_25 ?_
  refine lv_aload_n hx hb dX6_newOne_28 rfl (lv_at hl 0 rfl) ?_
  refine va_get (D := G) (ci := 5) (v := .int (nI (T_np t_3))) (C := RX6) (T := TX6) (N := 35) hx hb hts iX_X6 hown hK hP 0 rfl rfl 12 (by decide) (hts _ m_t862) (fun _ h9 => h9) rfl dX6_newOne_29 ?_
  refine va_alda hx hb hK hP 10 3 rfl rfl (in8 (by omega)) dX6_newOne_32 ?_
  refine lv_setv (v := .ref (rO (T_np t_3))) (g_ref (by omega)) ?_
  refine lv_iconst (v := 3) hx hb dX6_newOne_33 (by decide) ?_
  refine lv_iconst (v := 5) hx hb dX6_newOne_34 (by decide) ?_
  refine va_iast hx hb hK hP hD hS (11 + (T_np t_3)) 0 ((sg8 (n0 := 11) (f := (fun j => zzI cy (rO j) 5 (onR t_3 j))) rfl rfl rfl rfl rfl rfl rfl rfl) (T_np t_3) (by omega)) rfl (in_c rfl) dX6_newOne_35 (fun H locs => ?_)
  clear hP hD hS
  intro hP hD hS
  have hPD := st8PD (ws' := [zzO qm 5 [v0, v1, v2, v3, v4, v5, v6, v7, v8, v9, .int (nI (T_nb (T_sette t_3 (upd (T_te t_3) (T_np t_3) 5)))), .ref qmB, .int (nI (T_np (T_sette t_3 (upd (T_te t_3) (T_np t_3) 5)))), .ref qmO, .ref qmK, .int iEn, .int iTk, .int (T_sd (T_sette t_3 (upd (T_te t_3) (T_np t_3) 5))), v18, v19, v20, v21, v22, v23, v24, v25, v26, .int iLv, .int iWs, v29, v30, v31, v32, v33, v34], zzG cy 3 qmB rB, zzI cy (rB 0) 4 (bkR (T_sette t_3 (upd (T_te t_3) (T_np t_3) 5)) 0), zzI cy (rB 1) 4 (bkR (T_sette t_3 (upd (T_te t_3) (T_np t_3) 5)) 1), zzI cy (rB 2) 4 (bkR (T_sette t_3 (upd (T_te t_3) (T_np t_3) 5)) 2), zzI cy (rB 3) 4 (bkR (T_sette t_3 (upd (T_te t_3) (T_np t_3) 5)) 3), zzI cy (rB 4) 4 (bkR (T_sette t_3 (upd (T_te t_3) (T_np t_3) 5)) 4), zzI cy (rB 5) 4 (bkR (T_sette t_3 (upd (T_te t_3) (T_np t_3) 5)) 5), zzI cy (rB 6) 4 (bkR (T_sette t_3 (upd (T_te t_3) (T_np t_3) 5)) 6), zzI cy (rB 7) 4 (bkR (T_sette t_3 (upd (T_te t_3) (T_np t_3) 5)) 7), zzG cy 3 qmO rO, zzI cy (rO 0) 5 (onR (T_sette t_3 (upd (T_te t_3) (T_np t_3) 5)) 0), zzI cy (rO 1) 5 (onR (T_sette t_3 (upd (T_te t_3) (T_np t_3) 5)) 1), zzI cy (rO 2) 5 (onR (T_sette t_3 (upd (T_te t_3) (T_np t_3) 5)) 2), zzI cy (rO 3) 5 (onR (T_sette t_3 (upd (T_te t_3) (T_np t_3) 5)) 3), zzI cy (rO 4) 5 (onR (T_sette t_3 (upd (T_te t_3) (T_np t_3) 5)) 4), zzI cy (rO 5) 5 (onR (T_sette t_3 (upd (T_te t_3) (T_np t_3) 5)) 5), zzI cy (rO 6) 5 (onR (T_sette t_3 (upd (T_te t_3) (T_np t_3) 5)) 6), zzI cy (rO 7) 5 (onR (T_sette t_3 (upd (T_te t_3) (T_np t_3) 5)) 7), zzG cy 3 qmK rK, zzI cy (rK 0) 8 (T_kn (T_sette t_3 (upd (T_te t_3) (T_np t_3) 5)) 0), zzI cy (rK 1) 8 (T_kn (T_sette t_3 (upd (T_te t_3) (T_np t_3) 5)) 1), zzI cy (rK 2) 8 (T_kn (T_sette t_3 (upd (T_te t_3) (T_np t_3) 5)) 2), zzI cy (rK 3) 8 (T_kn (T_sette t_3 (upd (T_te t_3) (T_np t_3) 5)) 3), zzI cy (rK 4) 8 (T_kn (T_sette t_3 (upd (T_te t_3) (T_np t_3) 5)) 4), zzI cy (rK 5) 8 (T_kn (T_sette t_3 (upd (T_te t_3) (T_np t_3) 5)) 5), zzI cy (rK 6) 8 (T_kn (T_sette t_3 (upd (T_te t_3) (T_np t_3) 5)) 6), zzI cy (rK 7) 8 (T_kn (T_sette t_3 (upd (T_te t_3) (T_np t_3) 5)) 7)]) (k := (T_np t_3)) (g1 := onR (T_sette t_3 (upd (T_te t_3) (T_np t_3) 5)) (T_np t_3)) hP hD (sg8 (n0 := 11) (f := (fun j => zzI cy (rO j) 5 (onR t_3 j))) rfl rfl rfl rfl rfl rfl rfl rfl) (sg8 (n0 := 11) (f := (fun j => zzI cy (rO j) 5 (onR (T_sette t_3 (upd (T_te t_3) (T_np t_3) 5)) j))) rfl rfl rfl rfl rfl rfl rfl rfl) rfl rfl (by omega) rfl (fun i _ => (congrFun (on_u3 t_3 (T_np t_3) 5) i).symm) (fun j hj => congrArg (zzI cy (rO j) 5) (on_n3 t_3 (T_np t_3) 5 hj))
  clear hP hD
  obtain ⟨hP, hD⟩ := hPD
  generalize hq_6 : (T_sette t_3 (upd (T_te t_3) (T_np t_3) 5)) = t_5 at hP hD
  have hq_6b : T_nb t_5 = T_nb t_3 := by rw [← hq_6]
  have hq_6p : T_np t_5 = T_np t_3 := by rw [← hq_6]
  refine lv_aload_n hx hb dX6_newOne_36 rfl (lv_at hl 0 rfl) ?_
  refine va_get (D := G) (ci := 5) (v := .ref qmO) (C := RX6) (T := TX6) (N := 35) hx hb hts iX_X6 hown hK hP 0 rfl rfl 13 (by decide) (hts _ m_t863) (fun _ h9 => h9) rfl dX6_newOne_37 ?_
  refine lv_aload_n hx hb dX6_newOne_40 rfl (lv_at hl 0 rfl) ?_
  refine va_get (D := G) (ci := 5) (v := .int (nI (T_np t_5))) (C := RX6) (T := TX6) (N := 35) hx hb hts iX_X6 hown hK hP 0 rfl rfl 12 (by decide) (hts _ m_t862) (fun _ h9 => h9) rfl dX6_newOne_41 ?_
  refine va_alda hx hb hK hP 10 3 rfl rfl (in8 (by omega)) dX6_newOne_44 ?_
  refine lv_setv (v := .ref (rO (T_np t_5))) (g_ref (by omega)) ?_
  refine lv_iconst (v := 4) hx hb dX6_newOne_45 (by decide) ?_
  refine lv_iconst (v := 0) hx hb dX6_newOne_46 (by decide) ?_
  refine va_iast hx hb hK hP hD hS (11 + (T_np t_5)) 0 ((sg8 (n0 := 11) (f := (fun j => zzI cy (rO j) 5 (onR t_5 j))) rfl rfl rfl rfl rfl rfl rfl rfl) (T_np t_5) (by omega)) rfl (in_c rfl) dX6_newOne_47 (fun H locs => ?_)
  clear hP hD hS
  intro hP hD hS
  have hPD := st8PD (ws' := [zzO qm 5 [v0, v1, v2, v3, v4, v5, v6, v7, v8, v9, .int (nI (T_nb (T_setgn t_5 (updB (T_gn t_5) (T_np t_5) false)))), .ref qmB, .int (nI (T_np (T_setgn t_5 (updB (T_gn t_5) (T_np t_5) false)))), .ref qmO, .ref qmK, .int iEn, .int iTk, .int (T_sd (T_setgn t_5 (updB (T_gn t_5) (T_np t_5) false))), v18, v19, v20, v21, v22, v23, v24, v25, v26, .int iLv, .int iWs, v29, v30, v31, v32, v33, v34], zzG cy 3 qmB rB, zzI cy (rB 0) 4 (bkR (T_setgn t_5 (updB (T_gn t_5) (T_np t_5) false)) 0), zzI cy (rB 1) 4 (bkR (T_setgn t_5 (updB (T_gn t_5) (T_np t_5) false)) 1), zzI cy (rB 2) 4 (bkR (T_setgn t_5 (updB (T_gn t_5) (T_np t_5) false)) 2), zzI cy (rB 3) 4 (bkR (T_setgn t_5 (updB (T_gn t_5) (T_np t_5) false)) 3), zzI cy (rB 4) 4 (bkR (T_setgn t_5 (updB (T_gn t_5) (T_np t_5) false)) 4), zzI cy (rB 5) 4 (bkR (T_setgn t_5 (updB (T_gn t_5) (T_np t_5) false)) 5), zzI cy (rB 6) 4 (bkR (T_setgn t_5 (updB (T_gn t_5) (T_np t_5) false)) 6), zzI cy (rB 7) 4 (bkR (T_setgn t_5 (updB (T_gn t_5) (T_np t_5) false)) 7), zzG cy 3 qmO rO, zzI cy (rO 0) 5 (onR (T_setgn t_5 (updB (T_gn t_5) (T_np t_5) false)) 0), zzI cy (rO 1) 5 (onR (T_setgn t_5 (updB (T_gn t_5) (T_np t_5) false)) 1), zzI cy (rO 2) 5 (onR (T_setgn t_5 (updB (T_gn t_5) (T_np t_5) false)) 2), zzI cy (rO 3) 5 (onR (T_setgn t_5 (updB (T_gn t_5) (T_np t_5) false)) 3), zzI cy (rO 4) 5 (onR (T_setgn t_5 (updB (T_gn t_5) (T_np t_5) false)) 4), zzI cy (rO 5) 5 (onR (T_setgn t_5 (updB (T_gn t_5) (T_np t_5) false)) 5), zzI cy (rO 6) 5 (onR (T_setgn t_5 (updB (T_gn t_5) (T_np t_5) false)) 6), zzI cy (rO 7) 5 (onR (T_setgn t_5 (updB (T_gn t_5) (T_np t_5) false)) 7), zzG cy 3 qmK rK, zzI cy (rK 0) 8 (T_kn (T_setgn t_5 (updB (T_gn t_5) (T_np t_5) false)) 0), zzI cy (rK 1) 8 (T_kn (T_setgn t_5 (updB (T_gn t_5) (T_np t_5) false)) 1), zzI cy (rK 2) 8 (T_kn (T_setgn t_5 (updB (T_gn t_5) (T_np t_5) false)) 2), zzI cy (rK 3) 8 (T_kn (T_setgn t_5 (updB (T_gn t_5) (T_np t_5) false)) 3), zzI cy (rK 4) 8 (T_kn (T_setgn t_5 (updB (T_gn t_5) (T_np t_5) false)) 4), zzI cy (rK 5) 8 (T_kn (T_setgn t_5 (updB (T_gn t_5) (T_np t_5) false)) 5), zzI cy (rK 6) 8 (T_kn (T_setgn t_5 (updB (T_gn t_5) (T_np t_5) false)) 6), zzI cy (rK 7) 8 (T_kn (T_setgn t_5 (updB (T_gn t_5) (T_np t_5) false)) 7)]) (k := (T_np t_5)) (g1 := onR (T_setgn t_5 (updB (T_gn t_5) (T_np t_5) false)) (T_np t_5)) hP hD (sg8 (n0 := 11) (f := (fun j => zzI cy (rO j) 5 (onR t_5 j))) rfl rfl rfl rfl rfl rfl rfl rfl) (sg8 (n0 := 11) (f := (fun j => zzI cy (rO j) 5 (onR (T_setgn t_5 (updB (T_gn t_5) (T_np t_5) false)) j))) rfl rfl rfl rfl rfl rfl rfl rfl) rfl rfl (by omega) rfl (on_w4 t_5 (T_np t_5) false) (fun j hj => congrArg (zzI cy (rO j) 5) (on_n4 t_5 (T_np t_5) false hj))
  clear hP hD
  obtain ⟨hP, hD⟩ := hPD
  generalize hq_8 : (T_setgn t_5 (updB (T_gn t_5) (T_np t_5) false)) = t_7 at hP hD
  have hq_8b : T_nb t_7 = T_nb t_5 := by rw [← hq_8]
  have hq_8p : T_np t_7 = T_np t_5 := by rw [← hq_8]
  refine lv_iconst (v := 0) hx hb dX6_newOne_48 (by decide) ?_
  refine lv_istore_n (lv' := [(1, .int 0), (0, .ref qm)]) hx hb dX6_newOne_49 rfl hl (by decide) rfl (fun ls => ?_)
  clear hl
  intro hl
  have e_9 : t_7 = (no0 tA) := by rw [← hq_8, ← hq_6, ← hq_4, ← hq_2]; rfl
  rw [e_9] at hP hD
  have lp_10 : ∀ (n_11 : Nat) (j_13 : Nat) (tJ_14 : TA), 8 - j_13 < n_11 → j_13 ≤ 8 → tJ_14 = noF (T_np tA) (no0 tA) j_13 → ∀ (H : Heap) (locs : List Loc) (ls : Array Slot), va_P G CL [zzO qm 5 [v0, v1, v2, v3, v4, v5, v6, v7, v8, v9, .int (nI (T_nb tJ_14)), .ref qmB, .int (nI (T_np tJ_14)), .ref qmO, .ref qmK, .int iEn, .int iTk, .int (T_sd tJ_14), v18, v19, v20, v21, v22, v23, v24, v25, v26, .int iLv, .int iWs, v29, v30, v31, v32, v33, v34], zzG cy 3 qmB rB, zzI cy (rB 0) 4 (bkR tJ_14 0), zzI cy (rB 1) 4 (bkR tJ_14 1), zzI cy (rB 2) 4 (bkR tJ_14 2), zzI cy (rB 3) 4 (bkR tJ_14 3), zzI cy (rB 4) 4 (bkR tJ_14 4), zzI cy (rB 5) 4 (bkR tJ_14 5), zzI cy (rB 6) 4 (bkR tJ_14 6), zzI cy (rB 7) 4 (bkR tJ_14 7), zzG cy 3 qmO rO, zzI cy (rO 0) 5 (onR tJ_14 0), zzI cy (rO 1) 5 (onR tJ_14 1), zzI cy (rO 2) 5 (onR tJ_14 2), zzI cy (rO 3) 5 (onR tJ_14 3), zzI cy (rO 4) 5 (onR tJ_14 4), zzI cy (rO 5) 5 (onR tJ_14 5), zzI cy (rO 6) 5 (onR tJ_14 6), zzI cy (rO 7) 5 (onR tJ_14 7), zzG cy 3 qmK rK, zzI cy (rK 0) 8 (T_kn tJ_14 0), zzI cy (rK 1) 8 (T_kn tJ_14 1), zzI cy (rK 2) 8 (T_kn tJ_14 2), zzI cy (rK 3) 8 (T_kn tJ_14 3), zzI cy (rK 4) 8 (T_kn tJ_14 4), zzI cy (rK 5) 8 (T_kn tJ_14 5), zzI cy (rK 6) 8 (T_kn tJ_14 6), zzI cy (rK 7) 8 (T_kn tJ_14 7)] H → va_D A [zzO qm 5 [v0, v1, v2, v3, v4, v5, v6, v7, v8, v9, .int (nI (T_nb tJ_14)), .ref qmB, .int (nI (T_np tJ_14)), .ref qmO, .ref qmK, .int iEn, .int iTk, .int (T_sd tJ_14), v18, v19, v20, v21, v22, v23, v24, v25, v26, .int iLv, .int iWs, v29, v30, v31, v32, v33, v34], zzG cy 3 qmB rB, zzI cy (rB 0) 4 (bkR tJ_14 0), zzI cy (rB 1) 4 (bkR tJ_14 1), zzI cy (rB 2) 4 (bkR tJ_14 2), zzI cy (rB 3) 4 (bkR tJ_14 3), zzI cy (rB 4) 4 (bkR tJ_14 4), zzI cy (rB 5) 4 (bkR tJ_14 5), zzI cy (rB 6) 4 (bkR tJ_14 6), zzI cy (rB 7) 4 (bkR tJ_14 7), zzG cy 3 qmO rO, zzI cy (rO 0) 5 (onR tJ_14 0), zzI cy (rO 1) 5 (onR tJ_14 1), zzI cy (rO 2) 5 (onR tJ_14 2), zzI cy (rO 3) 5 (onR tJ_14 3), zzI cy (rO 4) 5 (onR tJ_14 4), zzI cy (rO 5) 5 (onR tJ_14 5), zzI cy (rO 6) 5 (onR tJ_14 6), zzI cy (rO 7) 5 (onR tJ_14 7), zzG cy 3 qmK rK, zzI cy (rK 0) 8 (T_kn tJ_14 0), zzI cy (rK 1) 8 (T_kn tJ_14 1), zzI cy (rK 2) 8 (T_kn tJ_14 2), zzI cy (rK 3) 8 (T_kn tJ_14 3), zzI cy (rK 4) 8 (T_kn tJ_14 4), zzI cy (rK 5) 8 (T_kn tJ_14 5), zzI cy (rK 6) 8 (T_kn tJ_14 6), zzI cy (rK 7) 8 (T_kn tJ_14 7)] → va_S A s.heap H locs → lv_has ls 2 [(1, .int (nI j_13)), (0, .ref qm)] → W p l e (Rm 1 0 0) s m (List.toArray (α := Value) [.ref qm]) below meth c H locs 0 0 (MQ below ((Wv G (fun u => u = [zzO qm 5 [v0, v1, v2, v3, v4, v5, v6, v7, v8, v9, .int (nI (T_nb (zNO tA))), .ref qmB, .int (nI (T_np (zNO tA))), .ref qmO, .ref qmK, .int iEn, .int iTk, .int (T_sd (zNO tA)), v18, v19, v20, v21, v22, v23, v24, v25, v26, .int iLv, .int iWs, v29, v30, v31, v32, v33, v34], zzG cy 3 qmB rB, zzI cy (rB 0) 4 (bkR (zNO tA) 0), zzI cy (rB 1) 4 (bkR (zNO tA) 1), zzI cy (rB 2) 4 (bkR (zNO tA) 2), zzI cy (rB 3) 4 (bkR (zNO tA) 3), zzI cy (rB 4) 4 (bkR (zNO tA) 4), zzI cy (rB 5) 4 (bkR (zNO tA) 5), zzI cy (rB 6) 4 (bkR (zNO tA) 6), zzI cy (rB 7) 4 (bkR (zNO tA) 7), zzG cy 3 qmO rO, zzI cy (rO 0) 5 (onR (zNO tA) 0), zzI cy (rO 1) 5 (onR (zNO tA) 1), zzI cy (rO 2) 5 (onR (zNO tA) 2), zzI cy (rO 3) 5 (onR (zNO tA) 3), zzI cy (rO 4) 5 (onR (zNO tA) 4), zzI cy (rO 5) 5 (onR (zNO tA) 5), zzI cy (rO 6) 5 (onR (zNO tA) 6), zzI cy (rO 7) 5 (onR (zNO tA) 7), zzG cy 3 qmK rK, zzI cy (rK 0) 8 (T_kn (zNO tA) 0), zzI cy (rK 1) 8 (T_kn (zNO tA) 1), zzI cy (rK 2) 8 (T_kn (zNO tA) 2), zzI cy (rK 3) 8 (T_kn (zNO tA) 3), zzI cy (rK 4) 8 (T_kn (zNO tA) 4), zzI cy (rK 5) 8 (T_kn (zNO tA) 5), zzI cy (rK 6) 8 (T_kn (zNO tA) 6), zzI cy (rK 7) 8 (T_kn (zNO tA) 7)])) A) (List.toArray (α := Value) [.ref qm]) s 0 0 A) (F0 m 50 ls []) := by
    intro n_11
    induction n_11 with
    | zero => intro j_13 tJ_14 hm9; exact absurd hm9 (Nat.not_lt_zero _)
    | succ n_11 ih_12 =>
      intro j_13 tJ_14 hm_17 hj_15 htJ_16 H locs ls hP hD hS hl
      refine lv_iload_n hx hb dX6_newOne_50 rfl (lv_at hl 0 rfl) ?_
      refine lv_bipush (v := 8) hx hb dX6_newOne_51 (by decide) ?_
      refine lv_icmp_ge (tgt := 74) hx hb dX6_newOne_53 (by decide) (fun c_18 => ?_) (fun c_18 => ?_)
      · have hlt_19e : T_np tJ_14 = T_np tA := by rw [htJ_16]; exact (noF_nb _ _ _).2
        have hlt_19 : j_13 = 8 := Nat.le_antisymm (by omega) (lp_ge rfl (rfl : (8 : Int32) = nI 8) (by omega) (by omega) c_18)
        have e9_20 : tJ_14 = zNO tA := by rw [htJ_16, hlt_19]; rfl
        subst e9_20
        exact endV (u := [zzO qm 5 [v0, v1, v2, v3, v4, v5, v6, v7, v8, v9, .int (nI (T_nb (zNO tA))), .ref qmB, .int (nI (T_np (zNO tA))), .ref qmO, .ref qmK, .int iEn, .int iTk, .int (T_sd (zNO tA)), v18, v19, v20, v21, v22, v23, v24, v25, v26, .int iLv, .int iWs, v29, v30, v31, v32, v33, v34], zzG cy 3 qmB rB, zzI cy (rB 0) 4 (bkR (zNO tA) 0), zzI cy (rB 1) 4 (bkR (zNO tA) 1), zzI cy (rB 2) 4 (bkR (zNO tA) 2), zzI cy (rB 3) 4 (bkR (zNO tA) 3), zzI cy (rB 4) 4 (bkR (zNO tA) 4), zzI cy (rB 5) 4 (bkR (zNO tA) 5), zzI cy (rB 6) 4 (bkR (zNO tA) 6), zzI cy (rB 7) 4 (bkR (zNO tA) 7), zzG cy 3 qmO rO, zzI cy (rO 0) 5 (onR (zNO tA) 0), zzI cy (rO 1) 5 (onR (zNO tA) 1), zzI cy (rO 2) 5 (onR (zNO tA) 2), zzI cy (rO 3) 5 (onR (zNO tA) 3), zzI cy (rO 4) 5 (onR (zNO tA) 4), zzI cy (rO 5) 5 (onR (zNO tA) 5), zzI cy (rO 6) 5 (onR (zNO tA) 6), zzI cy (rO 7) 5 (onR (zNO tA) 7), zzG cy 3 qmK rK, zzI cy (rK 0) 8 (T_kn (zNO tA) 0), zzI cy (rK 1) 8 (T_kn (zNO tA) 1), zzI cy (rK 2) 8 (T_kn (zNO tA) 2), zzI cy (rK 3) 8 (T_kn (zNO tA) 3), zzI cy (rK 4) 8 (T_kn (zNO tA) 4), zzI cy (rK 5) 8 (T_kn (zNO tA) 5), zzI cy (rK 6) 8 (T_kn (zNO tA) 6), zzI cy (rK 7) 8 (T_kn (zNO tA) 7)]) hx hb hr hlocks (hP.sub [0, 1, 2, 3, 4, 5, 6, 7, 8, 9, 10, 11, 12, 13, 14, 15, 16, 17, 18, 19, 20, 21, 22, 23, 24, 25, 26, 27] rfl) (hD.sub [0, 1, 2, 3, 4, 5, 6, 7, 8, 9, 10, 11, 12, 13, 14, 15, 16, 17, 18, 19, 20, 21, 22, 23, 24, 25, 26, 27] (by decide +kernel) rfl) hS rfl dX6_newOne_74
      · have hlt_21e : T_np tJ_14 = T_np tA := by rw [htJ_16]; exact (noF_nb _ _ _).2
        have hlt_21 : j_13 < 8 := lp_lt rfl (rfl : (8 : Int32) = nI 8) (by omega) (by omega) c_18
        refine lv_aload_n hx hb dX6_newOne_56 rfl (lv_at hl 1 rfl) ?_
        refine va_get (D := G) (ci := 5) (v := .ref qmK) (C := RX6) (T := TX6) (N := 35) hx hb hts iX_X6 hown hK hP 0 rfl rfl 14 (by decide) (hts _ m_t864) (fun _ h9 => h9) rfl dX6_newOne_57 ?_
        refine lv_aload_n hx hb dX6_newOne_60 rfl (lv_at hl 1 rfl) ?_
        refine va_get (D := G) (ci := 5) (v := .int (nI (T_np tJ_14))) (C := RX6) (T := TX6) (N := 35) hx hb hts iX_X6 hown hK hP 0 rfl rfl 12 (by decide) (hts _ m_t862) (fun _ h9 => h9) rfl dX6_newOne_61 ?_
        refine lv_seti (v := nI (T_np tA)) (congrArg nI hlt_21e) ?_
        refine va_alda hx hb hK hP 19 3 rfl rfl (in8 (by omega)) dX6_newOne_64 ?_
        refine lv_setv (v := .ref (rK (T_np tA))) (g_ref (by omega)) ?_
        refine lv_iload_n hx hb dX6_newOne_65 rfl (lv_at hl 0 rfl) ?_
        refine lv_iconst (v := 0) hx hb dX6_newOne_66 (by decide) ?_
        refine va_iast hx hb hK hP hD hS (20 + (T_np tA)) 0 ((sg8 (n0 := 20) (f := (fun j => zzI cy (rK j) 8 (T_kn tJ_14 j))) rfl rfl rfl rfl rfl rfl rfl rfl) (T_np tA) (by omega)) rfl (vp_in_nI (by omega) (by omega)) dX6_newOne_67 (fun H locs => ?_)
        clear hP hD hS
        intro hP hD hS
        rw [nI_clamp (n := j_13) (by omega)] at hP hD
        have hPD := st8PD (ws' := [zzO qm 5 [v0, v1, v2, v3, v4, v5, v6, v7, v8, v9, .int (nI (T_nb (T_setkn tJ_14 (updM (T_kn tJ_14) (T_np tA) j_13 0)))), .ref qmB, .int (nI (T_np (T_setkn tJ_14 (updM (T_kn tJ_14) (T_np tA) j_13 0)))), .ref qmO, .ref qmK, .int iEn, .int iTk, .int (T_sd (T_setkn tJ_14 (updM (T_kn tJ_14) (T_np tA) j_13 0))), v18, v19, v20, v21, v22, v23, v24, v25, v26, .int iLv, .int iWs, v29, v30, v31, v32, v33, v34], zzG cy 3 qmB rB, zzI cy (rB 0) 4 (bkR (T_setkn tJ_14 (updM (T_kn tJ_14) (T_np tA) j_13 0)) 0), zzI cy (rB 1) 4 (bkR (T_setkn tJ_14 (updM (T_kn tJ_14) (T_np tA) j_13 0)) 1), zzI cy (rB 2) 4 (bkR (T_setkn tJ_14 (updM (T_kn tJ_14) (T_np tA) j_13 0)) 2), zzI cy (rB 3) 4 (bkR (T_setkn tJ_14 (updM (T_kn tJ_14) (T_np tA) j_13 0)) 3), zzI cy (rB 4) 4 (bkR (T_setkn tJ_14 (updM (T_kn tJ_14) (T_np tA) j_13 0)) 4), zzI cy (rB 5) 4 (bkR (T_setkn tJ_14 (updM (T_kn tJ_14) (T_np tA) j_13 0)) 5), zzI cy (rB 6) 4 (bkR (T_setkn tJ_14 (updM (T_kn tJ_14) (T_np tA) j_13 0)) 6), zzI cy (rB 7) 4 (bkR (T_setkn tJ_14 (updM (T_kn tJ_14) (T_np tA) j_13 0)) 7), zzG cy 3 qmO rO, zzI cy (rO 0) 5 (onR (T_setkn tJ_14 (updM (T_kn tJ_14) (T_np tA) j_13 0)) 0), zzI cy (rO 1) 5 (onR (T_setkn tJ_14 (updM (T_kn tJ_14) (T_np tA) j_13 0)) 1), zzI cy (rO 2) 5 (onR (T_setkn tJ_14 (updM (T_kn tJ_14) (T_np tA) j_13 0)) 2), zzI cy (rO 3) 5 (onR (T_setkn tJ_14 (updM (T_kn tJ_14) (T_np tA) j_13 0)) 3), zzI cy (rO 4) 5 (onR (T_setkn tJ_14 (updM (T_kn tJ_14) (T_np tA) j_13 0)) 4), zzI cy (rO 5) 5 (onR (T_setkn tJ_14 (updM (T_kn tJ_14) (T_np tA) j_13 0)) 5), zzI cy (rO 6) 5 (onR (T_setkn tJ_14 (updM (T_kn tJ_14) (T_np tA) j_13 0)) 6), zzI cy (rO 7) 5 (onR (T_setkn tJ_14 (updM (T_kn tJ_14) (T_np tA) j_13 0)) 7), zzG cy 3 qmK rK, zzI cy (rK 0) 8 (T_kn (T_setkn tJ_14 (updM (T_kn tJ_14) (T_np tA) j_13 0)) 0), zzI cy (rK 1) 8 (T_kn (T_setkn tJ_14 (updM (T_kn tJ_14) (T_np tA) j_13 0)) 1), zzI cy (rK 2) 8 (T_kn (T_setkn tJ_14 (updM (T_kn tJ_14) (T_np tA) j_13 0)) 2), zzI cy (rK 3) 8 (T_kn (T_setkn tJ_14 (updM (T_kn tJ_14) (T_np tA) j_13 0)) 3), zzI cy (rK 4) 8 (T_kn (T_setkn tJ_14 (updM (T_kn tJ_14) (T_np tA) j_13 0)) 4), zzI cy (rK 5) 8 (T_kn (T_setkn tJ_14 (updM (T_kn tJ_14) (T_np tA) j_13 0)) 5), zzI cy (rK 6) 8 (T_kn (T_setkn tJ_14 (updM (T_kn tJ_14) (T_np tA) j_13 0)) 6), zzI cy (rK 7) 8 (T_kn (T_setkn tJ_14 (updM (T_kn tJ_14) (T_np tA) j_13 0)) 7)]) (k := (T_np tA)) (g1 := T_kn (T_setkn tJ_14 (updM (T_kn tJ_14) (T_np tA) j_13 0)) (T_np tA)) hP hD (sg8 (n0 := 20) (f := (fun j => zzI cy (rK j) 8 (T_kn tJ_14 j))) rfl rfl rfl rfl rfl rfl rfl rfl) (sg8 (n0 := 20) (f := (fun j => zzI cy (rK j) 8 (T_kn (T_setkn tJ_14 (updM (T_kn tJ_14) (T_np tA) j_13 0)) j))) rfl rfl rfl rfl rfl rfl rfl rfl) rfl rfl (by omega) rfl (fun i _ => (congrFun (kn_u tJ_14 (T_np tA) j_13 0) i).symm) (fun j hj => congrArg (zzI cy (rK j) 8) (kn_n tJ_14 (T_np tA) j_13 0 hj))
        clear hP hD
        obtain ⟨hP, hD⟩ := hPD
        refine lv_iinc (v := nI (j_13 + 1)) (lv' := [(1, .int (nI (j_13 + 1))), (0, .ref qm)]) hx hb dX6_newOne_68 hl (k := 0) rfl (nI_1 _) (by decide) rfl (fun ls => ?_)
        clear hl
        intro hl
        refine lv_goto (tgt := 50) hx hb dX6_newOne_71 (by decide) ?_
        exact ih_12 (j_13 + 1) (T_setkn tJ_14 (updM (T_kn tJ_14) (T_np tA) j_13 0)) (by omega) (by omega) (by rw [htJ_16]; rfl) _ _ _ hP hD hS (lv_sub hl [0, 1] rfl)
  exact lp_10 ((8 - 0) + 1) 0 (no0 tA) (Nat.lt_succ_self _) (Nat.zero_le _) rfl _ _ ls hP hD hS (lv_sub hl [0, 1] rfl)
set_option maxHeartbeats 4000000 in
set_option maxRecDepth 100000 in
theorem c_X6_fit (l : Launch) (G : va_G) (cy : Nat → ClassId) (iA : Int32) (J1 : Int64)   : MR l yX6_fit cX6_fit 3 (some .long) 1 G cy [] [.int iA, .long J1] (vp_Sl (fun r => (r = (zft iA J1)))) := by
  refine enR RX6 (by decide) rfl (Nat.le_of_ble_eq_true rfl) (fun p e s m below meth c ls hx hb hml hown hts hr hlocks hP hN hl => ?_)
  have hK := hN.1
  replace hl : lv_has ls 3 [(0, .int iA), (1, .long J1)] := hl
  refine lv_iload_n hx hb dX6_fit_0 rfl (lv_at hl 0 rfl) ?_
  rcases sw_0_3 iA with rfl | rfl | rfl | rfl | h_1
  · refine lv_tableIn (tgt := 32) (off := 31) hx hb dX6_fit_1 (by decide) (by decide) (by decide) (by decide) ?_
    refine lv_lload_n hx hb dX6_fit_32 rfl (lv_at hl 1 rfl) ?_
    refine lv_l2i (v := J1.toInt32) hx hb dX6_fit_33 rfl ?_
    refine lv_i2b (v := J1.toInt32.toInt8.toInt32) hx hb dX6_fit_34 rfl ?_
    refine lv_i2l (v := J1.toInt32.toInt8.toInt32.toInt64) hx hb dX6_fit_35 rfl ?_
    exact endRl hx hb hr hlocks (by rfl) dX6_fit_36
  · refine lv_tableIn (tgt := 37) (off := 36) hx hb dX6_fit_1 (by decide) (by decide) (by decide) (by decide) ?_
    refine lv_lload_n hx hb dX6_fit_37 rfl (lv_at hl 1 rfl) ?_
    refine lv_l2i (v := J1.toInt32) hx hb dX6_fit_38 rfl ?_
    refine lv_i2s (v := J1.toInt32.toInt16.toInt32) hx hb dX6_fit_39 rfl ?_
    refine lv_i2l (v := J1.toInt32.toInt16.toInt32.toInt64) hx hb dX6_fit_40 rfl ?_
    exact endRl hx hb hr hlocks (by rfl) dX6_fit_41
  · refine lv_tableIn (tgt := 42) (off := 41) hx hb dX6_fit_1 (by decide) (by decide) (by decide) (by decide) ?_
    refine lv_lload_n hx hb dX6_fit_42 rfl (lv_at hl 1 rfl) ?_
    refine lv_l2i (v := J1.toInt32) hx hb dX6_fit_43 rfl ?_
    refine lv_i2l (v := J1.toInt32.toInt64) hx hb dX6_fit_44 rfl ?_
    exact endRl hx hb hr hlocks (by rfl) dX6_fit_45
  · refine lv_tableIn (tgt := 46) (off := 45) hx hb dX6_fit_1 (by decide) (by decide) (by decide) (by decide) ?_
    refine lv_lload_n hx hb dX6_fit_46 rfl (lv_at hl 1 rfl) ?_
    exact endRl hx hb hr hlocks (by rfl) dX6_fit_47
  · refine lv_tableOut (tgt := 48) hx hb dX6_fit_1 h_1 (by decide) ?_
    refine lv_lload_n hx hb dX6_fit_48 rfl (lv_at hl 1 rfl) ?_
    refine lv_lconst (v := 0) hx hb dX6_fit_49 (by decide) ?_
    refine W.lcmp hx hb dX6_fit_50 ?_
    refine lv_if_eq (tgt := 58) hx hb dX6_fit_51 (by decide) (fun c_2 => ?_) (fun c_2 => ?_)
    · refine lv_lconst (v := 0) hx hb dX6_fit_58 (by decide) ?_
      exact endRl hx hb hr hlocks (by rw [ft_d h_1]; exact (if_pos c_2).symm) dX6_fit_59
    · refine lv_lconst (v := 1) hx hb dX6_fit_54 (by decide) ?_
      refine lv_goto (tgt := 59) hx hb dX6_fit_55 (by decide) ?_
      exact endRl hx hb hr hlocks (by rw [ft_d h_1]; exact (if_neg c_2).symm) dX6_fit_59
set_option maxHeartbeats 4000000 in
set_option maxRecDepth 100000 in
theorem c_X6_noRow (l : Launch) (G : va_G) (cy : Nat → ClassId) (sz : Nat) (qm : Nat) (qmh : Nat) (v1 : Value) (v2 : Value) (v3 : Value) (v4 : Value) (v5 : Value) (v6 : Value) (v7 : Value) (v8 : Value) (qmr : Nat) (tA : TA) (qmB : Nat) (qmO : Nat) (qmK : Nat) (iEn : Int32) (iTk : Int32) (v18 : Value) (v19 : Value) (v20 : Value) (v21 : Value) (v22 : Value) (v23 : Value) (v24 : Value) (v25 : Value) (v26 : Value) (iLv : Int32) (iWs : Int32) (v29 : Value) (v30 : Value) (v31 : Value) (v32 : Value) (v33 : Value) (v34 : Value) (fMh : Nat → Int32) (fMr : Nat → Int32) (iA : Int32)   : MW l yX6_noRow cX6_noRow 2 (some .int) 3 0 0 G cy [zzO qm 5 [.ref qmh, v1, v2, v3, v4, v5, v6, v7, v8, .ref qmr, .int (nI (T_nb tA)), .ref qmB, .int (nI (T_np tA)), .ref qmO, .ref qmK, .int iEn, .int iTk, .int (T_sd tA), v18, v19, v20, v21, v22, v23, v24, v25, v26, .int iLv, .int iWs, v29, v30, v31, v32, v33, v34], zzI cy qmh 8 fMh, zzI cy qmr 8 fMr] sz [.ref qm, .int iA] (Wi G (fun r u => ∃ (fX : Nat → Int32), u = [zzO qm 5 [.ref qmh, v1, v2, v3, v4, v5, v6, v7, v8, .ref qmr, .int (nI (T_nb tA)), .ref qmB, .int (nI (T_np tA)), .ref qmO, .ref qmK, .int iEn, .int iTk, .int (T_sd tA), v18, v19, v20, v21, v22, v23, v24, v25, v26, .int iLv, .int iWs, v29, v30, v31, v32, v33, v34], zzI cy qmh 8 fMh, zzI cy qmr 8 fX] ∧ ((r = (-2) ∧ ¬ ∃ k : Nat, k < 8 ∧ iA = nI k) ∨ (r = (-3) ∧ ∃ k : Nat, k < 8 ∧ iA = nI k ∧ fMh k = 2) ∨ (r = (-4) ∧ ∃ k : Nat, k < 8 ∧ iA = nI k ∧ ¬ fMh k = 2 ∧ fMh k = 0) ∨ (r = 0 ∧ ∃ k : Nat, k < 8 ∧ iA = nI k ∧ ¬ fMh k = 2 ∧ ¬ fMh k = 0)))) := by
  refine enW RX6 (by decide) rfl (Nat.le_of_ble_eq_true rfl) (fun p e s m below meth c ls A hx hb hml hown hts hr hlocks hP hN hl hin hD hA hS => ?_)
  have hin : meth.name = _ := hin
  have hK := hN.1
  replace hl : lv_has ls 2 [(0, .ref qm), (1, .int iA)] := hl
  refine lv_iload_n hx hb dX6_noRow_0 rfl (lv_at hl 1 rfl) ?_
  refine lv_i2l (v := iA.toInt64) hx hb dX6_noRow_1 rfl ?_
  refine lv_lconst (v := 0) hx hb dX6_noRow_2 (by decide) ?_
  refine lv_ldc2 hx hb hown (hts _ m_t960) dX6_noRow_3 ?_
  refine kRi (rS (As := [.long iA.toInt64, .long 0, .long 7]) (rest := []) ⟨hx, hb, hml, hown, hts⟩ (c_X6_in l G cy iA.toInt64 0 7) L_X6_74 (preRS hN hP [] rfl) rfl ⟨Nat.le_of_ble_eq_true rfl, Nat.le_of_ble_eq_true rfl⟩ hl.1 (Nat.le_of_ble_eq_true rfl) dX6_noRow_6 ⟨Nat.le_of_ble_eq_true rfl, Nat.le_of_ble_eq_true rfl⟩) (fun r_1 h_2 => ?_)
  rcases h_2 with ⟨rfl, h_3⟩ | ⟨rfl, h_3⟩
  · obtain ⟨k_4, hk_5, hk_6, rfl⟩ := iv_nI 0 7 (by decide) (by decide) h_3
    refine lv_if_ne (tgt := 19) hx hb dX6_noRow_9 (by decide) (fun _ => ?_) (fun h9 => absurd h9 (by decide))
    refine lv_aload_n hx hb dX6_noRow_19 rfl (lv_at hl 0 rfl) ?_
    refine va_get (D := G) (ci := 5) (v := .ref qmh) (C := RX6) (T := TX6) (N := 35) hx hb hts iX_X6 hown hK hP 0 rfl rfl 0 (by decide) (hts _ m_t850) (fun _ h9 => h9) rfl dX6_noRow_20 ?_
    refine lv_iload_n hx hb dX6_noRow_23 rfl (lv_at hl 1 rfl) ?_
    refine va_iald hx hb hK hP 1 0 rfl rfl (in_shelf h_3) dX6_noRow_24 ?_
    refine lv_seti (v := fMh k_4) (congrArg fMh (cl8 (by omega))) ?_
    refine lv_iconst (v := 2) hx hb dX6_noRow_25 (by decide) ?_
    refine lv_icmp_ne (tgt := 36) hx hb dX6_noRow_26 (by decide) (fun c_8 => ?_) (fun c_8 => ?_)
    · refine lv_aload_n hx hb dX6_noRow_36 rfl (lv_at hl 0 rfl) ?_
      refine va_get (D := G) (ci := 5) (v := .ref qmh) (C := RX6) (T := TX6) (N := 35) hx hb hts iX_X6 hown hK hP 0 rfl rfl 0 (by decide) (hts _ m_t850) (fun _ h9 => h9) rfl dX6_noRow_37 ?_
      refine lv_iload_n hx hb dX6_noRow_40 rfl (lv_at hl 1 rfl) ?_
      refine va_iald hx hb hK hP 1 0 rfl rfl (in_shelf h_3) dX6_noRow_41 ?_
      refine lv_seti (v := fMh k_4) (congrArg fMh (cl8 (by omega))) ?_
      refine lv_if_ne (tgt := 54) hx hb dX6_noRow_42 (by decide) (fun c_9 => ?_) (fun c_9 => ?_)
      · refine lv_iconst (v := 0) hx hb dX6_noRow_54 (by decide) ?_
        exact endW (u := [zzO qm 5 [.ref qmh, v1, v2, v3, v4, v5, v6, v7, v8, .ref qmr, .int (nI (T_nb tA)), .ref qmB, .int (nI (T_np tA)), .ref qmO, .ref qmK, .int iEn, .int iTk, .int (T_sd tA), v18, v19, v20, v21, v22, v23, v24, v25, v26, .int iLv, .int iWs, v29, v30, v31, v32, v33, v34], zzI cy qmh 8 fMh, zzI cy qmr 8 fMr]) hx hb hr hlocks rfl (hP.sub [0, 1, 2] rfl) (hD.sub [0, 1, 2] (by decide +kernel) rfl) hS ⟨fMr, rfl, (Or.inr (Or.inr (Or.inr (⟨rfl, ⟨k_4, by omega, rfl, c_8, c_9⟩⟩))))⟩ dX6_noRow_55
      · refine lv_aload_n hx hb dX6_noRow_45 rfl (lv_at hl 0 rfl) ?_
        refine lv_bipush (v := (-4)) hx hb dX6_noRow_46 (by decide) ?_
        refine cVi (As := [.int (-4)]) (rest := []) (b := qm) (q := (RX6, TX6, 35)) ⟨hx, hb, hml, hown, hts⟩ (c_X6_refuse4 l G cy (s.heap).size qm (.ref qmh) v1 v2 v3 v4 v5 v6 v7 v8 qmr tA qmB qmO qmK iEn iTk v18 v19 v20 v21 v22 v23 v24 v25 v26 iLv iWs v29 v30 v31 v32 v33 v34 fMr) L_X6_91 hN hP hD hS hA [0, 2] [false, true, false] rfl (by decide +kernel) rfl 0 5 rfl rfl rfl ⟨Nat.le_of_ble_eq_true rfl, Nat.le_of_ble_eq_true rfl⟩ hl.1 (Nat.le_of_ble_eq_true rfl) dX6_noRow_48 ⟨Nat.le_of_ble_eq_true rfl, Nat.le_of_ble_eq_true rfl⟩ (fun r_10 u_12 H locs h_11 => ?_)
        clear hP hD hS
        intro hP hD hS
        obtain ⟨fX_13, rfl, h_11⟩ := h_11
        have hPD := pd_as [zzI cy qmh 8 fMh, zzO qm 5 [.ref qmh, v1, v2, v3, v4, v5, v6, v7, v8, .ref qmr, .int (nI (T_nb tA)), .ref qmB, .int (nI (T_np tA)), .ref qmO, .ref qmK, .int iEn, .int iTk, .int (T_sd tA), v18, v19, v20, v21, v22, v23, v24, v25, v26, .int iLv, .int iWs, v29, v30, v31, v32, v33, v34], zzI cy qmr 8 fX_13] hP hD rfl
        clear hP hD
        obtain ⟨hP, hD⟩ := hPD
        subst h_11
        refine lv_goto (tgt := 55) hx hb dX6_noRow_51 (by decide) ?_
        exact endW (u := [zzO qm 5 [.ref qmh, v1, v2, v3, v4, v5, v6, v7, v8, .ref qmr, .int (nI (T_nb tA)), .ref qmB, .int (nI (T_np tA)), .ref qmO, .ref qmK, .int iEn, .int iTk, .int (T_sd tA), v18, v19, v20, v21, v22, v23, v24, v25, v26, .int iLv, .int iWs, v29, v30, v31, v32, v33, v34], zzI cy qmh 8 fMh, zzI cy qmr 8 fX_13]) hx hb hr hlocks rfl (hP.sub [1, 0, 2] rfl) (hD.sub [1, 0, 2] (by decide +kernel) rfl) hS ⟨fX_13, rfl, (Or.inr (Or.inr (Or.inl (⟨rfl, ⟨k_4, by omega, rfl, c_8, c_9⟩⟩))))⟩ dX6_noRow_55
    · refine lv_aload_n hx hb dX6_noRow_29 rfl (lv_at hl 0 rfl) ?_
      refine lv_bipush (v := (-3)) hx hb dX6_noRow_30 (by decide) ?_
      refine cVi (As := [.int (-3)]) (rest := []) (b := qm) (q := (RX6, TX6, 35)) ⟨hx, hb, hml, hown, hts⟩ (c_X6_refuse3 l G cy (s.heap).size qm (.ref qmh) v1 v2 v3 v4 v5 v6 v7 v8 qmr tA qmB qmO qmK iEn iTk v18 v19 v20 v21 v22 v23 v24 v25 v26 iLv iWs v29 v30 v31 v32 v33 v34 fMr) L_X6_91 hN hP hD hS hA [0, 2] [false, true, false] rfl (by decide +kernel) rfl 0 5 rfl rfl rfl ⟨Nat.le_of_ble_eq_true rfl, Nat.le_of_ble_eq_true rfl⟩ hl.1 (Nat.le_of_ble_eq_true rfl) dX6_noRow_32 ⟨Nat.le_of_ble_eq_true rfl, Nat.le_of_ble_eq_true rfl⟩ (fun r_14 u_16 H locs h_15 => ?_)
      clear hP hD hS
      intro hP hD hS
      obtain ⟨fX_17, rfl, h_15⟩ := h_15
      have hPD := pd_as [zzI cy qmh 8 fMh, zzO qm 5 [.ref qmh, v1, v2, v3, v4, v5, v6, v7, v8, .ref qmr, .int (nI (T_nb tA)), .ref qmB, .int (nI (T_np tA)), .ref qmO, .ref qmK, .int iEn, .int iTk, .int (T_sd tA), v18, v19, v20, v21, v22, v23, v24, v25, v26, .int iLv, .int iWs, v29, v30, v31, v32, v33, v34], zzI cy qmr 8 fX_17] hP hD rfl
      clear hP hD
      obtain ⟨hP, hD⟩ := hPD
      subst h_15
      exact endW (u := [zzO qm 5 [.ref qmh, v1, v2, v3, v4, v5, v6, v7, v8, .ref qmr, .int (nI (T_nb tA)), .ref qmB, .int (nI (T_np tA)), .ref qmO, .ref qmK, .int iEn, .int iTk, .int (T_sd tA), v18, v19, v20, v21, v22, v23, v24, v25, v26, .int iLv, .int iWs, v29, v30, v31, v32, v33, v34], zzI cy qmh 8 fMh, zzI cy qmr 8 fX_17]) hx hb hr hlocks rfl (hP.sub [1, 0, 2] rfl) (hD.sub [1, 0, 2] (by decide +kernel) rfl) hS ⟨fX_17, rfl, (Or.inr (Or.inl (⟨rfl, ⟨k_4, by omega, rfl, c_8⟩⟩)))⟩ dX6_noRow_35
  · refine lv_if_ne (tgt := 19) hx hb dX6_noRow_9 (by decide) (fun h9 => absurd (by decide) h9) (fun _ => ?_)
    refine lv_aload_n hx hb dX6_noRow_12 rfl (lv_at hl 0 rfl) ?_
    refine lv_bipush (v := (-2)) hx hb dX6_noRow_13 (by decide) ?_
    refine cVi (As := [.int (-2)]) (rest := []) (b := qm) (q := (RX6, TX6, 35)) ⟨hx, hb, hml, hown, hts⟩ (c_X6_refuse2 l G cy (s.heap).size qm (.ref qmh) v1 v2 v3 v4 v5 v6 v7 v8 qmr tA qmB qmO qmK iEn iTk v18 v19 v20 v21 v22 v23 v24 v25 v26 iLv iWs v29 v30 v31 v32 v33 v34 fMr) L_X6_91 hN hP hD hS hA [0, 2] [false, true, false] rfl (by decide +kernel) rfl 0 5 rfl rfl rfl ⟨Nat.le_of_ble_eq_true rfl, Nat.le_of_ble_eq_true rfl⟩ hl.1 (Nat.le_of_ble_eq_true rfl) dX6_noRow_15 ⟨Nat.le_of_ble_eq_true rfl, Nat.le_of_ble_eq_true rfl⟩ (fun r_19 u_21 H locs h_20 => ?_)
    clear hP hD hS
    intro hP hD hS
    obtain ⟨fX_22, rfl, h_20⟩ := h_20
    have hPD := pd_as [zzI cy qmh 8 fMh, zzO qm 5 [.ref qmh, v1, v2, v3, v4, v5, v6, v7, v8, .ref qmr, .int (nI (T_nb tA)), .ref qmB, .int (nI (T_np tA)), .ref qmO, .ref qmK, .int iEn, .int iTk, .int (T_sd tA), v18, v19, v20, v21, v22, v23, v24, v25, v26, .int iLv, .int iWs, v29, v30, v31, v32, v33, v34], zzI cy qmr 8 fX_22] hP hD rfl
    clear hP hD
    obtain ⟨hP, hD⟩ := hPD
    subst h_20
    exact endW (u := [zzO qm 5 [.ref qmh, v1, v2, v3, v4, v5, v6, v7, v8, .ref qmr, .int (nI (T_nb tA)), .ref qmB, .int (nI (T_np tA)), .ref qmO, .ref qmK, .int iEn, .int iTk, .int (T_sd tA), v18, v19, v20, v21, v22, v23, v24, v25, v26, .int iLv, .int iWs, v29, v30, v31, v32, v33, v34], zzI cy qmh 8 fMh, zzI cy qmr 8 fX_22]) hx hb hr hlocks rfl (hP.sub [1, 0, 2] rfl) (hD.sub [1, 0, 2] (by decide +kernel) rfl) hS ⟨fX_22, rfl, (Or.inl (⟨rfl, no_of7 h_3⟩))⟩ dX6_noRow_18
set_option maxHeartbeats 4000000 in
set_option maxRecDepth 100000 in
theorem c_X6_noRule (l : Launch) (G : va_G) (cy : Nat → ClassId) (sz : Nat) (qm : Nat) (qmh : Nat) (v1 : Value) (v2 : Value) (v3 : Value) (v4 : Value) (v5 : Value) (v6 : Value) (v7 : Value) (v8 : Value) (qmr : Nat) (tA : TA) (qmB : Nat) (qmO : Nat) (qmK : Nat) (iEn : Int32) (iTk : Int32) (v18 : Value) (v19 : Value) (v20 : Value) (v21 : Value) (v22 : Value) (v23 : Value) (v24 : Value) (v25 : Value) (v26 : Value) (iLv : Int32) (iWs : Int32) (v29 : Value) (v30 : Value) (v31 : Value) (v32 : Value) (v33 : Value) (v34 : Value) (fMh : Nat → Int32) (fMr : Nat → Int32) (iA : Int32)   : MW l yX6_noRule cX6_noRule 2 (some .int) 3 0 0 G cy [zzO qm 5 [.ref qmh, v1, v2, v3, v4, v5, v6, v7, v8, .ref qmr, .int (nI (T_nb tA)), .ref qmB, .int (nI (T_np tA)), .ref qmO, .ref qmK, .int iEn, .int iTk, .int (T_sd tA), v18, v19, v20, v21, v22, v23, v24, v25, v26, .int iLv, .int iWs, v29, v30, v31, v32, v33, v34], zzI cy qmh 8 fMh, zzI cy qmr 8 fMr] sz [.ref qm, .int iA] (Wi G (fun r u => ∃ (fX : Nat → Int32), u = [zzO qm 5 [.ref qmh, v1, v2, v3, v4, v5, v6, v7, v8, .ref qmr, .int (nI (T_nb tA)), .ref qmB, .int (nI (T_np tA)), .ref qmO, .ref qmK, .int iEn, .int iTk, .int (T_sd tA), v18, v19, v20, v21, v22, v23, v24, v25, v26, .int iLv, .int iWs, v29, v30, v31, v32, v33, v34], zzI cy qmh 8 fMh, zzI cy qmr 8 fX] ∧ ((r = (-2) ∧ ¬ ∃ k : Nat, k < 8 ∧ iA = nI k) ∨ (r = (-3) ∧ ∃ k : Nat, k < 8 ∧ iA = nI k ∧ fMh k = 1) ∨ (r = (-4) ∧ ∃ k : Nat, k < 8 ∧ iA = nI k ∧ ¬ fMh k = 1 ∧ fMh k = 0) ∨ (r = 0 ∧ ∃ k : Nat, k < 8 ∧ iA = nI k ∧ ¬ fMh k = 1 ∧ ¬ fMh k = 0)))) := by
  refine enW RX6 (by decide) rfl (Nat.le_of_ble_eq_true rfl) (fun p e s m below meth c ls A hx hb hml hown hts hr hlocks hP hN hl hin hD hA hS => ?_)
  have hin : meth.name = _ := hin
  have hK := hN.1
  replace hl : lv_has ls 2 [(0, .ref qm), (1, .int iA)] := hl
  refine lv_iload_n hx hb dX6_noRule_0 rfl (lv_at hl 1 rfl) ?_
  refine lv_i2l (v := iA.toInt64) hx hb dX6_noRule_1 rfl ?_
  refine lv_lconst (v := 0) hx hb dX6_noRule_2 (by decide) ?_
  refine lv_ldc2 hx hb hown (hts _ m_t960) dX6_noRule_3 ?_
  refine kRi (rS (As := [.long iA.toInt64, .long 0, .long 7]) (rest := []) ⟨hx, hb, hml, hown, hts⟩ (c_X6_in l G cy iA.toInt64 0 7) L_X6_74 (preRS hN hP [] rfl) rfl ⟨Nat.le_of_ble_eq_true rfl, Nat.le_of_ble_eq_true rfl⟩ hl.1 (Nat.le_of_ble_eq_true rfl) dX6_noRule_6 ⟨Nat.le_of_ble_eq_true rfl, Nat.le_of_ble_eq_true rfl⟩) (fun r_1 h_2 => ?_)
  rcases h_2 with ⟨rfl, h_3⟩ | ⟨rfl, h_3⟩
  · obtain ⟨k_4, hk_5, hk_6, rfl⟩ := iv_nI 0 7 (by decide) (by decide) h_3
    refine lv_if_ne (tgt := 19) hx hb dX6_noRule_9 (by decide) (fun _ => ?_) (fun h9 => absurd h9 (by decide))
    refine lv_aload_n hx hb dX6_noRule_19 rfl (lv_at hl 0 rfl) ?_
    refine va_get (D := G) (ci := 5) (v := .ref qmh) (C := RX6) (T := TX6) (N := 35) hx hb hts iX_X6 hown hK hP 0 rfl rfl 0 (by decide) (hts _ m_t850) (fun _ h9 => h9) rfl dX6_noRule_20 ?_
    refine lv_iload_n hx hb dX6_noRule_23 rfl (lv_at hl 1 rfl) ?_
    refine va_iald hx hb hK hP 1 0 rfl rfl (in_shelf h_3) dX6_noRule_24 ?_
    refine lv_seti (v := fMh k_4) (congrArg fMh (cl8 (by omega))) ?_
    refine lv_iconst (v := 1) hx hb dX6_noRule_25 (by decide) ?_
    refine lv_icmp_ne (tgt := 36) hx hb dX6_noRule_26 (by decide) (fun c_8 => ?_) (fun c_8 => ?_)
    · refine lv_aload_n hx hb dX6_noRule_36 rfl (lv_at hl 0 rfl) ?_
      refine va_get (D := G) (ci := 5) (v := .ref qmh) (C := RX6) (T := TX6) (N := 35) hx hb hts iX_X6 hown hK hP 0 rfl rfl 0 (by decide) (hts _ m_t850) (fun _ h9 => h9) rfl dX6_noRule_37 ?_
      refine lv_iload_n hx hb dX6_noRule_40 rfl (lv_at hl 1 rfl) ?_
      refine va_iald hx hb hK hP 1 0 rfl rfl (in_shelf h_3) dX6_noRule_41 ?_
      refine lv_seti (v := fMh k_4) (congrArg fMh (cl8 (by omega))) ?_
      refine lv_if_ne (tgt := 54) hx hb dX6_noRule_42 (by decide) (fun c_9 => ?_) (fun c_9 => ?_)
      · refine lv_iconst (v := 0) hx hb dX6_noRule_54 (by decide) ?_
        exact endW (u := [zzO qm 5 [.ref qmh, v1, v2, v3, v4, v5, v6, v7, v8, .ref qmr, .int (nI (T_nb tA)), .ref qmB, .int (nI (T_np tA)), .ref qmO, .ref qmK, .int iEn, .int iTk, .int (T_sd tA), v18, v19, v20, v21, v22, v23, v24, v25, v26, .int iLv, .int iWs, v29, v30, v31, v32, v33, v34], zzI cy qmh 8 fMh, zzI cy qmr 8 fMr]) hx hb hr hlocks rfl (hP.sub [0, 1, 2] rfl) (hD.sub [0, 1, 2] (by decide +kernel) rfl) hS ⟨fMr, rfl, (Or.inr (Or.inr (Or.inr (⟨rfl, ⟨k_4, by omega, rfl, c_8, c_9⟩⟩))))⟩ dX6_noRule_55
      · refine lv_aload_n hx hb dX6_noRule_45 rfl (lv_at hl 0 rfl) ?_
        refine lv_bipush (v := (-4)) hx hb dX6_noRule_46 (by decide) ?_
        refine cVi (As := [.int (-4)]) (rest := []) (b := qm) (q := (RX6, TX6, 35)) ⟨hx, hb, hml, hown, hts⟩ (c_X6_refuse4 l G cy (s.heap).size qm (.ref qmh) v1 v2 v3 v4 v5 v6 v7 v8 qmr tA qmB qmO qmK iEn iTk v18 v19 v20 v21 v22 v23 v24 v25 v26 iLv iWs v29 v30 v31 v32 v33 v34 fMr) L_X6_91 hN hP hD hS hA [0, 2] [false, true, false] rfl (by decide +kernel) rfl 0 5 rfl rfl rfl ⟨Nat.le_of_ble_eq_true rfl, Nat.le_of_ble_eq_true rfl⟩ hl.1 (Nat.le_of_ble_eq_true rfl) dX6_noRule_48 ⟨Nat.le_of_ble_eq_true rfl, Nat.le_of_ble_eq_true rfl⟩ (fun r_10 u_12 H locs h_11 => ?_)
        clear hP hD hS
        intro hP hD hS
        obtain ⟨fX_13, rfl, h_11⟩ := h_11
        have hPD := pd_as [zzI cy qmh 8 fMh, zzO qm 5 [.ref qmh, v1, v2, v3, v4, v5, v6, v7, v8, .ref qmr, .int (nI (T_nb tA)), .ref qmB, .int (nI (T_np tA)), .ref qmO, .ref qmK, .int iEn, .int iTk, .int (T_sd tA), v18, v19, v20, v21, v22, v23, v24, v25, v26, .int iLv, .int iWs, v29, v30, v31, v32, v33, v34], zzI cy qmr 8 fX_13] hP hD rfl
        clear hP hD
        obtain ⟨hP, hD⟩ := hPD
        subst h_11
        refine lv_goto (tgt := 55) hx hb dX6_noRule_51 (by decide) ?_
        exact endW (u := [zzO qm 5 [.ref qmh, v1, v2, v3, v4, v5, v6, v7, v8, .ref qmr, .int (nI (T_nb tA)), .ref qmB, .int (nI (T_np tA)), .ref qmO, .ref qmK, .int iEn, .int iTk, .int (T_sd tA), v18, v19, v20, v21, v22, v23, v24, v25, v26, .int iLv, .int iWs, v29, v30, v31, v32, v33, v34], zzI cy qmh 8 fMh, zzI cy qmr 8 fX_13]) hx hb hr hlocks rfl (hP.sub [1, 0, 2] rfl) (hD.sub [1, 0, 2] (by decide +kernel) rfl) hS ⟨fX_13, rfl, (Or.inr (Or.inr (Or.inl (⟨rfl, ⟨k_4, by omega, rfl, c_8, c_9⟩⟩))))⟩ dX6_noRule_55
    · refine lv_aload_n hx hb dX6_noRule_29 rfl (lv_at hl 0 rfl) ?_
      refine lv_bipush (v := (-3)) hx hb dX6_noRule_30 (by decide) ?_
      refine cVi (As := [.int (-3)]) (rest := []) (b := qm) (q := (RX6, TX6, 35)) ⟨hx, hb, hml, hown, hts⟩ (c_X6_refuse3 l G cy (s.heap).size qm (.ref qmh) v1 v2 v3 v4 v5 v6 v7 v8 qmr tA qmB qmO qmK iEn iTk v18 v19 v20 v21 v22 v23 v24 v25 v26 iLv iWs v29 v30 v31 v32 v33 v34 fMr) L_X6_91 hN hP hD hS hA [0, 2] [false, true, false] rfl (by decide +kernel) rfl 0 5 rfl rfl rfl ⟨Nat.le_of_ble_eq_true rfl, Nat.le_of_ble_eq_true rfl⟩ hl.1 (Nat.le_of_ble_eq_true rfl) dX6_noRule_32 ⟨Nat.le_of_ble_eq_true rfl, Nat.le_of_ble_eq_true rfl⟩ (fun r_14 u_16 H locs h_15 => ?_)
      clear hP hD hS
      intro hP hD hS
      obtain ⟨fX_17, rfl, h_15⟩ := h_15
      have hPD := pd_as [zzI cy qmh 8 fMh, zzO qm 5 [.ref qmh, v1, v2, v3, v4, v5, v6, v7, v8, .ref qmr, .int (nI (T_nb tA)), .ref qmB, .int (nI (T_np tA)), .ref qmO, .ref qmK, .int iEn, .int iTk, .int (T_sd tA), v18, v19, v20, v21, v22, v23, v24, v25, v26, .int iLv, .int iWs, v29, v30, v31, v32, v33, v34], zzI cy qmr 8 fX_17] hP hD rfl
      clear hP hD
      obtain ⟨hP, hD⟩ := hPD
      subst h_15
      exact endW (u := [zzO qm 5 [.ref qmh, v1, v2, v3, v4, v5, v6, v7, v8, .ref qmr, .int (nI (T_nb tA)), .ref qmB, .int (nI (T_np tA)), .ref qmO, .ref qmK, .int iEn, .int iTk, .int (T_sd tA), v18, v19, v20, v21, v22, v23, v24, v25, v26, .int iLv, .int iWs, v29, v30, v31, v32, v33, v34], zzI cy qmh 8 fMh, zzI cy qmr 8 fX_17]) hx hb hr hlocks rfl (hP.sub [1, 0, 2] rfl) (hD.sub [1, 0, 2] (by decide +kernel) rfl) hS ⟨fX_17, rfl, (Or.inr (Or.inl (⟨rfl, ⟨k_4, by omega, rfl, c_8⟩⟩)))⟩ dX6_noRule_35
  · refine lv_if_ne (tgt := 19) hx hb dX6_noRule_9 (by decide) (fun h9 => absurd (by decide) h9) (fun _ => ?_)
    refine lv_aload_n hx hb dX6_noRule_12 rfl (lv_at hl 0 rfl) ?_
    refine lv_bipush (v := (-2)) hx hb dX6_noRule_13 (by decide) ?_
    refine cVi (As := [.int (-2)]) (rest := []) (b := qm) (q := (RX6, TX6, 35)) ⟨hx, hb, hml, hown, hts⟩ (c_X6_refuse2 l G cy (s.heap).size qm (.ref qmh) v1 v2 v3 v4 v5 v6 v7 v8 qmr tA qmB qmO qmK iEn iTk v18 v19 v20 v21 v22 v23 v24 v25 v26 iLv iWs v29 v30 v31 v32 v33 v34 fMr) L_X6_91 hN hP hD hS hA [0, 2] [false, true, false] rfl (by decide +kernel) rfl 0 5 rfl rfl rfl ⟨Nat.le_of_ble_eq_true rfl, Nat.le_of_ble_eq_true rfl⟩ hl.1 (Nat.le_of_ble_eq_true rfl) dX6_noRule_15 ⟨Nat.le_of_ble_eq_true rfl, Nat.le_of_ble_eq_true rfl⟩ (fun r_19 u_21 H locs h_20 => ?_)
    clear hP hD hS
    intro hP hD hS
    obtain ⟨fX_22, rfl, h_20⟩ := h_20
    have hPD := pd_as [zzI cy qmh 8 fMh, zzO qm 5 [.ref qmh, v1, v2, v3, v4, v5, v6, v7, v8, .ref qmr, .int (nI (T_nb tA)), .ref qmB, .int (nI (T_np tA)), .ref qmO, .ref qmK, .int iEn, .int iTk, .int (T_sd tA), v18, v19, v20, v21, v22, v23, v24, v25, v26, .int iLv, .int iWs, v29, v30, v31, v32, v33, v34], zzI cy qmr 8 fX_22] hP hD rfl
    clear hP hD
    obtain ⟨hP, hD⟩ := hPD
    subst h_20
    exact endW (u := [zzO qm 5 [.ref qmh, v1, v2, v3, v4, v5, v6, v7, v8, .ref qmr, .int (nI (T_nb tA)), .ref qmB, .int (nI (T_np tA)), .ref qmO, .ref qmK, .int iEn, .int iTk, .int (T_sd tA), v18, v19, v20, v21, v22, v23, v24, v25, v26, .int iLv, .int iWs, v29, v30, v31, v32, v33, v34], zzI cy qmh 8 fMh, zzI cy qmr 8 fX_22]) hx hb hr hlocks rfl (hP.sub [1, 0, 2] rfl) (hD.sub [1, 0, 2] (by decide +kernel) rfl) hS ⟨fX_22, rfl, (Or.inl (⟨rfl, no_of7 h_3⟩))⟩ dX6_noRule_18
set_option maxHeartbeats 4000000 in
set_option maxRecDepth 100000 in
theorem c_X6_isUnder (l : Launch) (G : va_G) (cy : Nat → ClassId) (iK : Int32) (iA : Int32)   : MR l yX6_isUnder cX6_isUnder 2 (some .boolean) 1 G cy [] [.int iK, .int iA] (vp_Si (fun r => (r = 1) ∨ (r = 0))) := by
  refine enR RX6 (by decide) rfl (Nat.le_of_ble_eq_true rfl) (fun p e s m below meth c ls hx hb hml hown hts hr hlocks hP hN hl => ?_)
  have hK := hN.1
  replace hl : lv_has ls 2 [(0, .int iK), (1, .int iA)] := hl
  refine lv_iload_n hx hb dX6_isUnder_0 rfl (lv_at hl 1 rfl) ?_
  refine lv_if_eq (tgt := 29) hx hb dX6_isUnder_1 (by decide) (fun c_1 => ?_) (fun c_1 => ?_)
  · refine lv_iconst (v := 1) hx hb dX6_isUnder_29 (by decide) ?_
    refine lv_goto (tgt := 34) hx hb dX6_isUnder_30 (by decide) ?_
    exact endR hx hb hr hlocks rfl (Or.inl rfl) dX6_isUnder_34
  · refine lv_iload_n hx hb dX6_isUnder_4 rfl (lv_at hl 0 rfl) ?_
    refine lv_iload_n hx hb dX6_isUnder_5 rfl (lv_at hl 1 rfl) ?_
    refine lv_icmp_eq (tgt := 29) hx hb dX6_isUnder_6 (by decide) (fun c_2 => ?_) (fun c_2 => ?_)
    · refine lv_iconst (v := 1) hx hb dX6_isUnder_29 (by decide) ?_
      refine lv_goto (tgt := 34) hx hb dX6_isUnder_30 (by decide) ?_
      exact endR hx hb hr hlocks rfl (Or.inl rfl) dX6_isUnder_34
    · refine lv_iload_n hx hb dX6_isUnder_9 rfl (lv_at hl 1 rfl) ?_
      refine lv_iconst (v := 1) hx hb dX6_isUnder_10 (by decide) ?_
      refine lv_icmp_ne (tgt := 19) hx hb dX6_isUnder_11 (by decide) (fun c_3 => ?_) (fun c_3 => ?_)
      · refine lv_iload_n hx hb dX6_isUnder_19 rfl (lv_at hl 1 rfl) ?_
        refine lv_iconst (v := 4) hx hb dX6_isUnder_20 (by decide) ?_
        refine lv_icmp_ne (tgt := 33) hx hb dX6_isUnder_21 (by decide) (fun c_4 => ?_) (fun c_4 => ?_)
        · refine lv_iconst (v := 0) hx hb dX6_isUnder_33 (by decide) ?_
          exact endR hx hb hr hlocks rfl (Or.inr rfl) dX6_isUnder_34
        · refine lv_iload_n hx hb dX6_isUnder_24 rfl (lv_at hl 0 rfl) ?_
          refine lv_iconst (v := 4) hx hb dX6_isUnder_25 (by decide) ?_
          refine lv_icmp_lt (tgt := 33) hx hb dX6_isUnder_26 (by decide) (fun c_5 => ?_) (fun c_5 => ?_)
          · refine lv_iconst (v := 0) hx hb dX6_isUnder_33 (by decide) ?_
            exact endR hx hb hr hlocks rfl (Or.inr rfl) dX6_isUnder_34
          · refine lv_iconst (v := 1) hx hb dX6_isUnder_29 (by decide) ?_
            refine lv_goto (tgt := 34) hx hb dX6_isUnder_30 (by decide) ?_
            exact endR hx hb hr hlocks rfl (Or.inl rfl) dX6_isUnder_34
      · refine lv_iload_n hx hb dX6_isUnder_14 rfl (lv_at hl 0 rfl) ?_
        refine lv_iconst (v := 3) hx hb dX6_isUnder_15 (by decide) ?_
        refine lv_icmp_le (tgt := 29) hx hb dX6_isUnder_16 (by decide) (fun c_6 => ?_) (fun c_6 => ?_)
        · refine lv_iconst (v := 1) hx hb dX6_isUnder_29 (by decide) ?_
          refine lv_goto (tgt := 34) hx hb dX6_isUnder_30 (by decide) ?_
          exact endR hx hb hr hlocks rfl (Or.inl rfl) dX6_isUnder_34
        · refine lv_iload_n hx hb dX6_isUnder_19 rfl (lv_at hl 1 rfl) ?_
          refine lv_iconst (v := 4) hx hb dX6_isUnder_20 (by decide) ?_
          refine lv_icmp_ne (tgt := 33) hx hb dX6_isUnder_21 (by decide) (fun c_7 => ?_) (fun c_7 => ?_)
          · refine lv_iconst (v := 0) hx hb dX6_isUnder_33 (by decide) ?_
            exact endR hx hb hr hlocks rfl (Or.inr rfl) dX6_isUnder_34
          · refine lv_iload_n hx hb dX6_isUnder_24 rfl (lv_at hl 0 rfl) ?_
            refine lv_iconst (v := 4) hx hb dX6_isUnder_25 (by decide) ?_
            refine lv_icmp_lt (tgt := 33) hx hb dX6_isUnder_26 (by decide) (fun c_8 => ?_) (fun c_8 => ?_)
            · refine lv_iconst (v := 0) hx hb dX6_isUnder_33 (by decide) ?_
              exact endR hx hb hr hlocks rfl (Or.inr rfl) dX6_isUnder_34
            · refine lv_iconst (v := 1) hx hb dX6_isUnder_29 (by decide) ?_
              refine lv_goto (tgt := 34) hx hb dX6_isUnder_30 (by decide) ?_
              exact endR hx hb hr hlocks rfl (Or.inl rfl) dX6_isUnder_34
set_option maxHeartbeats 4000000 in
set_option maxRecDepth 100000 in
theorem c_X6_noReading (l : Launch) (G : va_G) (cy : Nat → ClassId) (sz : Nat) (qm : Nat) (v0 : Value) (v1 : Value) (v2 : Value) (v3 : Value) (v4 : Value) (v5 : Value) (v6 : Value) (v7 : Value) (v8 : Value) (qmr : Nat) (tA : TA) (qmB : Nat) (qmO : Nat) (qmK : Nat) (iEn : Int32) (iTk : Int32) (v18 : Value) (v19 : Value) (v20 : Value) (v21 : Value) (v22 : Value) (v23 : Value) (v24 : Value) (v25 : Value) (v26 : Value) (iLv : Int32) (iWs : Int32) (v29 : Value) (v30 : Value) (v31 : Value) (v32 : Value) (v33 : Value) (v34 : Value) (rB : Nat → Nat) (rO : Nat → Nat) (fMr : Nat → Int32) (iA : Int32) (iB : Int32)  (hB : T_nb tA ≤ 8) (hPp : T_np tA ≤ 8) : MW l yX6_noReading cX6_noReading 3 (some .int) 3 0 0 G cy [zzO qm 5 [v0, v1, v2, v3, v4, v5, v6, v7, v8, .ref qmr, .int (nI (T_nb tA)), .ref qmB, .int (nI (T_np tA)), .ref qmO, .ref qmK, .int iEn, .int iTk, .int (T_sd tA), v18, v19, v20, v21, v22, v23, v24, v25, v26, .int iLv, .int iWs, v29, v30, v31, v32, v33, v34], zzG cy 3 qmB rB, zzI cy (rB 0) 4 (bkR tA 0), zzI cy (rB 1) 4 (bkR tA 1), zzI cy (rB 2) 4 (bkR tA 2), zzI cy (rB 3) 4 (bkR tA 3), zzI cy (rB 4) 4 (bkR tA 4), zzI cy (rB 5) 4 (bkR tA 5), zzI cy (rB 6) 4 (bkR tA 6), zzI cy (rB 7) 4 (bkR tA 7), zzG cy 3 qmO rO, zzI cy (rO 0) 5 (onR tA 0), zzI cy (rO 1) 5 (onR tA 1), zzI cy (rO 2) 5 (onR tA 2), zzI cy (rO 3) 5 (onR tA 3), zzI cy (rO 4) 5 (onR tA 4), zzI cy (rO 5) 5 (onR tA 5), zzI cy (rO 6) 5 (onR tA 6), zzI cy (rO 7) 5 (onR tA 7), zzI cy qmr 8 fMr] sz [.ref qm, .int iA, .int iB] (Wi G (fun r u => ∃ (fX : Nat → Int32), u = [zzO qm 5 [v0, v1, v2, v3, v4, v5, v6, v7, v8, .ref qmr, .int (nI (T_nb tA)), .ref qmB, .int (nI (T_np tA)), .ref qmO, .ref qmK, .int iEn, .int iTk, .int (T_sd tA), v18, v19, v20, v21, v22, v23, v24, v25, v26, .int iLv, .int iWs, v29, v30, v31, v32, v33, v34], zzG cy 3 qmB rB, zzI cy (rB 0) 4 (bkR tA 0), zzI cy (rB 1) 4 (bkR tA 1), zzI cy (rB 2) 4 (bkR tA 2), zzI cy (rB 3) 4 (bkR tA 3), zzI cy (rB 4) 4 (bkR tA 4), zzI cy (rB 5) 4 (bkR tA 5), zzI cy (rB 6) 4 (bkR tA 6), zzI cy (rB 7) 4 (bkR tA 7), zzG cy 3 qmO rO, zzI cy (rO 0) 5 (onR tA 0), zzI cy (rO 1) 5 (onR tA 1), zzI cy (rO 2) 5 (onR tA 2), zzI cy (rO 3) 5 (onR tA 3), zzI cy (rO 4) 5 (onR tA 4), zzI cy (rO 5) 5 (onR tA 5), zzI cy (rO 6) 5 (onR tA 6), zzI cy (rO 7) 5 (onR tA 7), zzI cy qmr 8 fX] ∧ ((r = (-2) ∧ ¬ ((∃ k : Nat, k < T_np tA ∧ iA = nI k) ∧ (∃ k : Nat, k < T_nb tA ∧ iB = nI k))) ∨ (r = (-5) ∧ ∃ k m : Nat, k < T_np tA ∧ m < T_nb tA ∧ iA = nI k ∧ iB = nI m ∧ (T_wh tA m = true ∨ T_gn tA k = true)) ∨ (r = 0 ∧ ∃ k m : Nat, k < T_np tA ∧ m < T_nb tA ∧ iA = nI k ∧ iB = nI m ∧ T_wh tA m = false ∧ T_gn tA k = false)))) := by
  refine enW RX6 (by decide) rfl (Nat.le_of_ble_eq_true rfl) (fun p e s m below meth c ls A hx hb hml hown hts hr hlocks hP hN hl hin hD hA hS => ?_)
  have hin : meth.name = _ := hin
  have hK := hN.1
  replace hl : lv_has ls 3 [(0, .ref qm), (1, .int iA), (2, .int iB)] := hl
  refine lv_aload_n hx hb dX6_noReading_0 rfl (lv_at hl 0 rfl) ?_
  refine lv_iload_n hx hb dX6_noReading_1 rfl (lv_at hl 1 rfl) ?_
  refine lv_i2l (v := iA.toInt64) hx hb dX6_noReading_2 rfl ?_
  refine kRi (rV (As := [.long iA.toInt64]) (rest := []) (b := qm) ⟨hx, hb, hml, hown, hts⟩ (c_X6_isOne l G cy qm v0 v1 v2 v3 v4 v5 v6 v7 v8 (.ref qmr) tA qmB qmO qmK iEn iTk v18 v19 v20 v21 v22 v23 v24 v25 v26 iLv iWs v29 v30 v31 v32 v33 v34 iA hPp) L_X6_236 (preRV (q := (RX6, TX6, 35)) hN hP [0] rfl 0 5 rfl rfl) rfl ⟨Nat.le_of_ble_eq_true rfl, Nat.le_of_ble_eq_true rfl⟩ hl.1 (Nat.le_of_ble_eq_true rfl) dX6_noReading_3 ⟨Nat.le_of_ble_eq_true rfl, Nat.le_of_ble_eq_true rfl⟩) (fun r_1 h_2 => ?_)
  rcases h_2 with ⟨rfl, h_3⟩ | ⟨rfl, h_3⟩
  · obtain ⟨k_4, hk_5, rfl⟩ := h_3
    refine lv_if_eq (tgt := 18) hx hb dX6_noReading_6 (by decide) (fun h9 => absurd h9 (by decide)) (fun _ => ?_)
    refine lv_aload_n hx hb dX6_noReading_9 rfl (lv_at hl 0 rfl) ?_
    refine lv_iload_n hx hb dX6_noReading_10 rfl (lv_at hl 2 rfl) ?_
    refine lv_i2l (v := iB.toInt64) hx hb dX6_noReading_11 rfl ?_
    refine kRi (rV (As := [.long iB.toInt64]) (rest := []) (b := qm) ⟨hx, hb, hml, hown, hts⟩ (c_X6_isBook l G cy qm v0 v1 v2 v3 v4 v5 v6 v7 v8 (.ref qmr) tA qmB qmO qmK iEn iTk v18 v19 v20 v21 v22 v23 v24 v25 v26 iLv iWs v29 v30 v31 v32 v33 v34 iB hB) L_X6_229 (preRV (q := (RX6, TX6, 35)) hN hP [0] rfl 0 5 rfl rfl) rfl ⟨Nat.le_of_ble_eq_true rfl, Nat.le_of_ble_eq_true rfl⟩ hl.1 (Nat.le_of_ble_eq_true rfl) dX6_noReading_12 ⟨Nat.le_of_ble_eq_true rfl, Nat.le_of_ble_eq_true rfl⟩) (fun r_7 h_8 => ?_)
    rcases h_8 with ⟨rfl, h_9⟩ | ⟨rfl, h_9⟩
    · obtain ⟨k_10, hk_11, rfl⟩ := h_9
      refine lv_if_ne (tgt := 25) hx hb dX6_noReading_15 (by decide) (fun _ => ?_) (fun h9 => absurd h9 (by decide))
      refine lv_aload_n hx hb dX6_noReading_25 rfl (lv_at hl 0 rfl) ?_
      refine lv_iload_n hx hb dX6_noReading_26 rfl (lv_at hl 2 rfl) ?_
      refine kRi (rV (As := [.int (nI k_10)]) (rest := []) (b := qm) ⟨hx, hb, hml, hown, hts⟩ (c_X6_isWhite l G cy qm v0 v1 v2 v3 v4 v5 v6 v7 v8 (.ref qmr) tA qmB qmO qmK iEn iTk v18 v19 v20 v21 v22 v23 v24 v25 v26 iLv iWs v29 v30 v31 v32 v33 v34 rB k_10 (by first | omega | (simp only [nb_sr, np_sr, nb_wr, np_wr, nb_rd, np_rd, nb_ch, np_ch, nb_zr, np_zr, nb_za, np_za, nb_ey, np_ey, nb_hf, np_hf, nb_dd, np_dd, nb_so, np_so, nb_skn, np_skn, nb_swh, np_swh, nb_sgn, np_sgn, nb_ssd, np_ssd, nb_sgo, np_sgo, nb_sag, np_sag]; omega))) L_X6_248 (preRV (q := (RX6, TX6, 35)) hN hP [0, 1, 2, 3, 4, 5, 6, 7, 8, 9] rfl 0 5 rfl rfl) rfl ⟨Nat.le_of_ble_eq_true rfl, Nat.le_of_ble_eq_true rfl⟩ hl.1 (Nat.le_of_ble_eq_true rfl) dX6_noReading_27 ⟨Nat.le_of_ble_eq_true rfl, Nat.le_of_ble_eq_true rfl⟩) (fun r_13 h_14 => ?_)
      rcases h_14 with ⟨rfl, h_15⟩ | ⟨rfl, h_15⟩
      · refine lv_if_ne (tgt := 41) hx hb dX6_noReading_30 (by decide) (fun _ => ?_) (fun h9 => absurd h9 (by decide))
        refine lv_aload_n hx hb dX6_noReading_41 rfl (lv_at hl 0 rfl) ?_
        refine lv_bipush (v := (-5)) hx hb dX6_noReading_42 (by decide) ?_
        refine cVi (As := [.int (-5)]) (rest := []) (b := qm) (q := (RX6, TX6, 35)) ⟨hx, hb, hml, hown, hts⟩ (c_X6_refuse5 l G cy (s.heap).size qm v0 v1 v2 v3 v4 v5 v6 v7 v8 qmr tA qmB qmO qmK iEn iTk v18 v19 v20 v21 v22 v23 v24 v25 v26 iLv iWs v29 v30 v31 v32 v33 v34 fMr) L_X6_91 hN hP hD hS hA [0, 19] [false, true, true, true, true, true, true, true, true, true, true, true, true, true, true, true, true, true, true, false] rfl (by decide +kernel) rfl 0 5 rfl rfl rfl ⟨Nat.le_of_ble_eq_true rfl, Nat.le_of_ble_eq_true rfl⟩ hl.1 (Nat.le_of_ble_eq_true rfl) dX6_noReading_44 ⟨Nat.le_of_ble_eq_true rfl, Nat.le_of_ble_eq_true rfl⟩ (fun r_17 u_19 H locs h_18 => ?_)
        clear hP hD hS
        intro hP hD hS
        obtain ⟨fX_20, rfl, h_18⟩ := h_18
        have hPD := pd_as [zzG cy 3 qmB rB, zzI cy (rB 0) 4 (bkR tA 0), zzI cy (rB 1) 4 (bkR tA 1), zzI cy (rB 2) 4 (bkR tA 2), zzI cy (rB 3) 4 (bkR tA 3), zzI cy (rB 4) 4 (bkR tA 4), zzI cy (rB 5) 4 (bkR tA 5), zzI cy (rB 6) 4 (bkR tA 6), zzI cy (rB 7) 4 (bkR tA 7), zzG cy 3 qmO rO, zzI cy (rO 0) 5 (onR tA 0), zzI cy (rO 1) 5 (onR tA 1), zzI cy (rO 2) 5 (onR tA 2), zzI cy (rO 3) 5 (onR tA 3), zzI cy (rO 4) 5 (onR tA 4), zzI cy (rO 5) 5 (onR tA 5), zzI cy (rO 6) 5 (onR tA 6), zzI cy (rO 7) 5 (onR tA 7), zzO qm 5 [v0, v1, v2, v3, v4, v5, v6, v7, v8, .ref qmr, .int (nI (T_nb tA)), .ref qmB, .int (nI (T_np tA)), .ref qmO, .ref qmK, .int iEn, .int iTk, .int (T_sd tA), v18, v19, v20, v21, v22, v23, v24, v25, v26, .int iLv, .int iWs, v29, v30, v31, v32, v33, v34], zzI cy qmr 8 fX_20] hP hD rfl
        clear hP hD
        obtain ⟨hP, hD⟩ := hPD
        subst h_18
        refine lv_goto (tgt := 51) hx hb dX6_noReading_47 (by decide) ?_
        exact endW (u := [zzO qm 5 [v0, v1, v2, v3, v4, v5, v6, v7, v8, .ref qmr, .int (nI (T_nb tA)), .ref qmB, .int (nI (T_np tA)), .ref qmO, .ref qmK, .int iEn, .int iTk, .int (T_sd tA), v18, v19, v20, v21, v22, v23, v24, v25, v26, .int iLv, .int iWs, v29, v30, v31, v32, v33, v34], zzG cy 3 qmB rB, zzI cy (rB 0) 4 (bkR tA 0), zzI cy (rB 1) 4 (bkR tA 1), zzI cy (rB 2) 4 (bkR tA 2), zzI cy (rB 3) 4 (bkR tA 3), zzI cy (rB 4) 4 (bkR tA 4), zzI cy (rB 5) 4 (bkR tA 5), zzI cy (rB 6) 4 (bkR tA 6), zzI cy (rB 7) 4 (bkR tA 7), zzG cy 3 qmO rO, zzI cy (rO 0) 5 (onR tA 0), zzI cy (rO 1) 5 (onR tA 1), zzI cy (rO 2) 5 (onR tA 2), zzI cy (rO 3) 5 (onR tA 3), zzI cy (rO 4) 5 (onR tA 4), zzI cy (rO 5) 5 (onR tA 5), zzI cy (rO 6) 5 (onR tA 6), zzI cy (rO 7) 5 (onR tA 7), zzI cy qmr 8 fX_20]) hx hb hr hlocks rfl (hP.sub [18, 0, 1, 2, 3, 4, 5, 6, 7, 8, 9, 10, 11, 12, 13, 14, 15, 16, 17, 19] rfl) (hD.sub [18, 0, 1, 2, 3, 4, 5, 6, 7, 8, 9, 10, 11, 12, 13, 14, 15, 16, 17, 19] (by decide +kernel) rfl) hS ⟨fX_20, rfl, (Or.inr (Or.inl (⟨rfl, ⟨k_4, k_10, hk_5, hk_11, rfl, rfl, Or.inl h_15⟩⟩)))⟩ dX6_noReading_51
      · refine lv_if_ne (tgt := 41) hx hb dX6_noReading_30 (by decide) (fun h9 => absurd (by decide) h9) (fun _ => ?_)
        refine lv_aload_n hx hb dX6_noReading_33 rfl (lv_at hl 0 rfl) ?_
        refine lv_iload_n hx hb dX6_noReading_34 rfl (lv_at hl 1 rfl) ?_
        refine kRi (rV (As := [.int (nI k_4)]) (rest := []) (b := qm) ⟨hx, hb, hml, hown, hts⟩ (c_X6_isThere l G cy qm v0 v1 v2 v3 v4 v5 v6 v7 v8 (.ref qmr) tA qmB qmO qmK iEn iTk v18 v19 v20 v21 v22 v23 v24 v25 v26 iLv iWs v29 v30 v31 v32 v33 v34 rO k_4 (by first | omega | (simp only [nb_sr, np_sr, nb_wr, np_wr, nb_rd, np_rd, nb_ch, np_ch, nb_zr, np_zr, nb_za, np_za, nb_ey, np_ey, nb_hf, np_hf, nb_dd, np_dd, nb_so, np_so, nb_skn, np_skn, nb_swh, np_swh, nb_sgn, np_sgn, nb_ssd, np_ssd, nb_sgo, np_sgo, nb_sag, np_sag]; omega))) L_X6_81 (preRV (q := (RX6, TX6, 35)) hN hP [0, 10, 11, 12, 13, 14, 15, 16, 17, 18] rfl 0 5 rfl rfl) rfl ⟨Nat.le_of_ble_eq_true rfl, Nat.le_of_ble_eq_true rfl⟩ hl.1 (Nat.le_of_ble_eq_true rfl) dX6_noReading_35 ⟨Nat.le_of_ble_eq_true rfl, Nat.le_of_ble_eq_true rfl⟩) (fun r_22 h_23 => ?_)
        rcases h_23 with ⟨rfl, h_24⟩ | ⟨rfl, h_24⟩
        · refine lv_if_ne (tgt := 50) hx hb dX6_noReading_38 (by decide) (fun _ => ?_) (fun h9 => absurd h9 (by decide))
          refine lv_iconst (v := 0) hx hb dX6_noReading_50 (by decide) ?_
          exact endW (u := [zzO qm 5 [v0, v1, v2, v3, v4, v5, v6, v7, v8, .ref qmr, .int (nI (T_nb tA)), .ref qmB, .int (nI (T_np tA)), .ref qmO, .ref qmK, .int iEn, .int iTk, .int (T_sd tA), v18, v19, v20, v21, v22, v23, v24, v25, v26, .int iLv, .int iWs, v29, v30, v31, v32, v33, v34], zzG cy 3 qmB rB, zzI cy (rB 0) 4 (bkR tA 0), zzI cy (rB 1) 4 (bkR tA 1), zzI cy (rB 2) 4 (bkR tA 2), zzI cy (rB 3) 4 (bkR tA 3), zzI cy (rB 4) 4 (bkR tA 4), zzI cy (rB 5) 4 (bkR tA 5), zzI cy (rB 6) 4 (bkR tA 6), zzI cy (rB 7) 4 (bkR tA 7), zzG cy 3 qmO rO, zzI cy (rO 0) 5 (onR tA 0), zzI cy (rO 1) 5 (onR tA 1), zzI cy (rO 2) 5 (onR tA 2), zzI cy (rO 3) 5 (onR tA 3), zzI cy (rO 4) 5 (onR tA 4), zzI cy (rO 5) 5 (onR tA 5), zzI cy (rO 6) 5 (onR tA 6), zzI cy (rO 7) 5 (onR tA 7), zzI cy qmr 8 fMr]) hx hb hr hlocks rfl (hP.sub [0, 1, 2, 3, 4, 5, 6, 7, 8, 9, 10, 11, 12, 13, 14, 15, 16, 17, 18, 19] rfl) (hD.sub [0, 1, 2, 3, 4, 5, 6, 7, 8, 9, 10, 11, 12, 13, 14, 15, 16, 17, 18, 19] (by decide +kernel) rfl) hS ⟨fMr, rfl, (Or.inr (Or.inr (⟨rfl, ⟨k_4, k_10, hk_5, hk_11, rfl, rfl, h_15, h_24⟩⟩)))⟩ dX6_noReading_51
        · refine lv_if_ne (tgt := 50) hx hb dX6_noReading_38 (by decide) (fun h9 => absurd (by decide) h9) (fun _ => ?_)
          refine lv_aload_n hx hb dX6_noReading_41 rfl (lv_at hl 0 rfl) ?_
          refine lv_bipush (v := (-5)) hx hb dX6_noReading_42 (by decide) ?_
          refine cVi (As := [.int (-5)]) (rest := []) (b := qm) (q := (RX6, TX6, 35)) ⟨hx, hb, hml, hown, hts⟩ (c_X6_refuse5 l G cy (s.heap).size qm v0 v1 v2 v3 v4 v5 v6 v7 v8 qmr tA qmB qmO qmK iEn iTk v18 v19 v20 v21 v22 v23 v24 v25 v26 iLv iWs v29 v30 v31 v32 v33 v34 fMr) L_X6_91 hN hP hD hS hA [0, 19] [false, true, true, true, true, true, true, true, true, true, true, true, true, true, true, true, true, true, true, false] rfl (by decide +kernel) rfl 0 5 rfl rfl rfl ⟨Nat.le_of_ble_eq_true rfl, Nat.le_of_ble_eq_true rfl⟩ hl.1 (Nat.le_of_ble_eq_true rfl) dX6_noReading_44 ⟨Nat.le_of_ble_eq_true rfl, Nat.le_of_ble_eq_true rfl⟩ (fun r_27 u_29 H locs h_28 => ?_)
          clear hP hD hS
          intro hP hD hS
          obtain ⟨fX_30, rfl, h_28⟩ := h_28
          have hPD := pd_as [zzG cy 3 qmB rB, zzI cy (rB 0) 4 (bkR tA 0), zzI cy (rB 1) 4 (bkR tA 1), zzI cy (rB 2) 4 (bkR tA 2), zzI cy (rB 3) 4 (bkR tA 3), zzI cy (rB 4) 4 (bkR tA 4), zzI cy (rB 5) 4 (bkR tA 5), zzI cy (rB 6) 4 (bkR tA 6), zzI cy (rB 7) 4 (bkR tA 7), zzG cy 3 qmO rO, zzI cy (rO 0) 5 (onR tA 0), zzI cy (rO 1) 5 (onR tA 1), zzI cy (rO 2) 5 (onR tA 2), zzI cy (rO 3) 5 (onR tA 3), zzI cy (rO 4) 5 (onR tA 4), zzI cy (rO 5) 5 (onR tA 5), zzI cy (rO 6) 5 (onR tA 6), zzI cy (rO 7) 5 (onR tA 7), zzO qm 5 [v0, v1, v2, v3, v4, v5, v6, v7, v8, .ref qmr, .int (nI (T_nb tA)), .ref qmB, .int (nI (T_np tA)), .ref qmO, .ref qmK, .int iEn, .int iTk, .int (T_sd tA), v18, v19, v20, v21, v22, v23, v24, v25, v26, .int iLv, .int iWs, v29, v30, v31, v32, v33, v34], zzI cy qmr 8 fX_30] hP hD rfl
          clear hP hD
          obtain ⟨hP, hD⟩ := hPD
          subst h_28
          refine lv_goto (tgt := 51) hx hb dX6_noReading_47 (by decide) ?_
          exact endW (u := [zzO qm 5 [v0, v1, v2, v3, v4, v5, v6, v7, v8, .ref qmr, .int (nI (T_nb tA)), .ref qmB, .int (nI (T_np tA)), .ref qmO, .ref qmK, .int iEn, .int iTk, .int (T_sd tA), v18, v19, v20, v21, v22, v23, v24, v25, v26, .int iLv, .int iWs, v29, v30, v31, v32, v33, v34], zzG cy 3 qmB rB, zzI cy (rB 0) 4 (bkR tA 0), zzI cy (rB 1) 4 (bkR tA 1), zzI cy (rB 2) 4 (bkR tA 2), zzI cy (rB 3) 4 (bkR tA 3), zzI cy (rB 4) 4 (bkR tA 4), zzI cy (rB 5) 4 (bkR tA 5), zzI cy (rB 6) 4 (bkR tA 6), zzI cy (rB 7) 4 (bkR tA 7), zzG cy 3 qmO rO, zzI cy (rO 0) 5 (onR tA 0), zzI cy (rO 1) 5 (onR tA 1), zzI cy (rO 2) 5 (onR tA 2), zzI cy (rO 3) 5 (onR tA 3), zzI cy (rO 4) 5 (onR tA 4), zzI cy (rO 5) 5 (onR tA 5), zzI cy (rO 6) 5 (onR tA 6), zzI cy (rO 7) 5 (onR tA 7), zzI cy qmr 8 fX_30]) hx hb hr hlocks rfl (hP.sub [18, 0, 1, 2, 3, 4, 5, 6, 7, 8, 9, 10, 11, 12, 13, 14, 15, 16, 17, 19] rfl) (hD.sub [18, 0, 1, 2, 3, 4, 5, 6, 7, 8, 9, 10, 11, 12, 13, 14, 15, 16, 17, 19] (by decide +kernel) rfl) hS ⟨fX_30, rfl, (Or.inr (Or.inl (⟨rfl, ⟨k_4, k_10, hk_5, hk_11, rfl, rfl, Or.inr h_24⟩⟩)))⟩ dX6_noReading_51
    · refine lv_if_ne (tgt := 25) hx hb dX6_noReading_15 (by decide) (fun h9 => absurd (by decide) h9) (fun _ => ?_)
      refine lv_aload_n hx hb dX6_noReading_18 rfl (lv_at hl 0 rfl) ?_
      refine lv_bipush (v := (-2)) hx hb dX6_noReading_19 (by decide) ?_
      refine cVi (As := [.int (-2)]) (rest := []) (b := qm) (q := (RX6, TX6, 35)) ⟨hx, hb, hml, hown, hts⟩ (c_X6_refuse2 l G cy (s.heap).size qm v0 v1 v2 v3 v4 v5 v6 v7 v8 qmr tA qmB qmO qmK iEn iTk v18 v19 v20 v21 v22 v23 v24 v25 v26 iLv iWs v29 v30 v31 v32 v33 v34 fMr) L_X6_91 hN hP hD hS hA [0, 19] [false, true, true, true, true, true, true, true, true, true, true, true, true, true, true, true, true, true, true, false] rfl (by decide +kernel) rfl 0 5 rfl rfl rfl ⟨Nat.le_of_ble_eq_true rfl, Nat.le_of_ble_eq_true rfl⟩ hl.1 (Nat.le_of_ble_eq_true rfl) dX6_noReading_21 ⟨Nat.le_of_ble_eq_true rfl, Nat.le_of_ble_eq_true rfl⟩ (fun r_32 u_34 H locs h_33 => ?_)
      clear hP hD hS
      intro hP hD hS
      obtain ⟨fX_35, rfl, h_33⟩ := h_33
      have hPD := pd_as [zzG cy 3 qmB rB, zzI cy (rB 0) 4 (bkR tA 0), zzI cy (rB 1) 4 (bkR tA 1), zzI cy (rB 2) 4 (bkR tA 2), zzI cy (rB 3) 4 (bkR tA 3), zzI cy (rB 4) 4 (bkR tA 4), zzI cy (rB 5) 4 (bkR tA 5), zzI cy (rB 6) 4 (bkR tA 6), zzI cy (rB 7) 4 (bkR tA 7), zzG cy 3 qmO rO, zzI cy (rO 0) 5 (onR tA 0), zzI cy (rO 1) 5 (onR tA 1), zzI cy (rO 2) 5 (onR tA 2), zzI cy (rO 3) 5 (onR tA 3), zzI cy (rO 4) 5 (onR tA 4), zzI cy (rO 5) 5 (onR tA 5), zzI cy (rO 6) 5 (onR tA 6), zzI cy (rO 7) 5 (onR tA 7), zzO qm 5 [v0, v1, v2, v3, v4, v5, v6, v7, v8, .ref qmr, .int (nI (T_nb tA)), .ref qmB, .int (nI (T_np tA)), .ref qmO, .ref qmK, .int iEn, .int iTk, .int (T_sd tA), v18, v19, v20, v21, v22, v23, v24, v25, v26, .int iLv, .int iWs, v29, v30, v31, v32, v33, v34], zzI cy qmr 8 fX_35] hP hD rfl
      clear hP hD
      obtain ⟨hP, hD⟩ := hPD
      subst h_33
      exact endW (u := [zzO qm 5 [v0, v1, v2, v3, v4, v5, v6, v7, v8, .ref qmr, .int (nI (T_nb tA)), .ref qmB, .int (nI (T_np tA)), .ref qmO, .ref qmK, .int iEn, .int iTk, .int (T_sd tA), v18, v19, v20, v21, v22, v23, v24, v25, v26, .int iLv, .int iWs, v29, v30, v31, v32, v33, v34], zzG cy 3 qmB rB, zzI cy (rB 0) 4 (bkR tA 0), zzI cy (rB 1) 4 (bkR tA 1), zzI cy (rB 2) 4 (bkR tA 2), zzI cy (rB 3) 4 (bkR tA 3), zzI cy (rB 4) 4 (bkR tA 4), zzI cy (rB 5) 4 (bkR tA 5), zzI cy (rB 6) 4 (bkR tA 6), zzI cy (rB 7) 4 (bkR tA 7), zzG cy 3 qmO rO, zzI cy (rO 0) 5 (onR tA 0), zzI cy (rO 1) 5 (onR tA 1), zzI cy (rO 2) 5 (onR tA 2), zzI cy (rO 3) 5 (onR tA 3), zzI cy (rO 4) 5 (onR tA 4), zzI cy (rO 5) 5 (onR tA 5), zzI cy (rO 6) 5 (onR tA 6), zzI cy (rO 7) 5 (onR tA 7), zzI cy qmr 8 fX_35]) hx hb hr hlocks rfl (hP.sub [18, 0, 1, 2, 3, 4, 5, 6, 7, 8, 9, 10, 11, 12, 13, 14, 15, 16, 17, 19] rfl) (hD.sub [18, 0, 1, 2, 3, 4, 5, 6, 7, 8, 9, 10, 11, 12, 13, 14, 15, 16, 17, 19] (by decide +kernel) rfl) hS ⟨fX_35, rfl, (Or.inl (⟨rfl, (fun q => h_9 q.2)⟩))⟩ dX6_noReading_24
  · refine lv_if_eq (tgt := 18) hx hb dX6_noReading_6 (by decide) (fun _ => ?_) (fun h9 => absurd (by decide) h9)
    refine lv_aload_n hx hb dX6_noReading_18 rfl (lv_at hl 0 rfl) ?_
    refine lv_bipush (v := (-2)) hx hb dX6_noReading_19 (by decide) ?_
    refine cVi (As := [.int (-2)]) (rest := []) (b := qm) (q := (RX6, TX6, 35)) ⟨hx, hb, hml, hown, hts⟩ (c_X6_refuse2 l G cy (s.heap).size qm v0 v1 v2 v3 v4 v5 v6 v7 v8 qmr tA qmB qmO qmK iEn iTk v18 v19 v20 v21 v22 v23 v24 v25 v26 iLv iWs v29 v30 v31 v32 v33 v34 fMr) L_X6_91 hN hP hD hS hA [0, 19] [false, true, true, true, true, true, true, true, true, true, true, true, true, true, true, true, true, true, true, false] rfl (by decide +kernel) rfl 0 5 rfl rfl rfl ⟨Nat.le_of_ble_eq_true rfl, Nat.le_of_ble_eq_true rfl⟩ hl.1 (Nat.le_of_ble_eq_true rfl) dX6_noReading_21 ⟨Nat.le_of_ble_eq_true rfl, Nat.le_of_ble_eq_true rfl⟩ (fun r_37 u_39 H locs h_38 => ?_)
    clear hP hD hS
    intro hP hD hS
    obtain ⟨fX_40, rfl, h_38⟩ := h_38
    have hPD := pd_as [zzG cy 3 qmB rB, zzI cy (rB 0) 4 (bkR tA 0), zzI cy (rB 1) 4 (bkR tA 1), zzI cy (rB 2) 4 (bkR tA 2), zzI cy (rB 3) 4 (bkR tA 3), zzI cy (rB 4) 4 (bkR tA 4), zzI cy (rB 5) 4 (bkR tA 5), zzI cy (rB 6) 4 (bkR tA 6), zzI cy (rB 7) 4 (bkR tA 7), zzG cy 3 qmO rO, zzI cy (rO 0) 5 (onR tA 0), zzI cy (rO 1) 5 (onR tA 1), zzI cy (rO 2) 5 (onR tA 2), zzI cy (rO 3) 5 (onR tA 3), zzI cy (rO 4) 5 (onR tA 4), zzI cy (rO 5) 5 (onR tA 5), zzI cy (rO 6) 5 (onR tA 6), zzI cy (rO 7) 5 (onR tA 7), zzO qm 5 [v0, v1, v2, v3, v4, v5, v6, v7, v8, .ref qmr, .int (nI (T_nb tA)), .ref qmB, .int (nI (T_np tA)), .ref qmO, .ref qmK, .int iEn, .int iTk, .int (T_sd tA), v18, v19, v20, v21, v22, v23, v24, v25, v26, .int iLv, .int iWs, v29, v30, v31, v32, v33, v34], zzI cy qmr 8 fX_40] hP hD rfl
    clear hP hD
    obtain ⟨hP, hD⟩ := hPD
    subst h_38
    exact endW (u := [zzO qm 5 [v0, v1, v2, v3, v4, v5, v6, v7, v8, .ref qmr, .int (nI (T_nb tA)), .ref qmB, .int (nI (T_np tA)), .ref qmO, .ref qmK, .int iEn, .int iTk, .int (T_sd tA), v18, v19, v20, v21, v22, v23, v24, v25, v26, .int iLv, .int iWs, v29, v30, v31, v32, v33, v34], zzG cy 3 qmB rB, zzI cy (rB 0) 4 (bkR tA 0), zzI cy (rB 1) 4 (bkR tA 1), zzI cy (rB 2) 4 (bkR tA 2), zzI cy (rB 3) 4 (bkR tA 3), zzI cy (rB 4) 4 (bkR tA 4), zzI cy (rB 5) 4 (bkR tA 5), zzI cy (rB 6) 4 (bkR tA 6), zzI cy (rB 7) 4 (bkR tA 7), zzG cy 3 qmO rO, zzI cy (rO 0) 5 (onR tA 0), zzI cy (rO 1) 5 (onR tA 1), zzI cy (rO 2) 5 (onR tA 2), zzI cy (rO 3) 5 (onR tA 3), zzI cy (rO 4) 5 (onR tA 4), zzI cy (rO 5) 5 (onR tA 5), zzI cy (rO 6) 5 (onR tA 6), zzI cy (rO 7) 5 (onR tA 7), zzI cy qmr 8 fX_40]) hx hb hr hlocks rfl (hP.sub [18, 0, 1, 2, 3, 4, 5, 6, 7, 8, 9, 10, 11, 12, 13, 14, 15, 16, 17, 19] rfl) (hD.sub [18, 0, 1, 2, 3, 4, 5, 6, 7, 8, 9, 10, 11, 12, 13, 14, 15, 16, 17, 19] (by decide +kernel) rfl) hS ⟨fX_40, rfl, (Or.inl (⟨rfl, (fun q => h_3 q.1)⟩))⟩ dX6_noReading_24
end
section
theorem dX6_isDigit_0 : decode cX6_isDigit 0 = .ok (.iload_n 0, 1) := g_26 bX6_isDigit rfl
theorem dX6_isDigit_1 : decode cX6_isDigit 1 = .ok (.bipush 48, 2) := g_16 48 bX6_isDigit rfl rfl
theorem dX6_isDigit_3 : decode cX6_isDigit 3 = .ok (.if_icmp .lt 13, 3) := g_161 13 bX6_isDigit rfl rfl
theorem dX6_isDigit_6 : decode cX6_isDigit 6 = .ok (.iload_n 0, 1) := g_26 bX6_isDigit rfl
theorem dX6_isDigit_7 : decode cX6_isDigit 7 = .ok (.bipush 57, 2) := g_16 57 bX6_isDigit rfl rfl
theorem dX6_isDigit_9 : decode cX6_isDigit 9 = .ok (.if_icmp .gt 7, 3) := g_163 7 bX6_isDigit rfl rfl
theorem dX6_isDigit_12 : decode cX6_isDigit 12 = .ok (.iconst 1, 1) := g_4 bX6_isDigit rfl
theorem dX6_isDigit_13 : decode cX6_isDigit 13 = .ok (.goto 4, 3) := g_167 4 bX6_isDigit rfl rfl
theorem dX6_isDigit_16 : decode cX6_isDigit 16 = .ok (.iconst 0, 1) := g_3 bX6_isDigit rfl
theorem dX6_isDigit_17 : decode cX6_isDigit 17 = .ok (.ireturn, 1) := g_172 bX6_isDigit rfl
theorem dX6_isLetter_0 : decode cX6_isLetter 0 = .ok (.iload_n 0, 1) := g_26 bX6_isLetter rfl
theorem dX6_isLetter_1 : decode cX6_isLetter 1 = .ok (.bipush 97, 2) := g_16 97 bX6_isLetter rfl rfl
theorem dX6_isLetter_3 : decode cX6_isLetter 3 = .ok (.if_icmp .lt 13, 3) := g_161 13 bX6_isLetter rfl rfl
theorem dX6_isLetter_6 : decode cX6_isLetter 6 = .ok (.iload_n 0, 1) := g_26 bX6_isLetter rfl
theorem dX6_isLetter_7 : decode cX6_isLetter 7 = .ok (.bipush 122, 2) := g_16 122 bX6_isLetter rfl rfl
theorem dX6_isLetter_9 : decode cX6_isLetter 9 = .ok (.if_icmp .gt 7, 3) := g_163 7 bX6_isLetter rfl rfl
theorem dX6_isLetter_12 : decode cX6_isLetter 12 = .ok (.iconst 1, 1) := g_4 bX6_isLetter rfl
theorem dX6_isLetter_13 : decode cX6_isLetter 13 = .ok (.goto 4, 3) := g_167 4 bX6_isLetter rfl rfl
theorem dX6_isLetter_16 : decode cX6_isLetter 16 = .ok (.iconst 0, 1) := g_3 bX6_isLetter rfl
theorem dX6_isLetter_17 : decode cX6_isLetter 17 = .ok (.ireturn, 1) := g_172 bX6_isLetter rfl
theorem dX6_isWord_0 : decode cX6_isWord 0 = .ok (.aload_n 0, 1) := g_42 bX6_isWord rfl
theorem dX6_isWord_1 : decode cX6_isWord 1 = .ok (.getfield 154, 3) := g_180 bX6_isWord rfl
theorem dX6_isWord_4 : decode cX6_isWord 4 = .ok (.iconst 1, 1) := g_4 bX6_isWord rfl
theorem dX6_isWord_5 : decode cX6_isWord 5 = .ok (.if_icmp .ne 19, 3) := g_160 19 bX6_isWord rfl rfl
theorem dX6_isWord_8 : decode cX6_isWord 8 = .ok (.aload_n 0, 1) := g_42 bX6_isWord rfl
theorem dX6_isWord_9 : decode cX6_isWord 9 = .ok (.getfield 144, 3) := g_180 bX6_isWord rfl
theorem dX6_isWord_12 : decode cX6_isWord 12 = .ok (.aload_n 0, 1) := g_42 bX6_isWord rfl
theorem dX6_isWord_13 : decode cX6_isWord 13 = .ok (.getfield 147, 3) := g_180 bX6_isWord rfl
theorem dX6_isWord_16 : decode cX6_isWord 16 = .ok (.isub, 1) := g_100 bX6_isWord rfl
theorem dX6_isWord_17 : decode cX6_isWord 17 = .ok (.aload_n 1, 1) := g_43 bX6_isWord rfl
theorem dX6_isWord_18 : decode cX6_isWord 18 = .ok (.invokevirtual 170, 3) := g_182 bX6_isWord rfl
theorem dX6_isWord_21 : decode cX6_isWord 21 = .ok (.if_icmp .eq 5, 3) := g_159 5 bX6_isWord rfl rfl
theorem dX6_isWord_24 : decode cX6_isWord 24 = .ok (.iconst 0, 1) := g_3 bX6_isWord rfl
theorem dX6_isWord_25 : decode cX6_isWord 25 = .ok (.ireturn, 1) := g_172 bX6_isWord rfl
theorem dX6_isWord_26 : decode cX6_isWord 26 = .ok (.iconst 0, 1) := g_3 bX6_isWord rfl
theorem dX6_isWord_27 : decode cX6_isWord 27 = .ok (.istore_n 2, 1) := g_61 bX6_isWord rfl
theorem dX6_isWord_28 : decode cX6_isWord 28 = .ok (.iload_n 2, 1) := g_28 bX6_isWord rfl
theorem dX6_isWord_29 : decode cX6_isWord 29 = .ok (.aload_n 1, 1) := g_43 bX6_isWord rfl
theorem dX6_isWord_30 : decode cX6_isWord 30 = .ok (.invokevirtual 170, 3) := g_182 bX6_isWord rfl
theorem dX6_isWord_33 : decode cX6_isWord 33 = .ok (.if_icmp .ge 30, 3) := g_162 30 bX6_isWord rfl rfl
theorem dX6_isWord_36 : decode cX6_isWord 36 = .ok (.aload_n 0, 1) := g_42 bX6_isWord rfl
theorem dX6_isWord_37 : decode cX6_isWord 37 = .ok (.getfield 34, 3) := g_180 bX6_isWord rfl
theorem dX6_isWord_40 : decode cX6_isWord 40 = .ok (.aload_n 0, 1) := g_42 bX6_isWord rfl
theorem dX6_isWord_41 : decode cX6_isWord 41 = .ok (.getfield 147, 3) := g_180 bX6_isWord rfl
theorem dX6_isWord_44 : decode cX6_isWord 44 = .ok (.iload_n 2, 1) := g_28 bX6_isWord rfl
theorem dX6_isWord_45 : decode cX6_isWord 45 = .ok (.iadd, 1) := g_96 bX6_isWord rfl
theorem dX6_isWord_46 : decode cX6_isWord 46 = .ok (.iaload, 1) := g_46 bX6_isWord rfl
theorem dX6_isWord_47 : decode cX6_isWord 47 = .ok (.aload_n 1, 1) := g_43 bX6_isWord rfl
theorem dX6_isWord_48 : decode cX6_isWord 48 = .ok (.iload_n 2, 1) := g_28 bX6_isWord rfl
theorem dX6_isWord_49 : decode cX6_isWord 49 = .ok (.invokevirtual 175, 3) := g_182 bX6_isWord rfl
theorem dX6_isWord_52 : decode cX6_isWord 52 = .ok (.if_icmp .eq 5, 3) := g_159 5 bX6_isWord rfl rfl
theorem dX6_isWord_55 : decode cX6_isWord 55 = .ok (.iconst 0, 1) := g_3 bX6_isWord rfl
theorem dX6_isWord_56 : decode cX6_isWord 56 = .ok (.ireturn, 1) := g_172 bX6_isWord rfl
theorem dX6_isWord_57 : decode cX6_isWord 57 = .ok (.iinc 2 1, 3) := g_132 1 bX6_isWord rfl rfl
theorem dX6_isWord_60 : decode cX6_isWord 60 = .ok (.goto (-32), 3) := g_167 65504 bX6_isWord rfl rfl
theorem dX6_isWord_63 : decode cX6_isWord 63 = .ok (.iconst 1, 1) := g_4 bX6_isWord rfl
theorem dX6_isWord_64 : decode cX6_isWord 64 = .ok (.ireturn, 1) := g_172 bX6_isWord rfl
theorem dX6_look_0 : decode cX6_look 0 = .ok (.aload_n 0, 1) := g_42 bX6_look rfl
theorem dX6_look_1 : decode cX6_look 1 = .ok (.getfield 144, 3) := g_180 bX6_look rfl
theorem dX6_look_4 : decode cX6_look 4 = .ok (.aload_n 0, 1) := g_42 bX6_look rfl
theorem dX6_look_5 : decode cX6_look 5 = .ok (.getfield 141, 3) := g_180 bX6_look rfl
theorem dX6_look_8 : decode cX6_look 8 = .ok (.if_icmp .ge 30, 3) := g_162 30 bX6_look rfl rfl
theorem dX6_look_11 : decode cX6_look 11 = .ok (.aload_n 0, 1) := g_42 bX6_look rfl
theorem dX6_look_12 : decode cX6_look 12 = .ok (.getfield 34, 3) := g_180 bX6_look rfl
theorem dX6_look_15 : decode cX6_look 15 = .ok (.aload_n 0, 1) := g_42 bX6_look rfl
theorem dX6_look_16 : decode cX6_look 16 = .ok (.getfield 144, 3) := g_180 bX6_look rfl
theorem dX6_look_19 : decode cX6_look 19 = .ok (.iaload, 1) := g_46 bX6_look rfl
theorem dX6_look_20 : decode cX6_look 20 = .ok (.bipush 32, 2) := g_16 32 bX6_look rfl rfl
theorem dX6_look_22 : decode cX6_look 22 = .ok (.if_icmp .ne 16, 3) := g_160 16 bX6_look rfl rfl
theorem dX6_look_25 : decode cX6_look 25 = .ok (.aload_n 0, 1) := g_42 bX6_look rfl
theorem dX6_look_26 : decode cX6_look 26 = .ok (.dup, 1) := g_89 bX6_look rfl
theorem dX6_look_27 : decode cX6_look 27 = .ok (.getfield 144, 3) := g_180 bX6_look rfl
theorem dX6_look_30 : decode cX6_look 30 = .ok (.iconst 1, 1) := g_4 bX6_look rfl
theorem dX6_look_31 : decode cX6_look 31 = .ok (.iadd, 1) := g_96 bX6_look rfl
theorem dX6_look_32 : decode cX6_look 32 = .ok (.putfield 144, 3) := g_181 bX6_look rfl
theorem dX6_look_35 : decode cX6_look 35 = .ok (.goto (-35), 3) := g_167 65501 bX6_look rfl rfl
theorem dX6_look_38 : decode cX6_look 38 = .ok (.aload_n 0, 1) := g_42 bX6_look rfl
theorem dX6_look_39 : decode cX6_look 39 = .ok (.aload_n 0, 1) := g_42 bX6_look rfl
theorem dX6_look_40 : decode cX6_look 40 = .ok (.getfield 144, 3) := g_180 bX6_look rfl
theorem dX6_look_43 : decode cX6_look 43 = .ok (.putfield 147, 3) := g_181 bX6_look rfl
theorem dX6_look_46 : decode cX6_look 46 = .ok (.aload_n 0, 1) := g_42 bX6_look rfl
theorem dX6_look_47 : decode cX6_look 47 = .ok (.lconst 0, 1) := g_9 bX6_look rfl
theorem dX6_look_48 : decode cX6_look 48 = .ok (.putfield 150, 3) := g_181 bX6_look rfl
theorem dX6_look_51 : decode cX6_look 51 = .ok (.aload_n 0, 1) := g_42 bX6_look rfl
theorem dX6_look_52 : decode cX6_look 52 = .ok (.getfield 144, 3) := g_180 bX6_look rfl
theorem dX6_look_55 : decode cX6_look 55 = .ok (.aload_n 0, 1) := g_42 bX6_look rfl
theorem dX6_look_56 : decode cX6_look 56 = .ok (.getfield 141, 3) := g_180 bX6_look rfl
theorem dX6_look_59 : decode cX6_look 59 = .ok (.if_icmp .ne 11, 3) := g_160 11 bX6_look rfl rfl
theorem dX6_look_62 : decode cX6_look 62 = .ok (.aload_n 0, 1) := g_42 bX6_look rfl
theorem dX6_look_63 : decode cX6_look 63 = .ok (.iconst 0, 1) := g_3 bX6_look rfl
theorem dX6_look_64 : decode cX6_look 64 = .ok (.putfield 154, 3) := g_181 bX6_look rfl
theorem dX6_look_67 : decode cX6_look 67 = .ok (.goto 200, 3) := g_167 200 bX6_look rfl rfl
theorem dX6_look_70 : decode cX6_look 70 = .ok (.aload_n 0, 1) := g_42 bX6_look rfl
theorem dX6_look_71 : decode cX6_look 71 = .ok (.getfield 34, 3) := g_180 bX6_look rfl
theorem dX6_look_74 : decode cX6_look 74 = .ok (.aload_n 0, 1) := g_42 bX6_look rfl
theorem dX6_look_75 : decode cX6_look 75 = .ok (.getfield 144, 3) := g_180 bX6_look rfl
theorem dX6_look_78 : decode cX6_look 78 = .ok (.iaload, 1) := g_46 bX6_look rfl
theorem dX6_look_79 : decode cX6_look 79 = .ok (.invokestatic 157, 3) := g_184 bX6_look rfl
theorem dX6_look_82 : decode cX6_look 82 = .ok (.ifCond .eq 47, 3) := g_153 47 bX6_look rfl rfl
theorem dX6_look_85 : decode cX6_look 85 = .ok (.aload_n 0, 1) := g_42 bX6_look rfl
theorem dX6_look_86 : decode cX6_look 86 = .ok (.iconst 1, 1) := g_4 bX6_look rfl
theorem dX6_look_87 : decode cX6_look 87 = .ok (.putfield 154, 3) := g_181 bX6_look rfl
theorem dX6_look_90 : decode cX6_look 90 = .ok (.aload_n 0, 1) := g_42 bX6_look rfl
theorem dX6_look_91 : decode cX6_look 91 = .ok (.getfield 144, 3) := g_180 bX6_look rfl
theorem dX6_look_94 : decode cX6_look 94 = .ok (.aload_n 0, 1) := g_42 bX6_look rfl
theorem dX6_look_95 : decode cX6_look 95 = .ok (.getfield 141, 3) := g_180 bX6_look rfl
theorem dX6_look_98 : decode cX6_look 98 = .ok (.if_icmp .ge 169, 3) := g_162 169 bX6_look rfl rfl
theorem dX6_look_101 : decode cX6_look 101 = .ok (.aload_n 0, 1) := g_42 bX6_look rfl
theorem dX6_look_102 : decode cX6_look 102 = .ok (.getfield 34, 3) := g_180 bX6_look rfl
theorem dX6_look_105 : decode cX6_look 105 = .ok (.aload_n 0, 1) := g_42 bX6_look rfl
theorem dX6_look_106 : decode cX6_look 106 = .ok (.getfield 144, 3) := g_180 bX6_look rfl
theorem dX6_look_109 : decode cX6_look 109 = .ok (.iaload, 1) := g_46 bX6_look rfl
theorem dX6_look_110 : decode cX6_look 110 = .ok (.invokestatic 157, 3) := g_184 bX6_look rfl
theorem dX6_look_113 : decode cX6_look 113 = .ok (.ifCond .eq 154, 3) := g_153 154 bX6_look rfl rfl
theorem dX6_look_116 : decode cX6_look 116 = .ok (.aload_n 0, 1) := g_42 bX6_look rfl
theorem dX6_look_117 : decode cX6_look 117 = .ok (.dup, 1) := g_89 bX6_look rfl
theorem dX6_look_118 : decode cX6_look 118 = .ok (.getfield 144, 3) := g_180 bX6_look rfl
theorem dX6_look_121 : decode cX6_look 121 = .ok (.iconst 1, 1) := g_4 bX6_look rfl
theorem dX6_look_122 : decode cX6_look 122 = .ok (.iadd, 1) := g_96 bX6_look rfl
theorem dX6_look_123 : decode cX6_look 123 = .ok (.putfield 144, 3) := g_181 bX6_look rfl
theorem dX6_look_126 : decode cX6_look 126 = .ok (.goto (-36), 3) := g_167 65500 bX6_look rfl rfl
theorem dX6_look_129 : decode cX6_look 129 = .ok (.aload_n 0, 1) := g_42 bX6_look rfl
theorem dX6_look_130 : decode cX6_look 130 = .ok (.getfield 34, 3) := g_180 bX6_look rfl
theorem dX6_look_133 : decode cX6_look 133 = .ok (.aload_n 0, 1) := g_42 bX6_look rfl
theorem dX6_look_134 : decode cX6_look 134 = .ok (.getfield 144, 3) := g_180 bX6_look rfl
theorem dX6_look_137 : decode cX6_look 137 = .ok (.iaload, 1) := g_46 bX6_look rfl
theorem dX6_look_138 : decode cX6_look 138 = .ok (.invokestatic 160, 3) := g_184 bX6_look rfl
theorem dX6_look_141 : decode cX6_look 141 = .ok (.ifCond .eq 93, 3) := g_153 93 bX6_look rfl rfl
theorem dX6_look_144 : decode cX6_look 144 = .ok (.aload_n 0, 1) := g_42 bX6_look rfl
theorem dX6_look_145 : decode cX6_look 145 = .ok (.iconst 2, 1) := g_5 bX6_look rfl
theorem dX6_look_146 : decode cX6_look 146 = .ok (.putfield 154, 3) := g_181 bX6_look rfl
theorem dX6_look_149 : decode cX6_look 149 = .ok (.aload_n 0, 1) := g_42 bX6_look rfl
theorem dX6_look_150 : decode cX6_look 150 = .ok (.getfield 144, 3) := g_180 bX6_look rfl
theorem dX6_look_153 : decode cX6_look 153 = .ok (.aload_n 0, 1) := g_42 bX6_look rfl
theorem dX6_look_154 : decode cX6_look 154 = .ok (.getfield 141, 3) := g_180 bX6_look rfl
theorem dX6_look_157 : decode cX6_look 157 = .ok (.if_icmp .ge 110, 3) := g_162 110 bX6_look rfl rfl
theorem dX6_look_160 : decode cX6_look 160 = .ok (.aload_n 0, 1) := g_42 bX6_look rfl
theorem dX6_look_161 : decode cX6_look 161 = .ok (.getfield 34, 3) := g_180 bX6_look rfl
theorem dX6_look_164 : decode cX6_look 164 = .ok (.aload_n 0, 1) := g_42 bX6_look rfl
theorem dX6_look_165 : decode cX6_look 165 = .ok (.getfield 144, 3) := g_180 bX6_look rfl
theorem dX6_look_168 : decode cX6_look 168 = .ok (.iaload, 1) := g_46 bX6_look rfl
theorem dX6_look_169 : decode cX6_look 169 = .ok (.invokestatic 160, 3) := g_184 bX6_look rfl
theorem dX6_look_172 : decode cX6_look 172 = .ok (.ifCond .eq 95, 3) := g_153 95 bX6_look rfl rfl
theorem dX6_look_175 : decode cX6_look 175 = .ok (.aload_n 0, 1) := g_42 bX6_look rfl
theorem dX6_look_176 : decode cX6_look 176 = .ok (.aload_n 0, 1) := g_42 bX6_look rfl
theorem dX6_look_177 : decode cX6_look 177 = .ok (.getfield 144, 3) := g_180 bX6_look rfl
theorem dX6_look_180 : decode cX6_look 180 = .ok (.aload_n 0, 1) := g_42 bX6_look rfl
theorem dX6_look_181 : decode cX6_look 181 = .ok (.getfield 147, 3) := g_180 bX6_look rfl
theorem dX6_look_184 : decode cX6_look 184 = .ok (.isub, 1) := g_100 bX6_look rfl
theorem dX6_look_185 : decode cX6_look 185 = .ok (.iconst 3, 1) := g_6 bX6_look rfl
theorem dX6_look_186 : decode cX6_look 186 = .ok (.if_icmp .ge 29, 3) := g_162 29 bX6_look rfl rfl
theorem dX6_look_189 : decode cX6_look 189 = .ok (.aload_n 0, 1) := g_42 bX6_look rfl
theorem dX6_look_190 : decode cX6_look 190 = .ok (.getfield 150, 3) := g_180 bX6_look rfl
theorem dX6_look_193 : decode cX6_look 193 = .ok (.ldc2_w 132, 3) := g_20 bX6_look rfl
theorem dX6_look_196 : decode cX6_look 196 = .ok (.lmul, 1) := g_105 bX6_look rfl
theorem dX6_look_197 : decode cX6_look 197 = .ok (.aload_n 0, 1) := g_42 bX6_look rfl
theorem dX6_look_198 : decode cX6_look 198 = .ok (.getfield 34, 3) := g_180 bX6_look rfl
theorem dX6_look_201 : decode cX6_look 201 = .ok (.aload_n 0, 1) := g_42 bX6_look rfl
theorem dX6_look_202 : decode cX6_look 202 = .ok (.getfield 144, 3) := g_180 bX6_look rfl
theorem dX6_look_205 : decode cX6_look 205 = .ok (.iaload, 1) := g_46 bX6_look rfl
theorem dX6_look_206 : decode cX6_look 206 = .ok (.i2l, 1) := g_133 bX6_look rfl
theorem dX6_look_207 : decode cX6_look 207 = .ok (.ladd, 1) := g_97 bX6_look rfl
theorem dX6_look_208 : decode cX6_look 208 = .ok (.ldc2_w 163, 3) := g_20 bX6_look rfl
theorem dX6_look_211 : decode cX6_look 211 = .ok (.lsub, 1) := g_101 bX6_look rfl
theorem dX6_look_212 : decode cX6_look 212 = .ok (.goto 6, 3) := g_167 6 bX6_look rfl rfl
theorem dX6_look_215 : decode cX6_look 215 = .ok (.ldc2_w 165, 3) := g_20 bX6_look rfl
theorem dX6_look_218 : decode cX6_look 218 = .ok (.putfield 150, 3) := g_181 bX6_look rfl
theorem dX6_look_221 : decode cX6_look 221 = .ok (.aload_n 0, 1) := g_42 bX6_look rfl
theorem dX6_look_222 : decode cX6_look 222 = .ok (.dup, 1) := g_89 bX6_look rfl
theorem dX6_look_223 : decode cX6_look 223 = .ok (.getfield 144, 3) := g_180 bX6_look rfl
theorem dX6_look_226 : decode cX6_look 226 = .ok (.iconst 1, 1) := g_4 bX6_look rfl
theorem dX6_look_227 : decode cX6_look 227 = .ok (.iadd, 1) := g_96 bX6_look rfl
theorem dX6_look_228 : decode cX6_look 228 = .ok (.putfield 144, 3) := g_181 bX6_look rfl
theorem dX6_look_231 : decode cX6_look 231 = .ok (.goto (-82), 3) := g_167 65454 bX6_look rfl rfl
theorem dX6_look_234 : decode cX6_look 234 = .ok (.aload_n 0, 1) := g_42 bX6_look rfl
theorem dX6_look_235 : decode cX6_look 235 = .ok (.aload_n 0, 1) := g_42 bX6_look rfl
theorem dX6_look_236 : decode cX6_look 236 = .ok (.getfield 34, 3) := g_180 bX6_look rfl
theorem dX6_look_239 : decode cX6_look 239 = .ok (.aload_n 0, 1) := g_42 bX6_look rfl
theorem dX6_look_240 : decode cX6_look 240 = .ok (.getfield 144, 3) := g_180 bX6_look rfl
theorem dX6_look_243 : decode cX6_look 243 = .ok (.iaload, 1) := g_46 bX6_look rfl
theorem dX6_look_244 : decode cX6_look 244 = .ok (.bipush 59, 2) := g_16 59 bX6_look rfl rfl
theorem dX6_look_246 : decode cX6_look 246 = .ok (.if_icmp .ne 7, 3) := g_160 7 bX6_look rfl rfl
theorem dX6_look_249 : decode cX6_look 249 = .ok (.iconst 3, 1) := g_6 bX6_look rfl
theorem dX6_look_250 : decode cX6_look 250 = .ok (.goto 4, 3) := g_167 4 bX6_look rfl rfl
theorem dX6_look_253 : decode cX6_look 253 = .ok (.iconst 4, 1) := g_7 bX6_look rfl
theorem dX6_look_254 : decode cX6_look 254 = .ok (.putfield 154, 3) := g_181 bX6_look rfl
theorem dX6_look_257 : decode cX6_look 257 = .ok (.aload_n 0, 1) := g_42 bX6_look rfl
theorem dX6_look_258 : decode cX6_look 258 = .ok (.dup, 1) := g_89 bX6_look rfl
theorem dX6_look_259 : decode cX6_look 259 = .ok (.getfield 144, 3) := g_180 bX6_look rfl
theorem dX6_look_262 : decode cX6_look 262 = .ok (.iconst 1, 1) := g_4 bX6_look rfl
theorem dX6_look_263 : decode cX6_look 263 = .ok (.iadd, 1) := g_96 bX6_look rfl
theorem dX6_look_264 : decode cX6_look 264 = .ok (.putfield 144, 3) := g_181 bX6_look rfl
theorem dX6_look_267 : decode cX6_look 267 = .ok (.return_, 1) := g_177 bX6_look rfl
theorem dX6_wrong_0 : decode cX6_wrong 0 = .ok (.aload_n 0, 1) := g_42 bX6_wrong rfl
theorem dX6_wrong_1 : decode cX6_wrong 1 = .ok (.aload_n 0, 1) := g_42 bX6_wrong rfl
theorem dX6_wrong_2 : decode cX6_wrong 2 = .ok (.getfield 147, 3) := g_180 bX6_wrong rfl
theorem dX6_wrong_5 : decode cX6_wrong 5 = .ok (.putfield 167, 3) := g_181 bX6_wrong rfl
theorem dX6_wrong_8 : decode cX6_wrong 8 = .ok (.iconst 0, 1) := g_3 bX6_wrong rfl
theorem dX6_wrong_9 : decode cX6_wrong 9 = .ok (.ireturn, 1) := g_172 bX6_wrong rfl
/-! the reference's lexer -/
noncomputable def zlt (x : Int32) : Bool := decide (97 ≤ x) && decide (x ≤ 122)
noncomputable def zdg (x : Int32) : Bool := decide (48 ≤ x) && decide (x ≤ 57)
noncomputable def skF (f : Nat → Int32) : Nat → Nat → Nat
  | 0, i => i
  | n + 1, i => if f i = 32 then skF f n (i + 1) else i
theorem sk_go {f : Nat → Int32} {n i : Nat} (h : f i = 32) : skF f (n + 1) i = skF f n (i + 1) := if_pos h
theorem sk_no {f : Nat → Int32} {n i : Nat} (h : ¬ f i = 32) : skF f (n + 1) i = i := if_neg h
noncomputable def wdF (pr : Int32 → Bool) (f : Nat → Int32) : Nat → Nat → Nat
  | 0, i => i
  | n + 1, i => if pr (f i) = true then wdF pr f n (i + 1) else i
theorem wd_go {pr : Int32 → Bool} {f : Nat → Int32} {n i : Nat} (h : pr (f i) = true) : wdF pr f (n + 1) i = wdF pr f n (i + 1) := if_pos h
theorem wd_no {pr : Int32 → Bool} {f : Nat → Int32} {n i : Nat} (h : pr (f i) = false) : wdF pr f (n + 1) i = i := if_neg (by rw [h]; decide)
noncomputable def dgF (f : Nat → Int32) (a : Nat) : Nat → Nat → Int64 → Nat × Int64
  | 0, i, v => (i, v)
  | n + 1, i, v => if zdg (f i) = true then dgF f a n (i + 1) (if i < a + 3 then v * 10 + (f i).toInt64 - 48 else 100000) else (i, v)
theorem dg_go {f : Nat → Int32} {a n i : Nat} {v : Int64} (h : zdg (f i) = true) (h2 : ¬ i < a + 3) : dgF f a (n + 1) i v = dgF f a n (i + 1) 100000 := by rw [dgF, if_pos h, if_neg h2]
theorem dg_lt {f : Nat → Int32} {a n i : Nat} {v : Int64} (h : zdg (f i) = true) (h2 : i < a + 3) : dgF f a (n + 1) i v = dgF f a n (i + 1) (v * 10 + (f i).toInt64 - 48) := by rw [dgF, if_pos h, if_pos h2]
theorem dg_no {f : Nat → Int32} {a n i : Nat} {v : Int64} (h : zdg (f i) = false) : dgF f a (n + 1) i v = (i, v) := by rw [dgF, if_neg (by rw [h]; decide)]
theorem dg_ge {i a : Nat} (hi : i < 2 ^ 30) (ha : a < 2 ^ 30) (c : 3 ≤ nI i - nI a) : ¬ i < a + 3 := by
  rw [Int32.le_iff_toInt_le, pk_sub_toInt hi ha] at c
  have e : (3 : Int32).toInt = 3 := by decide
  rw [e] at c
  omega
theorem dg_l3 {i a : Nat} (hi : i < 2 ^ 30) (ha : a < 2 ^ 30) (c : ¬ 3 ≤ nI i - nI a) : i < a + 3 := by
  rw [Int32.le_iff_toInt_le, pk_sub_toInt hi ha] at c
  have e : (3 : Int32).toInt = 3 := by decide
  rw [e] at c
  omega
noncomputable def lkF (f : Nat → Int32) (z a : Nat) : Nat × Int32 × Nat × Int64 := if skF f (z - a) a = z then (skF f (z - a) a, 0, skF f (z - a) a, 0) else if zlt (f (skF f (z - a) a)) = true then (skF f (z - a) a, 1, wdF zlt f (z - skF f (z - a) a) (skF f (z - a) a), 0) else if zdg (f (skF f (z - a) a)) = true then (skF f (z - a) a, 2, dgF f (skF f (z - a) a) (z - skF f (z - a) a) (skF f (z - a) a) 0) else (skF f (z - a) a, (if f (skF f (z - a) a) = 59 then 3 else 4), skF f (z - a) a + 1, 0)
theorem lk_w {f : Nat → Int32} {z a j : Nat} (hj : j = skF f (z - a) a) (hn : j < z) (h : zlt (f j) = true) : lkF f z a = (j, 1, wdF zlt f (z - j) j, 0) := by
  subst hj
  rw [lkF, if_neg (by omega), if_pos h]
theorem lk_d {f : Nat → Int32} {z a j : Nat} (hj : j = skF f (z - a) a) (hn : j < z) (h : zlt (f j) = false) (h2 : zdg (f j) = true) : lkF f z a = (j, 2, dgF f j (z - j) j 0) := by
  subst hj
  rw [lkF, if_neg (by omega), if_neg (by rw [h]; decide), if_pos h2]
theorem lk_3 {f : Nat → Int32} {z a j : Nat} (hj : j = skF f (z - a) a) (hn : j < z) (h : zlt (f j) = false) (h2 : zdg (f j) = false) (h3 : f j = 59) : lkF f z a = (j, 3, j + 1, 0) := by
  subst hj
  rw [lkF, if_neg (by omega), if_neg (by rw [h]; decide), if_neg (by rw [h2]; decide), if_pos h3]
theorem lk_4 {f : Nat → Int32} {z a j : Nat} (hj : j = skF f (z - a) a) (hn : j < z) (h : zlt (f j) = false) (h2 : zdg (f j) = false) (h3 : ¬ f j = 59) : lkF f z a = (j, 4, j + 1, 0) := by
  subst hj
  rw [lkF, if_neg (by omega), if_neg (by rw [h]; decide), if_neg (by rw [h2]; decide), if_neg h3]
theorem sk_le (f : Nat → Int32) : ∀ n i, i ≤ skF f n i ∧ skF f n i ≤ i + n := by
  intro n
  induction n with
  | zero => intro i; exact ⟨Nat.le_refl _, Nat.le_refl _⟩
  | succ n ih =>
    intro i
    unfold skF
    split
    · have := ih (i + 1); omega
    · omega
theorem wd_le (pr : Int32 → Bool) (f : Nat → Int32) : ∀ n i, i ≤ wdF pr f n i ∧ wdF pr f n i ≤ i + n := by
  intro n
  induction n with
  | zero => intro i; exact ⟨Nat.le_refl _, Nat.le_refl _⟩
  | succ n ih =>
    intro i
    unfold wdF
    split
    · have := ih (i + 1); omega
    · omega
theorem dg_le (f : Nat → Int32) (a : Nat) : ∀ n i v, i ≤ (dgF f a n i v).1 ∧ (dgF f a n i v).1 ≤ i + n := by
  intro n
  induction n with
  | zero => intro i v; exact ⟨Nat.le_refl _, Nat.le_refl _⟩
  | succ n ih =>
    intro i v
    unfold dgF
    split
    · have := ih (i + 1) (if i < a + 3 then v * 10 + (f i).toInt64 - 48 else 100000); omega
    · exact ⟨Nat.le_refl _, by show i ≤ _; omega⟩
/-- what a look leaves behind: places in order, and a step ahead unless it is at the end -/
theorem lk_ok (f : Nat → Int32) {z a : Nat} (h : a ≤ z) : a ≤ (lkF f z a).1 ∧ (lkF f z a).1 ≤ (lkF f z a).2.2.1 ∧ (lkF f z a).2.2.1 ≤ z ∧ ((lkF f z a).2.1 = 0 ∨ a < (lkF f z a).2.2.1) := by
  have h1 := sk_le f (z - a) a
  generalize hj : skF f (z - a) a = j at h1
  have hj' := hj.symm
  by_cases e : j = z
  · have : lkF f z a = (j, 0, j, 0) := by rw [lkF, hj, if_pos e]
    rw [this]
    exact ⟨h1.1, Nat.le_refl _, by show j ≤ z; omega, Or.inl rfl⟩
  · have hl : j < z := by omega
    cases hw : zlt (f j) with
    | true =>
      rw [lk_w hj' hl hw]
      obtain ⟨n, hn⟩ : ∃ n, z - j = n + 1 := ⟨z - j - 1, by omega⟩
      have h2 := wd_le zlt f n (j + 1)
      have h3 : wdF zlt f (z - j) j = wdF zlt f n (j + 1) := by rw [hn, wd_go hw]
      show a ≤ j ∧ j ≤ wdF zlt f (z - j) j ∧ wdF zlt f (z - j) j ≤ z ∧ (_ ∨ a < wdF zlt f (z - j) j)
      rw [h3]
      exact ⟨h1.1, by omega, by omega, Or.inr (by omega)⟩
    | false =>
      cases hd : zdg (f j) with
      | true =>
        rw [lk_d hj' hl hw hd]
        obtain ⟨n, hn⟩ : ∃ n, z - j = n + 1 := ⟨z - j - 1, by omega⟩
        have h2 := dg_le f j n (j + 1) (0 * 10 + (f j).toInt64 - 48)
        have h3 : dgF f j (z - j) j 0 = dgF f j n (j + 1) (0 * 10 + (f j).toInt64 - 48) := by rw [hn, dg_lt hd (by omega)]
        show a ≤ j ∧ j ≤ (dgF f j (z - j) j 0).1 ∧ (dgF f j (z - j) j 0).1 ≤ z ∧ (_ ∨ a < (dgF f j (z - j) j 0).1)
        rw [h3]
        exact ⟨h1.1, by omega, by omega, Or.inr (by omega)⟩
      | false =>
        by_cases h3 : f j = 59
        · rw [lk_3 hj' hl hw hd h3]
          exact ⟨h1.1, Nat.le_succ _, hl, Or.inr (by show a < j + 1; omega)⟩
        · rw [lk_4 hj' hl hw hd h3]
          exact ⟨h1.1, Nat.le_succ _, hl, Or.inr (by show a < j + 1; omega)⟩
noncomputable def weF (f : Nat → Int32) (a : Nat) (w : List Int32) : Nat → Nat → Bool
  | 0, _ => true
  | n + 1, i => if f (a + i) = w.getD i 0 then weF f a w n (i + 1) else false
theorem we_go {f : Nat → Int32} {a : Nat} {w : List Int32} {n i : Nat} (h : f (a + i) = w.getD i 0) : weF f a w (n + 1) i = weF f a w n (i + 1) := if_pos h
theorem we_no {f : Nat → Int32} {a : Nat} {w : List Int32} {n i : Nat} (h : ¬ f (a + i) = w.getD i 0) : weF f a w (n + 1) i = false := if_neg h
/-- the token from a to b is the word -/
noncomputable def isW (f : Nat → Int32) (a b : Nat) (tk : Int32) (w : List Int32) : Bool := decide (tk = 1) && (decide (b = a + w.length) && weF f a w w.length 0)
theorem isw_y {f : Nat → Int32} {a b : Nat} {tk : Int32} {w : List Int32} (h1 : tk = 1) (h2 : b = a + w.length) (h3 : weF f a w w.length 0 = true) : isW f a b tk w = true := by rw [isW, decide_eq_true h1, decide_eq_true h2, h3]; rfl
theorem isw_n1 {f : Nat → Int32} {a b : Nat} {tk : Int32} {w : List Int32} (h1 : ¬ tk = 1) : isW f a b tk w = false := by rw [isW, decide_eq_false h1]; rfl
theorem isw_n2 {f : Nat → Int32} {a b : Nat} {tk : Int32} {w : List Int32} (ha : a ≤ 250) (hb : b ≤ 250) (h2 : ¬ nI b - nI a = nI w.length) : isW f a b tk w = false := by
  rw [isW, decide_eq_false (p := b = a + w.length) (fun q => h2 (by rw [q, pk_sub (by omega)]; congr 1; omega)), Bool.false_and, Bool.and_false]
theorem isw_n3 {f : Nat → Int32} {a b : Nat} {tk : Int32} {w : List Int32} (h3 : weF f a w w.length 0 = false) : isW f a b tk w = false := by rw [isW, h3, Bool.and_false, Bool.and_false]
set_option maxHeartbeats 4000000 in
set_option maxRecDepth 100000 in
theorem c_X6_isLetter (l : Launch) (G : va_G) (cy : Nat → ClassId) (iA : Int32)   : MR l yX6_isLetter cX6_isLetter 1 (some .boolean) 1 G cy [] [.int iA] (vp_Si (fun r => (r = 1 ∧ zlt iA = true) ∨ (r = 0 ∧ zlt iA = false))) := by
  refine enR RX6 (by decide) rfl (Nat.le_of_ble_eq_true rfl) (fun p e s m below meth c ls hx hb hml hown hts hr hlocks hP hN hl => ?_)
  have hK := hN.1
  replace hl : lv_has ls 1 [(0, .int iA)] := hl
  refine lv_iload_n hx hb dX6_isLetter_0 rfl (lv_at hl 0 rfl) ?_
  refine lv_bipush (v := 97) hx hb dX6_isLetter_1 (by decide) ?_
  refine lv_icmp_lt (tgt := 16) hx hb dX6_isLetter_3 (by decide) (fun c_1 => ?_) (fun c_1 => ?_)
  · refine lv_iconst (v := 0) hx hb dX6_isLetter_16 (by decide) ?_
    exact endR hx hb hr hlocks rfl (Or.inr (⟨rfl, by show (decide _ && decide _) = false; rw [decide_eq_false (Int32.not_le.mpr c_1)]; rfl⟩)) dX6_isLetter_17
  · refine lv_iload_n hx hb dX6_isLetter_6 rfl (lv_at hl 0 rfl) ?_
    refine lv_bipush (v := 122) hx hb dX6_isLetter_7 (by decide) ?_
    refine lv_icmp_gt (tgt := 16) hx hb dX6_isLetter_9 (by decide) (fun c_2 => ?_) (fun c_2 => ?_)
    · refine lv_iconst (v := 0) hx hb dX6_isLetter_16 (by decide) ?_
      exact endR hx hb hr hlocks rfl (Or.inr (⟨rfl, by show (decide _ && decide _) = false; rw [decide_eq_false (p := _ ≤ _) (Int32.not_le.mpr c_2), Bool.and_false]⟩)) dX6_isLetter_17
    · refine lv_iconst (v := 1) hx hb dX6_isLetter_12 (by decide) ?_
      refine lv_goto (tgt := 17) hx hb dX6_isLetter_13 (by decide) ?_
      exact endR hx hb hr hlocks rfl (Or.inl (⟨rfl, by show (decide _ && decide _) = true; rw [decide_eq_true (Int32.not_lt.mp c_1), decide_eq_true (Int32.not_lt.mp c_2)]; rfl⟩)) dX6_isLetter_17
set_option maxHeartbeats 4000000 in
set_option maxRecDepth 100000 in
theorem c_X6_isDigit (l : Launch) (G : va_G) (cy : Nat → ClassId) (iA : Int32)   : MR l yX6_isDigit cX6_isDigit 1 (some .boolean) 1 G cy [] [.int iA] (vp_Si (fun r => (r = 1 ∧ zdg iA = true) ∨ (r = 0 ∧ zdg iA = false))) := by
  refine enR RX6 (by decide) rfl (Nat.le_of_ble_eq_true rfl) (fun p e s m below meth c ls hx hb hml hown hts hr hlocks hP hN hl => ?_)
  have hK := hN.1
  replace hl : lv_has ls 1 [(0, .int iA)] := hl
  refine lv_iload_n hx hb dX6_isDigit_0 rfl (lv_at hl 0 rfl) ?_
  refine lv_bipush (v := 48) hx hb dX6_isDigit_1 (by decide) ?_
  refine lv_icmp_lt (tgt := 16) hx hb dX6_isDigit_3 (by decide) (fun c_1 => ?_) (fun c_1 => ?_)
  · refine lv_iconst (v := 0) hx hb dX6_isDigit_16 (by decide) ?_
    exact endR hx hb hr hlocks rfl (Or.inr (⟨rfl, by show (decide _ && decide _) = false; rw [decide_eq_false (Int32.not_le.mpr c_1)]; rfl⟩)) dX6_isDigit_17
  · refine lv_iload_n hx hb dX6_isDigit_6 rfl (lv_at hl 0 rfl) ?_
    refine lv_bipush (v := 57) hx hb dX6_isDigit_7 (by decide) ?_
    refine lv_icmp_gt (tgt := 16) hx hb dX6_isDigit_9 (by decide) (fun c_2 => ?_) (fun c_2 => ?_)
    · refine lv_iconst (v := 0) hx hb dX6_isDigit_16 (by decide) ?_
      exact endR hx hb hr hlocks rfl (Or.inr (⟨rfl, by show (decide _ && decide _) = false; rw [decide_eq_false (p := _ ≤ _) (Int32.not_le.mpr c_2), Bool.and_false]⟩)) dX6_isDigit_17
    · refine lv_iconst (v := 1) hx hb dX6_isDigit_12 (by decide) ?_
      refine lv_goto (tgt := 17) hx hb dX6_isDigit_13 (by decide) ?_
      exact endR hx hb hr hlocks rfl (Or.inl (⟨rfl, by show (decide _ && decide _) = true; rw [decide_eq_true (Int32.not_lt.mp c_1), decide_eq_true (Int32.not_lt.mp c_2)]; rfl⟩)) dX6_isDigit_17
set_option maxHeartbeats 4000000 in
set_option maxRecDepth 100000 in
theorem c_X6_look (l : Launch) (G : va_G) (cy : Nat → ClassId) (sz : Nat) (qm : Nat) (v0 : Value) (v1 : Value) (v2 : Value) (v3 : Value) (v4 : Value) (v5 : Value) (v6 : Value) (qmt : Nat) (kZ : Nat) (v9 : Value) (tA : TA) (qmB : Nat) (qmO : Nat) (qmK : Nat) (iEn : Int32) (iTk : Int32) (v18 : Value) (v19 : Value) (kAt : Nat) (iTo : Int32) (iFr : Int32) (JFi : Int64) (iFa : Int32) (v25 : Value) (v26 : Value) (iLv : Int32) (iWs : Int32) (v29 : Value) (v30 : Value) (v31 : Value) (v32 : Value) (v33 : Value) (v34 : Value) (fMt : Nat → Int32)  (hZ : kZ ≤ 250) (hAt : kAt ≤ kZ) : MW l yX6_look cX6_look 1 none 2 0 0 G cy [zzO qm 5 [v0, v1, v2, v3, v4, v5, v6, .ref qmt, .int (nI kZ), v9, .int (nI (T_nb tA)), .ref qmB, .int (nI (T_np tA)), .ref qmO, .ref qmK, .int iEn, .int iTk, .int (T_sd tA), v18, v19, .int (nI kAt), .int iTo, .int iFr, .long JFi, .int iFa, v25, v26, .int iLv, .int iWs, v29, v30, v31, v32, v33, v34], zzI cy qmt 250 fMt] sz [.ref qm] (Wv G (fun u => u = [zzO qm 5 [v0, v1, v2, v3, v4, v5, v6, .ref qmt, .int (nI kZ), v9, .int (nI (T_nb tA)), .ref qmB, .int (nI (T_np tA)), .ref qmO, .ref qmK, .int iEn, .int iTk, .int (T_sd tA), v18, v19, .int (nI (lkF fMt kZ kAt).2.2.1), .int ((lkF fMt kZ kAt).2.1), .int (nI (lkF fMt kZ kAt).1), .long ((lkF fMt kZ kAt).2.2.2), .int iFa, v25, v26, .int iLv, .int iWs, v29, v30, v31, v32, v33, v34], zzI cy qmt 250 fMt])) := by
  refine enW RX6 (by decide) rfl (Nat.le_of_ble_eq_true rfl) (fun p e s m below meth c ls A hx hb hml hown hts hr hlocks hP hN hl hin hD hA hS => ?_)
  have hin : meth.name = _ := hin
  have hK := hN.1
  replace hl : lv_has ls 1 [(0, .ref qm)] := hl
  have lp_1 : ∀ (n_2 : Nat) (j_4 : Nat), 250 - j_4 < n_2 → kAt ≤ j_4 ∧ j_4 ≤ kZ → skF fMt (kZ - j_4) j_4 = skF fMt (kZ - kAt) kAt → ∀ (H : Heap) (locs : List Loc) (ls : Array Slot), va_P G CL [zzO qm 5 [v0, v1, v2, v3, v4, v5, v6, .ref qmt, .int (nI kZ), v9, .int (nI (T_nb tA)), .ref qmB, .int (nI (T_np tA)), .ref qmO, .ref qmK, .int iEn, .int iTk, .int (T_sd tA), v18, v19, .int (nI j_4), .int iTo, .int iFr, .long JFi, .int iFa, v25, v26, .int iLv, .int iWs, v29, v30, v31, v32, v33, v34], zzI cy qmt 250 fMt] H → va_D A [zzO qm 5 [v0, v1, v2, v3, v4, v5, v6, .ref qmt, .int (nI kZ), v9, .int (nI (T_nb tA)), .ref qmB, .int (nI (T_np tA)), .ref qmO, .ref qmK, .int iEn, .int iTk, .int (T_sd tA), v18, v19, .int (nI j_4), .int iTo, .int iFr, .long JFi, .int iFa, v25, v26, .int iLv, .int iWs, v29, v30, v31, v32, v33, v34], zzI cy qmt 250 fMt] → va_S A s.heap H locs → lv_has ls 1 [(0, .ref qm)] → W p l e (Rm 2 0 0) s m (List.toArray (α := Value) [.ref qm]) below meth c H locs 0 0 (MQ below ((Wv G (fun u => u = [zzO qm 5 [v0, v1, v2, v3, v4, v5, v6, .ref qmt, .int (nI kZ), v9, .int (nI (T_nb tA)), .ref qmB, .int (nI (T_np tA)), .ref qmO, .ref qmK, .int iEn, .int iTk, .int (T_sd tA), v18, v19, .int (nI (lkF fMt kZ kAt).2.2.1), .int ((lkF fMt kZ kAt).2.1), .int (nI (lkF fMt kZ kAt).1), .long ((lkF fMt kZ kAt).2.2.2), .int iFa, v25, v26, .int iLv, .int iWs, v29, v30, v31, v32, v33, v34], zzI cy qmt 250 fMt])) A) (List.toArray (α := Value) [.ref qm]) s 0 0 A) (F0 m 0 ls []) := by
    intro n_2
    induction n_2 with
    | zero => intro j_4 hm9; exact absurd hm9 (Nat.not_lt_zero _)
    | succ n_2 ih_3 =>
      intro j_4 hm_7 hj_5 hT_6 H locs ls hP hD hS hl
      refine lv_aload_n hx hb dX6_look_0 rfl (lv_at hl 0 rfl) ?_
      refine va_get (D := G) (ci := 5) (v := .int (nI j_4)) (C := RX6) (T := TX6) (N := 35) hx hb hts iX_X6 hown hK hP 0 rfl rfl 20 (by decide) (hts _ m_t870) (fun _ h9 => h9) rfl dX6_look_1 ?_
      refine lv_aload_n hx hb dX6_look_4 rfl (lv_at hl 0 rfl) ?_
      refine va_get (D := G) (ci := 5) (v := .int (nI kZ)) (C := RX6) (T := TX6) (N := 35) hx hb hts iX_X6 hown hK hP 0 rfl rfl 8 (by decide) (hts _ m_t858) (fun _ h9 => h9) rfl dX6_look_5 ?_
      refine lv_icmp_ge (tgt := 38) hx hb dX6_look_8 (by decide) (fun c_8 => ?_) (fun c_8 => ?_)
      · have hlt_9 : j_4 = kZ := Nat.le_antisymm (by omega) (lp_ge rfl rfl (by omega) (by omega) c_8)
        have hlt_9f : j_4 = skF fMt (kZ - kAt) kAt := by rw [← hT_6, hlt_9, Nat.sub_self]; rfl
        refine lv_aload_n hx hb dX6_look_38 rfl (lv_at hl 0 rfl) ?_
        refine lv_aload_n hx hb dX6_look_39 rfl (lv_at hl 0 rfl) ?_
        refine va_get (D := G) (ci := 5) (v := .int (nI j_4)) (C := RX6) (T := TX6) (N := 35) hx hb hts iX_X6 hown hK hP 0 rfl rfl 20 (by decide) (hts _ m_t870) (fun _ h9 => h9) rfl dX6_look_40 ?_
        refine va_put (D := G) (ci := 5) (v := .int (nI j_4)) (ty := .int) (C := RX6) (T := TX6) (N := 35) hx hb hts iX_X6 tyX6 tyX6_ok nmX6 hown hK hP hD hS 0 rfl rfl 22 (by decide) (hts _ m_t872) (fun _ h9 => h9) rfl (by decide +kernel) rfl rfl (Nat.le_of_ble_eq_true rfl) dX6_look_43 (fun H locs => ?_)
        clear hP hD hS
        intro hP hD hS
        have hPD := pd_as [zzO qm 5 [v0, v1, v2, v3, v4, v5, v6, .ref qmt, .int (nI kZ), v9, .int (nI (T_nb tA)), .ref qmB, .int (nI (T_np tA)), .ref qmO, .ref qmK, .int iEn, .int iTk, .int (T_sd tA), v18, v19, .int (nI j_4), .int iTo, .int (nI j_4), .long JFi, .int iFa, v25, v26, .int iLv, .int iWs, v29, v30, v31, v32, v33, v34], zzI cy qmt 250 fMt] hP hD rfl
        clear hP hD
        obtain ⟨hP, hD⟩ := hPD
        refine lv_aload_n hx hb dX6_look_46 rfl (lv_at hl 0 rfl) ?_
        refine lv_lconst (v := 0) hx hb dX6_look_47 (by decide) ?_
        refine va_put (D := G) (ci := 5) (v := .long 0) (ty := .long) (C := RX6) (T := TX6) (N := 35) hx hb hts iX_X6 tyX6 tyX6_ok nmX6 hown hK hP hD hS 0 rfl rfl 23 (by decide) (hts _ m_t873) (fun _ h9 => h9) rfl (by decide +kernel) rfl rfl (Nat.le_of_ble_eq_true rfl) dX6_look_48 (fun H locs => ?_)
        clear hP hD hS
        intro hP hD hS
        have hPD := pd_as [zzO qm 5 [v0, v1, v2, v3, v4, v5, v6, .ref qmt, .int (nI kZ), v9, .int (nI (T_nb tA)), .ref qmB, .int (nI (T_np tA)), .ref qmO, .ref qmK, .int iEn, .int iTk, .int (T_sd tA), v18, v19, .int (nI j_4), .int iTo, .int (nI j_4), .long 0, .int iFa, v25, v26, .int iLv, .int iWs, v29, v30, v31, v32, v33, v34], zzI cy qmt 250 fMt] hP hD rfl
        clear hP hD
        obtain ⟨hP, hD⟩ := hPD
        refine lv_aload_n hx hb dX6_look_51 rfl (lv_at hl 0 rfl) ?_
        refine va_get (D := G) (ci := 5) (v := .int (nI j_4)) (C := RX6) (T := TX6) (N := 35) hx hb hts iX_X6 hown hK hP 0 rfl rfl 20 (by decide) (hts _ m_t870) (fun _ h9 => h9) rfl dX6_look_52 ?_
        refine lv_aload_n hx hb dX6_look_55 rfl (lv_at hl 0 rfl) ?_
        refine va_get (D := G) (ci := 5) (v := .int (nI kZ)) (C := RX6) (T := TX6) (N := 35) hx hb hts iX_X6 hown hK hP 0 rfl rfl 8 (by decide) (hts _ m_t858) (fun _ h9 => h9) rfl dX6_look_56 ?_
        refine lv_icmp_ne (tgt := 70) hx hb dX6_look_59 (by decide) (fun c_10 => ?_) (fun c_10 => ?_)
        · have hne_11 : j_4 < kZ := Nat.lt_of_le_of_ne (by omega) (fun q => c_10 (congrArg nI q))
          refine lv_aload_n hx hb dX6_look_70 rfl (lv_at hl 0 rfl) ?_
          refine va_get (D := G) (ci := 5) (v := .ref qmt) (C := RX6) (T := TX6) (N := 35) hx hb hts iX_X6 hown hK hP 0 rfl rfl 7 (by decide) (hts _ m_t857) (fun _ h9 => h9) rfl dX6_look_71 ?_
          refine lv_aload_n hx hb dX6_look_74 rfl (lv_at hl 0 rfl) ?_
          refine va_get (D := G) (ci := 5) (v := .int (nI j_4)) (C := RX6) (T := TX6) (N := 35) hx hb hts iX_X6 hown hK hP 0 rfl rfl 20 (by decide) (hts _ m_t870) (fun _ h9 => h9) rfl dX6_look_75 ?_
          refine va_iald hx hb hK hP 1 0 rfl rfl (vp_in_nI (by omega) (by omega)) dX6_look_78 ?_
          refine lv_seti (v := fMt j_4) (congrArg fMt (nI_clamp (by omega))) ?_
          refine kRi (rS (As := [.int (fMt j_4)]) (rest := []) ⟨hx, hb, hml, hown, hts⟩ (c_X6_isLetter l G cy (fMt j_4)) L_X6_157 (preRS hN hP [] rfl) rfl ⟨Nat.le_of_ble_eq_true rfl, Nat.le_of_ble_eq_true rfl⟩ hl.1 (Nat.le_of_ble_eq_true rfl) dX6_look_79 ⟨Nat.le_of_ble_eq_true rfl, Nat.le_of_ble_eq_true rfl⟩) (fun r_12 h_13 => ?_)
          rcases h_13 with ⟨rfl, h_14⟩ | ⟨rfl, h_14⟩
          · refine lv_if_eq (tgt := 129) hx hb dX6_look_82 (by decide) (fun h9 => absurd h9 (by decide)) (fun _ => ?_)
            refine lv_aload_n hx hb dX6_look_85 rfl (lv_at hl 0 rfl) ?_
            refine lv_iconst (v := 1) hx hb dX6_look_86 (by decide) ?_
            refine va_put (D := G) (ci := 5) (v := .int 1) (ty := .int) (C := RX6) (T := TX6) (N := 35) hx hb hts iX_X6 tyX6 tyX6_ok nmX6 hown hK hP hD hS 0 rfl rfl 21 (by decide) (hts _ m_t871) (fun _ h9 => h9) rfl (by decide +kernel) rfl rfl (Nat.le_of_ble_eq_true rfl) dX6_look_87 (fun H locs => ?_)
            clear hP hD hS
            intro hP hD hS
            have hPD := pd_as [zzO qm 5 [v0, v1, v2, v3, v4, v5, v6, .ref qmt, .int (nI kZ), v9, .int (nI (T_nb tA)), .ref qmB, .int (nI (T_np tA)), .ref qmO, .ref qmK, .int iEn, .int iTk, .int (T_sd tA), v18, v19, .int (nI j_4), .int 1, .int (nI j_4), .long 0, .int iFa, v25, v26, .int iLv, .int iWs, v29, v30, v31, v32, v33, v34], zzI cy qmt 250 fMt] hP hD rfl
            clear hP hD
            obtain ⟨hP, hD⟩ := hPD
            have lp_16 : ∀ (n_17 : Nat) (m_19 : Nat), 250 - m_19 < n_17 → j_4 ≤ m_19 ∧ m_19 ≤ kZ → wdF zlt fMt (kZ - m_19) m_19 = wdF zlt fMt (kZ - j_4) j_4 → ∀ (H : Heap) (locs : List Loc) (ls : Array Slot), va_P G CL [zzO qm 5 [v0, v1, v2, v3, v4, v5, v6, .ref qmt, .int (nI kZ), v9, .int (nI (T_nb tA)), .ref qmB, .int (nI (T_np tA)), .ref qmO, .ref qmK, .int iEn, .int iTk, .int (T_sd tA), v18, v19, .int (nI m_19), .int 1, .int (nI j_4), .long 0, .int iFa, v25, v26, .int iLv, .int iWs, v29, v30, v31, v32, v33, v34], zzI cy qmt 250 fMt] H → va_D A [zzO qm 5 [v0, v1, v2, v3, v4, v5, v6, .ref qmt, .int (nI kZ), v9, .int (nI (T_nb tA)), .ref qmB, .int (nI (T_np tA)), .ref qmO, .ref qmK, .int iEn, .int iTk, .int (T_sd tA), v18, v19, .int (nI m_19), .int 1, .int (nI j_4), .long 0, .int iFa, v25, v26, .int iLv, .int iWs, v29, v30, v31, v32, v33, v34], zzI cy qmt 250 fMt] → va_S A s.heap H locs → lv_has ls 1 [(0, .ref qm)] → W p l e (Rm 2 0 0) s m (List.toArray (α := Value) [.ref qm]) below meth c H locs 0 0 (MQ below ((Wv G (fun u => u = [zzO qm 5 [v0, v1, v2, v3, v4, v5, v6, .ref qmt, .int (nI kZ), v9, .int (nI (T_nb tA)), .ref qmB, .int (nI (T_np tA)), .ref qmO, .ref qmK, .int iEn, .int iTk, .int (T_sd tA), v18, v19, .int (nI (lkF fMt kZ kAt).2.2.1), .int ((lkF fMt kZ kAt).2.1), .int (nI (lkF fMt kZ kAt).1), .long ((lkF fMt kZ kAt).2.2.2), .int iFa, v25, v26, .int iLv, .int iWs, v29, v30, v31, v32, v33, v34], zzI cy qmt 250 fMt])) A) (List.toArray (α := Value) [.ref qm]) s 0 0 A) (F0 m 90 ls []) := by
              intro n_17
              induction n_17 with
              | zero => intro m_19 hm9; exact absurd hm9 (Nat.not_lt_zero _)
              | succ n_17 ih_18 =>
                intro m_19 hm_22 hm_22 hU_21 H locs ls hP hD hS hl
                refine lv_aload_n hx hb dX6_look_90 rfl (lv_at hl 0 rfl) ?_
                refine va_get (D := G) (ci := 5) (v := .int (nI m_19)) (C := RX6) (T := TX6) (N := 35) hx hb hts iX_X6 hown hK hP 0 rfl rfl 20 (by decide) (hts _ m_t870) (fun _ h9 => h9) rfl dX6_look_91 ?_
                refine lv_aload_n hx hb dX6_look_94 rfl (lv_at hl 0 rfl) ?_
                refine va_get (D := G) (ci := 5) (v := .int (nI kZ)) (C := RX6) (T := TX6) (N := 35) hx hb hts iX_X6 hown hK hP 0 rfl rfl 8 (by decide) (hts _ m_t858) (fun _ h9 => h9) rfl dX6_look_95 ?_
                refine lv_icmp_ge (tgt := 267) hx hb dX6_look_98 (by decide) (fun c_23 => ?_) (fun c_23 => ?_)
                · have hlt_24 : m_19 = kZ := Nat.le_antisymm (by omega) (lp_ge rfl rfl (by omega) (by omega) c_23)
                  have hlt_24r : lkF fMt kZ kAt = (j_4, 1, m_19, 0) := by rw [lk_w hlt_9f hne_11 h_14, ← hU_21, show kZ - m_19 = 0 by omega]; rfl
                  exact endV (u := [zzO qm 5 [v0, v1, v2, v3, v4, v5, v6, .ref qmt, .int (nI kZ), v9, .int (nI (T_nb tA)), .ref qmB, .int (nI (T_np tA)), .ref qmO, .ref qmK, .int iEn, .int iTk, .int (T_sd tA), v18, v19, .int (nI m_19), .int 1, .int (nI j_4), .long 0, .int iFa, v25, v26, .int iLv, .int iWs, v29, v30, v31, v32, v33, v34], zzI cy qmt 250 fMt]) hx hb hr hlocks (hP.sub [0, 1] rfl) (hD.sub [0, 1] (by decide +kernel) rfl) hS (by rw [hlt_24r]) dX6_look_267
                · have hlt_25 : m_19 < kZ := lp_lt rfl rfl (by omega) (by omega) c_23
                  refine lv_aload_n hx hb dX6_look_101 rfl (lv_at hl 0 rfl) ?_
                  refine va_get (D := G) (ci := 5) (v := .ref qmt) (C := RX6) (T := TX6) (N := 35) hx hb hts iX_X6 hown hK hP 0 rfl rfl 7 (by decide) (hts _ m_t857) (fun _ h9 => h9) rfl dX6_look_102 ?_
                  refine lv_aload_n hx hb dX6_look_105 rfl (lv_at hl 0 rfl) ?_
                  refine va_get (D := G) (ci := 5) (v := .int (nI m_19)) (C := RX6) (T := TX6) (N := 35) hx hb hts iX_X6 hown hK hP 0 rfl rfl 20 (by decide) (hts _ m_t870) (fun _ h9 => h9) rfl dX6_look_106 ?_
                  refine va_iald hx hb hK hP 1 0 rfl rfl (vp_in_nI (by omega) (by omega)) dX6_look_109 ?_
                  refine lv_seti (v := fMt m_19) (congrArg fMt (nI_clamp (by omega))) ?_
                  refine kRi (rS (As := [.int (fMt m_19)]) (rest := []) ⟨hx, hb, hml, hown, hts⟩ (c_X6_isLetter l G cy (fMt m_19)) L_X6_157 (preRS hN hP [] rfl) rfl ⟨Nat.le_of_ble_eq_true rfl, Nat.le_of_ble_eq_true rfl⟩ hl.1 (Nat.le_of_ble_eq_true rfl) dX6_look_110 ⟨Nat.le_of_ble_eq_true rfl, Nat.le_of_ble_eq_true rfl⟩) (fun r_26 h_27 => ?_)
                  rcases h_27 with ⟨rfl, h_28⟩ | ⟨rfl, h_28⟩
                  · refine lv_if_eq (tgt := 267) hx hb dX6_look_113 (by decide) (fun h9 => absurd h9 (by decide)) (fun _ => ?_)
                    refine lv_aload_n hx hb dX6_look_116 rfl (lv_at hl 0 rfl) ?_
                    refine lv_dup hx hb dX6_look_117 rfl ?_
                    refine va_get (D := G) (ci := 5) (v := .int (nI m_19)) (C := RX6) (T := TX6) (N := 35) hx hb hts iX_X6 hown hK hP 0 rfl rfl 20 (by decide) (hts _ m_t870) (fun _ h9 => h9) rfl dX6_look_118 ?_
                    refine lv_iconst (v := 1) hx hb dX6_look_121 (by decide) ?_
                    refine lv_iadd hx hb dX6_look_122 ?_
                    refine lv_seti (v := nI (m_19 + 1)) (nI_1 _) ?_
                    refine va_put (D := G) (ci := 5) (v := .int (nI (m_19 + 1))) (ty := .int) (C := RX6) (T := TX6) (N := 35) hx hb hts iX_X6 tyX6 tyX6_ok nmX6 hown hK hP hD hS 0 rfl rfl 20 (by decide) (hts _ m_t870) (fun _ h9 => h9) rfl (by decide +kernel) rfl rfl (Nat.le_of_ble_eq_true rfl) dX6_look_123 (fun H locs => ?_)
                    clear hP hD hS
                    intro hP hD hS
                    have hPD := pd_as [zzO qm 5 [v0, v1, v2, v3, v4, v5, v6, .ref qmt, .int (nI kZ), v9, .int (nI (T_nb tA)), .ref qmB, .int (nI (T_np tA)), .ref qmO, .ref qmK, .int iEn, .int iTk, .int (T_sd tA), v18, v19, .int (nI (m_19 + 1)), .int 1, .int (nI j_4), .long 0, .int iFa, v25, v26, .int iLv, .int iWs, v29, v30, v31, v32, v33, v34], zzI cy qmt 250 fMt] hP hD rfl
                    clear hP hD
                    obtain ⟨hP, hD⟩ := hPD
                    refine lv_goto (tgt := 90) hx hb dX6_look_126 (by decide) ?_
                    exact ih_18 (m_19 + 1) (by omega) (⟨by omega, by omega⟩) (by rw [← hU_21, show kZ - m_19 = kZ - (m_19 + 1) + 1 by omega, wd_go h_28]) _ _ _ hP hD hS (lv_sub hl [0] rfl)
                  · refine lv_if_eq (tgt := 267) hx hb dX6_look_113 (by decide) (fun _ => ?_) (fun h9 => absurd (by decide) h9)
                    have hz_31r : lkF fMt kZ kAt = (j_4, 1, m_19, 0) := by rw [lk_w hlt_9f hne_11 h_14, ← hU_21, show kZ - m_19 = kZ - (m_19 + 1) + 1 by omega, wd_no h_28]
                    exact endV (u := [zzO qm 5 [v0, v1, v2, v3, v4, v5, v6, .ref qmt, .int (nI kZ), v9, .int (nI (T_nb tA)), .ref qmB, .int (nI (T_np tA)), .ref qmO, .ref qmK, .int iEn, .int iTk, .int (T_sd tA), v18, v19, .int (nI m_19), .int 1, .int (nI j_4), .long 0, .int iFa, v25, v26, .int iLv, .int iWs, v29, v30, v31, v32, v33, v34], zzI cy qmt 250 fMt]) hx hb hr hlocks (hP.sub [0, 1] rfl) (hD.sub [0, 1] (by decide +kernel) rfl) hS (by rw [hz_31r]) dX6_look_267
            exact lp_16 ((250 - j_4) + 1) j_4 (Nat.lt_succ_self _) (⟨Nat.le_refl _, by omega⟩) rfl _ _ ls hP hD hS (lv_sub hl [0] rfl)
          · refine lv_if_eq (tgt := 129) hx hb dX6_look_82 (by decide) (fun _ => ?_) (fun h9 => absurd (by decide) h9)
            refine lv_aload_n hx hb dX6_look_129 rfl (lv_at hl 0 rfl) ?_
            refine va_get (D := G) (ci := 5) (v := .ref qmt) (C := RX6) (T := TX6) (N := 35) hx hb hts iX_X6 hown hK hP 0 rfl rfl 7 (by decide) (hts _ m_t857) (fun _ h9 => h9) rfl dX6_look_130 ?_
            refine lv_aload_n hx hb dX6_look_133 rfl (lv_at hl 0 rfl) ?_
            refine va_get (D := G) (ci := 5) (v := .int (nI j_4)) (C := RX6) (T := TX6) (N := 35) hx hb hts iX_X6 hown hK hP 0 rfl rfl 20 (by decide) (hts _ m_t870) (fun _ h9 => h9) rfl dX6_look_134 ?_
            refine va_iald hx hb hK hP 1 0 rfl rfl (vp_in_nI (by omega) (by omega)) dX6_look_137 ?_
            refine lv_seti (v := fMt j_4) (congrArg fMt (nI_clamp (by omega))) ?_
            refine kRi (rS (As := [.int (fMt j_4)]) (rest := []) ⟨hx, hb, hml, hown, hts⟩ (c_X6_isDigit l G cy (fMt j_4)) L_X6_160 (preRS hN hP [] rfl) rfl ⟨Nat.le_of_ble_eq_true rfl, Nat.le_of_ble_eq_true rfl⟩ hl.1 (Nat.le_of_ble_eq_true rfl) dX6_look_138 ⟨Nat.le_of_ble_eq_true rfl, Nat.le_of_ble_eq_true rfl⟩) (fun r_33 h_34 => ?_)
            rcases h_34 with ⟨rfl, h_35⟩ | ⟨rfl, h_35⟩
            · refine lv_if_eq (tgt := 234) hx hb dX6_look_141 (by decide) (fun h9 => absurd h9 (by decide)) (fun _ => ?_)
              refine lv_aload_n hx hb dX6_look_144 rfl (lv_at hl 0 rfl) ?_
              refine lv_iconst (v := 2) hx hb dX6_look_145 (by decide) ?_
              refine va_put (D := G) (ci := 5) (v := .int 2) (ty := .int) (C := RX6) (T := TX6) (N := 35) hx hb hts iX_X6 tyX6 tyX6_ok nmX6 hown hK hP hD hS 0 rfl rfl 21 (by decide) (hts _ m_t871) (fun _ h9 => h9) rfl (by decide +kernel) rfl rfl (Nat.le_of_ble_eq_true rfl) dX6_look_146 (fun H locs => ?_)
              clear hP hD hS
              intro hP hD hS
              have hPD := pd_as [zzO qm 5 [v0, v1, v2, v3, v4, v5, v6, .ref qmt, .int (nI kZ), v9, .int (nI (T_nb tA)), .ref qmB, .int (nI (T_np tA)), .ref qmO, .ref qmK, .int iEn, .int iTk, .int (T_sd tA), v18, v19, .int (nI j_4), .int 2, .int (nI j_4), .long 0, .int iFa, v25, v26, .int iLv, .int iWs, v29, v30, v31, v32, v33, v34], zzI cy qmt 250 fMt] hP hD rfl
              clear hP hD
              obtain ⟨hP, hD⟩ := hPD
              have lp_37 : ∀ (n_38 : Nat) (m_40 : Nat) (xF_41 : Int64), 250 - m_40 < n_38 → j_4 ≤ m_40 ∧ m_40 ≤ kZ → dgF fMt j_4 (kZ - m_40) m_40 xF_41 = dgF fMt j_4 (kZ - j_4) j_4 0 → ∀ (H : Heap) (locs : List Loc) (ls : Array Slot), va_P G CL [zzO qm 5 [v0, v1, v2, v3, v4, v5, v6, .ref qmt, .int (nI kZ), v9, .int (nI (T_nb tA)), .ref qmB, .int (nI (T_np tA)), .ref qmO, .ref qmK, .int iEn, .int iTk, .int (T_sd tA), v18, v19, .int (nI m_40), .int 2, .int (nI j_4), .long xF_41, .int iFa, v25, v26, .int iLv, .int iWs, v29, v30, v31, v32, v33, v34], zzI cy qmt 250 fMt] H → va_D A [zzO qm 5 [v0, v1, v2, v3, v4, v5, v6, .ref qmt, .int (nI kZ), v9, .int (nI (T_nb tA)), .ref qmB, .int (nI (T_np tA)), .ref qmO, .ref qmK, .int iEn, .int iTk, .int (T_sd tA), v18, v19, .int (nI m_40), .int 2, .int (nI j_4), .long xF_41, .int iFa, v25, v26, .int iLv, .int iWs, v29, v30, v31, v32, v33, v34], zzI cy qmt 250 fMt] → va_S A s.heap H locs → lv_has ls 1 [(0, .ref qm)] → W p l e (Rm 2 0 0) s m (List.toArray (α := Value) [.ref qm]) below meth c H locs 0 0 (MQ below ((Wv G (fun u => u = [zzO qm 5 [v0, v1, v2, v3, v4, v5, v6, .ref qmt, .int (nI kZ), v9, .int (nI (T_nb tA)), .ref qmB, .int (nI (T_np tA)), .ref qmO, .ref qmK, .int iEn, .int iTk, .int (T_sd tA), v18, v19, .int (nI (lkF fMt kZ kAt).2.2.1), .int ((lkF fMt kZ kAt).2.1), .int (nI (lkF fMt kZ kAt).1), .long ((lkF fMt kZ kAt).2.2.2), .int iFa, v25, v26, .int iLv, .int iWs, v29, v30, v31, v32, v33, v34], zzI cy qmt 250 fMt])) A) (List.toArray (α := Value) [.ref qm]) s 0 0 A) (F0 m 149 ls []) := by
                intro n_38
                induction n_38 with
                | zero => intro m_40 xF_41 hm9; exact absurd hm9 (Nat.not_lt_zero _)
                | succ n_38 ih_39 =>
                  intro m_40 xF_41 hm_44 hm_44 hU_43 H locs ls hP hD hS hl
                  refine lv_aload_n hx hb dX6_look_149 rfl (lv_at hl 0 rfl) ?_
                  refine va_get (D := G) (ci := 5) (v := .int (nI m_40)) (C := RX6) (T := TX6) (N := 35) hx hb hts iX_X6 hown hK hP 0 rfl rfl 20 (by decide) (hts _ m_t870) (fun _ h9 => h9) rfl dX6_look_150 ?_
                  refine lv_aload_n hx hb dX6_look_153 rfl (lv_at hl 0 rfl) ?_
                  refine va_get (D := G) (ci := 5) (v := .int (nI kZ)) (C := RX6) (T := TX6) (N := 35) hx hb hts iX_X6 hown hK hP 0 rfl rfl 8 (by decide) (hts _ m_t858) (fun _ h9 => h9) rfl dX6_look_154 ?_
                  refine lv_icmp_ge (tgt := 267) hx hb dX6_look_157 (by decide) (fun c_45 => ?_) (fun c_45 => ?_)
                  · have hlt_46 : m_40 = kZ := Nat.le_antisymm (by omega) (lp_ge rfl rfl (by omega) (by omega) c_45)
                    have hlt_46r : lkF fMt kZ kAt = (j_4, 2, m_40, xF_41) := by rw [lk_d hlt_9f hne_11 h_14 h_35, ← hU_43, show kZ - m_40 = 0 by omega]; rfl
                    exact endV (u := [zzO qm 5 [v0, v1, v2, v3, v4, v5, v6, .ref qmt, .int (nI kZ), v9, .int (nI (T_nb tA)), .ref qmB, .int (nI (T_np tA)), .ref qmO, .ref qmK, .int iEn, .int iTk, .int (T_sd tA), v18, v19, .int (nI m_40), .int 2, .int (nI j_4), .long xF_41, .int iFa, v25, v26, .int iLv, .int iWs, v29, v30, v31, v32, v33, v34], zzI cy qmt 250 fMt]) hx hb hr hlocks (hP.sub [0, 1] rfl) (hD.sub [0, 1] (by decide +kernel) rfl) hS (by rw [hlt_46r]) dX6_look_267
                  · have hlt_47 : m_40 < kZ := lp_lt rfl rfl (by omega) (by omega) c_45
                    refine lv_aload_n hx hb dX6_look_160 rfl (lv_at hl 0 rfl) ?_
                    refine va_get (D := G) (ci := 5) (v := .ref qmt) (C := RX6) (T := TX6) (N := 35) hx hb hts iX_X6 hown hK hP 0 rfl rfl 7 (by decide) (hts _ m_t857) (fun _ h9 => h9) rfl dX6_look_161 ?_
                    refine lv_aload_n hx hb dX6_look_164 rfl (lv_at hl 0 rfl) ?_
                    refine va_get (D := G) (ci := 5) (v := .int (nI m_40)) (C := RX6) (T := TX6) (N := 35) hx hb hts iX_X6 hown hK hP 0 rfl rfl 20 (by decide) (hts _ m_t870) (fun _ h9 => h9) rfl dX6_look_165 ?_
                    refine va_iald hx hb hK hP 1 0 rfl rfl (vp_in_nI (by omega) (by omega)) dX6_look_168 ?_
                    refine lv_seti (v := fMt m_40) (congrArg fMt (nI_clamp (by omega))) ?_
                    refine kRi (rS (As := [.int (fMt m_40)]) (rest := []) ⟨hx, hb, hml, hown, hts⟩ (c_X6_isDigit l G cy (fMt m_40)) L_X6_160 (preRS hN hP [] rfl) rfl ⟨Nat.le_of_ble_eq_true rfl, Nat.le_of_ble_eq_true rfl⟩ hl.1 (Nat.le_of_ble_eq_true rfl) dX6_look_169 ⟨Nat.le_of_ble_eq_true rfl, Nat.le_of_ble_eq_true rfl⟩) (fun r_48 h_49 => ?_)
                    rcases h_49 with ⟨rfl, h_50⟩ | ⟨rfl, h_50⟩
                    · refine lv_if_eq (tgt := 267) hx hb dX6_look_172 (by decide) (fun h9 => absurd h9 (by decide)) (fun _ => ?_)
                      refine lv_aload_n hx hb dX6_look_175 rfl (lv_at hl 0 rfl) ?_
                      refine lv_aload_n hx hb dX6_look_176 rfl (lv_at hl 0 rfl) ?_
                      refine va_get (D := G) (ci := 5) (v := .int (nI m_40)) (C := RX6) (T := TX6) (N := 35) hx hb hts iX_X6 hown hK hP 0 rfl rfl 20 (by decide) (hts _ m_t870) (fun _ h9 => h9) rfl dX6_look_177 ?_
                      refine lv_aload_n hx hb dX6_look_180 rfl (lv_at hl 0 rfl) ?_
                      refine va_get (D := G) (ci := 5) (v := .int (nI j_4)) (C := RX6) (T := TX6) (N := 35) hx hb hts iX_X6 hown hK hP 0 rfl rfl 22 (by decide) (hts _ m_t872) (fun _ h9 => h9) rfl dX6_look_181 ?_
                      refine lv_isub hx hb dX6_look_184 ?_
                      refine lv_iconst (v := 3) hx hb dX6_look_185 (by decide) ?_
                      refine lv_icmp_ge (tgt := 215) hx hb dX6_look_186 (by decide) (fun c_52 => ?_) (fun c_52 => ?_)
                      · refine lv_ldc2 hx hb hown (hts _ m_t1139) dX6_look_215 ?_
                        refine va_put (D := G) (ci := 5) (v := .long 100000) (ty := .long) (C := RX6) (T := TX6) (N := 35) hx hb hts iX_X6 tyX6 tyX6_ok nmX6 hown hK hP hD hS 0 rfl rfl 23 (by decide) (hts _ m_t873) (fun _ h9 => h9) rfl (by decide +kernel) rfl rfl (Nat.le_of_ble_eq_true rfl) dX6_look_218 (fun H locs => ?_)
                        clear hP hD hS
                        intro hP hD hS
                        have hPD := pd_as [zzO qm 5 [v0, v1, v2, v3, v4, v5, v6, .ref qmt, .int (nI kZ), v9, .int (nI (T_nb tA)), .ref qmB, .int (nI (T_np tA)), .ref qmO, .ref qmK, .int iEn, .int iTk, .int (T_sd tA), v18, v19, .int (nI m_40), .int 2, .int (nI j_4), .long 100000, .int iFa, v25, v26, .int iLv, .int iWs, v29, v30, v31, v32, v33, v34], zzI cy qmt 250 fMt] hP hD rfl
                        clear hP hD
                        obtain ⟨hP, hD⟩ := hPD
                        refine lv_aload_n hx hb dX6_look_221 rfl (lv_at hl 0 rfl) ?_
                        refine lv_dup hx hb dX6_look_222 rfl ?_
                        refine va_get (D := G) (ci := 5) (v := .int (nI m_40)) (C := RX6) (T := TX6) (N := 35) hx hb hts iX_X6 hown hK hP 0 rfl rfl 20 (by decide) (hts _ m_t870) (fun _ h9 => h9) rfl dX6_look_223 ?_
                        refine lv_iconst (v := 1) hx hb dX6_look_226 (by decide) ?_
                        refine lv_iadd hx hb dX6_look_227 ?_
                        refine lv_seti (v := nI (m_40 + 1)) (nI_1 _) ?_
                        refine va_put (D := G) (ci := 5) (v := .int (nI (m_40 + 1))) (ty := .int) (C := RX6) (T := TX6) (N := 35) hx hb hts iX_X6 tyX6 tyX6_ok nmX6 hown hK hP hD hS 0 rfl rfl 20 (by decide) (hts _ m_t870) (fun _ h9 => h9) rfl (by decide +kernel) rfl rfl (Nat.le_of_ble_eq_true rfl) dX6_look_228 (fun H locs => ?_)
                        clear hP hD hS
                        intro hP hD hS
                        have hPD := pd_as [zzO qm 5 [v0, v1, v2, v3, v4, v5, v6, .ref qmt, .int (nI kZ), v9, .int (nI (T_nb tA)), .ref qmB, .int (nI (T_np tA)), .ref qmO, .ref qmK, .int iEn, .int iTk, .int (T_sd tA), v18, v19, .int (nI (m_40 + 1)), .int 2, .int (nI j_4), .long 100000, .int iFa, v25, v26, .int iLv, .int iWs, v29, v30, v31, v32, v33, v34], zzI cy qmt 250 fMt] hP hD rfl
                        clear hP hD
                        obtain ⟨hP, hD⟩ := hPD
                        refine lv_goto (tgt := 149) hx hb dX6_look_231 (by decide) ?_
                        exact ih_39 (m_40 + 1) 100000 (by omega) (⟨by omega, by omega⟩) (by rw [← hU_43, show kZ - m_40 = kZ - (m_40 + 1) + 1 by omega, dg_go h_50 (dg_ge (by omega) (by omega) c_52)]) _ _ _ hP hD hS (lv_sub hl [0] rfl)
                      · refine lv_aload_n hx hb dX6_look_189 rfl (lv_at hl 0 rfl) ?_
                        refine va_get (D := G) (ci := 5) (v := .long xF_41) (C := RX6) (T := TX6) (N := 35) hx hb hts iX_X6 hown hK hP 0 rfl rfl 23 (by decide) (hts _ m_t873) (fun _ h9 => h9) rfl dX6_look_190 ?_
                        refine lv_ldc2 hx hb hown (hts _ m_t1103) dX6_look_193 ?_
                        refine lv_lmul hx hb dX6_look_196 ?_
                        refine lv_aload_n hx hb dX6_look_197 rfl (lv_at hl 0 rfl) ?_
                        refine va_get (D := G) (ci := 5) (v := .ref qmt) (C := RX6) (T := TX6) (N := 35) hx hb hts iX_X6 hown hK hP 0 rfl rfl 7 (by decide) (hts _ m_t857) (fun _ h9 => h9) rfl dX6_look_198 ?_
                        refine lv_aload_n hx hb dX6_look_201 rfl (lv_at hl 0 rfl) ?_
                        refine va_get (D := G) (ci := 5) (v := .int (nI m_40)) (C := RX6) (T := TX6) (N := 35) hx hb hts iX_X6 hown hK hP 0 rfl rfl 20 (by decide) (hts _ m_t870) (fun _ h9 => h9) rfl dX6_look_202 ?_
                        refine va_iald hx hb hK hP 1 0 rfl rfl (vp_in_nI (by omega) (by omega)) dX6_look_205 ?_
                        refine lv_seti (v := fMt m_40) (congrArg fMt (nI_clamp (by omega))) ?_
                        refine lv_i2l (v := (fMt m_40).toInt64) hx hb dX6_look_206 rfl ?_
                        refine lv_ladd hx hb dX6_look_207 ?_
                        refine lv_ldc2 hx hb hown (hts _ m_t1138) dX6_look_208 ?_
                        refine lv_lsub hx hb dX6_look_211 ?_
                        refine lv_goto (tgt := 218) hx hb dX6_look_212 (by decide) ?_
                        refine va_put (D := G) (ci := 5) (v := .long (((xF_41 * 10) + ((fMt m_40).toInt64)) - 48)) (ty := .long) (C := RX6) (T := TX6) (N := 35) hx hb hts iX_X6 tyX6 tyX6_ok nmX6 hown hK hP hD hS 0 rfl rfl 23 (by decide) (hts _ m_t873) (fun _ h9 => h9) rfl (by decide +kernel) rfl rfl (Nat.le_of_ble_eq_true rfl) dX6_look_218 (fun H locs => ?_)
                        clear hP hD hS
                        intro hP hD hS
                        have hPD := pd_as [zzO qm 5 [v0, v1, v2, v3, v4, v5, v6, .ref qmt, .int (nI kZ), v9, .int (nI (T_nb tA)), .ref qmB, .int (nI (T_np tA)), .ref qmO, .ref qmK, .int iEn, .int iTk, .int (T_sd tA), v18, v19, .int (nI m_40), .int 2, .int (nI j_4), .long (((xF_41 * 10) + ((fMt m_40).toInt64)) - 48), .int iFa, v25, v26, .int iLv, .int iWs, v29, v30, v31, v32, v33, v34], zzI cy qmt 250 fMt] hP hD rfl
                        clear hP hD
                        obtain ⟨hP, hD⟩ := hPD
                        refine lv_aload_n hx hb dX6_look_221 rfl (lv_at hl 0 rfl) ?_
                        refine lv_dup hx hb dX6_look_222 rfl ?_
                        refine va_get (D := G) (ci := 5) (v := .int (nI m_40)) (C := RX6) (T := TX6) (N := 35) hx hb hts iX_X6 hown hK hP 0 rfl rfl 20 (by decide) (hts _ m_t870) (fun _ h9 => h9) rfl dX6_look_223 ?_
                        refine lv_iconst (v := 1) hx hb dX6_look_226 (by decide) ?_
                        refine lv_iadd hx hb dX6_look_227 ?_
                        refine lv_seti (v := nI (m_40 + 1)) (nI_1 _) ?_
                        refine va_put (D := G) (ci := 5) (v := .int (nI (m_40 + 1))) (ty := .int) (C := RX6) (T := TX6) (N := 35) hx hb hts iX_X6 tyX6 tyX6_ok nmX6 hown hK hP hD hS 0 rfl rfl 20 (by decide) (hts _ m_t870) (fun _ h9 => h9) rfl (by decide +kernel) rfl rfl (Nat.le_of_ble_eq_true rfl) dX6_look_228 (fun H locs => ?_)
                        clear hP hD hS
                        intro hP hD hS
                        have hPD := pd_as [zzO qm 5 [v0, v1, v2, v3, v4, v5, v6, .ref qmt, .int (nI kZ), v9, .int (nI (T_nb tA)), .ref qmB, .int (nI (T_np tA)), .ref qmO, .ref qmK, .int iEn, .int iTk, .int (T_sd tA), v18, v19, .int (nI (m_40 + 1)), .int 2, .int (nI j_4), .long (((xF_41 * 10) + ((fMt m_40).toInt64)) - 48), .int iFa, v25, v26, .int iLv, .int iWs, v29, v30, v31, v32, v33, v34], zzI cy qmt 250 fMt] hP hD rfl
                        clear hP hD
                        obtain ⟨hP, hD⟩ := hPD
                        refine lv_goto (tgt := 149) hx hb dX6_look_231 (by decide) ?_
                        exact ih_39 (m_40 + 1) (((xF_41 * 10) + ((fMt m_40).toInt64)) - 48) (by omega) (⟨by omega, by omega⟩) (by rw [← hU_43, show kZ - m_40 = kZ - (m_40 + 1) + 1 by omega, dg_lt h_50 (dg_l3 (by omega) (by omega) c_52)]) _ _ _ hP hD hS (lv_sub hl [0] rfl)
                    · refine lv_if_eq (tgt := 267) hx hb dX6_look_172 (by decide) (fun _ => ?_) (fun h9 => absurd (by decide) h9)
                      have hz_54r : lkF fMt kZ kAt = (j_4, 2, m_40, xF_41) := by rw [lk_d hlt_9f hne_11 h_14 h_35, ← hU_43, show kZ - m_40 = kZ - (m_40 + 1) + 1 by omega, dg_no h_50]
                      exact endV (u := [zzO qm 5 [v0, v1, v2, v3, v4, v5, v6, .ref qmt, .int (nI kZ), v9, .int (nI (T_nb tA)), .ref qmB, .int (nI (T_np tA)), .ref qmO, .ref qmK, .int iEn, .int iTk, .int (T_sd tA), v18, v19, .int (nI m_40), .int 2, .int (nI j_4), .long xF_41, .int iFa, v25, v26, .int iLv, .int iWs, v29, v30, v31, v32, v33, v34], zzI cy qmt 250 fMt]) hx hb hr hlocks (hP.sub [0, 1] rfl) (hD.sub [0, 1] (by decide +kernel) rfl) hS (by rw [hz_54r]) dX6_look_267
              exact lp_37 ((250 - j_4) + 1) j_4 0 (Nat.lt_succ_self _) (⟨Nat.le_refl _, by omega⟩) rfl _ _ ls hP hD hS (lv_sub hl [0] rfl)
            · refine lv_if_eq (tgt := 234) hx hb dX6_look_141 (by decide) (fun _ => ?_) (fun h9 => absurd (by decide) h9)
              refine lv_aload_n hx hb dX6_look_234 rfl (lv_at hl 0 rfl) ?_
              refine lv_aload_n hx hb dX6_look_235 rfl (lv_at hl 0 rfl) ?_
              refine va_get (D := G) (ci := 5) (v := .ref qmt) (C := RX6) (T := TX6) (N := 35) hx hb hts iX_X6 hown hK hP 0 rfl rfl 7 (by decide) (hts _ m_t857) (fun _ h9 => h9) rfl dX6_look_236 ?_
              refine lv_aload_n hx hb dX6_look_239 rfl (lv_at hl 0 rfl) ?_
              refine va_get (D := G) (ci := 5) (v := .int (nI j_4)) (C := RX6) (T := TX6) (N := 35) hx hb hts iX_X6 hown hK hP 0 rfl rfl 20 (by decide) (hts _ m_t870) (fun _ h9 => h9) rfl dX6_look_240 ?_
              refine va_iald hx hb hK hP 1 0 rfl rfl (vp_in_nI (by omega) (by omega)) dX6_look_243 ?_
              refine lv_seti (v := fMt j_4) (congrArg fMt (nI_clamp (by omega))) ?_
              refine lv_bipush (v := 59) hx hb dX6_look_244 (by decide) ?_
              refine lv_icmp_ne (tgt := 253) hx hb dX6_look_246 (by decide) (fun c_56 => ?_) (fun c_56 => ?_)
              · refine lv_iconst (v := 4) hx hb dX6_look_253 (by decide) ?_
                refine va_put (D := G) (ci := 5) (v := .int 4) (ty := .int) (C := RX6) (T := TX6) (N := 35) hx hb hts iX_X6 tyX6 tyX6_ok nmX6 hown hK hP hD hS 0 rfl rfl 21 (by decide) (hts _ m_t871) (fun _ h9 => h9) rfl (by decide +kernel) rfl rfl (Nat.le_of_ble_eq_true rfl) dX6_look_254 (fun H locs => ?_)
                clear hP hD hS
                intro hP hD hS
                have hPD := pd_as [zzO qm 5 [v0, v1, v2, v3, v4, v5, v6, .ref qmt, .int (nI kZ), v9, .int (nI (T_nb tA)), .ref qmB, .int (nI (T_np tA)), .ref qmO, .ref qmK, .int iEn, .int iTk, .int (T_sd tA), v18, v19, .int (nI j_4), .int 4, .int (nI j_4), .long 0, .int iFa, v25, v26, .int iLv, .int iWs, v29, v30, v31, v32, v33, v34], zzI cy qmt 250 fMt] hP hD rfl
                clear hP hD
                obtain ⟨hP, hD⟩ := hPD
                refine lv_aload_n hx hb dX6_look_257 rfl (lv_at hl 0 rfl) ?_
                refine lv_dup hx hb dX6_look_258 rfl ?_
                refine va_get (D := G) (ci := 5) (v := .int (nI j_4)) (C := RX6) (T := TX6) (N := 35) hx hb hts iX_X6 hown hK hP 0 rfl rfl 20 (by decide) (hts _ m_t870) (fun _ h9 => h9) rfl dX6_look_259 ?_
                refine lv_iconst (v := 1) hx hb dX6_look_262 (by decide) ?_
                refine lv_iadd hx hb dX6_look_263 ?_
                refine lv_seti (v := nI (j_4 + 1)) (nI_1 _) ?_
                refine va_put (D := G) (ci := 5) (v := .int (nI (j_4 + 1))) (ty := .int) (C := RX6) (T := TX6) (N := 35) hx hb hts iX_X6 tyX6 tyX6_ok nmX6 hown hK hP hD hS 0 rfl rfl 20 (by decide) (hts _ m_t870) (fun _ h9 => h9) rfl (by decide +kernel) rfl rfl (Nat.le_of_ble_eq_true rfl) dX6_look_264 (fun H locs => ?_)
                clear hP hD hS
                intro hP hD hS
                have hPD := pd_as [zzO qm 5 [v0, v1, v2, v3, v4, v5, v6, .ref qmt, .int (nI kZ), v9, .int (nI (T_nb tA)), .ref qmB, .int (nI (T_np tA)), .ref qmO, .ref qmK, .int iEn, .int iTk, .int (T_sd tA), v18, v19, .int (nI (j_4 + 1)), .int 4, .int (nI j_4), .long 0, .int iFa, v25, v26, .int iLv, .int iWs, v29, v30, v31, v32, v33, v34], zzI cy qmt 250 fMt] hP hD rfl
                clear hP hD
                obtain ⟨hP, hD⟩ := hPD
                have hz_57r : lkF fMt kZ kAt = (j_4, 4, j_4 + 1, 0) := by rw [lk_4 hlt_9f hne_11 h_14 h_35 c_56]
                exact endV (u := [zzO qm 5 [v0, v1, v2, v3, v4, v5, v6, .ref qmt, .int (nI kZ), v9, .int (nI (T_nb tA)), .ref qmB, .int (nI (T_np tA)), .ref qmO, .ref qmK, .int iEn, .int iTk, .int (T_sd tA), v18, v19, .int (nI (j_4 + 1)), .int 4, .int (nI j_4), .long 0, .int iFa, v25, v26, .int iLv, .int iWs, v29, v30, v31, v32, v33, v34], zzI cy qmt 250 fMt]) hx hb hr hlocks (hP.sub [0, 1] rfl) (hD.sub [0, 1] (by decide +kernel) rfl) hS (by rw [hz_57r]) dX6_look_267
              · refine lv_iconst (v := 3) hx hb dX6_look_249 (by decide) ?_
                refine lv_goto (tgt := 254) hx hb dX6_look_250 (by decide) ?_
                refine va_put (D := G) (ci := 5) (v := .int 3) (ty := .int) (C := RX6) (T := TX6) (N := 35) hx hb hts iX_X6 tyX6 tyX6_ok nmX6 hown hK hP hD hS 0 rfl rfl 21 (by decide) (hts _ m_t871) (fun _ h9 => h9) rfl (by decide +kernel) rfl rfl (Nat.le_of_ble_eq_true rfl) dX6_look_254 (fun H locs => ?_)
                clear hP hD hS
                intro hP hD hS
                have hPD := pd_as [zzO qm 5 [v0, v1, v2, v3, v4, v5, v6, .ref qmt, .int (nI kZ), v9, .int (nI (T_nb tA)), .ref qmB, .int (nI (T_np tA)), .ref qmO, .ref qmK, .int iEn, .int iTk, .int (T_sd tA), v18, v19, .int (nI j_4), .int 3, .int (nI j_4), .long 0, .int iFa, v25, v26, .int iLv, .int iWs, v29, v30, v31, v32, v33, v34], zzI cy qmt 250 fMt] hP hD rfl
                clear hP hD
                obtain ⟨hP, hD⟩ := hPD
                refine lv_aload_n hx hb dX6_look_257 rfl (lv_at hl 0 rfl) ?_
                refine lv_dup hx hb dX6_look_258 rfl ?_
                refine va_get (D := G) (ci := 5) (v := .int (nI j_4)) (C := RX6) (T := TX6) (N := 35) hx hb hts iX_X6 hown hK hP 0 rfl rfl 20 (by decide) (hts _ m_t870) (fun _ h9 => h9) rfl dX6_look_259 ?_
                refine lv_iconst (v := 1) hx hb dX6_look_262 (by decide) ?_
                refine lv_iadd hx hb dX6_look_263 ?_
                refine lv_seti (v := nI (j_4 + 1)) (nI_1 _) ?_
                refine va_put (D := G) (ci := 5) (v := .int (nI (j_4 + 1))) (ty := .int) (C := RX6) (T := TX6) (N := 35) hx hb hts iX_X6 tyX6 tyX6_ok nmX6 hown hK hP hD hS 0 rfl rfl 20 (by decide) (hts _ m_t870) (fun _ h9 => h9) rfl (by decide +kernel) rfl rfl (Nat.le_of_ble_eq_true rfl) dX6_look_264 (fun H locs => ?_)
                clear hP hD hS
                intro hP hD hS
                have hPD := pd_as [zzO qm 5 [v0, v1, v2, v3, v4, v5, v6, .ref qmt, .int (nI kZ), v9, .int (nI (T_nb tA)), .ref qmB, .int (nI (T_np tA)), .ref qmO, .ref qmK, .int iEn, .int iTk, .int (T_sd tA), v18, v19, .int (nI (j_4 + 1)), .int 3, .int (nI j_4), .long 0, .int iFa, v25, v26, .int iLv, .int iWs, v29, v30, v31, v32, v33, v34], zzI cy qmt 250 fMt] hP hD rfl
                clear hP hD
                obtain ⟨hP, hD⟩ := hPD
                have hz_58r : lkF fMt kZ kAt = (j_4, 3, j_4 + 1, 0) := by rw [lk_3 hlt_9f hne_11 h_14 h_35 c_56]
                exact endV (u := [zzO qm 5 [v0, v1, v2, v3, v4, v5, v6, .ref qmt, .int (nI kZ), v9, .int (nI (T_nb tA)), .ref qmB, .int (nI (T_np tA)), .ref qmO, .ref qmK, .int iEn, .int iTk, .int (T_sd tA), v18, v19, .int (nI (j_4 + 1)), .int 3, .int (nI j_4), .long 0, .int iFa, v25, v26, .int iLv, .int iWs, v29, v30, v31, v32, v33, v34], zzI cy qmt 250 fMt]) hx hb hr hlocks (hP.sub [0, 1] rfl) (hD.sub [0, 1] (by decide +kernel) rfl) hS (by rw [hz_58r]) dX6_look_267
        · have hne_59 : j_4 = kZ := nI_inj (by omega) (by omega) c_10
          have hne_59r : lkF fMt kZ kAt = (j_4, 0, j_4, 0) := by rw [lkF, ← hlt_9f, if_pos hne_59]
          refine lv_aload_n hx hb dX6_look_62 rfl (lv_at hl 0 rfl) ?_
          refine lv_iconst (v := 0) hx hb dX6_look_63 (by decide) ?_
          refine va_put (D := G) (ci := 5) (v := .int 0) (ty := .int) (C := RX6) (T := TX6) (N := 35) hx hb hts iX_X6 tyX6 tyX6_ok nmX6 hown hK hP hD hS 0 rfl rfl 21 (by decide) (hts _ m_t871) (fun _ h9 => h9) rfl (by decide +kernel) rfl rfl (Nat.le_of_ble_eq_true rfl) dX6_look_64 (fun H locs => ?_)
          clear hP hD hS
          intro hP hD hS
          have hPD := pd_as [zzO qm 5 [v0, v1, v2, v3, v4, v5, v6, .ref qmt, .int (nI kZ), v9, .int (nI (T_nb tA)), .ref qmB, .int (nI (T_np tA)), .ref qmO, .ref qmK, .int iEn, .int iTk, .int (T_sd tA), v18, v19, .int (nI j_4), .int 0, .int (nI j_4), .long 0, .int iFa, v25, v26, .int iLv, .int iWs, v29, v30, v31, v32, v33, v34], zzI cy qmt 250 fMt] hP hD rfl
          clear hP hD
          obtain ⟨hP, hD⟩ := hPD
          refine lv_goto (tgt := 267) hx hb dX6_look_67 (by decide) ?_
          exact endV (u := [zzO qm 5 [v0, v1, v2, v3, v4, v5, v6, .ref qmt, .int (nI kZ), v9, .int (nI (T_nb tA)), .ref qmB, .int (nI (T_np tA)), .ref qmO, .ref qmK, .int iEn, .int iTk, .int (T_sd tA), v18, v19, .int (nI j_4), .int 0, .int (nI j_4), .long 0, .int iFa, v25, v26, .int iLv, .int iWs, v29, v30, v31, v32, v33, v34], zzI cy qmt 250 fMt]) hx hb hr hlocks (hP.sub [0, 1] rfl) (hD.sub [0, 1] (by decide +kernel) rfl) hS (by rw [hne_59r]) dX6_look_267
      · have hlt_60 : j_4 < kZ := lp_lt rfl rfl (by omega) (by omega) c_8
        refine lv_aload_n hx hb dX6_look_11 rfl (lv_at hl 0 rfl) ?_
        refine va_get (D := G) (ci := 5) (v := .ref qmt) (C := RX6) (T := TX6) (N := 35) hx hb hts iX_X6 hown hK hP 0 rfl rfl 7 (by decide) (hts _ m_t857) (fun _ h9 => h9) rfl dX6_look_12 ?_
        refine lv_aload_n hx hb dX6_look_15 rfl (lv_at hl 0 rfl) ?_
        refine va_get (D := G) (ci := 5) (v := .int (nI j_4)) (C := RX6) (T := TX6) (N := 35) hx hb hts iX_X6 hown hK hP 0 rfl rfl 20 (by decide) (hts _ m_t870) (fun _ h9 => h9) rfl dX6_look_16 ?_
        refine va_iald hx hb hK hP 1 0 rfl rfl (vp_in_nI (by omega) (by omega)) dX6_look_19 ?_
        refine lv_seti (v := fMt j_4) (congrArg fMt (nI_clamp (by omega))) ?_
        refine lv_bipush (v := 32) hx hb dX6_look_20 (by decide) ?_
        refine lv_icmp_ne (tgt := 38) hx hb dX6_look_22 (by decide) (fun c_61 => ?_) (fun c_61 => ?_)
        · have hlt_62f : j_4 = skF fMt (kZ - kAt) kAt := by rw [← hT_6, show kZ - j_4 = kZ - (j_4 + 1) + 1 by omega, sk_no c_61]
          refine lv_aload_n hx hb dX6_look_38 rfl (lv_at hl 0 rfl) ?_
          refine lv_aload_n hx hb dX6_look_39 rfl (lv_at hl 0 rfl) ?_
          refine va_get (D := G) (ci := 5) (v := .int (nI j_4)) (C := RX6) (T := TX6) (N := 35) hx hb hts iX_X6 hown hK hP 0 rfl rfl 20 (by decide) (hts _ m_t870) (fun _ h9 => h9) rfl dX6_look_40 ?_
          refine va_put (D := G) (ci := 5) (v := .int (nI j_4)) (ty := .int) (C := RX6) (T := TX6) (N := 35) hx hb hts iX_X6 tyX6 tyX6_ok nmX6 hown hK hP hD hS 0 rfl rfl 22 (by decide) (hts _ m_t872) (fun _ h9 => h9) rfl (by decide +kernel) rfl rfl (Nat.le_of_ble_eq_true rfl) dX6_look_43 (fun H locs => ?_)
          clear hP hD hS
          intro hP hD hS
          have hPD := pd_as [zzO qm 5 [v0, v1, v2, v3, v4, v5, v6, .ref qmt, .int (nI kZ), v9, .int (nI (T_nb tA)), .ref qmB, .int (nI (T_np tA)), .ref qmO, .ref qmK, .int iEn, .int iTk, .int (T_sd tA), v18, v19, .int (nI j_4), .int iTo, .int (nI j_4), .long JFi, .int iFa, v25, v26, .int iLv, .int iWs, v29, v30, v31, v32, v33, v34], zzI cy qmt 250 fMt] hP hD rfl
          clear hP hD
          obtain ⟨hP, hD⟩ := hPD
          refine lv_aload_n hx hb dX6_look_46 rfl (lv_at hl 0 rfl) ?_
          refine lv_lconst (v := 0) hx hb dX6_look_47 (by decide) ?_
          refine va_put (D := G) (ci := 5) (v := .long 0) (ty := .long) (C := RX6) (T := TX6) (N := 35) hx hb hts iX_X6 tyX6 tyX6_ok nmX6 hown hK hP hD hS 0 rfl rfl 23 (by decide) (hts _ m_t873) (fun _ h9 => h9) rfl (by decide +kernel) rfl rfl (Nat.le_of_ble_eq_true rfl) dX6_look_48 (fun H locs => ?_)
          clear hP hD hS
          intro hP hD hS
          have hPD := pd_as [zzO qm 5 [v0, v1, v2, v3, v4, v5, v6, .ref qmt, .int (nI kZ), v9, .int (nI (T_nb tA)), .ref qmB, .int (nI (T_np tA)), .ref qmO, .ref qmK, .int iEn, .int iTk, .int (T_sd tA), v18, v19, .int (nI j_4), .int iTo, .int (nI j_4), .long 0, .int iFa, v25, v26, .int iLv, .int iWs, v29, v30, v31, v32, v33, v34], zzI cy qmt 250 fMt] hP hD rfl
          clear hP hD
          obtain ⟨hP, hD⟩ := hPD
          refine lv_aload_n hx hb dX6_look_51 rfl (lv_at hl 0 rfl) ?_
          refine va_get (D := G) (ci := 5) (v := .int (nI j_4)) (C := RX6) (T := TX6) (N := 35) hx hb hts iX_X6 hown hK hP 0 rfl rfl 20 (by decide) (hts _ m_t870) (fun _ h9 => h9) rfl dX6_look_52 ?_
          refine lv_aload_n hx hb dX6_look_55 rfl (lv_at hl 0 rfl) ?_
          refine va_get (D := G) (ci := 5) (v := .int (nI kZ)) (C := RX6) (T := TX6) (N := 35) hx hb hts iX_X6 hown hK hP 0 rfl rfl 8 (by decide) (hts _ m_t858) (fun _ h9 => h9) rfl dX6_look_56 ?_
          refine lv_icmp_ne (tgt := 70) hx hb dX6_look_59 (by decide) (fun c_63 => ?_) (fun c_63 => ?_)
          · have hne_64 : j_4 < kZ := Nat.lt_of_le_of_ne (by omega) (fun q => c_63 (congrArg nI q))
            refine lv_aload_n hx hb dX6_look_70 rfl (lv_at hl 0 rfl) ?_
            refine va_get (D := G) (ci := 5) (v := .ref qmt) (C := RX6) (T := TX6) (N := 35) hx hb hts iX_X6 hown hK hP 0 rfl rfl 7 (by decide) (hts _ m_t857) (fun _ h9 => h9) rfl dX6_look_71 ?_
            refine lv_aload_n hx hb dX6_look_74 rfl (lv_at hl 0 rfl) ?_
            refine va_get (D := G) (ci := 5) (v := .int (nI j_4)) (C := RX6) (T := TX6) (N := 35) hx hb hts iX_X6 hown hK hP 0 rfl rfl 20 (by decide) (hts _ m_t870) (fun _ h9 => h9) rfl dX6_look_75 ?_
            refine va_iald hx hb hK hP 1 0 rfl rfl (vp_in_nI (by omega) (by omega)) dX6_look_78 ?_
            refine lv_seti (v := fMt j_4) (congrArg fMt (nI_clamp (by omega))) ?_
            refine kRi (rS (As := [.int (fMt j_4)]) (rest := []) ⟨hx, hb, hml, hown, hts⟩ (c_X6_isLetter l G cy (fMt j_4)) L_X6_157 (preRS hN hP [] rfl) rfl ⟨Nat.le_of_ble_eq_true rfl, Nat.le_of_ble_eq_true rfl⟩ hl.1 (Nat.le_of_ble_eq_true rfl) dX6_look_79 ⟨Nat.le_of_ble_eq_true rfl, Nat.le_of_ble_eq_true rfl⟩) (fun r_65 h_66 => ?_)
            rcases h_66 with ⟨rfl, h_67⟩ | ⟨rfl, h_67⟩
            · refine lv_if_eq (tgt := 129) hx hb dX6_look_82 (by decide) (fun h9 => absurd h9 (by decide)) (fun _ => ?_)
              refine lv_aload_n hx hb dX6_look_85 rfl (lv_at hl 0 rfl) ?_
              refine lv_iconst (v := 1) hx hb dX6_look_86 (by decide) ?_
              refine va_put (D := G) (ci := 5) (v := .int 1) (ty := .int) (C := RX6) (T := TX6) (N := 35) hx hb hts iX_X6 tyX6 tyX6_ok nmX6 hown hK hP hD hS 0 rfl rfl 21 (by decide) (hts _ m_t871) (fun _ h9 => h9) rfl (by decide +kernel) rfl rfl (Nat.le_of_ble_eq_true rfl) dX6_look_87 (fun H locs => ?_)
              clear hP hD hS
              intro hP hD hS
              have hPD := pd_as [zzO qm 5 [v0, v1, v2, v3, v4, v5, v6, .ref qmt, .int (nI kZ), v9, .int (nI (T_nb tA)), .ref qmB, .int (nI (T_np tA)), .ref qmO, .ref qmK, .int iEn, .int iTk, .int (T_sd tA), v18, v19, .int (nI j_4), .int 1, .int (nI j_4), .long 0, .int iFa, v25, v26, .int iLv, .int iWs, v29, v30, v31, v32, v33, v34], zzI cy qmt 250 fMt] hP hD rfl
              clear hP hD
              obtain ⟨hP, hD⟩ := hPD
              have lp_69 : ∀ (n_70 : Nat) (m_72 : Nat), 250 - m_72 < n_70 → j_4 ≤ m_72 ∧ m_72 ≤ kZ → wdF zlt fMt (kZ - m_72) m_72 = wdF zlt fMt (kZ - j_4) j_4 → ∀ (H : Heap) (locs : List Loc) (ls : Array Slot), va_P G CL [zzO qm 5 [v0, v1, v2, v3, v4, v5, v6, .ref qmt, .int (nI kZ), v9, .int (nI (T_nb tA)), .ref qmB, .int (nI (T_np tA)), .ref qmO, .ref qmK, .int iEn, .int iTk, .int (T_sd tA), v18, v19, .int (nI m_72), .int 1, .int (nI j_4), .long 0, .int iFa, v25, v26, .int iLv, .int iWs, v29, v30, v31, v32, v33, v34], zzI cy qmt 250 fMt] H → va_D A [zzO qm 5 [v0, v1, v2, v3, v4, v5, v6, .ref qmt, .int (nI kZ), v9, .int (nI (T_nb tA)), .ref qmB, .int (nI (T_np tA)), .ref qmO, .ref qmK, .int iEn, .int iTk, .int (T_sd tA), v18, v19, .int (nI m_72), .int 1, .int (nI j_4), .long 0, .int iFa, v25, v26, .int iLv, .int iWs, v29, v30, v31, v32, v33, v34], zzI cy qmt 250 fMt] → va_S A s.heap H locs → lv_has ls 1 [(0, .ref qm)] → W p l e (Rm 2 0 0) s m (List.toArray (α := Value) [.ref qm]) below meth c H locs 0 0 (MQ below ((Wv G (fun u => u = [zzO qm 5 [v0, v1, v2, v3, v4, v5, v6, .ref qmt, .int (nI kZ), v9, .int (nI (T_nb tA)), .ref qmB, .int (nI (T_np tA)), .ref qmO, .ref qmK, .int iEn, .int iTk, .int (T_sd tA), v18, v19, .int (nI (lkF fMt kZ kAt).2.2.1), .int ((lkF fMt kZ kAt).2.1), .int (nI (lkF fMt kZ kAt).1), .long ((lkF fMt kZ kAt).2.2.2), .int iFa, v25, v26, .int iLv, .int iWs, v29, v30, v31, v32, v33, v34], zzI cy qmt 250 fMt])) A) (List.toArray (α := Value) [.ref qm]) s 0 0 A) (F0 m 90 ls []) := by
                intro n_70
                induction n_70 with
                | zero => intro m_72 hm9; exact absurd hm9 (Nat.not_lt_zero _)
                | succ n_70 ih_71 =>
                  intro m_72 hm_75 hm_75 hU_74 H locs ls hP hD hS hl
                  refine lv_aload_n hx hb dX6_look_90 rfl (lv_at hl 0 rfl) ?_
                  refine va_get (D := G) (ci := 5) (v := .int (nI m_72)) (C := RX6) (T := TX6) (N := 35) hx hb hts iX_X6 hown hK hP 0 rfl rfl 20 (by decide) (hts _ m_t870) (fun _ h9 => h9) rfl dX6_look_91 ?_
                  refine lv_aload_n hx hb dX6_look_94 rfl (lv_at hl 0 rfl) ?_
                  refine va_get (D := G) (ci := 5) (v := .int (nI kZ)) (C := RX6) (T := TX6) (N := 35) hx hb hts iX_X6 hown hK hP 0 rfl rfl 8 (by decide) (hts _ m_t858) (fun _ h9 => h9) rfl dX6_look_95 ?_
                  refine lv_icmp_ge (tgt := 267) hx hb dX6_look_98 (by decide) (fun c_76 => ?_) (fun c_76 => ?_)
                  · have hlt_77 : m_72 = kZ := Nat.le_antisymm (by omega) (lp_ge rfl rfl (by omega) (by omega) c_76)
                    have hlt_77r : lkF fMt kZ kAt = (j_4, 1, m_72, 0) := by rw [lk_w hlt_62f hne_64 h_67, ← hU_74, show kZ - m_72 = 0 by omega]; rfl
                    exact endV (u := [zzO qm 5 [v0, v1, v2, v3, v4, v5, v6, .ref qmt, .int (nI kZ), v9, .int (nI (T_nb tA)), .ref qmB, .int (nI (T_np tA)), .ref qmO, .ref qmK, .int iEn, .int iTk, .int (T_sd tA), v18, v19, .int (nI m_72), .int 1, .int (nI j_4), .long 0, .int iFa, v25, v26, .int iLv, .int iWs, v29, v30, v31, v32, v33, v34], zzI cy qmt 250 fMt]) hx hb hr hlocks (hP.sub [0, 1] rfl) (hD.sub [0, 1] (by decide +kernel) rfl) hS (by rw [hlt_77r]) dX6_look_267
                  · have hlt_78 : m_72 < kZ := lp_lt rfl rfl (by omega) (by omega) c_76
                    refine lv_aload_n hx hb dX6_look_101 rfl (lv_at hl 0 rfl) ?_
                    refine va_get (D := G) (ci := 5) (v := .ref qmt) (C := RX6) (T := TX6) (N := 35) hx hb hts iX_X6 hown hK hP 0 rfl rfl 7 (by decide) (hts _ m_t857) (fun _ h9 => h9) rfl dX6_look_102 ?_
                    refine lv_aload_n hx hb dX6_look_105 rfl (lv_at hl 0 rfl) ?_
                    refine va_get (D := G) (ci := 5) (v := .int (nI m_72)) (C := RX6) (T := TX6) (N := 35) hx hb hts iX_X6 hown hK hP 0 rfl rfl 20 (by decide) (hts _ m_t870) (fun _ h9 => h9) rfl dX6_look_106 ?_
                    refine va_iald hx hb hK hP 1 0 rfl rfl (vp_in_nI (by omega) (by omega)) dX6_look_109 ?_
                    refine lv_seti (v := fMt m_72) (congrArg fMt (nI_clamp (by omega))) ?_
                    refine kRi (rS (As := [.int (fMt m_72)]) (rest := []) ⟨hx, hb, hml, hown, hts⟩ (c_X6_isLetter l G cy (fMt m_72)) L_X6_157 (preRS hN hP [] rfl) rfl ⟨Nat.le_of_ble_eq_true rfl, Nat.le_of_ble_eq_true rfl⟩ hl.1 (Nat.le_of_ble_eq_true rfl) dX6_look_110 ⟨Nat.le_of_ble_eq_true rfl, Nat.le_of_ble_eq_true rfl⟩) (fun r_79 h_80 => ?_)
                    rcases h_80 with ⟨rfl, h_81⟩ | ⟨rfl, h_81⟩
                    · refine lv_if_eq (tgt := 267) hx hb dX6_look_113 (by decide) (fun h9 => absurd h9 (by decide)) (fun _ => ?_)
                      refine lv_aload_n hx hb dX6_look_116 rfl (lv_at hl 0 rfl) ?_
                      refine lv_dup hx hb dX6_look_117 rfl ?_
                      refine va_get (D := G) (ci := 5) (v := .int (nI m_72)) (C := RX6) (T := TX6) (N := 35) hx hb hts iX_X6 hown hK hP 0 rfl rfl 20 (by decide) (hts _ m_t870) (fun _ h9 => h9) rfl dX6_look_118 ?_
                      refine lv_iconst (v := 1) hx hb dX6_look_121 (by decide) ?_
                      refine lv_iadd hx hb dX6_look_122 ?_
                      refine lv_seti (v := nI (m_72 + 1)) (nI_1 _) ?_
                      refine va_put (D := G) (ci := 5) (v := .int (nI (m_72 + 1))) (ty := .int) (C := RX6) (T := TX6) (N := 35) hx hb hts iX_X6 tyX6 tyX6_ok nmX6 hown hK hP hD hS 0 rfl rfl 20 (by decide) (hts _ m_t870) (fun _ h9 => h9) rfl (by decide +kernel) rfl rfl (Nat.le_of_ble_eq_true rfl) dX6_look_123 (fun H locs => ?_)
                      clear hP hD hS
                      intro hP hD hS
                      have hPD := pd_as [zzO qm 5 [v0, v1, v2, v3, v4, v5, v6, .ref qmt, .int (nI kZ), v9, .int (nI (T_nb tA)), .ref qmB, .int (nI (T_np tA)), .ref qmO, .ref qmK, .int iEn, .int iTk, .int (T_sd tA), v18, v19, .int (nI (m_72 + 1)), .int 1, .int (nI j_4), .long 0, .int iFa, v25, v26, .int iLv, .int iWs, v29, v30, v31, v32, v33, v34], zzI cy qmt 250 fMt] hP hD rfl
                      clear hP hD
                      obtain ⟨hP, hD⟩ := hPD
                      refine lv_goto (tgt := 90) hx hb dX6_look_126 (by decide) ?_
                      exact ih_71 (m_72 + 1) (by omega) (⟨by omega, by omega⟩) (by rw [← hU_74, show kZ - m_72 = kZ - (m_72 + 1) + 1 by omega, wd_go h_81]) _ _ _ hP hD hS (lv_sub hl [0] rfl)
                    · refine lv_if_eq (tgt := 267) hx hb dX6_look_113 (by decide) (fun _ => ?_) (fun h9 => absurd (by decide) h9)
                      have hz_84r : lkF fMt kZ kAt = (j_4, 1, m_72, 0) := by rw [lk_w hlt_62f hne_64 h_67, ← hU_74, show kZ - m_72 = kZ - (m_72 + 1) + 1 by omega, wd_no h_81]
                      exact endV (u := [zzO qm 5 [v0, v1, v2, v3, v4, v5, v6, .ref qmt, .int (nI kZ), v9, .int (nI (T_nb tA)), .ref qmB, .int (nI (T_np tA)), .ref qmO, .ref qmK, .int iEn, .int iTk, .int (T_sd tA), v18, v19, .int (nI m_72), .int 1, .int (nI j_4), .long 0, .int iFa, v25, v26, .int iLv, .int iWs, v29, v30, v31, v32, v33, v34], zzI cy qmt 250 fMt]) hx hb hr hlocks (hP.sub [0, 1] rfl) (hD.sub [0, 1] (by decide +kernel) rfl) hS (by rw [hz_84r]) dX6_look_267
              exact lp_69 ((250 - j_4) + 1) j_4 (Nat.lt_succ_self _) (⟨Nat.le_refl _, by omega⟩) rfl _ _ ls hP hD hS (lv_sub hl [0] rfl)
            · refine lv_if_eq (tgt := 129) hx hb dX6_look_82 (by decide) (fun _ => ?_) (fun h9 => absurd (by decide) h9)
              refine lv_aload_n hx hb dX6_look_129 rfl (lv_at hl 0 rfl) ?_
              refine va_get (D := G) (ci := 5) (v := .ref qmt) (C := RX6) (T := TX6) (N := 35) hx hb hts iX_X6 hown hK hP 0 rfl rfl 7 (by decide) (hts _ m_t857) (fun _ h9 => h9) rfl dX6_look_130 ?_
              refine lv_aload_n hx hb dX6_look_133 rfl (lv_at hl 0 rfl) ?_
              refine va_get (D := G) (ci := 5) (v := .int (nI j_4)) (C := RX6) (T := TX6) (N := 35) hx hb hts iX_X6 hown hK hP 0 rfl rfl 20 (by decide) (hts _ m_t870) (fun _ h9 => h9) rfl dX6_look_134 ?_
              refine va_iald hx hb hK hP 1 0 rfl rfl (vp_in_nI (by omega) (by omega)) dX6_look_137 ?_
              refine lv_seti (v := fMt j_4) (congrArg fMt (nI_clamp (by omega))) ?_
              refine kRi (rS (As := [.int (fMt j_4)]) (rest := []) ⟨hx, hb, hml, hown, hts⟩ (c_X6_isDigit l G cy (fMt j_4)) L_X6_160 (preRS hN hP [] rfl) rfl ⟨Nat.le_of_ble_eq_true rfl, Nat.le_of_ble_eq_true rfl⟩ hl.1 (Nat.le_of_ble_eq_true rfl) dX6_look_138 ⟨Nat.le_of_ble_eq_true rfl, Nat.le_of_ble_eq_true rfl⟩) (fun r_86 h_87 => ?_)
              rcases h_87 with ⟨rfl, h_88⟩ | ⟨rfl, h_88⟩
              · refine lv_if_eq (tgt := 234) hx hb dX6_look_141 (by decide) (fun h9 => absurd h9 (by decide)) (fun _ => ?_)
                refine lv_aload_n hx hb dX6_look_144 rfl (lv_at hl 0 rfl) ?_
                refine lv_iconst (v := 2) hx hb dX6_look_145 (by decide) ?_
                refine va_put (D := G) (ci := 5) (v := .int 2) (ty := .int) (C := RX6) (T := TX6) (N := 35) hx hb hts iX_X6 tyX6 tyX6_ok nmX6 hown hK hP hD hS 0 rfl rfl 21 (by decide) (hts _ m_t871) (fun _ h9 => h9) rfl (by decide +kernel) rfl rfl (Nat.le_of_ble_eq_true rfl) dX6_look_146 (fun H locs => ?_)
                clear hP hD hS
                intro hP hD hS
                have hPD := pd_as [zzO qm 5 [v0, v1, v2, v3, v4, v5, v6, .ref qmt, .int (nI kZ), v9, .int (nI (T_nb tA)), .ref qmB, .int (nI (T_np tA)), .ref qmO, .ref qmK, .int iEn, .int iTk, .int (T_sd tA), v18, v19, .int (nI j_4), .int 2, .int (nI j_4), .long 0, .int iFa, v25, v26, .int iLv, .int iWs, v29, v30, v31, v32, v33, v34], zzI cy qmt 250 fMt] hP hD rfl
                clear hP hD
                obtain ⟨hP, hD⟩ := hPD
                have lp_90 : ∀ (n_91 : Nat) (m_93 : Nat) (xF_94 : Int64), 250 - m_93 < n_91 → j_4 ≤ m_93 ∧ m_93 ≤ kZ → dgF fMt j_4 (kZ - m_93) m_93 xF_94 = dgF fMt j_4 (kZ - j_4) j_4 0 → ∀ (H : Heap) (locs : List Loc) (ls : Array Slot), va_P G CL [zzO qm 5 [v0, v1, v2, v3, v4, v5, v6, .ref qmt, .int (nI kZ), v9, .int (nI (T_nb tA)), .ref qmB, .int (nI (T_np tA)), .ref qmO, .ref qmK, .int iEn, .int iTk, .int (T_sd tA), v18, v19, .int (nI m_93), .int 2, .int (nI j_4), .long xF_94, .int iFa, v25, v26, .int iLv, .int iWs, v29, v30, v31, v32, v33, v34], zzI cy qmt 250 fMt] H → va_D A [zzO qm 5 [v0, v1, v2, v3, v4, v5, v6, .ref qmt, .int (nI kZ), v9, .int (nI (T_nb tA)), .ref qmB, .int (nI (T_np tA)), .ref qmO, .ref qmK, .int iEn, .int iTk, .int (T_sd tA), v18, v19, .int (nI m_93), .int 2, .int (nI j_4), .long xF_94, .int iFa, v25, v26, .int iLv, .int iWs, v29, v30, v31, v32, v33, v34], zzI cy qmt 250 fMt] → va_S A s.heap H locs → lv_has ls 1 [(0, .ref qm)] → W p l e (Rm 2 0 0) s m (List.toArray (α := Value) [.ref qm]) below meth c H locs 0 0 (MQ below ((Wv G (fun u => u = [zzO qm 5 [v0, v1, v2, v3, v4, v5, v6, .ref qmt, .int (nI kZ), v9, .int (nI (T_nb tA)), .ref qmB, .int (nI (T_np tA)), .ref qmO, .ref qmK, .int iEn, .int iTk, .int (T_sd tA), v18, v19, .int (nI (lkF fMt kZ kAt).2.2.1), .int ((lkF fMt kZ kAt).2.1), .int (nI (lkF fMt kZ kAt).1), .long ((lkF fMt kZ kAt).2.2.2), .int iFa, v25, v26, .int iLv, .int iWs, v29, v30, v31, v32, v33, v34], zzI cy qmt 250 fMt])) A) (List.toArray (α := Value) [.ref qm]) s 0 0 A) (F0 m 149 ls []) := by
                  intro n_91
                  induction n_91 with
                  | zero => intro m_93 xF_94 hm9; exact absurd hm9 (Nat.not_lt_zero _)
                  | succ n_91 ih_92 =>
                    intro m_93 xF_94 hm_97 hm_97 hU_96 H locs ls hP hD hS hl
                    refine lv_aload_n hx hb dX6_look_149 rfl (lv_at hl 0 rfl) ?_
                    refine va_get (D := G) (ci := 5) (v := .int (nI m_93)) (C := RX6) (T := TX6) (N := 35) hx hb hts iX_X6 hown hK hP 0 rfl rfl 20 (by decide) (hts _ m_t870) (fun _ h9 => h9) rfl dX6_look_150 ?_
                    refine lv_aload_n hx hb dX6_look_153 rfl (lv_at hl 0 rfl) ?_
                    refine va_get (D := G) (ci := 5) (v := .int (nI kZ)) (C := RX6) (T := TX6) (N := 35) hx hb hts iX_X6 hown hK hP 0 rfl rfl 8 (by decide) (hts _ m_t858) (fun _ h9 => h9) rfl dX6_look_154 ?_
                    refine lv_icmp_ge (tgt := 267) hx hb dX6_look_157 (by decide) (fun c_98 => ?_) (fun c_98 => ?_)
                    · have hlt_99 : m_93 = kZ := Nat.le_antisymm (by omega) (lp_ge rfl rfl (by omega) (by omega) c_98)
                      have hlt_99r : lkF fMt kZ kAt = (j_4, 2, m_93, xF_94) := by rw [lk_d hlt_62f hne_64 h_67 h_88, ← hU_96, show kZ - m_93 = 0 by omega]; rfl
                      exact endV (u := [zzO qm 5 [v0, v1, v2, v3, v4, v5, v6, .ref qmt, .int (nI kZ), v9, .int (nI (T_nb tA)), .ref qmB, .int (nI (T_np tA)), .ref qmO, .ref qmK, .int iEn, .int iTk, .int (T_sd tA), v18, v19, .int (nI m_93), .int 2, .int (nI j_4), .long xF_94, .int iFa, v25, v26, .int iLv, .int iWs, v29, v30, v31, v32, v33, v34], zzI cy qmt 250 fMt]) hx hb hr hlocks (hP.sub [0, 1] rfl) (hD.sub [0, 1] (by decide +kernel) rfl) hS (by rw [hlt_99r]) dX6_look_267
                    · have hlt_100 : m_93 < kZ := lp_lt rfl rfl (by omega) (by omega) c_98
                      refine lv_aload_n hx hb dX6_look_160 rfl (lv_at hl 0 rfl) ?_
                      refine va_get (D := G) (ci := 5) (v := .ref qmt) (C := RX6) (T := TX6) (N := 35) hx hb hts iX_X6 hown hK hP 0 rfl rfl 7 (by decide) (hts _ m_t857) (fun _ h9 => h9) rfl dX6_look_161 ?_
                      refine lv_aload_n hx hb dX6_look_164 rfl (lv_at hl 0 rfl) ?_
                      refine va_get (D := G) (ci := 5) (v := .int (nI m_93)) (C := RX6) (T := TX6) (N := 35) hx hb hts iX_X6 hown hK hP 0 rfl rfl 20 (by decide) (hts _ m_t870) (fun _ h9 => h9) rfl dX6_look_165 ?_
                      refine va_iald hx hb hK hP 1 0 rfl rfl (vp_in_nI (by omega) (by omega)) dX6_look_168 ?_
                      refine lv_seti (v := fMt m_93) (congrArg fMt (nI_clamp (by omega))) ?_
                      refine kRi (rS (As := [.int (fMt m_93)]) (rest := []) ⟨hx, hb, hml, hown, hts⟩ (c_X6_isDigit l G cy (fMt m_93)) L_X6_160 (preRS hN hP [] rfl) rfl ⟨Nat.le_of_ble_eq_true rfl, Nat.le_of_ble_eq_true rfl⟩ hl.1 (Nat.le_of_ble_eq_true rfl) dX6_look_169 ⟨Nat.le_of_ble_eq_true rfl, Nat.le_of_ble_eq_true rfl⟩) (fun r_101 h_102 => ?_)
                      rcases h_102 with ⟨rfl, h_103⟩ | ⟨rfl, h_103⟩
                      · refine lv_if_eq (tgt := 267) hx hb dX6_look_172 (by decide) (fun h9 => absurd h9 (by decide)) (fun _ => ?_)
                        refine lv_aload_n hx hb dX6_look_175 rfl (lv_at hl 0 rfl) ?_
                        refine lv_aload_n hx hb dX6_look_176 rfl (lv_at hl 0 rfl) ?_
                        refine va_get (D := G) (ci := 5) (v := .int (nI m_93)) (C := RX6) (T := TX6) (N := 35) hx hb hts iX_X6 hown hK hP 0 rfl rfl 20 (by decide) (hts _ m_t870) (fun _ h9 => h9) rfl dX6_look_177 ?_
                        refine lv_aload_n hx hb dX6_look_180 rfl (lv_at hl 0 rfl) ?_
                        refine va_get (D := G) (ci := 5) (v := .int (nI j_4)) (C := RX6) (T := TX6) (N := 35) hx hb hts iX_X6 hown hK hP 0 rfl rfl 22 (by decide) (hts _ m_t872) (fun _ h9 => h9) rfl dX6_look_181 ?_
                        refine lv_isub hx hb dX6_look_184 ?_
                        refine lv_iconst (v := 3) hx hb dX6_look_185 (by decide) ?_
                        refine lv_icmp_ge (tgt := 215) hx hb dX6_look_186 (by decide) (fun c_105 => ?_) (fun c_105 => ?_)
                        · refine lv_ldc2 hx hb hown (hts _ m_t1139) dX6_look_215 ?_
                          refine va_put (D := G) (ci := 5) (v := .long 100000) (ty := .long) (C := RX6) (T := TX6) (N := 35) hx hb hts iX_X6 tyX6 tyX6_ok nmX6 hown hK hP hD hS 0 rfl rfl 23 (by decide) (hts _ m_t873) (fun _ h9 => h9) rfl (by decide +kernel) rfl rfl (Nat.le_of_ble_eq_true rfl) dX6_look_218 (fun H locs => ?_)
                          clear hP hD hS
                          intro hP hD hS
                          have hPD := pd_as [zzO qm 5 [v0, v1, v2, v3, v4, v5, v6, .ref qmt, .int (nI kZ), v9, .int (nI (T_nb tA)), .ref qmB, .int (nI (T_np tA)), .ref qmO, .ref qmK, .int iEn, .int iTk, .int (T_sd tA), v18, v19, .int (nI m_93), .int 2, .int (nI j_4), .long 100000, .int iFa, v25, v26, .int iLv, .int iWs, v29, v30, v31, v32, v33, v34], zzI cy qmt 250 fMt] hP hD rfl
                          clear hP hD
                          obtain ⟨hP, hD⟩ := hPD
                          refine lv_aload_n hx hb dX6_look_221 rfl (lv_at hl 0 rfl) ?_
                          refine lv_dup hx hb dX6_look_222 rfl ?_
                          refine va_get (D := G) (ci := 5) (v := .int (nI m_93)) (C := RX6) (T := TX6) (N := 35) hx hb hts iX_X6 hown hK hP 0 rfl rfl 20 (by decide) (hts _ m_t870) (fun _ h9 => h9) rfl dX6_look_223 ?_
                          refine lv_iconst (v := 1) hx hb dX6_look_226 (by decide) ?_
                          refine lv_iadd hx hb dX6_look_227 ?_
                          refine lv_seti (v := nI (m_93 + 1)) (nI_1 _) ?_
                          refine va_put (D := G) (ci := 5) (v := .int (nI (m_93 + 1))) (ty := .int) (C := RX6) (T := TX6) (N := 35) hx hb hts iX_X6 tyX6 tyX6_ok nmX6 hown hK hP hD hS 0 rfl rfl 20 (by decide) (hts _ m_t870) (fun _ h9 => h9) rfl (by decide +kernel) rfl rfl (Nat.le_of_ble_eq_true rfl) dX6_look_228 (fun H locs => ?_)
                          clear hP hD hS
                          intro hP hD hS
                          have hPD := pd_as [zzO qm 5 [v0, v1, v2, v3, v4, v5, v6, .ref qmt, .int (nI kZ), v9, .int (nI (T_nb tA)), .ref qmB, .int (nI (T_np tA)), .ref qmO, .ref qmK, .int iEn, .int iTk, .int (T_sd tA), v18, v19, .int (nI (m_93 + 1)), .int 2, .int (nI j_4), .long 100000, .int iFa, v25, v26, .int iLv, .int iWs, v29, v30, v31, v32, v33, v34], zzI cy qmt 250 fMt] hP hD rfl
                          clear hP hD
                          obtain ⟨hP, hD⟩ := hPD
                          refine lv_goto (tgt := 149) hx hb dX6_look_231 (by decide) ?_
                          exact ih_92 (m_93 + 1) 100000 (by omega) (⟨by omega, by omega⟩) (by rw [← hU_96, show kZ - m_93 = kZ - (m_93 + 1) + 1 by omega, dg_go h_103 (dg_ge (by omega) (by omega) c_105)]) _ _ _ hP hD hS (lv_sub hl [0] rfl)
                        · refine lv_aload_n hx hb dX6_look_189 rfl (lv_at hl 0 rfl) ?_
                          refine va_get (D := G) (ci := 5) (v := .long xF_94) (C := RX6) (T := TX6) (N := 35) hx hb hts iX_X6 hown hK hP 0 rfl rfl 23 (by decide) (hts _ m_t873) (fun _ h9 => h9) rfl dX6_look_190 ?_
                          refine lv_ldc2 hx hb hown (hts _ m_t1103) dX6_look_193 ?_
                          refine lv_lmul hx hb dX6_look_196 ?_
                          refine lv_aload_n hx hb dX6_look_197 rfl (lv_at hl 0 rfl) ?_
                          refine va_get (D := G) (ci := 5) (v := .ref qmt) (C := RX6) (T := TX6) (N := 35) hx hb hts iX_X6 hown hK hP 0 rfl rfl 7 (by decide) (hts _ m_t857) (fun _ h9 => h9) rfl dX6_look_198 ?_
                          refine lv_aload_n hx hb dX6_look_201 rfl (lv_at hl 0 rfl) ?_
                          refine va_get (D := G) (ci := 5) (v := .int (nI m_93)) (C := RX6) (T := TX6) (N := 35) hx hb hts iX_X6 hown hK hP 0 rfl rfl 20 (by decide) (hts _ m_t870) (fun _ h9 => h9) rfl dX6_look_202 ?_
                          refine va_iald hx hb hK hP 1 0 rfl rfl (vp_in_nI (by omega) (by omega)) dX6_look_205 ?_
                          refine lv_seti (v := fMt m_93) (congrArg fMt (nI_clamp (by omega))) ?_
                          refine lv_i2l (v := (fMt m_93).toInt64) hx hb dX6_look_206 rfl ?_
                          refine lv_ladd hx hb dX6_look_207 ?_
                          refine lv_ldc2 hx hb hown (hts _ m_t1138) dX6_look_208 ?_
                          refine lv_lsub hx hb dX6_look_211 ?_
                          refine lv_goto (tgt := 218) hx hb dX6_look_212 (by decide) ?_
                          refine va_put (D := G) (ci := 5) (v := .long (((xF_94 * 10) + ((fMt m_93).toInt64)) - 48)) (ty := .long) (C := RX6) (T := TX6) (N := 35) hx hb hts iX_X6 tyX6 tyX6_ok nmX6 hown hK hP hD hS 0 rfl rfl 23 (by decide) (hts _ m_t873) (fun _ h9 => h9) rfl (by decide +kernel) rfl rfl (Nat.le_of_ble_eq_true rfl) dX6_look_218 (fun H locs => ?_)
                          clear hP hD hS
                          intro hP hD hS
                          have hPD := pd_as [zzO qm 5 [v0, v1, v2, v3, v4, v5, v6, .ref qmt, .int (nI kZ), v9, .int (nI (T_nb tA)), .ref qmB, .int (nI (T_np tA)), .ref qmO, .ref qmK, .int iEn, .int iTk, .int (T_sd tA), v18, v19, .int (nI m_93), .int 2, .int (nI j_4), .long (((xF_94 * 10) + ((fMt m_93).toInt64)) - 48), .int iFa, v25, v26, .int iLv, .int iWs, v29, v30, v31, v32, v33, v34], zzI cy qmt 250 fMt] hP hD rfl
                          clear hP hD
                          obtain ⟨hP, hD⟩ := hPD
                          refine lv_aload_n hx hb dX6_look_221 rfl (lv_at hl 0 rfl) ?_
                          refine lv_dup hx hb dX6_look_222 rfl ?_
                          refine va_get (D := G) (ci := 5) (v := .int (nI m_93)) (C := RX6) (T := TX6) (N := 35) hx hb hts iX_X6 hown hK hP 0 rfl rfl 20 (by decide) (hts _ m_t870) (fun _ h9 => h9) rfl dX6_look_223 ?_
                          refine lv_iconst (v := 1) hx hb dX6_look_226 (by decide) ?_
                          refine lv_iadd hx hb dX6_look_227 ?_
                          refine lv_seti (v := nI (m_93 + 1)) (nI_1 _) ?_
                          refine va_put (D := G) (ci := 5) (v := .int (nI (m_93 + 1))) (ty := .int) (C := RX6) (T := TX6) (N := 35) hx hb hts iX_X6 tyX6 tyX6_ok nmX6 hown hK hP hD hS 0 rfl rfl 20 (by decide) (hts _ m_t870) (fun _ h9 => h9) rfl (by decide +kernel) rfl rfl (Nat.le_of_ble_eq_true rfl) dX6_look_228 (fun H locs => ?_)
                          clear hP hD hS
                          intro hP hD hS
                          have hPD := pd_as [zzO qm 5 [v0, v1, v2, v3, v4, v5, v6, .ref qmt, .int (nI kZ), v9, .int (nI (T_nb tA)), .ref qmB, .int (nI (T_np tA)), .ref qmO, .ref qmK, .int iEn, .int iTk, .int (T_sd tA), v18, v19, .int (nI (m_93 + 1)), .int 2, .int (nI j_4), .long (((xF_94 * 10) + ((fMt m_93).toInt64)) - 48), .int iFa, v25, v26, .int iLv, .int iWs, v29, v30, v31, v32, v33, v34], zzI cy qmt 250 fMt] hP hD rfl
                          clear hP hD
                          obtain ⟨hP, hD⟩ := hPD
                          refine lv_goto (tgt := 149) hx hb dX6_look_231 (by decide) ?_
                          exact ih_92 (m_93 + 1) (((xF_94 * 10) + ((fMt m_93).toInt64)) - 48) (by omega) (⟨by omega, by omega⟩) (by rw [← hU_96, show kZ - m_93 = kZ - (m_93 + 1) + 1 by omega, dg_lt h_103 (dg_l3 (by omega) (by omega) c_105)]) _ _ _ hP hD hS (lv_sub hl [0] rfl)
                      · refine lv_if_eq (tgt := 267) hx hb dX6_look_172 (by decide) (fun _ => ?_) (fun h9 => absurd (by decide) h9)
                        have hz_107r : lkF fMt kZ kAt = (j_4, 2, m_93, xF_94) := by rw [lk_d hlt_62f hne_64 h_67 h_88, ← hU_96, show kZ - m_93 = kZ - (m_93 + 1) + 1 by omega, dg_no h_103]
                        exact endV (u := [zzO qm 5 [v0, v1, v2, v3, v4, v5, v6, .ref qmt, .int (nI kZ), v9, .int (nI (T_nb tA)), .ref qmB, .int (nI (T_np tA)), .ref qmO, .ref qmK, .int iEn, .int iTk, .int (T_sd tA), v18, v19, .int (nI m_93), .int 2, .int (nI j_4), .long xF_94, .int iFa, v25, v26, .int iLv, .int iWs, v29, v30, v31, v32, v33, v34], zzI cy qmt 250 fMt]) hx hb hr hlocks (hP.sub [0, 1] rfl) (hD.sub [0, 1] (by decide +kernel) rfl) hS (by rw [hz_107r]) dX6_look_267
                exact lp_90 ((250 - j_4) + 1) j_4 0 (Nat.lt_succ_self _) (⟨Nat.le_refl _, by omega⟩) rfl _ _ ls hP hD hS (lv_sub hl [0] rfl)
              · refine lv_if_eq (tgt := 234) hx hb dX6_look_141 (by decide) (fun _ => ?_) (fun h9 => absurd (by decide) h9)
                refine lv_aload_n hx hb dX6_look_234 rfl (lv_at hl 0 rfl) ?_
                refine lv_aload_n hx hb dX6_look_235 rfl (lv_at hl 0 rfl) ?_
                refine va_get (D := G) (ci := 5) (v := .ref qmt) (C := RX6) (T := TX6) (N := 35) hx hb hts iX_X6 hown hK hP 0 rfl rfl 7 (by decide) (hts _ m_t857) (fun _ h9 => h9) rfl dX6_look_236 ?_
                refine lv_aload_n hx hb dX6_look_239 rfl (lv_at hl 0 rfl) ?_
                refine va_get (D := G) (ci := 5) (v := .int (nI j_4)) (C := RX6) (T := TX6) (N := 35) hx hb hts iX_X6 hown hK hP 0 rfl rfl 20 (by decide) (hts _ m_t870) (fun _ h9 => h9) rfl dX6_look_240 ?_
                refine va_iald hx hb hK hP 1 0 rfl rfl (vp_in_nI (by omega) (by omega)) dX6_look_243 ?_
                refine lv_seti (v := fMt j_4) (congrArg fMt (nI_clamp (by omega))) ?_
                refine lv_bipush (v := 59) hx hb dX6_look_244 (by decide) ?_
                refine lv_icmp_ne (tgt := 253) hx hb dX6_look_246 (by decide) (fun c_109 => ?_) (fun c_109 => ?_)
                · refine lv_iconst (v := 4) hx hb dX6_look_253 (by decide) ?_
                  refine va_put (D := G) (ci := 5) (v := .int 4) (ty := .int) (C := RX6) (T := TX6) (N := 35) hx hb hts iX_X6 tyX6 tyX6_ok nmX6 hown hK hP hD hS 0 rfl rfl 21 (by decide) (hts _ m_t871) (fun _ h9 => h9) rfl (by decide +kernel) rfl rfl (Nat.le_of_ble_eq_true rfl) dX6_look_254 (fun H locs => ?_)
                  clear hP hD hS
                  intro hP hD hS
                  have hPD := pd_as [zzO qm 5 [v0, v1, v2, v3, v4, v5, v6, .ref qmt, .int (nI kZ), v9, .int (nI (T_nb tA)), .ref qmB, .int (nI (T_np tA)), .ref qmO, .ref qmK, .int iEn, .int iTk, .int (T_sd tA), v18, v19, .int (nI j_4), .int 4, .int (nI j_4), .long 0, .int iFa, v25, v26, .int iLv, .int iWs, v29, v30, v31, v32, v33, v34], zzI cy qmt 250 fMt] hP hD rfl
                  clear hP hD
                  obtain ⟨hP, hD⟩ := hPD
                  refine lv_aload_n hx hb dX6_look_257 rfl (lv_at hl 0 rfl) ?_
                  refine lv_dup hx hb dX6_look_258 rfl ?_
                  refine va_get (D := G) (ci := 5) (v := .int (nI j_4)) (C := RX6) (T := TX6) (N := 35) hx hb hts iX_X6 hown hK hP 0 rfl rfl 20 (by decide) (hts _ m_t870) (fun _ h9 => h9) rfl dX6_look_259 ?_
                  refine lv_iconst (v := 1) hx hb dX6_look_262 (by decide) ?_
                  refine lv_iadd hx hb dX6_look_263 ?_
                  refine lv_seti (v := nI (j_4 + 1)) (nI_1 _) ?_
                  refine va_put (D := G) (ci := 5) (v := .int (nI (j_4 + 1))) (ty := .int) (C := RX6) (T := TX6) (N := 35) hx hb hts iX_X6 tyX6 tyX6_ok nmX6 hown hK hP hD hS 0 rfl rfl 20 (by decide) (hts _ m_t870) (fun _ h9 => h9) rfl (by decide +kernel) rfl rfl (Nat.le_of_ble_eq_true rfl) dX6_look_264 (fun H locs => ?_)
                  clear hP hD hS
                  intro hP hD hS
                  have hPD := pd_as [zzO qm 5 [v0, v1, v2, v3, v4, v5, v6, .ref qmt, .int (nI kZ), v9, .int (nI (T_nb tA)), .ref qmB, .int (nI (T_np tA)), .ref qmO, .ref qmK, .int iEn, .int iTk, .int (T_sd tA), v18, v19, .int (nI (j_4 + 1)), .int 4, .int (nI j_4), .long 0, .int iFa, v25, v26, .int iLv, .int iWs, v29, v30, v31, v32, v33, v34], zzI cy qmt 250 fMt] hP hD rfl
                  clear hP hD
                  obtain ⟨hP, hD⟩ := hPD
                  have hz_110r : lkF fMt kZ kAt = (j_4, 4, j_4 + 1, 0) := by rw [lk_4 hlt_62f hne_64 h_67 h_88 c_109]
                  exact endV (u := [zzO qm 5 [v0, v1, v2, v3, v4, v5, v6, .ref qmt, .int (nI kZ), v9, .int (nI (T_nb tA)), .ref qmB, .int (nI (T_np tA)), .ref qmO, .ref qmK, .int iEn, .int iTk, .int (T_sd tA), v18, v19, .int (nI (j_4 + 1)), .int 4, .int (nI j_4), .long 0, .int iFa, v25, v26, .int iLv, .int iWs, v29, v30, v31, v32, v33, v34], zzI cy qmt 250 fMt]) hx hb hr hlocks (hP.sub [0, 1] rfl) (hD.sub [0, 1] (by decide +kernel) rfl) hS (by rw [hz_110r]) dX6_look_267
                · refine lv_iconst (v := 3) hx hb dX6_look_249 (by decide) ?_
                  refine lv_goto (tgt := 254) hx hb dX6_look_250 (by decide) ?_
                  refine va_put (D := G) (ci := 5) (v := .int 3) (ty := .int) (C := RX6) (T := TX6) (N := 35) hx hb hts iX_X6 tyX6 tyX6_ok nmX6 hown hK hP hD hS 0 rfl rfl 21 (by decide) (hts _ m_t871) (fun _ h9 => h9) rfl (by decide +kernel) rfl rfl (Nat.le_of_ble_eq_true rfl) dX6_look_254 (fun H locs => ?_)
                  clear hP hD hS
                  intro hP hD hS
                  have hPD := pd_as [zzO qm 5 [v0, v1, v2, v3, v4, v5, v6, .ref qmt, .int (nI kZ), v9, .int (nI (T_nb tA)), .ref qmB, .int (nI (T_np tA)), .ref qmO, .ref qmK, .int iEn, .int iTk, .int (T_sd tA), v18, v19, .int (nI j_4), .int 3, .int (nI j_4), .long 0, .int iFa, v25, v26, .int iLv, .int iWs, v29, v30, v31, v32, v33, v34], zzI cy qmt 250 fMt] hP hD rfl
                  clear hP hD
                  obtain ⟨hP, hD⟩ := hPD
                  refine lv_aload_n hx hb dX6_look_257 rfl (lv_at hl 0 rfl) ?_
                  refine lv_dup hx hb dX6_look_258 rfl ?_
                  refine va_get (D := G) (ci := 5) (v := .int (nI j_4)) (C := RX6) (T := TX6) (N := 35) hx hb hts iX_X6 hown hK hP 0 rfl rfl 20 (by decide) (hts _ m_t870) (fun _ h9 => h9) rfl dX6_look_259 ?_
                  refine lv_iconst (v := 1) hx hb dX6_look_262 (by decide) ?_
                  refine lv_iadd hx hb dX6_look_263 ?_
                  refine lv_seti (v := nI (j_4 + 1)) (nI_1 _) ?_
                  refine va_put (D := G) (ci := 5) (v := .int (nI (j_4 + 1))) (ty := .int) (C := RX6) (T := TX6) (N := 35) hx hb hts iX_X6 tyX6 tyX6_ok nmX6 hown hK hP hD hS 0 rfl rfl 20 (by decide) (hts _ m_t870) (fun _ h9 => h9) rfl (by decide +kernel) rfl rfl (Nat.le_of_ble_eq_true rfl) dX6_look_264 (fun H locs => ?_)
                  clear hP hD hS
                  intro hP hD hS
                  have hPD := pd_as [zzO qm 5 [v0, v1, v2, v3, v4, v5, v6, .ref qmt, .int (nI kZ), v9, .int (nI (T_nb tA)), .ref qmB, .int (nI (T_np tA)), .ref qmO, .ref qmK, .int iEn, .int iTk, .int (T_sd tA), v18, v19, .int (nI (j_4 + 1)), .int 3, .int (nI j_4), .long 0, .int iFa, v25, v26, .int iLv, .int iWs, v29, v30, v31, v32, v33, v34], zzI cy qmt 250 fMt] hP hD rfl
                  clear hP hD
                  obtain ⟨hP, hD⟩ := hPD
                  have hz_111r : lkF fMt kZ kAt = (j_4, 3, j_4 + 1, 0) := by rw [lk_3 hlt_62f hne_64 h_67 h_88 c_109]
                  exact endV (u := [zzO qm 5 [v0, v1, v2, v3, v4, v5, v6, .ref qmt, .int (nI kZ), v9, .int (nI (T_nb tA)), .ref qmB, .int (nI (T_np tA)), .ref qmO, .ref qmK, .int iEn, .int iTk, .int (T_sd tA), v18, v19, .int (nI (j_4 + 1)), .int 3, .int (nI j_4), .long 0, .int iFa, v25, v26, .int iLv, .int iWs, v29, v30, v31, v32, v33, v34], zzI cy qmt 250 fMt]) hx hb hr hlocks (hP.sub [0, 1] rfl) (hD.sub [0, 1] (by decide +kernel) rfl) hS (by rw [hz_111r]) dX6_look_267
          · have hne_112 : j_4 = kZ := nI_inj (by omega) (by omega) c_63
            have hne_112r : lkF fMt kZ kAt = (j_4, 0, j_4, 0) := by rw [lkF, ← hlt_62f, if_pos hne_112]
            refine lv_aload_n hx hb dX6_look_62 rfl (lv_at hl 0 rfl) ?_
            refine lv_iconst (v := 0) hx hb dX6_look_63 (by decide) ?_
            refine va_put (D := G) (ci := 5) (v := .int 0) (ty := .int) (C := RX6) (T := TX6) (N := 35) hx hb hts iX_X6 tyX6 tyX6_ok nmX6 hown hK hP hD hS 0 rfl rfl 21 (by decide) (hts _ m_t871) (fun _ h9 => h9) rfl (by decide +kernel) rfl rfl (Nat.le_of_ble_eq_true rfl) dX6_look_64 (fun H locs => ?_)
            clear hP hD hS
            intro hP hD hS
            have hPD := pd_as [zzO qm 5 [v0, v1, v2, v3, v4, v5, v6, .ref qmt, .int (nI kZ), v9, .int (nI (T_nb tA)), .ref qmB, .int (nI (T_np tA)), .ref qmO, .ref qmK, .int iEn, .int iTk, .int (T_sd tA), v18, v19, .int (nI j_4), .int 0, .int (nI j_4), .long 0, .int iFa, v25, v26, .int iLv, .int iWs, v29, v30, v31, v32, v33, v34], zzI cy qmt 250 fMt] hP hD rfl
            clear hP hD
            obtain ⟨hP, hD⟩ := hPD
            refine lv_goto (tgt := 267) hx hb dX6_look_67 (by decide) ?_
            exact endV (u := [zzO qm 5 [v0, v1, v2, v3, v4, v5, v6, .ref qmt, .int (nI kZ), v9, .int (nI (T_nb tA)), .ref qmB, .int (nI (T_np tA)), .ref qmO, .ref qmK, .int iEn, .int iTk, .int (T_sd tA), v18, v19, .int (nI j_4), .int 0, .int (nI j_4), .long 0, .int iFa, v25, v26, .int iLv, .int iWs, v29, v30, v31, v32, v33, v34], zzI cy qmt 250 fMt]) hx hb hr hlocks (hP.sub [0, 1] rfl) (hD.sub [0, 1] (by decide +kernel) rfl) hS (by rw [hne_112r]) dX6_look_267
        · refine lv_aload_n hx hb dX6_look_25 rfl (lv_at hl 0 rfl) ?_
          refine lv_dup hx hb dX6_look_26 rfl ?_
          refine va_get (D := G) (ci := 5) (v := .int (nI j_4)) (C := RX6) (T := TX6) (N := 35) hx hb hts iX_X6 hown hK hP 0 rfl rfl 20 (by decide) (hts _ m_t870) (fun _ h9 => h9) rfl dX6_look_27 ?_
          refine lv_iconst (v := 1) hx hb dX6_look_30 (by decide) ?_
          refine lv_iadd hx hb dX6_look_31 ?_
          refine lv_seti (v := nI (j_4 + 1)) (nI_1 _) ?_
          refine va_put (D := G) (ci := 5) (v := .int (nI (j_4 + 1))) (ty := .int) (C := RX6) (T := TX6) (N := 35) hx hb hts iX_X6 tyX6 tyX6_ok nmX6 hown hK hP hD hS 0 rfl rfl 20 (by decide) (hts _ m_t870) (fun _ h9 => h9) rfl (by decide +kernel) rfl rfl (Nat.le_of_ble_eq_true rfl) dX6_look_32 (fun H locs => ?_)
          clear hP hD hS
          intro hP hD hS
          have hPD := pd_as [zzO qm 5 [v0, v1, v2, v3, v4, v5, v6, .ref qmt, .int (nI kZ), v9, .int (nI (T_nb tA)), .ref qmB, .int (nI (T_np tA)), .ref qmO, .ref qmK, .int iEn, .int iTk, .int (T_sd tA), v18, v19, .int (nI (j_4 + 1)), .int iTo, .int iFr, .long JFi, .int iFa, v25, v26, .int iLv, .int iWs, v29, v30, v31, v32, v33, v34], zzI cy qmt 250 fMt] hP hD rfl
          clear hP hD
          obtain ⟨hP, hD⟩ := hPD
          refine lv_goto (tgt := 0) hx hb dX6_look_35 (by decide) ?_
          exact ih_3 (j_4 + 1) (by omega) (⟨by omega, by omega⟩) (by rw [← hT_6, show kZ - j_4 = kZ - (j_4 + 1) + 1 by omega, sk_go c_61]) _ _ _ hP hD hS (lv_sub hl [0] rfl)
  exact lp_1 ((250 - kAt) + 1) kAt (Nat.lt_succ_self _) (⟨Nat.le_refl _, hAt⟩) rfl _ _ ls hP hD hS (lv_sub hl [0] rfl)
set_option maxHeartbeats 4000000 in
set_option maxRecDepth 100000 in
theorem c_X6_wrong (l : Launch) (G : va_G) (cy : Nat → ClassId) (sz : Nat) (qm : Nat) (v0 : Value) (v1 : Value) (v2 : Value) (v3 : Value) (v4 : Value) (v5 : Value) (v6 : Value) (qmt : Nat) (kZ : Nat) (v9 : Value) (tA : TA) (qmB : Nat) (qmO : Nat) (qmK : Nat) (iEn : Int32) (iTk : Int32) (v18 : Value) (v19 : Value) (kAt : Nat) (iTo : Int32) (iFr : Int32) (JFi : Int64) (iFa : Int32) (v25 : Value) (v26 : Value) (iLv : Int32) (iWs : Int32) (v29 : Value) (v30 : Value) (v31 : Value) (v32 : Value) (v33 : Value) (v34 : Value)   : MW l yX6_wrong cX6_wrong 1 (some .boolean) 1 0 0 G cy [zzO qm 5 [v0, v1, v2, v3, v4, v5, v6, .ref qmt, .int (nI kZ), v9, .int (nI (T_nb tA)), .ref qmB, .int (nI (T_np tA)), .ref qmO, .ref qmK, .int iEn, .int iTk, .int (T_sd tA), v18, v19, .int (nI kAt), .int iTo, .int iFr, .long JFi, .int iFa, v25, v26, .int iLv, .int iWs, v29, v30, v31, v32, v33, v34]] sz [.ref qm] (Wi G (fun r u => u = [zzO qm 5 [v0, v1, v2, v3, v4, v5, v6, .ref qmt, .int (nI kZ), v9, .int (nI (T_nb tA)), .ref qmB, .int (nI (T_np tA)), .ref qmO, .ref qmK, .int iEn, .int iTk, .int (T_sd tA), v18, v19, .int (nI kAt), .int iTo, .int iFr, .long JFi, .int iFr, v25, v26, .int iLv, .int iWs, v29, v30, v31, v32, v33, v34]] ∧ ((r = 0)))) := by
  refine enW RX6 (by decide) rfl (Nat.le_of_ble_eq_true rfl) (fun p e s m below meth c ls A hx hb hml hown hts hr hlocks hP hN hl hin hD hA hS => ?_)
  have hin : meth.name = _ := hin
  have hK := hN.1
  replace hl : lv_has ls 1 [(0, .ref qm)] := hl
  refine lv_aload_n hx hb dX6_wrong_0 rfl (lv_at hl 0 rfl) ?_
  refine lv_aload_n hx hb dX6_wrong_1 rfl (lv_at hl 0 rfl) ?_
  refine va_get (D := G) (ci := 5) (v := .int iFr) (C := RX6) (T := TX6) (N := 35) hx hb hts iX_X6 hown hK hP 0 rfl rfl 22 (by decide) (hts _ m_t872) (fun _ h9 => h9) rfl dX6_wrong_2 ?_
  refine va_put (D := G) (ci := 5) (v := .int iFr) (ty := .int) (C := RX6) (T := TX6) (N := 35) hx hb hts iX_X6 tyX6 tyX6_ok nmX6 hown hK hP hD hS 0 rfl rfl 24 (by decide) (hts _ m_t874) (fun _ h9 => h9) rfl (by decide +kernel) rfl rfl (Nat.le_of_ble_eq_true rfl) dX6_wrong_5 (fun H locs => ?_)
  clear hP hD hS
  intro hP hD hS
  have hPD := pd_as [zzO qm 5 [v0, v1, v2, v3, v4, v5, v6, .ref qmt, .int (nI kZ), v9, .int (nI (T_nb tA)), .ref qmB, .int (nI (T_np tA)), .ref qmO, .ref qmK, .int iEn, .int iTk, .int (T_sd tA), v18, v19, .int (nI kAt), .int iTo, .int iFr, .long JFi, .int iFr, v25, v26, .int iLv, .int iWs, v29, v30, v31, v32, v33, v34]] hP hD rfl
  clear hP hD
  obtain ⟨hP, hD⟩ := hPD
  refine lv_iconst (v := 0) hx hb dX6_wrong_8 (by decide) ?_
  exact endW (u := [zzO qm 5 [v0, v1, v2, v3, v4, v5, v6, .ref qmt, .int (nI kZ), v9, .int (nI (T_nb tA)), .ref qmB, .int (nI (T_np tA)), .ref qmO, .ref qmK, .int iEn, .int iTk, .int (T_sd tA), v18, v19, .int (nI kAt), .int iTo, .int iFr, .long JFi, .int iFr, v25, v26, .int iLv, .int iWs, v29, v30, v31, v32, v33, v34]]) hx hb hr hlocks rfl (hP.sub [0] rfl) (hD.sub [0] (by decide +kernel) rfl) hS ⟨rfl, rfl⟩ dX6_wrong_9
end
section
theorem dX6_number_0 : decode cX6_number 0 = .ok (.aload_n 0, 1) := g_42 bX6_number rfl
theorem dX6_number_1 : decode cX6_number 1 = .ok (.getfield 154, 3) := g_180 bX6_number rfl
theorem dX6_number_4 : decode cX6_number 4 = .ok (.iconst 2, 1) := g_5 bX6_number rfl
theorem dX6_number_5 : decode cX6_number 5 = .ok (.if_icmp .ne 18, 3) := g_160 18 bX6_number rfl rfl
theorem dX6_number_8 : decode cX6_number 8 = .ok (.aload_n 0, 1) := g_42 bX6_number rfl
theorem dX6_number_9 : decode cX6_number 9 = .ok (.getfield 150, 3) := g_180 bX6_number rfl
theorem dX6_number_12 : decode cX6_number 12 = .ok (.iload_n 3, 1) := g_29 bX6_number rfl
theorem dX6_number_13 : decode cX6_number 13 = .ok (.i2l, 1) := g_133 bX6_number rfl
theorem dX6_number_14 : decode cX6_number 14 = .ok (.iload 4, 2) := g_21 bX6_number rfl
theorem dX6_number_16 : decode cX6_number 16 = .ok (.i2l, 1) := g_133 bX6_number rfl
theorem dX6_number_17 : decode cX6_number 17 = .ok (.invokestatic 74, 3) := g_184 bX6_number rfl
theorem dX6_number_20 : decode cX6_number 20 = .ok (.ifCond .ne 8, 3) := g_154 8 bX6_number rfl rfl
theorem dX6_number_23 : decode cX6_number 23 = .ok (.aload_n 0, 1) := g_42 bX6_number rfl
theorem dX6_number_24 : decode cX6_number 24 = .ok (.invokevirtual 179, 3) := g_182 bX6_number rfl
theorem dX6_number_27 : decode cX6_number 27 = .ok (.ireturn, 1) := g_172 bX6_number rfl
theorem dX6_number_28 : decode cX6_number 28 = .ok (.aload_n 1, 1) := g_43 bX6_number rfl
theorem dX6_number_29 : decode cX6_number 29 = .ok (.iload_n 2, 1) := g_28 bX6_number rfl
theorem dX6_number_30 : decode cX6_number 30 = .ok (.aload_n 0, 1) := g_42 bX6_number rfl
theorem dX6_number_31 : decode cX6_number 31 = .ok (.getfield 150, 3) := g_180 bX6_number rfl
theorem dX6_number_34 : decode cX6_number 34 = .ok (.l2i, 1) := g_136 bX6_number rfl
theorem dX6_number_35 : decode cX6_number 35 = .ok (.iastore, 1) := g_79 bX6_number rfl
theorem dX6_number_36 : decode cX6_number 36 = .ok (.aload_n 0, 1) := g_42 bX6_number rfl
theorem dX6_number_37 : decode cX6_number 37 = .ok (.invokevirtual 183, 3) := g_182 bX6_number rfl
theorem dX6_number_40 : decode cX6_number 40 = .ok (.iconst 1, 1) := g_4 bX6_number rfl
theorem dX6_number_41 : decode cX6_number 41 = .ok (.ireturn, 1) := g_172 bX6_number rfl
theorem dX6_perhaps_0 : decode cX6_perhaps 0 = .ok (.aload_n 0, 1) := g_42 bX6_perhaps rfl
theorem dX6_perhaps_1 : decode cX6_perhaps 1 = .ok (.aload_n 1, 1) := g_43 bX6_perhaps rfl
theorem dX6_perhaps_2 : decode cX6_perhaps 2 = .ok (.invokevirtual 186, 3) := g_182 bX6_perhaps rfl
theorem dX6_perhaps_5 : decode cX6_perhaps 5 = .ok (.ifCond .eq 17, 3) := g_153 17 bX6_perhaps rfl rfl
theorem dX6_perhaps_8 : decode cX6_perhaps 8 = .ok (.aload_n 0, 1) := g_42 bX6_perhaps rfl
theorem dX6_perhaps_9 : decode cX6_perhaps 9 = .ok (.aload_n 1, 1) := g_43 bX6_perhaps rfl
theorem dX6_perhaps_10 : decode cX6_perhaps 10 = .ok (.aload_n 2, 1) := g_44 bX6_perhaps rfl
theorem dX6_perhaps_11 : decode cX6_perhaps 11 = .ok (.iload_n 3, 1) := g_29 bX6_perhaps rfl
theorem dX6_perhaps_12 : decode cX6_perhaps 12 = .ok (.iload 4, 2) := g_21 bX6_perhaps rfl
theorem dX6_perhaps_14 : decode cX6_perhaps 14 = .ok (.iload 5, 2) := g_21 bX6_perhaps rfl
theorem dX6_perhaps_16 : decode cX6_perhaps 16 = .ok (.invokevirtual 194, 3) := g_182 bX6_perhaps rfl
theorem dX6_perhaps_19 : decode cX6_perhaps 19 = .ok (.ifCond .eq 7, 3) := g_153 7 bX6_perhaps rfl rfl
theorem dX6_perhaps_22 : decode cX6_perhaps 22 = .ok (.iconst 1, 1) := g_4 bX6_perhaps rfl
theorem dX6_perhaps_23 : decode cX6_perhaps 23 = .ok (.goto 4, 3) := g_167 4 bX6_perhaps rfl rfl
theorem dX6_perhaps_26 : decode cX6_perhaps 26 = .ok (.iconst 0, 1) := g_3 bX6_perhaps rfl
theorem dX6_perhaps_27 : decode cX6_perhaps 27 = .ok (.ireturn, 1) := g_172 bX6_perhaps rfl
theorem dX6_tells_0 : decode cX6_tells 0 = .ok (.aload_n 0, 1) := g_42 bX6_tells rfl
theorem dX6_tells_1 : decode cX6_tells 1 = .ok (.aload_n 1, 1) := g_43 bX6_tells rfl
theorem dX6_tells_2 : decode cX6_tells 2 = .ok (.invokevirtual 186, 3) := g_182 bX6_tells rfl
theorem dX6_tells_5 : decode cX6_tells 5 = .ok (.ifCond .ne 8, 3) := g_154 8 bX6_tells rfl rfl
theorem dX6_tells_8 : decode cX6_tells 8 = .ok (.aload_n 0, 1) := g_42 bX6_tells rfl
theorem dX6_tells_9 : decode cX6_tells 9 = .ok (.invokevirtual 179, 3) := g_182 bX6_tells rfl
theorem dX6_tells_12 : decode cX6_tells 12 = .ok (.ireturn, 1) := g_172 bX6_tells rfl
theorem dX6_tells_13 : decode cX6_tells 13 = .ok (.aload_n 0, 1) := g_42 bX6_tells rfl
theorem dX6_tells_14 : decode cX6_tells 14 = .ok (.invokevirtual 183, 3) := g_182 bX6_tells rfl
theorem dX6_tells_17 : decode cX6_tells 17 = .ok (.aload_n 0, 1) := g_42 bX6_tells rfl
theorem dX6_tells_18 : decode cX6_tells 18 = .ok (.aload_n 2, 1) := g_44 bX6_tells rfl
theorem dX6_tells_19 : decode cX6_tells 19 = .ok (.iload_n 3, 1) := g_29 bX6_tells rfl
theorem dX6_tells_20 : decode cX6_tells 20 = .ok (.iload 4, 2) := g_21 bX6_tells rfl
theorem dX6_tells_22 : decode cX6_tells 22 = .ok (.iload 5, 2) := g_21 bX6_tells rfl
theorem dX6_tells_24 : decode cX6_tells 24 = .ok (.invokevirtual 190, 3) := g_182 bX6_tells rfl
theorem dX6_tells_27 : decode cX6_tells 27 = .ok (.ireturn, 1) := g_172 bX6_tells rfl
noncomputable def Iv3 (v a b : Int32) : Prop := Iv v.toInt64 a.toInt64 b.toInt64
theorem iv3_of {J : Int64} {a b : Int32} (h : Iv J a.toInt64 b.toInt64) : Iv3 J.toInt32 a b := by
  obtain ⟨h1, h2⟩ := Iv_iff.mp h
  have e : J.toInt32.toInt64 = J := by
    rw [Int64.le_iff_toInt_le, Int32.toInt_toInt64] at h1 h2
    apply Int64.toInt_inj.mp
    have k1 := a.le_toInt
    have k2 := b.toInt_lt
    rw [Int32.toInt_toInt64, Int64.toInt_toInt32, Int.bmod_def]
    omega
  unfold Iv3
  rw [e]
  exact h
theorem upd_self {f : Nat → Int32} {k : Nat} : upd f k (f k) = f := by
  funext j
  show (if j = k then f k else f j) = f j
  split
  · next e => rw [e]
  · rfl
theorem us_f {f : Nat → Int32} {k : Nat} : upd f k (f k) = f := upd_self
theorem us_wo {t : TA} {k : Nat} : T_setwo t (upd (T_wo t) k (T_wo t k)) = t := by rw [upd_self]
theorem us_go {t : TA} {k : Nat} : T_setgo t (upd (T_go t) k (T_go t k)) = t := by rw [upd_self]
theorem us_ag {t : TA} {k : Nat} : T_setag t (upd (T_ag t) k (T_ag t k)) = t := by rw [upd_self]
theorem us_re {t : TA} {k : Nat} : T_setre t (upd (T_re t) k (T_re t k)) = t := by rw [upd_self]
theorem us_me {t : TA} {k : Nat} : T_setme t (upd (T_me t) k (T_me t k)) = t := by rw [upd_self]
theorem us_te {t : TA} {k : Nat} : T_sette t (upd (T_te t) k (T_te t k)) = t := by rw [upd_self]
theorem iv3_in {v : Int32} {n : Nat} (hn : n ≤ 8) (h : Iv3 v 0 (nI n - 1)) : ∃ k : Nat, k < n ∧ v = nI k := sz_in rfl (by omega) h
theorem TI_ne {t : TA} (h : TI t) (x : Nat → Int32) : TI (T_setne t x) := h
end
section
theorem dX6_readAll_0 : decode cX6_readAll 0 = .ok (.aload_n 0, 1) := g_42 bX6_readAll rfl
theorem dX6_readAll_1 : decode cX6_readAll 1 = .ok (.iconst 1, 1) := g_4 bX6_readAll rfl
theorem dX6_readAll_2 : decode cX6_readAll 2 = .ok (.putfield 216, 3) := g_181 bX6_readAll rfl
theorem dX6_readAll_5 : decode cX6_readAll 5 = .ok (.aload_n 0, 1) := g_42 bX6_readAll rfl
theorem dX6_readAll_6 : decode cX6_readAll 6 = .ok (.iconst 0, 1) := g_3 bX6_readAll rfl
theorem dX6_readAll_7 : decode cX6_readAll 7 = .ok (.putfield 144, 3) := g_181 bX6_readAll rfl
theorem dX6_readAll_10 : decode cX6_readAll 10 = .ok (.aload_n 0, 1) := g_42 bX6_readAll rfl
theorem dX6_readAll_11 : decode cX6_readAll 11 = .ok (.invokevirtual 183, 3) := g_182 bX6_readAll rfl
theorem dX6_readAll_14 : decode cX6_readAll 14 = .ok (.aload_n 0, 1) := g_42 bX6_readAll rfl
theorem dX6_readAll_15 : decode cX6_readAll 15 = .ok (.invokevirtual 219, 3) := g_182 bX6_readAll rfl
theorem dX6_readAll_18 : decode cX6_readAll 18 = .ok (.ifCond .ne 5, 3) := g_154 5 bX6_readAll rfl rfl
theorem dX6_readAll_21 : decode cX6_readAll 21 = .ok (.iconst 0, 1) := g_3 bX6_readAll rfl
theorem dX6_readAll_22 : decode cX6_readAll 22 = .ok (.ireturn, 1) := g_172 bX6_readAll rfl
theorem dX6_readAll_23 : decode cX6_readAll 23 = .ok (.aload_n 0, 1) := g_42 bX6_readAll rfl
theorem dX6_readAll_24 : decode cX6_readAll 24 = .ok (.getfield 154, 3) := g_180 bX6_readAll rfl
theorem dX6_readAll_27 : decode cX6_readAll 27 = .ok (.ifCond .eq 42, 3) := g_153 42 bX6_readAll rfl rfl
theorem dX6_readAll_30 : decode cX6_readAll 30 = .ok (.aload_n 0, 1) := g_42 bX6_readAll rfl
theorem dX6_readAll_31 : decode cX6_readAll 31 = .ok (.getfield 154, 3) := g_180 bX6_readAll rfl
theorem dX6_readAll_34 : decode cX6_readAll 34 = .ok (.iconst 3, 1) := g_6 bX6_readAll rfl
theorem dX6_readAll_35 : decode cX6_readAll 35 = .ok (.if_icmp .eq 8, 3) := g_159 8 bX6_readAll rfl rfl
theorem dX6_readAll_38 : decode cX6_readAll 38 = .ok (.aload_n 0, 1) := g_42 bX6_readAll rfl
theorem dX6_readAll_39 : decode cX6_readAll 39 = .ok (.invokevirtual 179, 3) := g_182 bX6_readAll rfl
theorem dX6_readAll_42 : decode cX6_readAll 42 = .ok (.ireturn, 1) := g_172 bX6_readAll rfl
theorem dX6_readAll_43 : decode cX6_readAll 43 = .ok (.aload_n 0, 1) := g_42 bX6_readAll rfl
theorem dX6_readAll_44 : decode cX6_readAll 44 = .ok (.invokevirtual 183, 3) := g_182 bX6_readAll rfl
theorem dX6_readAll_47 : decode cX6_readAll 47 = .ok (.aload_n 0, 1) := g_42 bX6_readAll rfl
theorem dX6_readAll_48 : decode cX6_readAll 48 = .ok (.invokevirtual 219, 3) := g_182 bX6_readAll rfl
theorem dX6_readAll_51 : decode cX6_readAll 51 = .ok (.ifCond .ne 5, 3) := g_154 5 bX6_readAll rfl rfl
theorem dX6_readAll_54 : decode cX6_readAll 54 = .ok (.iconst 0, 1) := g_3 bX6_readAll rfl
theorem dX6_readAll_55 : decode cX6_readAll 55 = .ok (.ireturn, 1) := g_172 bX6_readAll rfl
theorem dX6_readAll_56 : decode cX6_readAll 56 = .ok (.aload_n 0, 1) := g_42 bX6_readAll rfl
theorem dX6_readAll_57 : decode cX6_readAll 57 = .ok (.dup, 1) := g_89 bX6_readAll rfl
theorem dX6_readAll_58 : decode cX6_readAll 58 = .ok (.getfield 216, 3) := g_180 bX6_readAll rfl
theorem dX6_readAll_61 : decode cX6_readAll 61 = .ok (.iconst 1, 1) := g_4 bX6_readAll rfl
theorem dX6_readAll_62 : decode cX6_readAll 62 = .ok (.iadd, 1) := g_96 bX6_readAll rfl
theorem dX6_readAll_63 : decode cX6_readAll 63 = .ok (.putfield 216, 3) := g_181 bX6_readAll rfl
theorem dX6_readAll_66 : decode cX6_readAll 66 = .ok (.goto (-43), 3) := g_167 65493 bX6_readAll rfl rfl
theorem dX6_readAll_69 : decode cX6_readAll 69 = .ok (.iconst 1, 1) := g_4 bX6_readAll rfl
theorem dX6_readAll_70 : decode cX6_readAll 70 = .ok (.ireturn, 1) := g_172 bX6_readAll rfl
theorem dX6_statement_0 : decode cX6_statement 0 = .ok (.aload_n 0, 1) := g_42 bX6_statement rfl
theorem dX6_statement_1 : decode cX6_statement 1 = .ok (.ldc 198, 2) := g_18 bX6_statement rfl
theorem dX6_statement_3 : decode cX6_statement 3 = .ok (.invokevirtual 186, 3) := g_182 bX6_statement rfl
theorem dX6_statement_6 : decode cX6_statement 6 = .ok (.ifCond .eq 76, 3) := g_153 76 bX6_statement rfl rfl
theorem dX6_statement_9 : decode cX6_statement 9 = .ok (.aload_n 0, 1) := g_42 bX6_statement rfl
theorem dX6_statement_10 : decode cX6_statement 10 = .ok (.getfield 71, 3) := g_180 bX6_statement rfl
theorem dX6_statement_13 : decode cX6_statement 13 = .ok (.bipush 8, 2) := g_16 8 bX6_statement rfl rfl
theorem dX6_statement_15 : decode cX6_statement 15 = .ok (.if_icmp .ge 67, 3) := g_162 67 bX6_statement rfl rfl
theorem dX6_statement_18 : decode cX6_statement 18 = .ok (.aload_n 0, 1) := g_42 bX6_statement rfl
theorem dX6_statement_19 : decode cX6_statement 19 = .ok (.iconst 0, 1) := g_3 bX6_statement rfl
theorem dX6_statement_20 : decode cX6_statement 20 = .ok (.invokevirtual 126, 3) := g_182 bX6_statement rfl
theorem dX6_statement_23 : decode cX6_statement 23 = .ok (.aload_n 0, 1) := g_42 bX6_statement rfl
theorem dX6_statement_24 : decode cX6_statement 24 = .ok (.ldc 198, 2) := g_18 bX6_statement rfl
theorem dX6_statement_26 : decode cX6_statement 26 = .ok (.aload_n 0, 1) := g_42 bX6_statement rfl
theorem dX6_statement_27 : decode cX6_statement 27 = .ok (.getfield 42, 3) := g_180 bX6_statement rfl
theorem dX6_statement_30 : decode cX6_statement 30 = .ok (.aload_n 0, 1) := g_42 bX6_statement rfl
theorem dX6_statement_31 : decode cX6_statement 31 = .ok (.getfield 71, 3) := g_180 bX6_statement rfl
theorem dX6_statement_34 : decode cX6_statement 34 = .ok (.aaload, 1) := g_50 bX6_statement rfl
theorem dX6_statement_35 : decode cX6_statement 35 = .ok (.iconst 0, 1) := g_3 bX6_statement rfl
theorem dX6_statement_36 : decode cX6_statement 36 = .ok (.iconst 1, 1) := g_4 bX6_statement rfl
theorem dX6_statement_37 : decode cX6_statement 37 = .ok (.bipush 99, 2) := g_16 99 bX6_statement rfl rfl
theorem dX6_statement_39 : decode cX6_statement 39 = .ok (.invokevirtual 194, 3) := g_182 bX6_statement rfl
theorem dX6_statement_42 : decode cX6_statement 42 = .ok (.ifCond .eq 26, 3) := g_153 26 bX6_statement rfl rfl
theorem dX6_statement_45 : decode cX6_statement 45 = .ok (.aload_n 0, 1) := g_42 bX6_statement rfl
theorem dX6_statement_46 : decode cX6_statement 46 = .ok (.ldc 199, 2) := g_18 bX6_statement rfl
theorem dX6_statement_48 : decode cX6_statement 48 = .ok (.aload_n 0, 1) := g_42 bX6_statement rfl
theorem dX6_statement_49 : decode cX6_statement 49 = .ok (.getfield 42, 3) := g_180 bX6_statement rfl
theorem dX6_statement_52 : decode cX6_statement 52 = .ok (.aload_n 0, 1) := g_42 bX6_statement rfl
theorem dX6_statement_53 : decode cX6_statement 53 = .ok (.getfield 71, 3) := g_180 bX6_statement rfl
theorem dX6_statement_56 : decode cX6_statement 56 = .ok (.aaload, 1) := g_50 bX6_statement rfl
theorem dX6_statement_57 : decode cX6_statement 57 = .ok (.iconst 2, 1) := g_5 bX6_statement rfl
theorem dX6_statement_58 : decode cX6_statement 58 = .ok (.iconst 0, 1) := g_3 bX6_statement rfl
theorem dX6_statement_59 : decode cX6_statement 59 = .ok (.sipush 1000, 3) := g_17 1000 bX6_statement rfl rfl
theorem dX6_statement_62 : decode cX6_statement 62 = .ok (.invokevirtual 201, 3) := g_182 bX6_statement rfl
theorem dX6_statement_65 : decode cX6_statement 65 = .ok (.ifCond .ne 5, 3) := g_154 5 bX6_statement rfl rfl
theorem dX6_statement_68 : decode cX6_statement 68 = .ok (.iconst 0, 1) := g_3 bX6_statement rfl
theorem dX6_statement_69 : decode cX6_statement 69 = .ok (.ireturn, 1) := g_172 bX6_statement rfl
theorem dX6_statement_70 : decode cX6_statement 70 = .ok (.aload_n 0, 1) := g_42 bX6_statement rfl
theorem dX6_statement_71 : decode cX6_statement 71 = .ok (.dup, 1) := g_89 bX6_statement rfl
theorem dX6_statement_72 : decode cX6_statement 72 = .ok (.getfield 71, 3) := g_180 bX6_statement rfl
theorem dX6_statement_75 : decode cX6_statement 75 = .ok (.iconst 1, 1) := g_4 bX6_statement rfl
theorem dX6_statement_76 : decode cX6_statement 76 = .ok (.iadd, 1) := g_96 bX6_statement rfl
theorem dX6_statement_77 : decode cX6_statement 77 = .ok (.putfield 71, 3) := g_181 bX6_statement rfl
theorem dX6_statement_80 : decode cX6_statement 80 = .ok (.iconst 1, 1) := g_4 bX6_statement rfl
theorem dX6_statement_81 : decode cX6_statement 81 = .ok (.ireturn, 1) := g_172 bX6_statement rfl
theorem dX6_statement_82 : decode cX6_statement 82 = .ok (.aload_n 0, 1) := g_42 bX6_statement rfl
theorem dX6_statement_83 : decode cX6_statement 83 = .ok (.ldc 204, 2) := g_18 bX6_statement rfl
theorem dX6_statement_85 : decode cX6_statement 85 = .ok (.invokevirtual 186, 3) := g_182 bX6_statement rfl
theorem dX6_statement_88 : decode cX6_statement 88 = .ok (.ifCond .eq 98, 3) := g_153 98 bX6_statement rfl rfl
theorem dX6_statement_91 : decode cX6_statement 91 = .ok (.aload_n 0, 1) := g_42 bX6_statement rfl
theorem dX6_statement_92 : decode cX6_statement 92 = .ok (.getfield 78, 3) := g_180 bX6_statement rfl
theorem dX6_statement_95 : decode cX6_statement 95 = .ok (.bipush 8, 2) := g_16 8 bX6_statement rfl rfl
theorem dX6_statement_97 : decode cX6_statement 97 = .ok (.if_icmp .ge 89, 3) := g_162 89 bX6_statement rfl rfl
theorem dX6_statement_100 : decode cX6_statement 100 = .ok (.aload_n 0, 1) := g_42 bX6_statement rfl
theorem dX6_statement_101 : decode cX6_statement 101 = .ok (.invokevirtual 134, 3) := g_182 bX6_statement rfl
theorem dX6_statement_104 : decode cX6_statement 104 = .ok (.aload_n 0, 1) := g_42 bX6_statement rfl
theorem dX6_statement_105 : decode cX6_statement 105 = .ok (.getfield 45, 3) := g_180 bX6_statement rfl
theorem dX6_statement_108 : decode cX6_statement 108 = .ok (.aload_n 0, 1) := g_42 bX6_statement rfl
theorem dX6_statement_109 : decode cX6_statement 109 = .ok (.getfield 78, 3) := g_180 bX6_statement rfl
theorem dX6_statement_112 : decode cX6_statement 112 = .ok (.aaload, 1) := g_50 bX6_statement rfl
theorem dX6_statement_113 : decode cX6_statement 113 = .ok (.astore_n 1, 1) := g_76 bX6_statement rfl
theorem dX6_statement_114 : decode cX6_statement 114 = .ok (.aload_n 0, 1) := g_42 bX6_statement rfl
theorem dX6_statement_115 : decode cX6_statement 115 = .ok (.ldc 204, 2) := g_18 bX6_statement rfl
theorem dX6_statement_117 : decode cX6_statement 117 = .ok (.aload_n 1, 1) := g_43 bX6_statement rfl
theorem dX6_statement_118 : decode cX6_statement 118 = .ok (.iconst 0, 1) := g_3 bX6_statement rfl
theorem dX6_statement_119 : decode cX6_statement 119 = .ok (.iconst 0, 1) := g_3 bX6_statement rfl
theorem dX6_statement_120 : decode cX6_statement 120 = .ok (.bipush 9, 2) := g_16 9 bX6_statement rfl rfl
theorem dX6_statement_122 : decode cX6_statement 122 = .ok (.invokevirtual 194, 3) := g_182 bX6_statement rfl
theorem dX6_statement_125 : decode cX6_statement 125 = .ok (.ifCond .eq 17, 3) := g_153 17 bX6_statement rfl rfl
theorem dX6_statement_128 : decode cX6_statement 128 = .ok (.aload_n 0, 1) := g_42 bX6_statement rfl
theorem dX6_statement_129 : decode cX6_statement 129 = .ok (.ldc 205, 2) := g_18 bX6_statement rfl
theorem dX6_statement_131 : decode cX6_statement 131 = .ok (.aload_n 1, 1) := g_43 bX6_statement rfl
theorem dX6_statement_132 : decode cX6_statement 132 = .ok (.iconst 1, 1) := g_4 bX6_statement rfl
theorem dX6_statement_133 : decode cX6_statement 133 = .ok (.iconst 0, 1) := g_3 bX6_statement rfl
theorem dX6_statement_134 : decode cX6_statement 134 = .ok (.bipush 10, 2) := g_16 10 bX6_statement rfl rfl
theorem dX6_statement_136 : decode cX6_statement 136 = .ok (.invokevirtual 201, 3) := g_182 bX6_statement rfl
theorem dX6_statement_139 : decode cX6_statement 139 = .ok (.ifCond .ne 5, 3) := g_154 5 bX6_statement rfl rfl
theorem dX6_statement_142 : decode cX6_statement 142 = .ok (.iconst 0, 1) := g_3 bX6_statement rfl
theorem dX6_statement_143 : decode cX6_statement 143 = .ok (.ireturn, 1) := g_172 bX6_statement rfl
theorem dX6_statement_144 : decode cX6_statement 144 = .ok (.aload_n 0, 1) := g_42 bX6_statement rfl
theorem dX6_statement_145 : decode cX6_statement 145 = .ok (.ldc 207, 2) := g_18 bX6_statement rfl
theorem dX6_statement_147 : decode cX6_statement 147 = .ok (.aload_n 1, 1) := g_43 bX6_statement rfl
theorem dX6_statement_148 : decode cX6_statement 148 = .ok (.iconst 2, 1) := g_5 bX6_statement rfl
theorem dX6_statement_149 : decode cX6_statement 149 = .ok (.iconst 0, 1) := g_3 bX6_statement rfl
theorem dX6_statement_150 : decode cX6_statement 150 = .ok (.bipush 10, 2) := g_16 10 bX6_statement rfl rfl
theorem dX6_statement_152 : decode cX6_statement 152 = .ok (.invokevirtual 201, 3) := g_182 bX6_statement rfl
theorem dX6_statement_155 : decode cX6_statement 155 = .ok (.ifCond .eq 17, 3) := g_153 17 bX6_statement rfl rfl
theorem dX6_statement_158 : decode cX6_statement 158 = .ok (.aload_n 0, 1) := g_42 bX6_statement rfl
theorem dX6_statement_159 : decode cX6_statement 159 = .ok (.ldc 209, 2) := g_18 bX6_statement rfl
theorem dX6_statement_161 : decode cX6_statement 161 = .ok (.aload_n 1, 1) := g_43 bX6_statement rfl
theorem dX6_statement_162 : decode cX6_statement 162 = .ok (.iconst 3, 1) := g_6 bX6_statement rfl
theorem dX6_statement_163 : decode cX6_statement 163 = .ok (.iconst 0, 1) := g_3 bX6_statement rfl
theorem dX6_statement_164 : decode cX6_statement 164 = .ok (.bipush 10, 2) := g_16 10 bX6_statement rfl rfl
theorem dX6_statement_166 : decode cX6_statement 166 = .ok (.invokevirtual 201, 3) := g_182 bX6_statement rfl
theorem dX6_statement_169 : decode cX6_statement 169 = .ok (.ifCond .ne 5, 3) := g_154 5 bX6_statement rfl rfl
theorem dX6_statement_172 : decode cX6_statement 172 = .ok (.iconst 0, 1) := g_3 bX6_statement rfl
theorem dX6_statement_173 : decode cX6_statement 173 = .ok (.ireturn, 1) := g_172 bX6_statement rfl
theorem dX6_statement_174 : decode cX6_statement 174 = .ok (.aload_n 0, 1) := g_42 bX6_statement rfl
theorem dX6_statement_175 : decode cX6_statement 175 = .ok (.dup, 1) := g_89 bX6_statement rfl
theorem dX6_statement_176 : decode cX6_statement 176 = .ok (.getfield 78, 3) := g_180 bX6_statement rfl
theorem dX6_statement_179 : decode cX6_statement 179 = .ok (.iconst 1, 1) := g_4 bX6_statement rfl
theorem dX6_statement_180 : decode cX6_statement 180 = .ok (.iadd, 1) := g_96 bX6_statement rfl
theorem dX6_statement_181 : decode cX6_statement 181 = .ok (.putfield 78, 3) := g_181 bX6_statement rfl
theorem dX6_statement_184 : decode cX6_statement 184 = .ok (.iconst 1, 1) := g_4 bX6_statement rfl
theorem dX6_statement_185 : decode cX6_statement 185 = .ok (.ireturn, 1) := g_172 bX6_statement rfl
theorem dX6_statement_186 : decode cX6_statement 186 = .ok (.aload_n 0, 1) := g_42 bX6_statement rfl
theorem dX6_statement_187 : decode cX6_statement 187 = .ok (.ldc 210, 2) := g_18 bX6_statement rfl
theorem dX6_statement_189 : decode cX6_statement 189 = .ok (.invokevirtual 186, 3) := g_182 bX6_statement rfl
theorem dX6_statement_192 : decode cX6_statement 192 = .ok (.ifCond .eq 73, 3) := g_153 73 bX6_statement rfl rfl
theorem dX6_statement_195 : decode cX6_statement 195 = .ok (.aload_n 0, 1) := g_42 bX6_statement rfl
theorem dX6_statement_196 : decode cX6_statement 196 = .ok (.ldc 210, 2) := g_18 bX6_statement rfl
theorem dX6_statement_198 : decode cX6_statement 198 = .ok (.aload_n 0, 1) := g_42 bX6_statement rfl
theorem dX6_statement_199 : decode cX6_statement 199 = .ok (.getfield 55, 3) := g_180 bX6_statement rfl
theorem dX6_statement_202 : decode cX6_statement 202 = .ok (.iconst 0, 1) := g_3 bX6_statement rfl
theorem dX6_statement_203 : decode cX6_statement 203 = .ok (.iconst 0, 1) := g_3 bX6_statement rfl
theorem dX6_statement_204 : decode cX6_statement 204 = .ok (.aload_n 0, 1) := g_42 bX6_statement rfl
theorem dX6_statement_205 : decode cX6_statement 205 = .ok (.getfield 71, 3) := g_180 bX6_statement rfl
theorem dX6_statement_208 : decode cX6_statement 208 = .ok (.iconst 1, 1) := g_4 bX6_statement rfl
theorem dX6_statement_209 : decode cX6_statement 209 = .ok (.isub, 1) := g_100 bX6_statement rfl
theorem dX6_statement_210 : decode cX6_statement 210 = .ok (.invokevirtual 194, 3) := g_182 bX6_statement rfl
theorem dX6_statement_213 : decode cX6_statement 213 = .ok (.ifCond .eq 24, 3) := g_153 24 bX6_statement rfl rfl
theorem dX6_statement_216 : decode cX6_statement 216 = .ok (.aload_n 0, 1) := g_42 bX6_statement rfl
theorem dX6_statement_217 : decode cX6_statement 217 = .ok (.aload_n 0, 1) := g_42 bX6_statement rfl
theorem dX6_statement_218 : decode cX6_statement 218 = .ok (.getfield 55, 3) := g_180 bX6_statement rfl
theorem dX6_statement_221 : decode cX6_statement 221 = .ok (.iconst 1, 1) := g_4 bX6_statement rfl
theorem dX6_statement_222 : decode cX6_statement 222 = .ok (.iconst 0, 1) := g_3 bX6_statement rfl
theorem dX6_statement_223 : decode cX6_statement 223 = .ok (.aload_n 0, 1) := g_42 bX6_statement rfl
theorem dX6_statement_224 : decode cX6_statement 224 = .ok (.getfield 55, 3) := g_180 bX6_statement rfl
theorem dX6_statement_227 : decode cX6_statement 227 = .ok (.iconst 0, 1) := g_3 bX6_statement rfl
theorem dX6_statement_228 : decode cX6_statement 228 = .ok (.iaload, 1) := g_46 bX6_statement rfl
theorem dX6_statement_229 : decode cX6_statement 229 = .ok (.iconst 1, 1) := g_4 bX6_statement rfl
theorem dX6_statement_230 : decode cX6_statement 230 = .ok (.isub, 1) := g_100 bX6_statement rfl
theorem dX6_statement_231 : decode cX6_statement 231 = .ok (.invokevirtual 190, 3) := g_182 bX6_statement rfl
theorem dX6_statement_234 : decode cX6_statement 234 = .ok (.ifCond .ne 5, 3) := g_154 5 bX6_statement rfl rfl
theorem dX6_statement_237 : decode cX6_statement 237 = .ok (.iconst 0, 1) := g_3 bX6_statement rfl
theorem dX6_statement_238 : decode cX6_statement 238 = .ok (.ireturn, 1) := g_172 bX6_statement rfl
theorem dX6_statement_239 : decode cX6_statement 239 = .ok (.aload_n 0, 1) := g_42 bX6_statement rfl
theorem dX6_statement_240 : decode cX6_statement 240 = .ok (.getfield 42, 3) := g_180 bX6_statement rfl
theorem dX6_statement_243 : decode cX6_statement 243 = .ok (.aload_n 0, 1) := g_42 bX6_statement rfl
theorem dX6_statement_244 : decode cX6_statement 244 = .ok (.getfield 55, 3) := g_180 bX6_statement rfl
theorem dX6_statement_247 : decode cX6_statement 247 = .ok (.iconst 0, 1) := g_3 bX6_statement rfl
theorem dX6_statement_248 : decode cX6_statement 248 = .ok (.iaload, 1) := g_46 bX6_statement rfl
theorem dX6_statement_249 : decode cX6_statement 249 = .ok (.aaload, 1) := g_50 bX6_statement rfl
theorem dX6_statement_250 : decode cX6_statement 250 = .ok (.iconst 1, 1) := g_4 bX6_statement rfl
theorem dX6_statement_251 : decode cX6_statement 251 = .ok (.dup2, 1) := g_92 bX6_statement rfl
theorem dX6_statement_252 : decode cX6_statement 252 = .ok (.iaload, 1) := g_46 bX6_statement rfl
theorem dX6_statement_253 : decode cX6_statement 253 = .ok (.iconst 1, 1) := g_4 bX6_statement rfl
theorem dX6_statement_254 : decode cX6_statement 254 = .ok (.aload_n 0, 1) := g_42 bX6_statement rfl
theorem dX6_statement_255 : decode cX6_statement 255 = .ok (.getfield 55, 3) := g_180 bX6_statement rfl
theorem dX6_statement_258 : decode cX6_statement 258 = .ok (.iconst 1, 1) := g_4 bX6_statement rfl
theorem dX6_statement_259 : decode cX6_statement 259 = .ok (.iaload, 1) := g_46 bX6_statement rfl
theorem dX6_statement_260 : decode cX6_statement 260 = .ok (.ishl, 1) := g_120 bX6_statement rfl
theorem dX6_statement_261 : decode cX6_statement 261 = .ok (.ior, 1) := g_128 bX6_statement rfl
theorem dX6_statement_262 : decode cX6_statement 262 = .ok (.iastore, 1) := g_79 bX6_statement rfl
theorem dX6_statement_263 : decode cX6_statement 263 = .ok (.iconst 1, 1) := g_4 bX6_statement rfl
theorem dX6_statement_264 : decode cX6_statement 264 = .ok (.ireturn, 1) := g_172 bX6_statement rfl
theorem dX6_statement_265 : decode cX6_statement 265 = .ok (.aload_n 0, 1) := g_42 bX6_statement rfl
theorem dX6_statement_266 : decode cX6_statement 266 = .ok (.ldc 212, 2) := g_18 bX6_statement rfl
theorem dX6_statement_268 : decode cX6_statement 268 = .ok (.invokevirtual 186, 3) := g_182 bX6_statement rfl
theorem dX6_statement_271 : decode cX6_statement 271 = .ok (.ifCond .eq 87, 3) := g_153 87 bX6_statement rfl rfl
theorem dX6_statement_274 : decode cX6_statement 274 = .ok (.aload_n 0, 1) := g_42 bX6_statement rfl
theorem dX6_statement_275 : decode cX6_statement 275 = .ok (.ldc 212, 2) := g_18 bX6_statement rfl
theorem dX6_statement_277 : decode cX6_statement 277 = .ok (.aload_n 0, 1) := g_42 bX6_statement rfl
theorem dX6_statement_278 : decode cX6_statement 278 = .ok (.getfield 55, 3) := g_180 bX6_statement rfl
theorem dX6_statement_281 : decode cX6_statement 281 = .ok (.iconst 0, 1) := g_3 bX6_statement rfl
theorem dX6_statement_282 : decode cX6_statement 282 = .ok (.iconst 0, 1) := g_3 bX6_statement rfl
theorem dX6_statement_283 : decode cX6_statement 283 = .ok (.aload_n 0, 1) := g_42 bX6_statement rfl
theorem dX6_statement_284 : decode cX6_statement 284 = .ok (.getfield 78, 3) := g_180 bX6_statement rfl
theorem dX6_statement_287 : decode cX6_statement 287 = .ok (.iconst 1, 1) := g_4 bX6_statement rfl
theorem dX6_statement_288 : decode cX6_statement 288 = .ok (.isub, 1) := g_100 bX6_statement rfl
theorem dX6_statement_289 : decode cX6_statement 289 = .ok (.invokevirtual 194, 3) := g_182 bX6_statement rfl
theorem dX6_statement_292 : decode cX6_statement 292 = .ok (.ifCond .eq 38, 3) := g_153 38 bX6_statement rfl rfl
theorem dX6_statement_295 : decode cX6_statement 295 = .ok (.aload_n 0, 1) := g_42 bX6_statement rfl
theorem dX6_statement_296 : decode cX6_statement 296 = .ok (.aload_n 0, 1) := g_42 bX6_statement rfl
theorem dX6_statement_297 : decode cX6_statement 297 = .ok (.getfield 55, 3) := g_180 bX6_statement rfl
theorem dX6_statement_300 : decode cX6_statement 300 = .ok (.iconst 1, 1) := g_4 bX6_statement rfl
theorem dX6_statement_301 : decode cX6_statement 301 = .ok (.iconst 0, 1) := g_3 bX6_statement rfl
theorem dX6_statement_302 : decode cX6_statement 302 = .ok (.aload_n 0, 1) := g_42 bX6_statement rfl
theorem dX6_statement_303 : decode cX6_statement 303 = .ok (.getfield 71, 3) := g_180 bX6_statement rfl
theorem dX6_statement_306 : decode cX6_statement 306 = .ok (.iconst 1, 1) := g_4 bX6_statement rfl
theorem dX6_statement_307 : decode cX6_statement 307 = .ok (.isub, 1) := g_100 bX6_statement rfl
theorem dX6_statement_308 : decode cX6_statement 308 = .ok (.invokevirtual 190, 3) := g_182 bX6_statement rfl
theorem dX6_statement_311 : decode cX6_statement 311 = .ok (.ifCond .eq 19, 3) := g_153 19 bX6_statement rfl rfl
theorem dX6_statement_314 : decode cX6_statement 314 = .ok (.aload_n 0, 1) := g_42 bX6_statement rfl
theorem dX6_statement_315 : decode cX6_statement 315 = .ok (.aload_n 0, 1) := g_42 bX6_statement rfl
theorem dX6_statement_316 : decode cX6_statement 316 = .ok (.getfield 55, 3) := g_180 bX6_statement rfl
theorem dX6_statement_319 : decode cX6_statement 319 = .ok (.iconst 2, 1) := g_5 bX6_statement rfl
theorem dX6_statement_320 : decode cX6_statement 320 = .ok (.iconst 0, 1) := g_3 bX6_statement rfl
theorem dX6_statement_321 : decode cX6_statement 321 = .ok (.sipush 1000, 3) := g_17 1000 bX6_statement rfl rfl
theorem dX6_statement_324 : decode cX6_statement 324 = .ok (.invokevirtual 190, 3) := g_182 bX6_statement rfl
theorem dX6_statement_327 : decode cX6_statement 327 = .ok (.ifCond .ne 5, 3) := g_154 5 bX6_statement rfl rfl
theorem dX6_statement_330 : decode cX6_statement 330 = .ok (.iconst 0, 1) := g_3 bX6_statement rfl
theorem dX6_statement_331 : decode cX6_statement 331 = .ok (.ireturn, 1) := g_172 bX6_statement rfl
theorem dX6_statement_332 : decode cX6_statement 332 = .ok (.aload_n 0, 1) := g_42 bX6_statement rfl
theorem dX6_statement_333 : decode cX6_statement 333 = .ok (.getfield 48, 3) := g_180 bX6_statement rfl
theorem dX6_statement_336 : decode cX6_statement 336 = .ok (.aload_n 0, 1) := g_42 bX6_statement rfl
theorem dX6_statement_337 : decode cX6_statement 337 = .ok (.getfield 55, 3) := g_180 bX6_statement rfl
theorem dX6_statement_340 : decode cX6_statement 340 = .ok (.iconst 0, 1) := g_3 bX6_statement rfl
theorem dX6_statement_341 : decode cX6_statement 341 = .ok (.iaload, 1) := g_46 bX6_statement rfl
theorem dX6_statement_342 : decode cX6_statement 342 = .ok (.aaload, 1) := g_50 bX6_statement rfl
theorem dX6_statement_343 : decode cX6_statement 343 = .ok (.aload_n 0, 1) := g_42 bX6_statement rfl
theorem dX6_statement_344 : decode cX6_statement 344 = .ok (.getfield 55, 3) := g_180 bX6_statement rfl
theorem dX6_statement_347 : decode cX6_statement 347 = .ok (.iconst 1, 1) := g_4 bX6_statement rfl
theorem dX6_statement_348 : decode cX6_statement 348 = .ok (.iaload, 1) := g_46 bX6_statement rfl
theorem dX6_statement_349 : decode cX6_statement 349 = .ok (.aload_n 0, 1) := g_42 bX6_statement rfl
theorem dX6_statement_350 : decode cX6_statement 350 = .ok (.getfield 55, 3) := g_180 bX6_statement rfl
theorem dX6_statement_353 : decode cX6_statement 353 = .ok (.iconst 2, 1) := g_5 bX6_statement rfl
theorem dX6_statement_354 : decode cX6_statement 354 = .ok (.iaload, 1) := g_46 bX6_statement rfl
theorem dX6_statement_355 : decode cX6_statement 355 = .ok (.iastore, 1) := g_79 bX6_statement rfl
theorem dX6_statement_356 : decode cX6_statement 356 = .ok (.iconst 1, 1) := g_4 bX6_statement rfl
theorem dX6_statement_357 : decode cX6_statement 357 = .ok (.ireturn, 1) := g_172 bX6_statement rfl
theorem dX6_statement_358 : decode cX6_statement 358 = .ok (.aload_n 0, 1) := g_42 bX6_statement rfl
theorem dX6_statement_359 : decode cX6_statement 359 = .ok (.ldc 214, 2) := g_18 bX6_statement rfl
theorem dX6_statement_361 : decode cX6_statement 361 = .ok (.aload_n 0, 1) := g_42 bX6_statement rfl
theorem dX6_statement_362 : decode cX6_statement 362 = .ok (.getfield 55, 3) := g_180 bX6_statement rfl
theorem dX6_statement_365 : decode cX6_statement 365 = .ok (.iconst 0, 1) := g_3 bX6_statement rfl
theorem dX6_statement_366 : decode cX6_statement 366 = .ok (.iconst 0, 1) := g_3 bX6_statement rfl
theorem dX6_statement_367 : decode cX6_statement 367 = .ok (.aload_n 0, 1) := g_42 bX6_statement rfl
theorem dX6_statement_368 : decode cX6_statement 368 = .ok (.getfield 71, 3) := g_180 bX6_statement rfl
theorem dX6_statement_371 : decode cX6_statement 371 = .ok (.iconst 1, 1) := g_4 bX6_statement rfl
theorem dX6_statement_372 : decode cX6_statement 372 = .ok (.isub, 1) := g_100 bX6_statement rfl
theorem dX6_statement_373 : decode cX6_statement 373 = .ok (.invokevirtual 194, 3) := g_182 bX6_statement rfl
theorem dX6_statement_376 : decode cX6_statement 376 = .ok (.ifCond .ne 5, 3) := g_154 5 bX6_statement rfl rfl
theorem dX6_statement_379 : decode cX6_statement 379 = .ok (.iconst 0, 1) := g_3 bX6_statement rfl
theorem dX6_statement_380 : decode cX6_statement 380 = .ok (.ireturn, 1) := g_172 bX6_statement rfl
theorem dX6_statement_381 : decode cX6_statement 381 = .ok (.aload_n 0, 1) := g_42 bX6_statement rfl
theorem dX6_statement_382 : decode cX6_statement 382 = .ok (.getfield 42, 3) := g_180 bX6_statement rfl
theorem dX6_statement_385 : decode cX6_statement 385 = .ok (.aload_n 0, 1) := g_42 bX6_statement rfl
theorem dX6_statement_386 : decode cX6_statement 386 = .ok (.getfield 55, 3) := g_180 bX6_statement rfl
theorem dX6_statement_389 : decode cX6_statement 389 = .ok (.iconst 0, 1) := g_3 bX6_statement rfl
theorem dX6_statement_390 : decode cX6_statement 390 = .ok (.iaload, 1) := g_46 bX6_statement rfl
theorem dX6_statement_391 : decode cX6_statement 391 = .ok (.aaload, 1) := g_50 bX6_statement rfl
theorem dX6_statement_392 : decode cX6_statement 392 = .ok (.iconst 3, 1) := g_6 bX6_statement rfl
theorem dX6_statement_393 : decode cX6_statement 393 = .ok (.iconst 1, 1) := g_4 bX6_statement rfl
theorem dX6_statement_394 : decode cX6_statement 394 = .ok (.iastore, 1) := g_79 bX6_statement rfl
theorem dX6_statement_395 : decode cX6_statement 395 = .ok (.iconst 1, 1) := g_4 bX6_statement rfl
theorem dX6_statement_396 : decode cX6_statement 396 = .ok (.ireturn, 1) := g_172 bX6_statement rfl
end
