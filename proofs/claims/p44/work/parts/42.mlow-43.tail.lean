section
theorem dX6_chain_0 : decode cX6_chain 0 = .ok (.iconst 0, 1) := g_3 bX6_chain rfl
theorem dX6_chain_1 : decode cX6_chain 1 = .ok (.istore_n 1, 1) := g_60 bX6_chain rfl
theorem dX6_chain_2 : decode cX6_chain 2 = .ok (.iload_n 1, 1) := g_27 bX6_chain rfl
theorem dX6_chain_3 : decode cX6_chain 3 = .ok (.aload_n 0, 1) := g_42 bX6_chain rfl
theorem dX6_chain_4 : decode cX6_chain 4 = .ok (.getfield 78, 3) := g_180 bX6_chain rfl
theorem dX6_chain_7 : decode cX6_chain 7 = .ok (.if_icmp .ge 66, 3) := g_162 66 bX6_chain rfl rfl
theorem dX6_chain_10 : decode cX6_chain 10 = .ok (.aload_n 0, 1) := g_42 bX6_chain rfl
theorem dX6_chain_11 : decode cX6_chain 11 = .ok (.iload_n 1, 1) := g_27 bX6_chain rfl
theorem dX6_chain_12 : decode cX6_chain 12 = .ok (.invokevirtual 81, 3) := g_182 bX6_chain rfl
theorem dX6_chain_15 : decode cX6_chain 15 = .ok (.ifCond .eq 11, 3) := g_153 11 bX6_chain rfl rfl
theorem dX6_chain_18 : decode cX6_chain 18 = .ok (.aload_n 0, 1) := g_42 bX6_chain rfl
theorem dX6_chain_19 : decode cX6_chain 19 = .ok (.iload_n 1, 1) := g_27 bX6_chain rfl
theorem dX6_chain_20 : decode cX6_chain 20 = .ok (.invokevirtual 269, 3) := g_182 bX6_chain rfl
theorem dX6_chain_23 : decode cX6_chain 23 = .ok (.goto 4, 3) := g_167 4 bX6_chain rfl rfl
theorem dX6_chain_26 : decode cX6_chain 26 = .ok (.iconst (-1), 1) := g_2 bX6_chain rfl
theorem dX6_chain_27 : decode cX6_chain 27 = .ok (.istore_n 2, 1) := g_61 bX6_chain rfl
theorem dX6_chain_28 : decode cX6_chain 28 = .ok (.iconst 0, 1) := g_3 bX6_chain rfl
theorem dX6_chain_29 : decode cX6_chain 29 = .ok (.istore_n 3, 1) := g_62 bX6_chain rfl
theorem dX6_chain_30 : decode cX6_chain 30 = .ok (.iload_n 3, 1) := g_29 bX6_chain rfl
theorem dX6_chain_31 : decode cX6_chain 31 = .ok (.aload_n 0, 1) := g_42 bX6_chain rfl
theorem dX6_chain_32 : decode cX6_chain 32 = .ok (.getfield 71, 3) := g_180 bX6_chain rfl
theorem dX6_chain_35 : decode cX6_chain 35 = .ok (.if_icmp .ge 32, 3) := g_162 32 bX6_chain rfl rfl
theorem dX6_chain_38 : decode cX6_chain 38 = .ok (.iload_n 2, 1) := g_28 bX6_chain rfl
theorem dX6_chain_39 : decode cX6_chain 39 = .ok (.iconst (-1), 1) := g_2 bX6_chain rfl
theorem dX6_chain_40 : decode cX6_chain 40 = .ok (.if_icmp .eq 27, 3) := g_159 27 bX6_chain rfl rfl
theorem dX6_chain_43 : decode cX6_chain 43 = .ok (.aload_n 0, 1) := g_42 bX6_chain rfl
theorem dX6_chain_44 : decode cX6_chain 44 = .ok (.getfield 48, 3) := g_180 bX6_chain rfl
theorem dX6_chain_47 : decode cX6_chain 47 = .ok (.iload_n 2, 1) := g_28 bX6_chain rfl
theorem dX6_chain_48 : decode cX6_chain 48 = .ok (.aaload, 1) := g_50 bX6_chain rfl
theorem dX6_chain_49 : decode cX6_chain 49 = .ok (.iload_n 3, 1) := g_29 bX6_chain rfl
theorem dX6_chain_50 : decode cX6_chain 50 = .ok (.dup2, 1) := g_92 bX6_chain rfl
theorem dX6_chain_51 : decode cX6_chain 51 = .ok (.iaload, 1) := g_46 bX6_chain rfl
theorem dX6_chain_52 : decode cX6_chain 52 = .ok (.aload_n 0, 1) := g_42 bX6_chain rfl
theorem dX6_chain_53 : decode cX6_chain 53 = .ok (.iload_n 1, 1) := g_27 bX6_chain rfl
theorem dX6_chain_54 : decode cX6_chain 54 = .ok (.iload_n 2, 1) := g_28 bX6_chain rfl
theorem dX6_chain_55 : decode cX6_chain 55 = .ok (.iload_n 3, 1) := g_29 bX6_chain rfl
theorem dX6_chain_56 : decode cX6_chain 56 = .ok (.invokevirtual 263, 3) := g_182 bX6_chain rfl
theorem dX6_chain_59 : decode cX6_chain 59 = .ok (.iadd, 1) := g_96 bX6_chain rfl
theorem dX6_chain_60 : decode cX6_chain 60 = .ok (.iastore, 1) := g_79 bX6_chain rfl
theorem dX6_chain_61 : decode cX6_chain 61 = .ok (.iinc 3 1, 3) := g_132 1 bX6_chain rfl rfl
theorem dX6_chain_64 : decode cX6_chain 64 = .ok (.goto (-34), 3) := g_167 65502 bX6_chain rfl rfl
theorem dX6_chain_67 : decode cX6_chain 67 = .ok (.iinc 1 1, 3) := g_132 1 bX6_chain rfl rfl
theorem dX6_chain_70 : decode cX6_chain 70 = .ok (.goto (-68), 3) := g_167 65468 bX6_chain rfl rfl
theorem dX6_chain_73 : decode cX6_chain 73 = .ok (.return_, 1) := g_177 bX6_chain rfl
theorem dX6_does_0 : decode cX6_does 0 = .ok (.iload_n 1, 1) := g_27 bX6_does rfl
theorem dX6_does_1 : decode cX6_does 1 = .ok (.tableswitch 74 1 5 #[35, 43, 50, 58, 64], 35) := by decide +kernel
theorem dX6_does_36 : decode cX6_does 36 = .ok (.aload_n 0, 1) := g_42 bX6_does rfl
theorem dX6_does_37 : decode cX6_does 37 = .ok (.bipush 8, 2) := g_16 8 bX6_does rfl rfl
theorem dX6_does_39 : decode cX6_does 39 = .ok (.iconst 0, 1) := g_3 bX6_does rfl
theorem dX6_does_40 : decode cX6_does 40 = .ok (.invokevirtual 278, 3) := g_182 bX6_does rfl
theorem dX6_does_43 : decode cX6_does 43 = .ok (.ireturn, 1) := g_172 bX6_does rfl
theorem dX6_does_44 : decode cX6_does 44 = .ok (.aload_n 0, 1) := g_42 bX6_does rfl
theorem dX6_does_45 : decode cX6_does 45 = .ok (.iload_n 2, 1) := g_28 bX6_does rfl
theorem dX6_does_46 : decode cX6_does 46 = .ok (.iconst 0, 1) := g_3 bX6_does rfl
theorem dX6_does_47 : decode cX6_does 47 = .ok (.invokevirtual 278, 3) := g_182 bX6_does rfl
theorem dX6_does_50 : decode cX6_does 50 = .ok (.ireturn, 1) := g_172 bX6_does rfl
theorem dX6_does_51 : decode cX6_does 51 = .ok (.aload_n 0, 1) := g_42 bX6_does rfl
theorem dX6_does_52 : decode cX6_does 52 = .ok (.bipush 8, 2) := g_16 8 bX6_does rfl rfl
theorem dX6_does_54 : decode cX6_does 54 = .ok (.iconst 1, 1) := g_4 bX6_does rfl
theorem dX6_does_55 : decode cX6_does 55 = .ok (.invokevirtual 278, 3) := g_182 bX6_does rfl
theorem dX6_does_58 : decode cX6_does 58 = .ok (.ireturn, 1) := g_172 bX6_does rfl
theorem dX6_does_59 : decode cX6_does 59 = .ok (.aload_n 0, 1) := g_42 bX6_does rfl
theorem dX6_does_60 : decode cX6_does 60 = .ok (.invokevirtual 282, 3) := g_182 bX6_does rfl
theorem dX6_does_63 : decode cX6_does 63 = .ok (.iconst 0, 1) := g_3 bX6_does rfl
theorem dX6_does_64 : decode cX6_does 64 = .ok (.ireturn, 1) := g_172 bX6_does rfl
theorem dX6_does_65 : decode cX6_does 65 = .ok (.aload_n 0, 1) := g_42 bX6_does rfl
theorem dX6_does_66 : decode cX6_does 66 = .ok (.invokevirtual 282, 3) := g_182 bX6_does rfl
theorem dX6_does_69 : decode cX6_does 69 = .ok (.aload_n 0, 1) := g_42 bX6_does rfl
theorem dX6_does_70 : decode cX6_does 70 = .ok (.invokevirtual 282, 3) := g_182 bX6_does rfl
theorem dX6_does_73 : decode cX6_does 73 = .ok (.iconst 0, 1) := g_3 bX6_does rfl
theorem dX6_does_74 : decode cX6_does 74 = .ok (.ireturn, 1) := g_172 bX6_does rfl
theorem dX6_does_75 : decode cX6_does 75 = .ok (.aload_n 0, 1) := g_42 bX6_does rfl
theorem dX6_does_76 : decode cX6_does 76 = .ok (.invokevirtual 282, 3) := g_182 bX6_does rfl
theorem dX6_does_79 : decode cX6_does 79 = .ok (.aload_n 0, 1) := g_42 bX6_does rfl
theorem dX6_does_80 : decode cX6_does 80 = .ok (.iconst 1, 1) := g_4 bX6_does rfl
theorem dX6_does_81 : decode cX6_does 81 = .ok (.iconst 0, 1) := g_3 bX6_does rfl
theorem dX6_does_82 : decode cX6_does 82 = .ok (.invokevirtual 278, 3) := g_182 bX6_does rfl
theorem dX6_does_85 : decode cX6_does 85 = .ok (.ireturn, 1) := g_172 bX6_does rfl
theorem dX6_end_0 : decode cX6_end 0 = .ok (.iconst 0, 1) := g_3 bX6_end rfl
theorem dX6_end_1 : decode cX6_end 1 = .ok (.istore_n 1, 1) := g_60 bX6_end rfl
theorem dX6_end_2 : decode cX6_end 2 = .ok (.iconst 0, 1) := g_3 bX6_end rfl
theorem dX6_end_3 : decode cX6_end 3 = .ok (.istore_n 2, 1) := g_61 bX6_end rfl
theorem dX6_end_4 : decode cX6_end 4 = .ok (.iload_n 2, 1) := g_28 bX6_end rfl
theorem dX6_end_5 : decode cX6_end 5 = .ok (.aload_n 0, 1) := g_42 bX6_end rfl
theorem dX6_end_6 : decode cX6_end 6 = .ok (.getfield 78, 3) := g_180 bX6_end rfl
theorem dX6_end_9 : decode cX6_end 9 = .ok (.if_icmp .ge 136, 3) := g_162 136 bX6_end rfl rfl
theorem dX6_end_12 : decode cX6_end 12 = .ok (.aload_n 0, 1) := g_42 bX6_end rfl
theorem dX6_end_13 : decode cX6_end 13 = .ok (.iload_n 2, 1) := g_28 bX6_end rfl
theorem dX6_end_14 : decode cX6_end 14 = .ok (.invokevirtual 81, 3) := g_182 bX6_end rfl
theorem dX6_end_17 : decode cX6_end 17 = .ok (.ifCond .eq 122, 3) := g_153 122 bX6_end rfl rfl
theorem dX6_end_20 : decode cX6_end 20 = .ok (.aload_n 0, 1) := g_42 bX6_end rfl
theorem dX6_end_21 : decode cX6_end 21 = .ok (.getfield 45, 3) := g_180 bX6_end rfl
theorem dX6_end_24 : decode cX6_end 24 = .ok (.iload_n 2, 1) := g_28 bX6_end rfl
theorem dX6_end_25 : decode cX6_end 25 = .ok (.aaload, 1) := g_50 bX6_end rfl
theorem dX6_end_26 : decode cX6_end 26 = .ok (.iconst 0, 1) := g_3 bX6_end rfl
theorem dX6_end_27 : decode cX6_end 27 = .ok (.dup2, 1) := g_92 bX6_end rfl
theorem dX6_end_28 : decode cX6_end 28 = .ok (.iaload, 1) := g_46 bX6_end rfl
theorem dX6_end_29 : decode cX6_end 29 = .ok (.iconst 1, 1) := g_4 bX6_end rfl
theorem dX6_end_30 : decode cX6_end 30 = .ok (.iadd, 1) := g_96 bX6_end rfl
theorem dX6_end_31 : decode cX6_end 31 = .ok (.iastore, 1) := g_79 bX6_end rfl
theorem dX6_end_32 : decode cX6_end 32 = .ok (.aload_n 0, 1) := g_42 bX6_end rfl
theorem dX6_end_33 : decode cX6_end 33 = .ok (.getfield 45, 3) := g_180 bX6_end rfl
theorem dX6_end_36 : decode cX6_end 36 = .ok (.iload_n 2, 1) := g_28 bX6_end rfl
theorem dX6_end_37 : decode cX6_end 37 = .ok (.aaload, 1) := g_50 bX6_end rfl
theorem dX6_end_38 : decode cX6_end 38 = .ok (.iconst 0, 1) := g_3 bX6_end rfl
theorem dX6_end_39 : decode cX6_end 39 = .ok (.iaload, 1) := g_46 bX6_end rfl
theorem dX6_end_40 : decode cX6_end 40 = .ok (.bipush 10, 2) := g_16 10 bX6_end rfl rfl
theorem dX6_end_42 : decode cX6_end 42 = .ok (.if_icmp .ne 7, 3) := g_160 7 bX6_end rfl rfl
theorem dX6_end_45 : decode cX6_end 45 = .ok (.iconst 1, 1) := g_4 bX6_end rfl
theorem dX6_end_46 : decode cX6_end 46 = .ok (.goto 4, 3) := g_167 4 bX6_end rfl rfl
theorem dX6_end_49 : decode cX6_end 49 = .ok (.iconst 0, 1) := g_3 bX6_end rfl
theorem dX6_end_50 : decode cX6_end 50 = .ok (.istore_n 3, 1) := g_62 bX6_end rfl
theorem dX6_end_51 : decode cX6_end 51 = .ok (.aload_n 0, 1) := g_42 bX6_end rfl
theorem dX6_end_52 : decode cX6_end 52 = .ok (.getfield 45, 3) := g_180 bX6_end rfl
theorem dX6_end_55 : decode cX6_end 55 = .ok (.iload_n 2, 1) := g_28 bX6_end rfl
theorem dX6_end_56 : decode cX6_end 56 = .ok (.aaload, 1) := g_50 bX6_end rfl
theorem dX6_end_57 : decode cX6_end 57 = .ok (.iconst 4, 1) := g_7 bX6_end rfl
theorem dX6_end_58 : decode cX6_end 58 = .ok (.iload_n 3, 1) := g_29 bX6_end rfl
theorem dX6_end_59 : decode cX6_end 59 = .ok (.ifCond .eq 7, 3) := g_153 7 bX6_end rfl rfl
theorem dX6_end_62 : decode cX6_end 62 = .ok (.iconst 1, 1) := g_4 bX6_end rfl
theorem dX6_end_63 : decode cX6_end 63 = .ok (.goto 4, 3) := g_167 4 bX6_end rfl rfl
theorem dX6_end_66 : decode cX6_end 66 = .ok (.iconst 0, 1) := g_3 bX6_end rfl
theorem dX6_end_67 : decode cX6_end 67 = .ok (.iastore, 1) := g_79 bX6_end rfl
theorem dX6_end_68 : decode cX6_end 68 = .ok (.iload_n 1, 1) := g_27 bX6_end rfl
theorem dX6_end_69 : decode cX6_end 69 = .ok (.iload_n 3, 1) := g_29 bX6_end rfl
theorem dX6_end_70 : decode cX6_end 70 = .ok (.ifCond .eq 7, 3) := g_153 7 bX6_end rfl rfl
theorem dX6_end_73 : decode cX6_end 73 = .ok (.iconst 1, 1) := g_4 bX6_end rfl
theorem dX6_end_74 : decode cX6_end 74 = .ok (.goto 4, 3) := g_167 4 bX6_end rfl rfl
theorem dX6_end_77 : decode cX6_end 77 = .ok (.iconst 0, 1) := g_3 bX6_end rfl
theorem dX6_end_78 : decode cX6_end 78 = .ok (.iadd, 1) := g_96 bX6_end rfl
theorem dX6_end_79 : decode cX6_end 79 = .ok (.istore_n 1, 1) := g_60 bX6_end rfl
theorem dX6_end_80 : decode cX6_end 80 = .ok (.iconst 0, 1) := g_3 bX6_end rfl
theorem dX6_end_81 : decode cX6_end 81 = .ok (.istore 4, 2) := g_54 bX6_end rfl
theorem dX6_end_83 : decode cX6_end 83 = .ok (.iload 4, 2) := g_21 bX6_end rfl
theorem dX6_end_85 : decode cX6_end 85 = .ok (.aload_n 0, 1) := g_42 bX6_end rfl
theorem dX6_end_86 : decode cX6_end 86 = .ok (.getfield 71, 3) := g_180 bX6_end rfl
theorem dX6_end_89 : decode cX6_end 89 = .ok (.if_icmp .ge 50, 3) := g_162 50 bX6_end rfl rfl
theorem dX6_end_92 : decode cX6_end 92 = .ok (.aload_n 0, 1) := g_42 bX6_end rfl
theorem dX6_end_93 : decode cX6_end 93 = .ok (.getfield 48, 3) := g_180 bX6_end rfl
theorem dX6_end_96 : decode cX6_end 96 = .ok (.iload_n 2, 1) := g_28 bX6_end rfl
theorem dX6_end_97 : decode cX6_end 97 = .ok (.aaload, 1) := g_50 bX6_end rfl
theorem dX6_end_98 : decode cX6_end 98 = .ok (.iload 4, 2) := g_21 bX6_end rfl
theorem dX6_end_100 : decode cX6_end 100 = .ok (.iload_n 3, 1) := g_29 bX6_end rfl
theorem dX6_end_101 : decode cX6_end 101 = .ok (.ifCond .eq 7, 3) := g_153 7 bX6_end rfl rfl
theorem dX6_end_104 : decode cX6_end 104 = .ok (.iconst 0, 1) := g_3 bX6_end rfl
theorem dX6_end_105 : decode cX6_end 105 = .ok (.goto 27, 3) := g_167 27 bX6_end rfl rfl
theorem dX6_end_108 : decode cX6_end 108 = .ok (.aload_n 0, 1) := g_42 bX6_end rfl
theorem dX6_end_109 : decode cX6_end 109 = .ok (.getfield 48, 3) := g_180 bX6_end rfl
theorem dX6_end_112 : decode cX6_end 112 = .ok (.iload_n 2, 1) := g_28 bX6_end rfl
theorem dX6_end_113 : decode cX6_end 113 = .ok (.aaload, 1) := g_50 bX6_end rfl
theorem dX6_end_114 : decode cX6_end 114 = .ok (.iload 4, 2) := g_21 bX6_end rfl
theorem dX6_end_116 : decode cX6_end 116 = .ok (.iaload, 1) := g_46 bX6_end rfl
theorem dX6_end_117 : decode cX6_end 117 = .ok (.bipush 90, 2) := g_16 90 bX6_end rfl rfl
theorem dX6_end_119 : decode cX6_end 119 = .ok (.aload_n 0, 1) := g_42 bX6_end rfl
theorem dX6_end_120 : decode cX6_end 120 = .ok (.getfield 45, 3) := g_180 bX6_end rfl
theorem dX6_end_123 : decode cX6_end 123 = .ok (.iload_n 2, 1) := g_28 bX6_end rfl
theorem dX6_end_124 : decode cX6_end 124 = .ok (.aaload, 1) := g_50 bX6_end rfl
theorem dX6_end_125 : decode cX6_end 125 = .ok (.iconst 2, 1) := g_5 bX6_end rfl
theorem dX6_end_126 : decode cX6_end 126 = .ok (.iaload, 1) := g_46 bX6_end rfl
theorem dX6_end_127 : decode cX6_end 127 = .ok (.iadd, 1) := g_96 bX6_end rfl
theorem dX6_end_128 : decode cX6_end 128 = .ok (.imul, 1) := g_104 bX6_end rfl
theorem dX6_end_129 : decode cX6_end 129 = .ok (.bipush 100, 2) := g_16 100 bX6_end rfl rfl
theorem dX6_end_131 : decode cX6_end 131 = .ok (.idiv, 1) := g_108 bX6_end rfl
theorem dX6_end_132 : decode cX6_end 132 = .ok (.iastore, 1) := g_79 bX6_end rfl
theorem dX6_end_133 : decode cX6_end 133 = .ok (.iinc 4 1, 3) := g_132 1 bX6_end rfl rfl
theorem dX6_end_136 : decode cX6_end 136 = .ok (.goto (-53), 3) := g_167 65483 bX6_end rfl rfl
theorem dX6_end_139 : decode cX6_end 139 = .ok (.iinc 2 1, 3) := g_132 1 bX6_end rfl rfl
theorem dX6_end_142 : decode cX6_end 142 = .ok (.goto (-138), 3) := g_167 65398 bX6_end rfl rfl
theorem dX6_end_145 : decode cX6_end 145 = .ok (.aload_n 0, 1) := g_42 bX6_end rfl
theorem dX6_end_146 : decode cX6_end 146 = .ok (.dup, 1) := g_89 bX6_end rfl
theorem dX6_end_147 : decode cX6_end 147 = .ok (.getfield 285, 3) := g_180 bX6_end rfl
theorem dX6_end_150 : decode cX6_end 150 = .ok (.iconst 1, 1) := g_4 bX6_end rfl
theorem dX6_end_151 : decode cX6_end 151 = .ok (.iadd, 1) := g_96 bX6_end rfl
theorem dX6_end_152 : decode cX6_end 152 = .ok (.putfield 285, 3) := g_181 bX6_end rfl
theorem dX6_end_155 : decode cX6_end 155 = .ok (.iload_n 1, 1) := g_27 bX6_end rfl
theorem dX6_end_156 : decode cX6_end 156 = .ok (.ireturn, 1) := g_172 bX6_end rfl
theorem dX6_goes_0 : decode cX6_goes 0 = .ok (.iconst 0, 1) := g_3 bX6_goes rfl
theorem dX6_goes_1 : decode cX6_goes 1 = .ok (.istore 4, 2) := g_54 bX6_goes rfl
theorem dX6_goes_3 : decode cX6_goes 3 = .ok (.iconst 0, 1) := g_3 bX6_goes rfl
theorem dX6_goes_4 : decode cX6_goes 4 = .ok (.istore 5, 2) := g_54 bX6_goes rfl
theorem dX6_goes_6 : decode cX6_goes 6 = .ok (.iload 5, 2) := g_21 bX6_goes rfl
theorem dX6_goes_8 : decode cX6_goes 8 = .ok (.iload_n 3, 1) := g_29 bX6_goes rfl
theorem dX6_goes_9 : decode cX6_goes 9 = .ok (.if_icmp .ge 43, 3) := g_162 43 bX6_goes rfl rfl
theorem dX6_goes_12 : decode cX6_goes 12 = .ok (.iload_n 1, 1) := g_27 bX6_goes rfl
theorem dX6_goes_13 : decode cX6_goes 13 = .ok (.iconst (-1), 1) := g_2 bX6_goes rfl
theorem dX6_goes_14 : decode cX6_goes 14 = .ok (.if_icmp .eq 10, 3) := g_159 10 bX6_goes rfl rfl
theorem dX6_goes_17 : decode cX6_goes 17 = .ok (.aload_n 0, 1) := g_42 bX6_goes rfl
theorem dX6_goes_18 : decode cX6_goes 18 = .ok (.iload_n 1, 1) := g_27 bX6_goes rfl
theorem dX6_goes_19 : decode cX6_goes 19 = .ok (.iload_n 2, 1) := g_28 bX6_goes rfl
theorem dX6_goes_20 : decode cX6_goes 20 = .ok (.invokevirtual 114, 3) := g_182 bX6_goes rfl
theorem dX6_goes_23 : decode cX6_goes 23 = .ok (.pop, 1) := g_87 bX6_goes rfl
theorem dX6_goes_24 : decode cX6_goes 24 = .ok (.aload_n 0, 1) := g_42 bX6_goes rfl
theorem dX6_goes_25 : decode cX6_goes 25 = .ok (.aload_n 0, 1) := g_42 bX6_goes rfl
theorem dX6_goes_26 : decode cX6_goes 26 = .ok (.invokevirtual 122, 3) := g_182 bX6_goes rfl
theorem dX6_goes_29 : decode cX6_goes 29 = .ok (.putfield 292, 3) := g_181 bX6_goes rfl
theorem dX6_goes_32 : decode cX6_goes 32 = .ok (.iload 4, 2) := g_21 bX6_goes rfl
theorem dX6_goes_34 : decode cX6_goes 34 = .ok (.aload_n 0, 1) := g_42 bX6_goes rfl
theorem dX6_goes_35 : decode cX6_goes 35 = .ok (.getfield 292, 3) := g_180 bX6_goes rfl
theorem dX6_goes_38 : decode cX6_goes 38 = .ok (.iadd, 1) := g_96 bX6_goes rfl
theorem dX6_goes_39 : decode cX6_goes 39 = .ok (.istore 4, 2) := g_54 bX6_goes rfl
theorem dX6_goes_41 : decode cX6_goes 41 = .ok (.aload_n 0, 1) := g_42 bX6_goes rfl
theorem dX6_goes_42 : decode cX6_goes 42 = .ok (.invokevirtual 288, 3) := g_182 bX6_goes rfl
theorem dX6_goes_45 : decode cX6_goes 45 = .ok (.pop, 1) := g_87 bX6_goes rfl
theorem dX6_goes_46 : decode cX6_goes 46 = .ok (.iinc 5 1, 3) := g_132 1 bX6_goes rfl rfl
theorem dX6_goes_49 : decode cX6_goes 49 = .ok (.goto (-43), 3) := g_167 65493 bX6_goes rfl rfl
theorem dX6_goes_52 : decode cX6_goes 52 = .ok (.iload 4, 2) := g_21 bX6_goes rfl
theorem dX6_goes_54 : decode cX6_goes 54 = .ok (.ireturn, 1) := g_172 bX6_goes rfl
theorem dX6_readMost_0 : decode cX6_readMost 0 = .ok (.iconst 0, 1) := g_3 bX6_readMost rfl
theorem dX6_readMost_1 : decode cX6_readMost 1 = .ok (.istore_n 3, 1) := g_62 bX6_readMost rfl
theorem dX6_readMost_2 : decode cX6_readMost 2 = .ok (.iload_n 3, 1) := g_29 bX6_readMost rfl
theorem dX6_readMost_3 : decode cX6_readMost 3 = .ok (.iload_n 1, 1) := g_27 bX6_readMost rfl
theorem dX6_readMost_4 : decode cX6_readMost 4 = .ok (.if_icmp .ge 119, 3) := g_162 119 bX6_readMost rfl rfl
theorem dX6_readMost_7 : decode cX6_readMost 7 = .ok (.aload_n 0, 1) := g_42 bX6_readMost rfl
theorem dX6_readMost_8 : decode cX6_readMost 8 = .ok (.invokevirtual 275, 3) := g_182 bX6_readMost rfl
theorem dX6_readMost_11 : decode cX6_readMost 11 = .ok (.ifCond .le 112, 3) := g_158 112 bX6_readMost rfl rfl
theorem dX6_readMost_14 : decode cX6_readMost 14 = .ok (.iconst (-1), 1) := g_2 bX6_readMost rfl
theorem dX6_readMost_15 : decode cX6_readMost 15 = .ok (.istore 4, 2) := g_54 bX6_readMost rfl
theorem dX6_readMost_17 : decode cX6_readMost 17 = .ok (.iconst 0, 1) := g_3 bX6_readMost rfl
theorem dX6_readMost_18 : decode cX6_readMost 18 = .ok (.istore 5, 2) := g_54 bX6_readMost rfl
theorem dX6_readMost_20 : decode cX6_readMost 20 = .ok (.iload 5, 2) := g_21 bX6_readMost rfl
theorem dX6_readMost_22 : decode cX6_readMost 22 = .ok (.aload_n 0, 1) := g_42 bX6_readMost rfl
theorem dX6_readMost_23 : decode cX6_readMost 23 = .ok (.getfield 71, 3) := g_180 bX6_readMost rfl
theorem dX6_readMost_26 : decode cX6_readMost 26 = .ok (.if_icmp .ge 54, 3) := g_162 54 bX6_readMost rfl rfl
theorem dX6_readMost_29 : decode cX6_readMost 29 = .ok (.aload_n 0, 1) := g_42 bX6_readMost rfl
theorem dX6_readMost_30 : decode cX6_readMost 30 = .ok (.iload 5, 2) := g_21 bX6_readMost rfl
theorem dX6_readMost_32 : decode cX6_readMost 32 = .ok (.invokevirtual 248, 3) := g_182 bX6_readMost rfl
theorem dX6_readMost_35 : decode cX6_readMost 35 = .ok (.ifCond .ne 35, 3) := g_154 35 bX6_readMost rfl rfl
theorem dX6_readMost_38 : decode cX6_readMost 38 = .ok (.iload 4, 2) := g_21 bX6_readMost rfl
theorem dX6_readMost_40 : decode cX6_readMost 40 = .ok (.iconst (-1), 1) := g_2 bX6_readMost rfl
theorem dX6_readMost_41 : decode cX6_readMost 41 = .ok (.if_icmp .eq 24, 3) := g_159 24 bX6_readMost rfl rfl
theorem dX6_readMost_44 : decode cX6_readMost 44 = .ok (.aload_n 0, 1) := g_42 bX6_readMost rfl
theorem dX6_readMost_45 : decode cX6_readMost 45 = .ok (.getfield 42, 3) := g_180 bX6_readMost rfl
theorem dX6_readMost_48 : decode cX6_readMost 48 = .ok (.iload 5, 2) := g_21 bX6_readMost rfl
theorem dX6_readMost_50 : decode cX6_readMost 50 = .ok (.aaload, 1) := g_50 bX6_readMost rfl
theorem dX6_readMost_51 : decode cX6_readMost 51 = .ok (.iconst 0, 1) := g_3 bX6_readMost rfl
theorem dX6_readMost_52 : decode cX6_readMost 52 = .ok (.iaload, 1) := g_46 bX6_readMost rfl
theorem dX6_readMost_53 : decode cX6_readMost 53 = .ok (.aload_n 0, 1) := g_42 bX6_readMost rfl
theorem dX6_readMost_54 : decode cX6_readMost 54 = .ok (.getfield 42, 3) := g_180 bX6_readMost rfl
theorem dX6_readMost_57 : decode cX6_readMost 57 = .ok (.iload 4, 2) := g_21 bX6_readMost rfl
theorem dX6_readMost_59 : decode cX6_readMost 59 = .ok (.aaload, 1) := g_50 bX6_readMost rfl
theorem dX6_readMost_60 : decode cX6_readMost 60 = .ok (.iconst 0, 1) := g_3 bX6_readMost rfl
theorem dX6_readMost_61 : decode cX6_readMost 61 = .ok (.iaload, 1) := g_46 bX6_readMost rfl
theorem dX6_readMost_62 : decode cX6_readMost 62 = .ok (.if_icmp .le 8, 3) := g_164 8 bX6_readMost rfl rfl
theorem dX6_readMost_65 : decode cX6_readMost 65 = .ok (.iload 5, 2) := g_21 bX6_readMost rfl
theorem dX6_readMost_67 : decode cX6_readMost 67 = .ok (.goto 5, 3) := g_167 5 bX6_readMost rfl rfl
theorem dX6_readMost_70 : decode cX6_readMost 70 = .ok (.iload 4, 2) := g_21 bX6_readMost rfl
theorem dX6_readMost_72 : decode cX6_readMost 72 = .ok (.istore 4, 2) := g_54 bX6_readMost rfl
theorem dX6_readMost_74 : decode cX6_readMost 74 = .ok (.iinc 5 1, 3) := g_132 1 bX6_readMost rfl rfl
theorem dX6_readMost_77 : decode cX6_readMost 77 = .ok (.goto (-57), 3) := g_167 65479 bX6_readMost rfl rfl
theorem dX6_readMost_80 : decode cX6_readMost 80 = .ok (.iload 4, 2) := g_21 bX6_readMost rfl
theorem dX6_readMost_82 : decode cX6_readMost 82 = .ok (.iconst (-1), 1) := g_2 bX6_readMost rfl
theorem dX6_readMost_83 : decode cX6_readMost 83 = .ok (.if_icmp .ne 5, 3) := g_160 5 bX6_readMost rfl rfl
theorem dX6_readMost_86 : decode cX6_readMost 86 = .ok (.iload_n 3, 1) := g_29 bX6_readMost rfl
theorem dX6_readMost_87 : decode cX6_readMost 87 = .ok (.ireturn, 1) := g_172 bX6_readMost rfl
theorem dX6_readMost_88 : decode cX6_readMost 88 = .ok (.aload_n 0, 1) := g_42 bX6_readMost rfl
theorem dX6_readMost_89 : decode cX6_readMost 89 = .ok (.aload_n 0, 1) := g_42 bX6_readMost rfl
theorem dX6_readMost_90 : decode cX6_readMost 90 = .ok (.iload 4, 2) := g_21 bX6_readMost rfl
theorem dX6_readMost_92 : decode cX6_readMost 92 = .ok (.invokevirtual 272, 3) := g_182 bX6_readMost rfl
theorem dX6_readMost_95 : decode cX6_readMost 95 = .ok (.iload 4, 2) := g_21 bX6_readMost rfl
theorem dX6_readMost_97 : decode cX6_readMost 97 = .ok (.iload_n 2, 1) := g_28 bX6_readMost rfl
theorem dX6_readMost_98 : decode cX6_readMost 98 = .ok (.ifCond .eq 14, 3) := g_153 14 bX6_readMost rfl rfl
theorem dX6_readMost_101 : decode cX6_readMost 101 = .ok (.iconst 1, 1) := g_4 bX6_readMost rfl
theorem dX6_readMost_102 : decode cX6_readMost 102 = .ok (.aload_n 0, 1) := g_42 bX6_readMost rfl
theorem dX6_readMost_103 : decode cX6_readMost 103 = .ok (.getfield 78, 3) := g_180 bX6_readMost rfl
theorem dX6_readMost_106 : decode cX6_readMost 106 = .ok (.ishl, 1) := g_120 bX6_readMost rfl
theorem dX6_readMost_107 : decode cX6_readMost 107 = .ok (.iconst 1, 1) := g_4 bX6_readMost rfl
theorem dX6_readMost_108 : decode cX6_readMost 108 = .ok (.isub, 1) := g_100 bX6_readMost rfl
theorem dX6_readMost_109 : decode cX6_readMost 109 = .ok (.goto 4, 3) := g_167 4 bX6_readMost rfl rfl
theorem dX6_readMost_112 : decode cX6_readMost 112 = .ok (.iconst 0, 1) := g_3 bX6_readMost rfl
theorem dX6_readMost_113 : decode cX6_readMost 113 = .ok (.invokevirtual 260, 3) := g_182 bX6_readMost rfl
theorem dX6_readMost_116 : decode cX6_readMost 116 = .ok (.pop, 1) := g_87 bX6_readMost rfl
theorem dX6_readMost_117 : decode cX6_readMost 117 = .ok (.iinc 3 1, 3) := g_132 1 bX6_readMost rfl rfl
theorem dX6_readMost_120 : decode cX6_readMost 120 = .ok (.goto (-118), 3) := g_167 65418 bX6_readMost rfl rfl
theorem dX6_readMost_123 : decode cX6_readMost 123 = .ok (.iload_n 3, 1) := g_29 bX6_readMost rfl
theorem dX6_readMost_124 : decode cX6_readMost 124 = .ok (.ireturn, 1) := g_172 bX6_readMost rfl
theorem dX6_readsTo_0 : decode cX6_readsTo 0 = .ok (.aload_n 0, 1) := g_42 bX6_readsTo rfl
theorem dX6_readsTo_1 : decode cX6_readsTo 1 = .ok (.iload_n 1, 1) := g_27 bX6_readsTo rfl
theorem dX6_readsTo_2 : decode cX6_readsTo 2 = .ok (.iload_n 2, 1) := g_28 bX6_readsTo rfl
theorem dX6_readsTo_3 : decode cX6_readsTo 3 = .ok (.invokevirtual 257, 3) := g_182 bX6_readsTo rfl
theorem dX6_readsTo_6 : decode cX6_readsTo 6 = .ok (.iconst 0, 1) := g_3 bX6_readsTo rfl
theorem dX6_readsTo_7 : decode cX6_readsTo 7 = .ok (.istore 4, 2) := g_54 bX6_readsTo rfl
theorem dX6_readsTo_9 : decode cX6_readsTo 9 = .ok (.iconst 0, 1) := g_3 bX6_readsTo rfl
theorem dX6_readsTo_10 : decode cX6_readsTo 10 = .ok (.istore 5, 2) := g_54 bX6_readsTo rfl
theorem dX6_readsTo_12 : decode cX6_readsTo 12 = .ok (.iload 5, 2) := g_21 bX6_readsTo rfl
theorem dX6_readsTo_14 : decode cX6_readsTo 14 = .ok (.aload_n 0, 1) := g_42 bX6_readsTo rfl
theorem dX6_readsTo_15 : decode cX6_readsTo 15 = .ok (.getfield 78, 3) := g_180 bX6_readsTo rfl
theorem dX6_readsTo_18 : decode cX6_readsTo 18 = .ok (.if_icmp .ge 113, 3) := g_162 113 bX6_readsTo rfl rfl
theorem dX6_readsTo_21 : decode cX6_readsTo 21 = .ok (.iload 5, 2) := g_21 bX6_readsTo rfl
theorem dX6_readsTo_23 : decode cX6_readsTo 23 = .ok (.iload_n 1, 1) := g_27 bX6_readsTo rfl
theorem dX6_readsTo_24 : decode cX6_readsTo 24 = .ok (.if_icmp .eq 101, 3) := g_159 101 bX6_readsTo rfl rfl
theorem dX6_readsTo_27 : decode cX6_readsTo 27 = .ok (.aload_n 0, 1) := g_42 bX6_readsTo rfl
theorem dX6_readsTo_28 : decode cX6_readsTo 28 = .ok (.iload 5, 2) := g_21 bX6_readsTo rfl
theorem dX6_readsTo_30 : decode cX6_readsTo 30 = .ok (.invokevirtual 81, 3) := g_182 bX6_readsTo rfl
theorem dX6_readsTo_33 : decode cX6_readsTo 33 = .ok (.ifCond .eq 92, 3) := g_153 92 bX6_readsTo rfl rfl
theorem dX6_readsTo_36 : decode cX6_readsTo 36 = .ok (.iload_n 3, 1) := g_29 bX6_readsTo rfl
theorem dX6_readsTo_37 : decode cX6_readsTo 37 = .ok (.iload 5, 2) := g_21 bX6_readsTo rfl
theorem dX6_readsTo_39 : decode cX6_readsTo 39 = .ok (.ishr, 1) := g_122 bX6_readsTo rfl
theorem dX6_readsTo_40 : decode cX6_readsTo 40 = .ok (.iconst 1, 1) := g_4 bX6_readsTo rfl
theorem dX6_readsTo_41 : decode cX6_readsTo 41 = .ok (.iand, 1) := g_126 bX6_readsTo rfl
theorem dX6_readsTo_42 : decode cX6_readsTo 42 = .ok (.ifCond .eq 83, 3) := g_153 83 bX6_readsTo rfl rfl
theorem dX6_readsTo_45 : decode cX6_readsTo 45 = .ok (.aload_n 0, 1) := g_42 bX6_readsTo rfl
theorem dX6_readsTo_46 : decode cX6_readsTo 46 = .ok (.aload_n 0, 1) := g_42 bX6_readsTo rfl
theorem dX6_readsTo_47 : decode cX6_readsTo 47 = .ok (.getfield 48, 3) := g_180 bX6_readsTo rfl
theorem dX6_readsTo_50 : decode cX6_readsTo 50 = .ok (.iload_n 1, 1) := g_27 bX6_readsTo rfl
theorem dX6_readsTo_51 : decode cX6_readsTo 51 = .ok (.aaload, 1) := g_50 bX6_readsTo rfl
theorem dX6_readsTo_52 : decode cX6_readsTo 52 = .ok (.iload_n 2, 1) := g_28 bX6_readsTo rfl
theorem dX6_readsTo_53 : decode cX6_readsTo 53 = .ok (.iaload, 1) := g_46 bX6_readsTo rfl
theorem dX6_readsTo_54 : decode cX6_readsTo 54 = .ok (.iconst 2, 1) := g_5 bX6_readsTo rfl
theorem dX6_readsTo_55 : decode cX6_readsTo 55 = .ok (.idiv, 1) := g_108 bX6_readsTo rfl
theorem dX6_readsTo_56 : decode cX6_readsTo 56 = .ok (.iload 5, 2) := g_21 bX6_readsTo rfl
theorem dX6_readsTo_58 : decode cX6_readsTo 58 = .ok (.iload_n 2, 1) := g_28 bX6_readsTo rfl
theorem dX6_readsTo_59 : decode cX6_readsTo 59 = .ok (.invokevirtual 244, 3) := g_182 bX6_readsTo rfl
theorem dX6_readsTo_62 : decode cX6_readsTo 62 = .ok (.istore 6, 2) := g_54 bX6_readsTo rfl
theorem dX6_readsTo_64 : decode cX6_readsTo 64 = .ok (.iload 4, 2) := g_21 bX6_readsTo rfl
theorem dX6_readsTo_66 : decode cX6_readsTo 66 = .ok (.iload 6, 2) := g_21 bX6_readsTo rfl
theorem dX6_readsTo_68 : decode cX6_readsTo 68 = .ok (.aload_n 0, 1) := g_42 bX6_readsTo rfl
theorem dX6_readsTo_69 : decode cX6_readsTo 69 = .ok (.getfield 48, 3) := g_180 bX6_readsTo rfl
theorem dX6_readsTo_72 : decode cX6_readsTo 72 = .ok (.iload 5, 2) := g_21 bX6_readsTo rfl
theorem dX6_readsTo_74 : decode cX6_readsTo 74 = .ok (.aaload, 1) := g_50 bX6_readsTo rfl
theorem dX6_readsTo_75 : decode cX6_readsTo 75 = .ok (.iload_n 2, 1) := g_28 bX6_readsTo rfl
theorem dX6_readsTo_76 : decode cX6_readsTo 76 = .ok (.iaload, 1) := g_46 bX6_readsTo rfl
theorem dX6_readsTo_77 : decode cX6_readsTo 77 = .ok (.if_icmp .le 7, 3) := g_164 7 bX6_readsTo rfl rfl
theorem dX6_readsTo_80 : decode cX6_readsTo 80 = .ok (.iconst 1, 1) := g_4 bX6_readsTo rfl
theorem dX6_readsTo_81 : decode cX6_readsTo 81 = .ok (.goto 4, 3) := g_167 4 bX6_readsTo rfl rfl
theorem dX6_readsTo_84 : decode cX6_readsTo 84 = .ok (.iconst 0, 1) := g_3 bX6_readsTo rfl
theorem dX6_readsTo_85 : decode cX6_readsTo 85 = .ok (.iadd, 1) := g_96 bX6_readsTo rfl
theorem dX6_readsTo_86 : decode cX6_readsTo 86 = .ok (.istore 4, 2) := g_54 bX6_readsTo rfl
theorem dX6_readsTo_88 : decode cX6_readsTo 88 = .ok (.aload_n 0, 1) := g_42 bX6_readsTo rfl
theorem dX6_readsTo_89 : decode cX6_readsTo 89 = .ok (.getfield 48, 3) := g_180 bX6_readsTo rfl
theorem dX6_readsTo_92 : decode cX6_readsTo 92 = .ok (.iload 5, 2) := g_21 bX6_readsTo rfl
theorem dX6_readsTo_94 : decode cX6_readsTo 94 = .ok (.aaload, 1) := g_50 bX6_readsTo rfl
theorem dX6_readsTo_95 : decode cX6_readsTo 95 = .ok (.iload_n 2, 1) := g_28 bX6_readsTo rfl
theorem dX6_readsTo_96 : decode cX6_readsTo 96 = .ok (.iload 6, 2) := g_21 bX6_readsTo rfl
theorem dX6_readsTo_98 : decode cX6_readsTo 98 = .ok (.aload_n 0, 1) := g_42 bX6_readsTo rfl
theorem dX6_readsTo_99 : decode cX6_readsTo 99 = .ok (.getfield 48, 3) := g_180 bX6_readsTo rfl
theorem dX6_readsTo_102 : decode cX6_readsTo 102 = .ok (.iload 5, 2) := g_21 bX6_readsTo rfl
theorem dX6_readsTo_104 : decode cX6_readsTo 104 = .ok (.aaload, 1) := g_50 bX6_readsTo rfl
theorem dX6_readsTo_105 : decode cX6_readsTo 105 = .ok (.iload_n 2, 1) := g_28 bX6_readsTo rfl
theorem dX6_readsTo_106 : decode cX6_readsTo 106 = .ok (.iaload, 1) := g_46 bX6_readsTo rfl
theorem dX6_readsTo_107 : decode cX6_readsTo 107 = .ok (.if_icmp .le 8, 3) := g_164 8 bX6_readsTo rfl rfl
theorem dX6_readsTo_110 : decode cX6_readsTo 110 = .ok (.iload 6, 2) := g_21 bX6_readsTo rfl
theorem dX6_readsTo_112 : decode cX6_readsTo 112 = .ok (.goto 12, 3) := g_167 12 bX6_readsTo rfl rfl
theorem dX6_readsTo_115 : decode cX6_readsTo 115 = .ok (.aload_n 0, 1) := g_42 bX6_readsTo rfl
theorem dX6_readsTo_116 : decode cX6_readsTo 116 = .ok (.getfield 48, 3) := g_180 bX6_readsTo rfl
theorem dX6_readsTo_119 : decode cX6_readsTo 119 = .ok (.iload 5, 2) := g_21 bX6_readsTo rfl
theorem dX6_readsTo_121 : decode cX6_readsTo 121 = .ok (.aaload, 1) := g_50 bX6_readsTo rfl
theorem dX6_readsTo_122 : decode cX6_readsTo 122 = .ok (.iload_n 2, 1) := g_28 bX6_readsTo rfl
theorem dX6_readsTo_123 : decode cX6_readsTo 123 = .ok (.iaload, 1) := g_46 bX6_readsTo rfl
theorem dX6_readsTo_124 : decode cX6_readsTo 124 = .ok (.iastore, 1) := g_79 bX6_readsTo rfl
theorem dX6_readsTo_125 : decode cX6_readsTo 125 = .ok (.iinc 5 1, 3) := g_132 1 bX6_readsTo rfl rfl
theorem dX6_readsTo_128 : decode cX6_readsTo 128 = .ok (.goto (-116), 3) := g_167 65420 bX6_readsTo rfl rfl
theorem dX6_readsTo_131 : decode cX6_readsTo 131 = .ok (.iload 4, 2) := g_21 bX6_readsTo rfl
theorem dX6_readsTo_133 : decode cX6_readsTo 133 = .ok (.ireturn, 1) := g_172 bX6_readsTo rfl
theorem sw_1_5 (x : Int32) : x = 1 ∨ x = 2 ∨ x = 3 ∨ x = 4 ∨ x = 5 ∨ (x.toInt < 1 ∨ 5 < x.toInt) := by
  rcases sw_1_6 x with e | e | e | e | e | e | e
  · exact Or.inl e
  · exact Or.inr (Or.inl e)
  · exact Or.inr (Or.inr (Or.inl e))
  · exact Or.inr (Or.inr (Or.inr (Or.inl e)))
  · exact Or.inr (Or.inr (Or.inr (Or.inr (Or.inl e))))
  · exact Or.inr (Or.inr (Or.inr (Or.inr (Or.inr (Or.inr (by rw [e]; decide))))))
  · exact Or.inr (Or.inr (Or.inr (Or.inr (Or.inr (by omega)))))
theorem tm_ex {t : TA} : ∀ n, 0 < tmF t n → ∃ p, p < n ∧ T_gn t p = false := by
  intro n
  induction n with
  | zero => intro h; exact absurd h (Nat.lt_irrefl _)
  | succ n ih =>
    intro h
    cases g : T_gn t n with
    | false => exact ⟨n, by omega, g⟩
    | true =>
      rw [tm_n g] at h
      obtain ⟨p, h1, h2⟩ := ih (by omega)
      exact ⟨p, by omega, h2⟩
theorem tm_le (t : TA) : ∀ n, tmF t n ≤ n := by
  intro n
  induction n with
  | zero => exact Nat.le_refl _
  | succ n ih =>
    unfold tmF
    split <;> omega
theorem br_any {t : TA} {b : Nat} (hT : TI t) : ∀ n, n ≤ 8 → ∀ p, p < n → T_gn t p = false → ¬ (brF t b n).1 = -1 := by
  intro n
  induction n with
  | zero => intro _ p h; exact absurd h (Nat.not_lt_zero _)
  | succ n ih =>
    intro h8 p hp hg
    by_cases c : (T_gn t n = false ∧ ¬ zwk t n b = -1 ∧ ((brF t b n).1 = -1 ∨ (brF t b n).2 < zwk t n b ∨ (zwk t n b = (brF t b n).2 ∧ T_ag t n < T_ag t (brF t b n).1.toNatClampNeg)))
    · rw [br_upd c]
      exact nI_ne1 (by omega)
    · rw [br_skip c]
      by_cases e : p = n
      · subst e
        exact fun q => c ⟨hg, wk_m1 hT _ _, Or.inl q⟩
      · exact ih (by omega) p (by omega) hg
theorem br_some {t : TA} {b : Nat} (hT : TI t) (h : ¬ nI (tmF t (T_np t)) ≤ 0) : ∃ k : Nat, k < T_np t ∧ zbr t b = nI k := by
  have h8 := hT.1.2
  have hl := tm_le t (T_np t)
  have h0 : 0 < tmF t (T_np t) := by
    rcases Nat.eq_zero_or_pos (tmF t (T_np t)) with z | z
    · exact absurd (by rw [z]; decide) h
    · exact z
  obtain ⟨p, h1, h2⟩ := tm_ex _ h0
  exact (br_in t b (T_np t)).resolve_left (br_any hT _ h8 p h1 h2)
set_option maxHeartbeats 4000000 in
set_option maxRecDepth 100000 in
theorem c_X6_readsTo (l : Launch) (G : va_G) (cy : Nat → ClassId) (sz : Nat) (qm : Nat) (v0 : Value) (v1 : Value) (v2 : Value) (v3 : Value) (v4 : Value) (v5 : Value) (v6 : Value) (v7 : Value) (v8 : Value) (v9 : Value) (tA : TA) (qmB : Nat) (qmO : Nat) (qmK : Nat) (iEn : Int32) (iTk : Int32) (v18 : Value) (v19 : Value) (v20 : Value) (v21 : Value) (v22 : Value) (v23 : Value) (v24 : Value) (v25 : Value) (v26 : Value) (iLv : Int32) (iWs : Int32) (v29 : Value) (v30 : Value) (v31 : Value) (v32 : Value) (v33 : Value) (v34 : Value) (rB : Nat → Nat) (rO : Nat → Nat) (rK : Nat → Nat) (kI : Nat) (kB : Nat) (iS : Int32)  (hPp : T_np tA ≤ 8) (hI : kI < 8) (hJ : kB < 8) (hTI : TI tA) : MW l yX6_readsTo cX6_readsTo 7 (some .int) 5 0 0 G cy [zzO qm 5 [v0, v1, v2, v3, v4, v5, v6, v7, v8, v9, .int (nI (T_nb tA)), .ref qmB, .int (nI (T_np tA)), .ref qmO, .ref qmK, .int iEn, .int iTk, .int (T_sd tA), v18, v19, v20, v21, v22, v23, v24, v25, v26, .int iLv, .int iWs, v29, v30, v31, v32, v33, v34], zzG cy 3 qmB rB, zzI cy (rB 0) 4 (bkR tA 0), zzI cy (rB 1) 4 (bkR tA 1), zzI cy (rB 2) 4 (bkR tA 2), zzI cy (rB 3) 4 (bkR tA 3), zzI cy (rB 4) 4 (bkR tA 4), zzI cy (rB 5) 4 (bkR tA 5), zzI cy (rB 6) 4 (bkR tA 6), zzI cy (rB 7) 4 (bkR tA 7), zzG cy 3 qmO rO, zzI cy (rO 0) 5 (onR tA 0), zzI cy (rO 1) 5 (onR tA 1), zzI cy (rO 2) 5 (onR tA 2), zzI cy (rO 3) 5 (onR tA 3), zzI cy (rO 4) 5 (onR tA 4), zzI cy (rO 5) 5 (onR tA 5), zzI cy (rO 6) 5 (onR tA 6), zzI cy (rO 7) 5 (onR tA 7), zzG cy 3 qmK rK, zzI cy (rK 0) 8 (T_kn tA 0), zzI cy (rK 1) 8 (T_kn tA 1), zzI cy (rK 2) 8 (T_kn tA 2), zzI cy (rK 3) 8 (T_kn tA 3), zzI cy (rK 4) 8 (T_kn tA 4), zzI cy (rK 5) 8 (T_kn tA 5), zzI cy (rK 6) 8 (T_kn tA 6), zzI cy (rK 7) 8 (T_kn tA 7)] sz [.ref qm, .int (nI kI), .int (nI kB), .int iS] (Wi G (fun r u => ∃ (tX : TA), u = [zzO qm 5 [v0, v1, v2, v3, v4, v5, v6, v7, v8, v9, .int (nI (T_nb tX)), .ref qmB, .int (nI (T_np tX)), .ref qmO, .ref qmK, .int iEn, .int iTk, .int (T_sd tX), v18, v19, v20, v21, v22, v23, v24, v25, v26, .int iLv, .int iWs, v29, v30, v31, v32, v33, v34], zzG cy 3 qmB rB, zzI cy (rB 0) 4 (bkR tX 0), zzI cy (rB 1) 4 (bkR tX 1), zzI cy (rB 2) 4 (bkR tX 2), zzI cy (rB 3) 4 (bkR tX 3), zzI cy (rB 4) 4 (bkR tX 4), zzI cy (rB 5) 4 (bkR tX 5), zzI cy (rB 6) 4 (bkR tX 6), zzI cy (rB 7) 4 (bkR tX 7), zzG cy 3 qmO rO, zzI cy (rO 0) 5 (onR tX 0), zzI cy (rO 1) 5 (onR tX 1), zzI cy (rO 2) 5 (onR tX 2), zzI cy (rO 3) 5 (onR tX 3), zzI cy (rO 4) 5 (onR tX 4), zzI cy (rO 5) 5 (onR tX 5), zzI cy (rO 6) 5 (onR tX 6), zzI cy (rO 7) 5 (onR tX 7), zzG cy 3 qmK rK, zzI cy (rK 0) 8 (T_kn tX 0), zzI cy (rK 1) 8 (T_kn tX 1), zzI cy (rK 2) 8 (T_kn tX 2), zzI cy (rK 3) 8 (T_kn tX 3), zzI cy (rK 4) 8 (T_kn tX 4), zzI cy (rK 5) 8 (T_kn tX 5), zzI cy (rK 6) 8 (T_kn tX 6), zzI cy (rK 7) 8 (T_kn tX 7)] ∧ (TI tX ∧ T_nb tX = T_nb tA ∧ T_np tX = T_np tA) ∧ (True))) := by
  refine enW RX6 (by decide) rfl (Nat.le_of_ble_eq_true rfl) (fun p e s m below meth c ls A hx hb hml hown hts hr hlocks hP hN hl hin hD hA hS => ?_)
  have hin : meth.name = _ := hin
  have hK := hN.1
  replace hl : lv_has ls 7 [(0, .ref qm), (1, .int (nI kI)), (2, .int (nI kB)), (3, .int iS)] := hl
  refine lv_aload_n hx hb dX6_readsTo_0 rfl (lv_at hl 0 rfl) ?_
  refine lv_iload_n hx hb dX6_readsTo_1 rfl (lv_at hl 1 rfl) ?_
  refine lv_iload_n hx hb dX6_readsTo_2 rfl (lv_at hl 2 rfl) ?_
  refine cVv (As := [.int (nI kI), .int (nI kB)]) (rest := []) (b := qm) (q := (RX6, TX6, 35)) ⟨hx, hb, hml, hown, hts⟩ (c_X6_reads l G cy (s.heap).size qm v0 v1 v2 v3 v4 v5 v6 v7 v8 v9 tA qmB qmO qmK iEn iTk v18 v19 v20 v21 v22 v23 v24 v25 v26 iLv iWs v29 v30 v31 v32 v33 v34 rB rO rK kI kB hI hJ) L_X6_257 hN hP hD hS hA [0, 1, 2, 3, 4, 5, 6, 7, 8, 9, 10, 11, 12, 13, 14, 15, 16, 17, 18, 19, 20, 21, 22, 23, 24, 25, 26, 27] [false, false, false, false, false, false, false, false, false, false, false, false, false, false, false, false, false, false, false, false, false, false, false, false, false, false, false, false] rfl (by decide +kernel) rfl 0 5 rfl rfl rfl ⟨Nat.le_of_ble_eq_true rfl, Nat.le_of_ble_eq_true rfl⟩ hl.1 (Nat.le_of_ble_eq_true rfl) dX6_readsTo_3 ⟨Nat.le_of_ble_eq_true rfl, Nat.le_of_ble_eq_true rfl⟩ (fun u_3 H locs h_2 => ?_)
  clear hP hD hS
  intro hP hD hS
  subst h_2
  have hPD := pd_as [zzO qm 5 [v0, v1, v2, v3, v4, v5, v6, v7, v8, v9, .int (nI (T_nb (rdT tA kI kB))), .ref qmB, .int (nI (T_np (rdT tA kI kB))), .ref qmO, .ref qmK, .int iEn, .int iTk, .int (T_sd (rdT tA kI kB)), v18, v19, v20, v21, v22, v23, v24, v25, v26, .int iLv, .int iWs, v29, v30, v31, v32, v33, v34], zzG cy 3 qmB rB, zzI cy (rB 0) 4 (bkR (rdT tA kI kB) 0), zzI cy (rB 1) 4 (bkR (rdT tA kI kB) 1), zzI cy (rB 2) 4 (bkR (rdT tA kI kB) 2), zzI cy (rB 3) 4 (bkR (rdT tA kI kB) 3), zzI cy (rB 4) 4 (bkR (rdT tA kI kB) 4), zzI cy (rB 5) 4 (bkR (rdT tA kI kB) 5), zzI cy (rB 6) 4 (bkR (rdT tA kI kB) 6), zzI cy (rB 7) 4 (bkR (rdT tA kI kB) 7), zzG cy 3 qmO rO, zzI cy (rO 0) 5 (onR (rdT tA kI kB) 0), zzI cy (rO 1) 5 (onR (rdT tA kI kB) 1), zzI cy (rO 2) 5 (onR (rdT tA kI kB) 2), zzI cy (rO 3) 5 (onR (rdT tA kI kB) 3), zzI cy (rO 4) 5 (onR (rdT tA kI kB) 4), zzI cy (rO 5) 5 (onR (rdT tA kI kB) 5), zzI cy (rO 6) 5 (onR (rdT tA kI kB) 6), zzI cy (rO 7) 5 (onR (rdT tA kI kB) 7), zzG cy 3 qmK rK, zzI cy (rK 0) 8 (T_kn (rdT tA kI kB) 0), zzI cy (rK 1) 8 (T_kn (rdT tA kI kB) 1), zzI cy (rK 2) 8 (T_kn (rdT tA kI kB) 2), zzI cy (rK 3) 8 (T_kn (rdT tA kI kB) 3), zzI cy (rK 4) 8 (T_kn (rdT tA kI kB) 4), zzI cy (rK 5) 8 (T_kn (rdT tA kI kB) 5), zzI cy (rK 6) 8 (T_kn (rdT tA kI kB) 6), zzI cy (rK 7) 8 (T_kn (rdT tA kI kB) 7)] hP hD rfl
  clear hP hD
  obtain ⟨hP, hD⟩ := hPD
  refine lv_iconst (v := 0) hx hb dX6_readsTo_6 (by decide) ?_
  refine lv_istore (lv' := [(4, .int 0), (0, .ref qm), (1, .int (nI kI)), (2, .int (nI kB)), (3, .int iS)]) hx hb dX6_readsTo_7 hl (by decide) rfl (fun ls => ?_)
  clear hl
  intro hl
  refine lv_iconst (v := 0) hx hb dX6_readsTo_9 (by decide) ?_
  refine lv_istore (lv' := [(5, .int 0), (4, .int 0), (0, .ref qm), (1, .int (nI kI)), (2, .int (nI kB)), (3, .int iS)]) hx hb dX6_readsTo_10 hl (by decide) rfl (fun ls => ?_)
  clear hl
  intro hl
  have lp_4 : ∀ (n_5 : Nat) (j_7 : Nat) (tJ_8 : TA) (xC_9 : Int32), 8 - j_7 < n_5 → j_7 ≤ T_np tA → TI tJ_8 ∧ T_nb tJ_8 = T_nb tA ∧ T_np tJ_8 = T_np tA → ∀ (H : Heap) (locs : List Loc) (ls : Array Slot), va_P G CL [zzO qm 5 [v0, v1, v2, v3, v4, v5, v6, v7, v8, v9, .int (nI (T_nb tJ_8)), .ref qmB, .int (nI (T_np tJ_8)), .ref qmO, .ref qmK, .int iEn, .int iTk, .int (T_sd tJ_8), v18, v19, v20, v21, v22, v23, v24, v25, v26, .int iLv, .int iWs, v29, v30, v31, v32, v33, v34], zzG cy 3 qmB rB, zzI cy (rB 0) 4 (bkR tJ_8 0), zzI cy (rB 1) 4 (bkR tJ_8 1), zzI cy (rB 2) 4 (bkR tJ_8 2), zzI cy (rB 3) 4 (bkR tJ_8 3), zzI cy (rB 4) 4 (bkR tJ_8 4), zzI cy (rB 5) 4 (bkR tJ_8 5), zzI cy (rB 6) 4 (bkR tJ_8 6), zzI cy (rB 7) 4 (bkR tJ_8 7), zzG cy 3 qmO rO, zzI cy (rO 0) 5 (onR tJ_8 0), zzI cy (rO 1) 5 (onR tJ_8 1), zzI cy (rO 2) 5 (onR tJ_8 2), zzI cy (rO 3) 5 (onR tJ_8 3), zzI cy (rO 4) 5 (onR tJ_8 4), zzI cy (rO 5) 5 (onR tJ_8 5), zzI cy (rO 6) 5 (onR tJ_8 6), zzI cy (rO 7) 5 (onR tJ_8 7), zzG cy 3 qmK rK, zzI cy (rK 0) 8 (T_kn tJ_8 0), zzI cy (rK 1) 8 (T_kn tJ_8 1), zzI cy (rK 2) 8 (T_kn tJ_8 2), zzI cy (rK 3) 8 (T_kn tJ_8 3), zzI cy (rK 4) 8 (T_kn tJ_8 4), zzI cy (rK 5) 8 (T_kn tJ_8 5), zzI cy (rK 6) 8 (T_kn tJ_8 6), zzI cy (rK 7) 8 (T_kn tJ_8 7)] H → va_D A [zzO qm 5 [v0, v1, v2, v3, v4, v5, v6, v7, v8, v9, .int (nI (T_nb tJ_8)), .ref qmB, .int (nI (T_np tJ_8)), .ref qmO, .ref qmK, .int iEn, .int iTk, .int (T_sd tJ_8), v18, v19, v20, v21, v22, v23, v24, v25, v26, .int iLv, .int iWs, v29, v30, v31, v32, v33, v34], zzG cy 3 qmB rB, zzI cy (rB 0) 4 (bkR tJ_8 0), zzI cy (rB 1) 4 (bkR tJ_8 1), zzI cy (rB 2) 4 (bkR tJ_8 2), zzI cy (rB 3) 4 (bkR tJ_8 3), zzI cy (rB 4) 4 (bkR tJ_8 4), zzI cy (rB 5) 4 (bkR tJ_8 5), zzI cy (rB 6) 4 (bkR tJ_8 6), zzI cy (rB 7) 4 (bkR tJ_8 7), zzG cy 3 qmO rO, zzI cy (rO 0) 5 (onR tJ_8 0), zzI cy (rO 1) 5 (onR tJ_8 1), zzI cy (rO 2) 5 (onR tJ_8 2), zzI cy (rO 3) 5 (onR tJ_8 3), zzI cy (rO 4) 5 (onR tJ_8 4), zzI cy (rO 5) 5 (onR tJ_8 5), zzI cy (rO 6) 5 (onR tJ_8 6), zzI cy (rO 7) 5 (onR tJ_8 7), zzG cy 3 qmK rK, zzI cy (rK 0) 8 (T_kn tJ_8 0), zzI cy (rK 1) 8 (T_kn tJ_8 1), zzI cy (rK 2) 8 (T_kn tJ_8 2), zzI cy (rK 3) 8 (T_kn tJ_8 3), zzI cy (rK 4) 8 (T_kn tJ_8 4), zzI cy (rK 5) 8 (T_kn tJ_8 5), zzI cy (rK 6) 8 (T_kn tJ_8 6), zzI cy (rK 7) 8 (T_kn tJ_8 7)] → va_S A s.heap H locs → lv_has ls 7 [(5, .int (nI j_7)), (4, .int xC_9), (0, .ref qm), (1, .int (nI kI)), (2, .int (nI kB)), (3, .int iS)] → W p l e (Rm 5 0 0) s m (List.toArray (α := Value) [.ref qm, .int (nI kI), .int (nI kB), .int iS]) below meth c H locs 0 0 (MQ below ((Wi G (fun r u => ∃ (tX : TA), u = [zzO qm 5 [v0, v1, v2, v3, v4, v5, v6, v7, v8, v9, .int (nI (T_nb tX)), .ref qmB, .int (nI (T_np tX)), .ref qmO, .ref qmK, .int iEn, .int iTk, .int (T_sd tX), v18, v19, v20, v21, v22, v23, v24, v25, v26, .int iLv, .int iWs, v29, v30, v31, v32, v33, v34], zzG cy 3 qmB rB, zzI cy (rB 0) 4 (bkR tX 0), zzI cy (rB 1) 4 (bkR tX 1), zzI cy (rB 2) 4 (bkR tX 2), zzI cy (rB 3) 4 (bkR tX 3), zzI cy (rB 4) 4 (bkR tX 4), zzI cy (rB 5) 4 (bkR tX 5), zzI cy (rB 6) 4 (bkR tX 6), zzI cy (rB 7) 4 (bkR tX 7), zzG cy 3 qmO rO, zzI cy (rO 0) 5 (onR tX 0), zzI cy (rO 1) 5 (onR tX 1), zzI cy (rO 2) 5 (onR tX 2), zzI cy (rO 3) 5 (onR tX 3), zzI cy (rO 4) 5 (onR tX 4), zzI cy (rO 5) 5 (onR tX 5), zzI cy (rO 6) 5 (onR tX 6), zzI cy (rO 7) 5 (onR tX 7), zzG cy 3 qmK rK, zzI cy (rK 0) 8 (T_kn tX 0), zzI cy (rK 1) 8 (T_kn tX 1), zzI cy (rK 2) 8 (T_kn tX 2), zzI cy (rK 3) 8 (T_kn tX 3), zzI cy (rK 4) 8 (T_kn tX 4), zzI cy (rK 5) 8 (T_kn tX 5), zzI cy (rK 6) 8 (T_kn tX 6), zzI cy (rK 7) 8 (T_kn tX 7)] ∧ (TI tX ∧ T_nb tX = T_nb tA ∧ T_np tX = T_np tA) ∧ (True))) A) (List.toArray (α := Value) [.ref qm, .int (nI kI), .int (nI kB), .int iS]) s 0 0 A) (F0 m 12 ls []) := by
    intro n_5
    induction n_5 with
    | zero => intro j_7 tJ_8 xC_9 hm9; exact absurd hm9 (Nat.not_lt_zero _)
    | succ n_5 ih_6 =>
      intro j_7 tJ_8 xC_9 hm_12 hj_10 hT_11 H locs ls hP hD hS hl
      refine lv_iload hx hb dX6_readsTo_12 (lv_at hl 0 rfl) ?_
      refine lv_aload_n hx hb dX6_readsTo_14 rfl (lv_at hl 2 rfl) ?_
      refine va_get (D := G) (ci := 5) (v := .int (nI (T_np tJ_8))) (C := RX6) (T := TX6) (N := 35) hx hb hts iX_X6 hown hK hP 0 rfl rfl 12 (by decide) (hts _ m_t862) (fun _ h9 => h9) rfl dX6_readsTo_15 ?_
      refine lv_icmp_ge (tgt := 131) hx hb dX6_readsTo_18 (by decide) (fun c_13 => ?_) (fun c_13 => ?_)
      · have hlt_14e : T_np tJ_8 = T_np tA := hT_11.2.2
        have hlt_14 : j_7 = T_np tA := Nat.le_antisymm (by omega) (by rw [hlt_14e] at c_13; exact lp_ge rfl rfl (by omega) (by omega) c_13)
        obtain ⟨hlt_14i, hlt_14b, hlt_14p⟩ := id hT_11
        refine lv_iload hx hb dX6_readsTo_131 (lv_at hl 1 rfl) ?_
        exact endW (u := [zzO qm 5 [v0, v1, v2, v3, v4, v5, v6, v7, v8, v9, .int (nI (T_nb tJ_8)), .ref qmB, .int (nI (T_np tJ_8)), .ref qmO, .ref qmK, .int iEn, .int iTk, .int (T_sd tJ_8), v18, v19, v20, v21, v22, v23, v24, v25, v26, .int iLv, .int iWs, v29, v30, v31, v32, v33, v34], zzG cy 3 qmB rB, zzI cy (rB 0) 4 (bkR tJ_8 0), zzI cy (rB 1) 4 (bkR tJ_8 1), zzI cy (rB 2) 4 (bkR tJ_8 2), zzI cy (rB 3) 4 (bkR tJ_8 3), zzI cy (rB 4) 4 (bkR tJ_8 4), zzI cy (rB 5) 4 (bkR tJ_8 5), zzI cy (rB 6) 4 (bkR tJ_8 6), zzI cy (rB 7) 4 (bkR tJ_8 7), zzG cy 3 qmO rO, zzI cy (rO 0) 5 (onR tJ_8 0), zzI cy (rO 1) 5 (onR tJ_8 1), zzI cy (rO 2) 5 (onR tJ_8 2), zzI cy (rO 3) 5 (onR tJ_8 3), zzI cy (rO 4) 5 (onR tJ_8 4), zzI cy (rO 5) 5 (onR tJ_8 5), zzI cy (rO 6) 5 (onR tJ_8 6), zzI cy (rO 7) 5 (onR tJ_8 7), zzG cy 3 qmK rK, zzI cy (rK 0) 8 (T_kn tJ_8 0), zzI cy (rK 1) 8 (T_kn tJ_8 1), zzI cy (rK 2) 8 (T_kn tJ_8 2), zzI cy (rK 3) 8 (T_kn tJ_8 3), zzI cy (rK 4) 8 (T_kn tJ_8 4), zzI cy (rK 5) 8 (T_kn tJ_8 5), zzI cy (rK 6) 8 (T_kn tJ_8 6), zzI cy (rK 7) 8 (T_kn tJ_8 7)]) hx hb hr hlocks rfl (hP.sub [0, 1, 2, 3, 4, 5, 6, 7, 8, 9, 10, 11, 12, 13, 14, 15, 16, 17, 18, 19, 20, 21, 22, 23, 24, 25, 26, 27] rfl) (hD.sub [0, 1, 2, 3, 4, 5, 6, 7, 8, 9, 10, 11, 12, 13, 14, 15, 16, 17, 18, 19, 20, 21, 22, 23, 24, 25, 26, 27] (by decide +kernel) rfl) hS ⟨tJ_8, rfl, hT_11, trivial⟩ dX6_readsTo_133
      · have hlt_15e : T_np tJ_8 = T_np tA := hT_11.2.2
        have hlt_15 : j_7 < T_np tA := by rw [hlt_15e] at c_13; exact lp_lt rfl rfl (by omega) (by omega) c_13
        obtain ⟨hlt_15i, hlt_15b, hlt_15p⟩ := id hT_11
        refine lv_iload hx hb dX6_readsTo_21 (lv_at hl 0 rfl) ?_
        refine lv_iload_n hx hb dX6_readsTo_23 rfl (lv_at hl 3 rfl) ?_
        refine lv_icmp_eq (tgt := 125) hx hb dX6_readsTo_24 (by decide) (fun c_16 => ?_) (fun c_16 => ?_)
        · refine lv_iinc (v := nI (j_7 + 1)) (lv' := [(5, .int (nI (j_7 + 1))), (4, .int xC_9), (0, .ref qm), (1, .int (nI kI)), (2, .int (nI kB)), (3, .int iS)]) hx hb dX6_readsTo_125 hl (k := 0) rfl (nI_1 _) (by decide) rfl (fun ls => ?_)
          clear hl
          intro hl
          refine lv_goto (tgt := 12) hx hb dX6_readsTo_128 (by decide) ?_
          exact ih_6 (j_7 + 1) tJ_8 xC_9 (by omega) (by omega) hT_11 _ _ _ hP hD hS (lv_sub hl [0, 1, 2, 3, 4, 5] rfl)
        · refine lv_aload_n hx hb dX6_readsTo_27 rfl (lv_at hl 2 rfl) ?_
          refine lv_iload hx hb dX6_readsTo_28 (lv_at hl 0 rfl) ?_
          refine kRi (rV (As := [.int (nI j_7)]) (rest := []) (b := qm) ⟨hx, hb, hml, hown, hts⟩ (c_X6_isThere l G cy qm v0 v1 v2 v3 v4 v5 v6 v7 v8 v9 tJ_8 qmB qmO qmK iEn iTk v18 v19 v20 v21 v22 v23 v24 v25 v26 iLv iWs v29 v30 v31 v32 v33 v34 rO j_7 (by first | omega | (simp only [nb_sr, np_sr, nb_wr, np_wr, nb_rd, np_rd, nb_ch, np_ch, nb_zr, np_zr, nb_za, np_za, nb_ey, np_ey, nb_hf, np_hf, nb_dd, np_dd, nb_so, np_so, nb_skn, np_skn, nb_swh, np_swh, nb_sgn, np_sgn, nb_ssd, np_ssd, nb_sgo, np_sgo, nb_sag, np_sag]; omega))) L_X6_81 (preRV (q := (RX6, TX6, 35)) hN hP [0, 10, 11, 12, 13, 14, 15, 16, 17, 18] rfl 0 5 rfl rfl) rfl ⟨Nat.le_of_ble_eq_true rfl, Nat.le_of_ble_eq_true rfl⟩ hl.1 (Nat.le_of_ble_eq_true rfl) dX6_readsTo_30 ⟨Nat.le_of_ble_eq_true rfl, Nat.le_of_ble_eq_true rfl⟩) (fun r_17 h_18 => ?_)
          rcases h_18 with ⟨rfl, h_19⟩ | ⟨rfl, h_19⟩
          · refine lv_if_eq (tgt := 125) hx hb dX6_readsTo_33 (by decide) (fun h9 => absurd h9 (by decide)) (fun _ => ?_)
            refine lv_iload_n hx hb dX6_readsTo_36 rfl (lv_at hl 5 rfl) ?_
            refine lv_iload hx hb dX6_readsTo_37 (lv_at hl 0 rfl) ?_
            refine lv_ishr hx hb dX6_readsTo_39 ?_
            refine lv_iconst (v := 1) hx hb dX6_readsTo_40 (by decide) ?_
            refine lv_iand hx hb dX6_readsTo_41 ?_
            refine lv_if_eq (tgt := 125) hx hb dX6_readsTo_42 (by decide) (fun c_21 => ?_) (fun c_21 => ?_)
            · refine lv_iinc (v := nI (j_7 + 1)) (lv' := [(5, .int (nI (j_7 + 1))), (4, .int xC_9), (0, .ref qm), (1, .int (nI kI)), (2, .int (nI kB)), (3, .int iS)]) hx hb dX6_readsTo_125 hl (k := 0) rfl (nI_1 _) (by decide) rfl (fun ls => ?_)
              clear hl
              intro hl
              refine lv_goto (tgt := 12) hx hb dX6_readsTo_128 (by decide) ?_
              exact ih_6 (j_7 + 1) tJ_8 xC_9 (by omega) (by omega) hT_11 _ _ _ hP hD hS (lv_sub hl [0, 1, 2, 3, 4, 5] rfl)
            · refine lv_aload_n hx hb dX6_readsTo_45 rfl (lv_at hl 2 rfl) ?_
              refine lv_aload_n hx hb dX6_readsTo_46 rfl (lv_at hl 2 rfl) ?_
              refine va_get (D := G) (ci := 5) (v := .ref qmK) (C := RX6) (T := TX6) (N := 35) hx hb hts iX_X6 hown hK hP 0 rfl rfl 14 (by decide) (hts _ m_t864) (fun _ h9 => h9) rfl dX6_readsTo_47 ?_
              refine lv_iload_n hx hb dX6_readsTo_50 rfl (lv_at hl 3 rfl) ?_
              refine va_alda hx hb hK hP 19 3 rfl rfl (in8 (by omega)) dX6_readsTo_51 ?_
              refine lv_setv (v := .ref (rK kI)) (g_ref (by omega)) ?_
              refine lv_iload_n hx hb dX6_readsTo_52 rfl (lv_at hl 4 rfl) ?_
              refine va_iald hx hb hK hP (20 + kI) 0 (sg8 (n0 := 20) (f := (fun j => zzI cy (rK j) 8 (T_kn tJ_8 j))) rfl rfl rfl rfl rfl rfl rfl rfl kI (by omega)) rfl (vp_in_nI (by omega) (by omega)) dX6_readsTo_53 ?_
              refine lv_seti (v := T_kn tJ_8 kI kB) (congrArg (T_kn tJ_8 kI) (nI_clamp (by omega))) ?_
              refine lv_iconst (v := 2) hx hb dX6_readsTo_54 (by decide) ?_
              refine lv_idiv hx hb dX6_readsTo_55 (by decide) ?_
              refine lv_iload hx hb dX6_readsTo_56 (lv_at hl 0 rfl) ?_
              refine lv_iload_n hx hb dX6_readsTo_58 rfl (lv_at hl 4 rfl) ?_
              refine kRi (rV (As := [.int ((T_kn tJ_8 kI kB) / 2), .int (nI j_7), .int (nI kB)]) (rest := []) (b := qm) ⟨hx, hb, hml, hown, hts⟩ (c_X6_byGround l G cy qm v0 v1 v2 v3 v4 v5 v6 v7 v8 v9 tJ_8 qmB qmO qmK iEn iTk v18 v19 v20 v21 v22 v23 v24 v25 v26 iLv iWs v29 v30 v31 v32 v33 v34 rB rK ((T_kn tJ_8 kI kB) / 2) j_7 kB (by first | omega | (simp only [nb_sr, np_sr, nb_wr, np_wr, nb_rd, np_rd, nb_ch, np_ch, nb_zr, np_zr, nb_za, np_za, nb_ey, np_ey, nb_hf, np_hf, nb_dd, np_dd, nb_so, np_so, nb_skn, np_skn, nb_swh, np_swh, nb_sgn, np_sgn, nb_ssd, np_ssd, nb_sgo, np_sgo, nb_sag, np_sag]; omega)) hJ) L_X6_244 (preRV (q := (RX6, TX6, 35)) hN hP [0, 1, 2, 3, 4, 5, 6, 7, 8, 9, 19, 20, 21, 22, 23, 24, 25, 26, 27] rfl 0 5 rfl rfl) rfl ⟨Nat.le_of_ble_eq_true rfl, Nat.le_of_ble_eq_true rfl⟩ hl.1 (Nat.le_of_ble_eq_true rfl) dX6_readsTo_59 ⟨Nat.le_of_ble_eq_true rfl, Nat.le_of_ble_eq_true rfl⟩) (fun r_22 h_23 => ?_)
              subst h_23
              refine lv_istore (lv' := [(6, .int (zgr ((T_kn tJ_8 kI kB) / 2) (zgd tJ_8 j_7 kB))), (5, .int (nI j_7)), (4, .int xC_9), (0, .ref qm), (1, .int (nI kI)), (2, .int (nI kB)), (3, .int iS)]) hx hb dX6_readsTo_62 hl (by decide) rfl (fun ls => ?_)
              clear hl
              intro hl
              refine lv_iload hx hb dX6_readsTo_64 (lv_at hl 2 rfl) ?_
              refine lv_iload hx hb dX6_readsTo_66 (lv_at hl 0 rfl) ?_
              refine lv_aload_n hx hb dX6_readsTo_68 rfl (lv_at hl 3 rfl) ?_
              refine va_get (D := G) (ci := 5) (v := .ref qmK) (C := RX6) (T := TX6) (N := 35) hx hb hts iX_X6 hown hK hP 0 rfl rfl 14 (by decide) (hts _ m_t864) (fun _ h9 => h9) rfl dX6_readsTo_69 ?_
              refine lv_iload hx hb dX6_readsTo_72 (lv_at hl 1 rfl) ?_
              refine va_alda hx hb hK hP 19 3 rfl rfl (in8 (by omega)) dX6_readsTo_74 ?_
              refine lv_setv (v := .ref (rK j_7)) (g_ref (by omega)) ?_
              refine lv_iload_n hx hb dX6_readsTo_75 rfl (lv_at hl 5 rfl) ?_
              refine va_iald hx hb hK hP (20 + j_7) 0 (sg8 (n0 := 20) (f := (fun j => zzI cy (rK j) 8 (T_kn tJ_8 j))) rfl rfl rfl rfl rfl rfl rfl rfl j_7 (by omega)) rfl (vp_in_nI (by omega) (by omega)) dX6_readsTo_76 ?_
              refine lv_seti (v := T_kn tJ_8 j_7 kB) (congrArg (T_kn tJ_8 j_7) (nI_clamp (by omega))) ?_
              refine lv_icmp_le (tgt := 84) hx hb dX6_readsTo_77 (by decide) (fun c_24 => ?_) (fun c_24 => ?_)
              · refine lv_iconst (v := 0) hx hb dX6_readsTo_84 (by decide) ?_
                refine lv_iadd hx hb dX6_readsTo_85 ?_
                refine lv_istore (lv' := [(4, .int (xC_9 + 0)), (6, .int (zgr ((T_kn tJ_8 kI kB) / 2) (zgd tJ_8 j_7 kB))), (5, .int (nI j_7)), (0, .ref qm), (1, .int (nI kI)), (2, .int (nI kB)), (3, .int iS)]) hx hb dX6_readsTo_86 hl (by decide) rfl (fun ls => ?_)
                clear hl
                intro hl
                refine lv_aload_n hx hb dX6_readsTo_88 rfl (lv_at hl 3 rfl) ?_
                refine va_get (D := G) (ci := 5) (v := .ref qmK) (C := RX6) (T := TX6) (N := 35) hx hb hts iX_X6 hown hK hP 0 rfl rfl 14 (by decide) (hts _ m_t864) (fun _ h9 => h9) rfl dX6_readsTo_89 ?_
                refine lv_iload hx hb dX6_readsTo_92 (lv_at hl 2 rfl) ?_
                refine va_alda hx hb hK hP 19 3 rfl rfl (in8 (by omega)) dX6_readsTo_94 ?_
                refine lv_setv (v := .ref (rK j_7)) (g_ref (by omega)) ?_
                refine lv_iload_n hx hb dX6_readsTo_95 rfl (lv_at hl 5 rfl) ?_
                refine lv_iload hx hb dX6_readsTo_96 (lv_at hl 1 rfl) ?_
                refine lv_aload_n hx hb dX6_readsTo_98 rfl (lv_at hl 3 rfl) ?_
                refine va_get (D := G) (ci := 5) (v := .ref qmK) (C := RX6) (T := TX6) (N := 35) hx hb hts iX_X6 hown hK hP 0 rfl rfl 14 (by decide) (hts _ m_t864) (fun _ h9 => h9) rfl dX6_readsTo_99 ?_
                refine lv_iload hx hb dX6_readsTo_102 (lv_at hl 2 rfl) ?_
                refine va_alda hx hb hK hP 19 3 rfl rfl (in8 (by omega)) dX6_readsTo_104 ?_
                refine lv_setv (v := .ref (rK j_7)) (g_ref (by omega)) ?_
                refine lv_iload_n hx hb dX6_readsTo_105 rfl (lv_at hl 5 rfl) ?_
                refine va_iald hx hb hK hP (20 + j_7) 0 (sg8 (n0 := 20) (f := (fun j => zzI cy (rK j) 8 (T_kn tJ_8 j))) rfl rfl rfl rfl rfl rfl rfl rfl j_7 (by omega)) rfl (vp_in_nI (by omega) (by omega)) dX6_readsTo_106 ?_
                refine lv_seti (v := T_kn tJ_8 j_7 kB) (congrArg (T_kn tJ_8 j_7) (nI_clamp (by omega))) ?_
                refine lv_icmp_le (tgt := 115) hx hb dX6_readsTo_107 (by decide) (fun c_25 => ?_) (fun c_25 => ?_)
                · refine lv_aload_n hx hb dX6_readsTo_115 rfl (lv_at hl 3 rfl) ?_
                  refine va_get (D := G) (ci := 5) (v := .ref qmK) (C := RX6) (T := TX6) (N := 35) hx hb hts iX_X6 hown hK hP 0 rfl rfl 14 (by decide) (hts _ m_t864) (fun _ h9 => h9) rfl dX6_readsTo_116 ?_
                  refine lv_iload hx hb dX6_readsTo_119 (lv_at hl 2 rfl) ?_
                  refine va_alda hx hb hK hP 19 3 rfl rfl (in8 (by omega)) dX6_readsTo_121 ?_
                  refine lv_setv (v := .ref (rK j_7)) (g_ref (by omega)) ?_
                  refine lv_iload_n hx hb dX6_readsTo_122 rfl (lv_at hl 5 rfl) ?_
                  refine va_iald hx hb hK hP (20 + j_7) 0 (sg8 (n0 := 20) (f := (fun j => zzI cy (rK j) 8 (T_kn tJ_8 j))) rfl rfl rfl rfl rfl rfl rfl rfl j_7 (by omega)) rfl (vp_in_nI (by omega) (by omega)) dX6_readsTo_123 ?_
                  refine lv_seti (v := T_kn tJ_8 j_7 kB) (congrArg (T_kn tJ_8 j_7) (nI_clamp (by omega))) ?_
                  refine va_iast hx hb hK hP hD hS (20 + j_7) 0 ((sg8 (n0 := 20) (f := (fun j => zzI cy (rK j) 8 (T_kn tJ_8 j))) rfl rfl rfl rfl rfl rfl rfl rfl) j_7 (by omega)) rfl (vp_in_nI (by omega) (by omega)) dX6_readsTo_124 (fun H locs => ?_)
                  clear hP hD hS
                  intro hP hD hS
                  rw [nI_clamp (n := kB) (by omega)] at hP hD
                  have hPD := st8PD (ws' := [zzO qm 5 [v0, v1, v2, v3, v4, v5, v6, v7, v8, v9, .int (nI (T_nb (T_setkn tJ_8 (updM (T_kn tJ_8) j_7 kB (T_kn tJ_8 j_7 kB))))), .ref qmB, .int (nI (T_np (T_setkn tJ_8 (updM (T_kn tJ_8) j_7 kB (T_kn tJ_8 j_7 kB))))), .ref qmO, .ref qmK, .int iEn, .int iTk, .int (T_sd (T_setkn tJ_8 (updM (T_kn tJ_8) j_7 kB (T_kn tJ_8 j_7 kB)))), v18, v19, v20, v21, v22, v23, v24, v25, v26, .int iLv, .int iWs, v29, v30, v31, v32, v33, v34], zzG cy 3 qmB rB, zzI cy (rB 0) 4 (bkR (T_setkn tJ_8 (updM (T_kn tJ_8) j_7 kB (T_kn tJ_8 j_7 kB))) 0), zzI cy (rB 1) 4 (bkR (T_setkn tJ_8 (updM (T_kn tJ_8) j_7 kB (T_kn tJ_8 j_7 kB))) 1), zzI cy (rB 2) 4 (bkR (T_setkn tJ_8 (updM (T_kn tJ_8) j_7 kB (T_kn tJ_8 j_7 kB))) 2), zzI cy (rB 3) 4 (bkR (T_setkn tJ_8 (updM (T_kn tJ_8) j_7 kB (T_kn tJ_8 j_7 kB))) 3), zzI cy (rB 4) 4 (bkR (T_setkn tJ_8 (updM (T_kn tJ_8) j_7 kB (T_kn tJ_8 j_7 kB))) 4), zzI cy (rB 5) 4 (bkR (T_setkn tJ_8 (updM (T_kn tJ_8) j_7 kB (T_kn tJ_8 j_7 kB))) 5), zzI cy (rB 6) 4 (bkR (T_setkn tJ_8 (updM (T_kn tJ_8) j_7 kB (T_kn tJ_8 j_7 kB))) 6), zzI cy (rB 7) 4 (bkR (T_setkn tJ_8 (updM (T_kn tJ_8) j_7 kB (T_kn tJ_8 j_7 kB))) 7), zzG cy 3 qmO rO, zzI cy (rO 0) 5 (onR (T_setkn tJ_8 (updM (T_kn tJ_8) j_7 kB (T_kn tJ_8 j_7 kB))) 0), zzI cy (rO 1) 5 (onR (T_setkn tJ_8 (updM (T_kn tJ_8) j_7 kB (T_kn tJ_8 j_7 kB))) 1), zzI cy (rO 2) 5 (onR (T_setkn tJ_8 (updM (T_kn tJ_8) j_7 kB (T_kn tJ_8 j_7 kB))) 2), zzI cy (rO 3) 5 (onR (T_setkn tJ_8 (updM (T_kn tJ_8) j_7 kB (T_kn tJ_8 j_7 kB))) 3), zzI cy (rO 4) 5 (onR (T_setkn tJ_8 (updM (T_kn tJ_8) j_7 kB (T_kn tJ_8 j_7 kB))) 4), zzI cy (rO 5) 5 (onR (T_setkn tJ_8 (updM (T_kn tJ_8) j_7 kB (T_kn tJ_8 j_7 kB))) 5), zzI cy (rO 6) 5 (onR (T_setkn tJ_8 (updM (T_kn tJ_8) j_7 kB (T_kn tJ_8 j_7 kB))) 6), zzI cy (rO 7) 5 (onR (T_setkn tJ_8 (updM (T_kn tJ_8) j_7 kB (T_kn tJ_8 j_7 kB))) 7), zzG cy 3 qmK rK, zzI cy (rK 0) 8 (T_kn (T_setkn tJ_8 (updM (T_kn tJ_8) j_7 kB (T_kn tJ_8 j_7 kB))) 0), zzI cy (rK 1) 8 (T_kn (T_setkn tJ_8 (updM (T_kn tJ_8) j_7 kB (T_kn tJ_8 j_7 kB))) 1), zzI cy (rK 2) 8 (T_kn (T_setkn tJ_8 (updM (T_kn tJ_8) j_7 kB (T_kn tJ_8 j_7 kB))) 2), zzI cy (rK 3) 8 (T_kn (T_setkn tJ_8 (updM (T_kn tJ_8) j_7 kB (T_kn tJ_8 j_7 kB))) 3), zzI cy (rK 4) 8 (T_kn (T_setkn tJ_8 (updM (T_kn tJ_8) j_7 kB (T_kn tJ_8 j_7 kB))) 4), zzI cy (rK 5) 8 (T_kn (T_setkn tJ_8 (updM (T_kn tJ_8) j_7 kB (T_kn tJ_8 j_7 kB))) 5), zzI cy (rK 6) 8 (T_kn (T_setkn tJ_8 (updM (T_kn tJ_8) j_7 kB (T_kn tJ_8 j_7 kB))) 6), zzI cy (rK 7) 8 (T_kn (T_setkn tJ_8 (updM (T_kn tJ_8) j_7 kB (T_kn tJ_8 j_7 kB))) 7)]) (k := j_7) (g1 := T_kn (T_setkn tJ_8 (updM (T_kn tJ_8) j_7 kB (T_kn tJ_8 j_7 kB))) j_7) hP hD (sg8 (n0 := 20) (f := (fun j => zzI cy (rK j) 8 (T_kn tJ_8 j))) rfl rfl rfl rfl rfl rfl rfl rfl) (sg8 (n0 := 20) (f := (fun j => zzI cy (rK j) 8 (T_kn (T_setkn tJ_8 (updM (T_kn tJ_8) j_7 kB (T_kn tJ_8 j_7 kB))) j))) rfl rfl rfl rfl rfl rfl rfl rfl) rfl rfl (by omega) rfl (fun i _ => (congrFun (kn_u tJ_8 j_7 kB (T_kn tJ_8 j_7 kB)) i).symm) (fun j hj => congrArg (zzI cy (rK j) 8) (kn_n tJ_8 j_7 kB (T_kn tJ_8 j_7 kB) hj))
                  clear hP hD
                  obtain ⟨hP, hD⟩ := hPD
                  refine lv_iinc (v := nI (j_7 + 1)) (lv' := [(5, .int (nI (j_7 + 1))), (4, .int (xC_9 + 0)), (6, .int (zgr ((T_kn tJ_8 kI kB) / 2) (zgd tJ_8 j_7 kB))), (0, .ref qm), (1, .int (nI kI)), (2, .int (nI kB)), (3, .int iS)]) hx hb dX6_readsTo_125 hl (k := 2) rfl (nI_1 _) (by decide) rfl (fun ls => ?_)
                  clear hl
                  intro hl
                  refine lv_goto (tgt := 12) hx hb dX6_readsTo_128 (by decide) ?_
                  exact ih_6 (j_7 + 1) (T_setkn tJ_8 (updM (T_kn tJ_8) j_7 kB (T_kn tJ_8 j_7 kB))) (xC_9 + 0) (by omega) (by omega) (⟨TI_kn hT_11.1 (hT_11.1.2.1 _ _), hT_11.2⟩) _ _ _ hP hD hS (lv_sub hl [0, 1, 3, 4, 5, 6] rfl)
                · refine lv_iload hx hb dX6_readsTo_110 (lv_at hl 1 rfl) ?_
                  refine lv_goto (tgt := 124) hx hb dX6_readsTo_112 (by decide) ?_
                  refine va_iast hx hb hK hP hD hS (20 + j_7) 0 ((sg8 (n0 := 20) (f := (fun j => zzI cy (rK j) 8 (T_kn tJ_8 j))) rfl rfl rfl rfl rfl rfl rfl rfl) j_7 (by omega)) rfl (vp_in_nI (by omega) (by omega)) dX6_readsTo_124 (fun H locs => ?_)
                  clear hP hD hS
                  intro hP hD hS
                  rw [nI_clamp (n := kB) (by omega)] at hP hD
                  have hPD := st8PD (ws' := [zzO qm 5 [v0, v1, v2, v3, v4, v5, v6, v7, v8, v9, .int (nI (T_nb (T_setkn tJ_8 (updM (T_kn tJ_8) j_7 kB (zgr ((T_kn tJ_8 kI kB) / 2) (zgd tJ_8 j_7 kB)))))), .ref qmB, .int (nI (T_np (T_setkn tJ_8 (updM (T_kn tJ_8) j_7 kB (zgr ((T_kn tJ_8 kI kB) / 2) (zgd tJ_8 j_7 kB)))))), .ref qmO, .ref qmK, .int iEn, .int iTk, .int (T_sd (T_setkn tJ_8 (updM (T_kn tJ_8) j_7 kB (zgr ((T_kn tJ_8 kI kB) / 2) (zgd tJ_8 j_7 kB))))), v18, v19, v20, v21, v22, v23, v24, v25, v26, .int iLv, .int iWs, v29, v30, v31, v32, v33, v34], zzG cy 3 qmB rB, zzI cy (rB 0) 4 (bkR (T_setkn tJ_8 (updM (T_kn tJ_8) j_7 kB (zgr ((T_kn tJ_8 kI kB) / 2) (zgd tJ_8 j_7 kB)))) 0), zzI cy (rB 1) 4 (bkR (T_setkn tJ_8 (updM (T_kn tJ_8) j_7 kB (zgr ((T_kn tJ_8 kI kB) / 2) (zgd tJ_8 j_7 kB)))) 1), zzI cy (rB 2) 4 (bkR (T_setkn tJ_8 (updM (T_kn tJ_8) j_7 kB (zgr ((T_kn tJ_8 kI kB) / 2) (zgd tJ_8 j_7 kB)))) 2), zzI cy (rB 3) 4 (bkR (T_setkn tJ_8 (updM (T_kn tJ_8) j_7 kB (zgr ((T_kn tJ_8 kI kB) / 2) (zgd tJ_8 j_7 kB)))) 3), zzI cy (rB 4) 4 (bkR (T_setkn tJ_8 (updM (T_kn tJ_8) j_7 kB (zgr ((T_kn tJ_8 kI kB) / 2) (zgd tJ_8 j_7 kB)))) 4), zzI cy (rB 5) 4 (bkR (T_setkn tJ_8 (updM (T_kn tJ_8) j_7 kB (zgr ((T_kn tJ_8 kI kB) / 2) (zgd tJ_8 j_7 kB)))) 5), zzI cy (rB 6) 4 (bkR (T_setkn tJ_8 (updM (T_kn tJ_8) j_7 kB (zgr ((T_kn tJ_8 kI kB) / 2) (zgd tJ_8 j_7 kB)))) 6), zzI cy (rB 7) 4 (bkR (T_setkn tJ_8 (updM (T_kn tJ_8) j_7 kB (zgr ((T_kn tJ_8 kI kB) / 2) (zgd tJ_8 j_7 kB)))) 7), zzG cy 3 qmO rO, zzI cy (rO 0) 5 (onR (T_setkn tJ_8 (updM (T_kn tJ_8) j_7 kB (zgr ((T_kn tJ_8 kI kB) / 2) (zgd tJ_8 j_7 kB)))) 0), zzI cy (rO 1) 5 (onR (T_setkn tJ_8 (updM (T_kn tJ_8) j_7 kB (zgr ((T_kn tJ_8 kI kB) / 2) (zgd tJ_8 j_7 kB)))) 1), zzI cy (rO 2) 5 (onR (T_setkn tJ_8 (updM (T_kn tJ_8) j_7 kB (zgr ((T_kn tJ_8 kI kB) / 2) (zgd tJ_8 j_7 kB)))) 2), zzI cy (rO 3) 5 (onR (T_setkn tJ_8 (updM (T_kn tJ_8) j_7 kB (zgr ((T_kn tJ_8 kI kB) / 2) (zgd tJ_8 j_7 kB)))) 3), zzI cy (rO 4) 5 (onR (T_setkn tJ_8 (updM (T_kn tJ_8) j_7 kB (zgr ((T_kn tJ_8 kI kB) / 2) (zgd tJ_8 j_7 kB)))) 4), zzI cy (rO 5) 5 (onR (T_setkn tJ_8 (updM (T_kn tJ_8) j_7 kB (zgr ((T_kn tJ_8 kI kB) / 2) (zgd tJ_8 j_7 kB)))) 5), zzI cy (rO 6) 5 (onR (T_setkn tJ_8 (updM (T_kn tJ_8) j_7 kB (zgr ((T_kn tJ_8 kI kB) / 2) (zgd tJ_8 j_7 kB)))) 6), zzI cy (rO 7) 5 (onR (T_setkn tJ_8 (updM (T_kn tJ_8) j_7 kB (zgr ((T_kn tJ_8 kI kB) / 2) (zgd tJ_8 j_7 kB)))) 7), zzG cy 3 qmK rK, zzI cy (rK 0) 8 (T_kn (T_setkn tJ_8 (updM (T_kn tJ_8) j_7 kB (zgr ((T_kn tJ_8 kI kB) / 2) (zgd tJ_8 j_7 kB)))) 0), zzI cy (rK 1) 8 (T_kn (T_setkn tJ_8 (updM (T_kn tJ_8) j_7 kB (zgr ((T_kn tJ_8 kI kB) / 2) (zgd tJ_8 j_7 kB)))) 1), zzI cy (rK 2) 8 (T_kn (T_setkn tJ_8 (updM (T_kn tJ_8) j_7 kB (zgr ((T_kn tJ_8 kI kB) / 2) (zgd tJ_8 j_7 kB)))) 2), zzI cy (rK 3) 8 (T_kn (T_setkn tJ_8 (updM (T_kn tJ_8) j_7 kB (zgr ((T_kn tJ_8 kI kB) / 2) (zgd tJ_8 j_7 kB)))) 3), zzI cy (rK 4) 8 (T_kn (T_setkn tJ_8 (updM (T_kn tJ_8) j_7 kB (zgr ((T_kn tJ_8 kI kB) / 2) (zgd tJ_8 j_7 kB)))) 4), zzI cy (rK 5) 8 (T_kn (T_setkn tJ_8 (updM (T_kn tJ_8) j_7 kB (zgr ((T_kn tJ_8 kI kB) / 2) (zgd tJ_8 j_7 kB)))) 5), zzI cy (rK 6) 8 (T_kn (T_setkn tJ_8 (updM (T_kn tJ_8) j_7 kB (zgr ((T_kn tJ_8 kI kB) / 2) (zgd tJ_8 j_7 kB)))) 6), zzI cy (rK 7) 8 (T_kn (T_setkn tJ_8 (updM (T_kn tJ_8) j_7 kB (zgr ((T_kn tJ_8 kI kB) / 2) (zgd tJ_8 j_7 kB)))) 7)]) (k := j_7) (g1 := T_kn (T_setkn tJ_8 (updM (T_kn tJ_8) j_7 kB (zgr ((T_kn tJ_8 kI kB) / 2) (zgd tJ_8 j_7 kB)))) j_7) hP hD (sg8 (n0 := 20) (f := (fun j => zzI cy (rK j) 8 (T_kn tJ_8 j))) rfl rfl rfl rfl rfl rfl rfl rfl) (sg8 (n0 := 20) (f := (fun j => zzI cy (rK j) 8 (T_kn (T_setkn tJ_8 (updM (T_kn tJ_8) j_7 kB (zgr ((T_kn tJ_8 kI kB) / 2) (zgd tJ_8 j_7 kB)))) j))) rfl rfl rfl rfl rfl rfl rfl rfl) rfl rfl (by omega) rfl (fun i _ => (congrFun (kn_u tJ_8 j_7 kB (zgr ((T_kn tJ_8 kI kB) / 2) (zgd tJ_8 j_7 kB))) i).symm) (fun j hj => congrArg (zzI cy (rK j) 8) (kn_n tJ_8 j_7 kB (zgr ((T_kn tJ_8 kI kB) / 2) (zgd tJ_8 j_7 kB)) hj))
                  clear hP hD
                  obtain ⟨hP, hD⟩ := hPD
                  refine lv_iinc (v := nI (j_7 + 1)) (lv' := [(5, .int (nI (j_7 + 1))), (4, .int (xC_9 + 0)), (6, .int (zgr ((T_kn tJ_8 kI kB) / 2) (zgd tJ_8 j_7 kB))), (0, .ref qm), (1, .int (nI kI)), (2, .int (nI kB)), (3, .int iS)]) hx hb dX6_readsTo_125 hl (k := 2) rfl (nI_1 _) (by decide) rfl (fun ls => ?_)
                  clear hl
                  intro hl
                  refine lv_goto (tgt := 12) hx hb dX6_readsTo_128 (by decide) ?_
                  exact ih_6 (j_7 + 1) (T_setkn tJ_8 (updM (T_kn tJ_8) j_7 kB (zgr ((T_kn tJ_8 kI kB) / 2) (zgd tJ_8 j_7 kB)))) (xC_9 + 0) (by omega) (by omega) (⟨TI_kn hT_11.1 (r_gr (r_half (hT_11.1.2.1 _ _)) (r_gd (hT_11.1.2.1 _) _)), hT_11.2⟩) _ _ _ hP hD hS (lv_sub hl [0, 1, 3, 4, 5, 6] rfl)
              · refine lv_iconst (v := 1) hx hb dX6_readsTo_80 (by decide) ?_
                refine lv_goto (tgt := 85) hx hb dX6_readsTo_81 (by decide) ?_
                refine lv_iadd hx hb dX6_readsTo_85 ?_
                refine lv_istore (lv' := [(4, .int (xC_9 + 1)), (6, .int (zgr ((T_kn tJ_8 kI kB) / 2) (zgd tJ_8 j_7 kB))), (5, .int (nI j_7)), (0, .ref qm), (1, .int (nI kI)), (2, .int (nI kB)), (3, .int iS)]) hx hb dX6_readsTo_86 hl (by decide) rfl (fun ls => ?_)
                clear hl
                intro hl
                refine lv_aload_n hx hb dX6_readsTo_88 rfl (lv_at hl 3 rfl) ?_
                refine va_get (D := G) (ci := 5) (v := .ref qmK) (C := RX6) (T := TX6) (N := 35) hx hb hts iX_X6 hown hK hP 0 rfl rfl 14 (by decide) (hts _ m_t864) (fun _ h9 => h9) rfl dX6_readsTo_89 ?_
                refine lv_iload hx hb dX6_readsTo_92 (lv_at hl 2 rfl) ?_
                refine va_alda hx hb hK hP 19 3 rfl rfl (in8 (by omega)) dX6_readsTo_94 ?_
                refine lv_setv (v := .ref (rK j_7)) (g_ref (by omega)) ?_
                refine lv_iload_n hx hb dX6_readsTo_95 rfl (lv_at hl 5 rfl) ?_
                refine lv_iload hx hb dX6_readsTo_96 (lv_at hl 1 rfl) ?_
                refine lv_aload_n hx hb dX6_readsTo_98 rfl (lv_at hl 3 rfl) ?_
                refine va_get (D := G) (ci := 5) (v := .ref qmK) (C := RX6) (T := TX6) (N := 35) hx hb hts iX_X6 hown hK hP 0 rfl rfl 14 (by decide) (hts _ m_t864) (fun _ h9 => h9) rfl dX6_readsTo_99 ?_
                refine lv_iload hx hb dX6_readsTo_102 (lv_at hl 2 rfl) ?_
                refine va_alda hx hb hK hP 19 3 rfl rfl (in8 (by omega)) dX6_readsTo_104 ?_
                refine lv_setv (v := .ref (rK j_7)) (g_ref (by omega)) ?_
                refine lv_iload_n hx hb dX6_readsTo_105 rfl (lv_at hl 5 rfl) ?_
                refine va_iald hx hb hK hP (20 + j_7) 0 (sg8 (n0 := 20) (f := (fun j => zzI cy (rK j) 8 (T_kn tJ_8 j))) rfl rfl rfl rfl rfl rfl rfl rfl j_7 (by omega)) rfl (vp_in_nI (by omega) (by omega)) dX6_readsTo_106 ?_
                refine lv_seti (v := T_kn tJ_8 j_7 kB) (congrArg (T_kn tJ_8 j_7) (nI_clamp (by omega))) ?_
                refine lv_icmp_le (tgt := 115) hx hb dX6_readsTo_107 (by decide) (fun c_26 => ?_) (fun c_26 => ?_)
                · refine lv_aload_n hx hb dX6_readsTo_115 rfl (lv_at hl 3 rfl) ?_
                  refine va_get (D := G) (ci := 5) (v := .ref qmK) (C := RX6) (T := TX6) (N := 35) hx hb hts iX_X6 hown hK hP 0 rfl rfl 14 (by decide) (hts _ m_t864) (fun _ h9 => h9) rfl dX6_readsTo_116 ?_
                  refine lv_iload hx hb dX6_readsTo_119 (lv_at hl 2 rfl) ?_
                  refine va_alda hx hb hK hP 19 3 rfl rfl (in8 (by omega)) dX6_readsTo_121 ?_
                  refine lv_setv (v := .ref (rK j_7)) (g_ref (by omega)) ?_
                  refine lv_iload_n hx hb dX6_readsTo_122 rfl (lv_at hl 5 rfl) ?_
                  refine va_iald hx hb hK hP (20 + j_7) 0 (sg8 (n0 := 20) (f := (fun j => zzI cy (rK j) 8 (T_kn tJ_8 j))) rfl rfl rfl rfl rfl rfl rfl rfl j_7 (by omega)) rfl (vp_in_nI (by omega) (by omega)) dX6_readsTo_123 ?_
                  refine lv_seti (v := T_kn tJ_8 j_7 kB) (congrArg (T_kn tJ_8 j_7) (nI_clamp (by omega))) ?_
                  refine va_iast hx hb hK hP hD hS (20 + j_7) 0 ((sg8 (n0 := 20) (f := (fun j => zzI cy (rK j) 8 (T_kn tJ_8 j))) rfl rfl rfl rfl rfl rfl rfl rfl) j_7 (by omega)) rfl (vp_in_nI (by omega) (by omega)) dX6_readsTo_124 (fun H locs => ?_)
                  clear hP hD hS
                  intro hP hD hS
                  rw [nI_clamp (n := kB) (by omega)] at hP hD
                  have hPD := st8PD (ws' := [zzO qm 5 [v0, v1, v2, v3, v4, v5, v6, v7, v8, v9, .int (nI (T_nb (T_setkn tJ_8 (updM (T_kn tJ_8) j_7 kB (T_kn tJ_8 j_7 kB))))), .ref qmB, .int (nI (T_np (T_setkn tJ_8 (updM (T_kn tJ_8) j_7 kB (T_kn tJ_8 j_7 kB))))), .ref qmO, .ref qmK, .int iEn, .int iTk, .int (T_sd (T_setkn tJ_8 (updM (T_kn tJ_8) j_7 kB (T_kn tJ_8 j_7 kB)))), v18, v19, v20, v21, v22, v23, v24, v25, v26, .int iLv, .int iWs, v29, v30, v31, v32, v33, v34], zzG cy 3 qmB rB, zzI cy (rB 0) 4 (bkR (T_setkn tJ_8 (updM (T_kn tJ_8) j_7 kB (T_kn tJ_8 j_7 kB))) 0), zzI cy (rB 1) 4 (bkR (T_setkn tJ_8 (updM (T_kn tJ_8) j_7 kB (T_kn tJ_8 j_7 kB))) 1), zzI cy (rB 2) 4 (bkR (T_setkn tJ_8 (updM (T_kn tJ_8) j_7 kB (T_kn tJ_8 j_7 kB))) 2), zzI cy (rB 3) 4 (bkR (T_setkn tJ_8 (updM (T_kn tJ_8) j_7 kB (T_kn tJ_8 j_7 kB))) 3), zzI cy (rB 4) 4 (bkR (T_setkn tJ_8 (updM (T_kn tJ_8) j_7 kB (T_kn tJ_8 j_7 kB))) 4), zzI cy (rB 5) 4 (bkR (T_setkn tJ_8 (updM (T_kn tJ_8) j_7 kB (T_kn tJ_8 j_7 kB))) 5), zzI cy (rB 6) 4 (bkR (T_setkn tJ_8 (updM (T_kn tJ_8) j_7 kB (T_kn tJ_8 j_7 kB))) 6), zzI cy (rB 7) 4 (bkR (T_setkn tJ_8 (updM (T_kn tJ_8) j_7 kB (T_kn tJ_8 j_7 kB))) 7), zzG cy 3 qmO rO, zzI cy (rO 0) 5 (onR (T_setkn tJ_8 (updM (T_kn tJ_8) j_7 kB (T_kn tJ_8 j_7 kB))) 0), zzI cy (rO 1) 5 (onR (T_setkn tJ_8 (updM (T_kn tJ_8) j_7 kB (T_kn tJ_8 j_7 kB))) 1), zzI cy (rO 2) 5 (onR (T_setkn tJ_8 (updM (T_kn tJ_8) j_7 kB (T_kn tJ_8 j_7 kB))) 2), zzI cy (rO 3) 5 (onR (T_setkn tJ_8 (updM (T_kn tJ_8) j_7 kB (T_kn tJ_8 j_7 kB))) 3), zzI cy (rO 4) 5 (onR (T_setkn tJ_8 (updM (T_kn tJ_8) j_7 kB (T_kn tJ_8 j_7 kB))) 4), zzI cy (rO 5) 5 (onR (T_setkn tJ_8 (updM (T_kn tJ_8) j_7 kB (T_kn tJ_8 j_7 kB))) 5), zzI cy (rO 6) 5 (onR (T_setkn tJ_8 (updM (T_kn tJ_8) j_7 kB (T_kn tJ_8 j_7 kB))) 6), zzI cy (rO 7) 5 (onR (T_setkn tJ_8 (updM (T_kn tJ_8) j_7 kB (T_kn tJ_8 j_7 kB))) 7), zzG cy 3 qmK rK, zzI cy (rK 0) 8 (T_kn (T_setkn tJ_8 (updM (T_kn tJ_8) j_7 kB (T_kn tJ_8 j_7 kB))) 0), zzI cy (rK 1) 8 (T_kn (T_setkn tJ_8 (updM (T_kn tJ_8) j_7 kB (T_kn tJ_8 j_7 kB))) 1), zzI cy (rK 2) 8 (T_kn (T_setkn tJ_8 (updM (T_kn tJ_8) j_7 kB (T_kn tJ_8 j_7 kB))) 2), zzI cy (rK 3) 8 (T_kn (T_setkn tJ_8 (updM (T_kn tJ_8) j_7 kB (T_kn tJ_8 j_7 kB))) 3), zzI cy (rK 4) 8 (T_kn (T_setkn tJ_8 (updM (T_kn tJ_8) j_7 kB (T_kn tJ_8 j_7 kB))) 4), zzI cy (rK 5) 8 (T_kn (T_setkn tJ_8 (updM (T_kn tJ_8) j_7 kB (T_kn tJ_8 j_7 kB))) 5), zzI cy (rK 6) 8 (T_kn (T_setkn tJ_8 (updM (T_kn tJ_8) j_7 kB (T_kn tJ_8 j_7 kB))) 6), zzI cy (rK 7) 8 (T_kn (T_setkn tJ_8 (updM (T_kn tJ_8) j_7 kB (T_kn tJ_8 j_7 kB))) 7)]) (k := j_7) (g1 := T_kn (T_setkn tJ_8 (updM (T_kn tJ_8) j_7 kB (T_kn tJ_8 j_7 kB))) j_7) hP hD (sg8 (n0 := 20) (f := (fun j => zzI cy (rK j) 8 (T_kn tJ_8 j))) rfl rfl rfl rfl rfl rfl rfl rfl) (sg8 (n0 := 20) (f := (fun j => zzI cy (rK j) 8 (T_kn (T_setkn tJ_8 (updM (T_kn tJ_8) j_7 kB (T_kn tJ_8 j_7 kB))) j))) rfl rfl rfl rfl rfl rfl rfl rfl) rfl rfl (by omega) rfl (fun i _ => (congrFun (kn_u tJ_8 j_7 kB (T_kn tJ_8 j_7 kB)) i).symm) (fun j hj => congrArg (zzI cy (rK j) 8) (kn_n tJ_8 j_7 kB (T_kn tJ_8 j_7 kB) hj))
                  clear hP hD
                  obtain ⟨hP, hD⟩ := hPD
                  refine lv_iinc (v := nI (j_7 + 1)) (lv' := [(5, .int (nI (j_7 + 1))), (4, .int (xC_9 + 1)), (6, .int (zgr ((T_kn tJ_8 kI kB) / 2) (zgd tJ_8 j_7 kB))), (0, .ref qm), (1, .int (nI kI)), (2, .int (nI kB)), (3, .int iS)]) hx hb dX6_readsTo_125 hl (k := 2) rfl (nI_1 _) (by decide) rfl (fun ls => ?_)
                  clear hl
                  intro hl
                  refine lv_goto (tgt := 12) hx hb dX6_readsTo_128 (by decide) ?_
                  exact ih_6 (j_7 + 1) (T_setkn tJ_8 (updM (T_kn tJ_8) j_7 kB (T_kn tJ_8 j_7 kB))) (xC_9 + 1) (by omega) (by omega) (⟨TI_kn hT_11.1 (hT_11.1.2.1 _ _), hT_11.2⟩) _ _ _ hP hD hS (lv_sub hl [0, 1, 3, 4, 5, 6] rfl)
                · refine lv_iload hx hb dX6_readsTo_110 (lv_at hl 1 rfl) ?_
                  refine lv_goto (tgt := 124) hx hb dX6_readsTo_112 (by decide) ?_
                  refine va_iast hx hb hK hP hD hS (20 + j_7) 0 ((sg8 (n0 := 20) (f := (fun j => zzI cy (rK j) 8 (T_kn tJ_8 j))) rfl rfl rfl rfl rfl rfl rfl rfl) j_7 (by omega)) rfl (vp_in_nI (by omega) (by omega)) dX6_readsTo_124 (fun H locs => ?_)
                  clear hP hD hS
                  intro hP hD hS
                  rw [nI_clamp (n := kB) (by omega)] at hP hD
                  have hPD := st8PD (ws' := [zzO qm 5 [v0, v1, v2, v3, v4, v5, v6, v7, v8, v9, .int (nI (T_nb (T_setkn tJ_8 (updM (T_kn tJ_8) j_7 kB (zgr ((T_kn tJ_8 kI kB) / 2) (zgd tJ_8 j_7 kB)))))), .ref qmB, .int (nI (T_np (T_setkn tJ_8 (updM (T_kn tJ_8) j_7 kB (zgr ((T_kn tJ_8 kI kB) / 2) (zgd tJ_8 j_7 kB)))))), .ref qmO, .ref qmK, .int iEn, .int iTk, .int (T_sd (T_setkn tJ_8 (updM (T_kn tJ_8) j_7 kB (zgr ((T_kn tJ_8 kI kB) / 2) (zgd tJ_8 j_7 kB))))), v18, v19, v20, v21, v22, v23, v24, v25, v26, .int iLv, .int iWs, v29, v30, v31, v32, v33, v34], zzG cy 3 qmB rB, zzI cy (rB 0) 4 (bkR (T_setkn tJ_8 (updM (T_kn tJ_8) j_7 kB (zgr ((T_kn tJ_8 kI kB) / 2) (zgd tJ_8 j_7 kB)))) 0), zzI cy (rB 1) 4 (bkR (T_setkn tJ_8 (updM (T_kn tJ_8) j_7 kB (zgr ((T_kn tJ_8 kI kB) / 2) (zgd tJ_8 j_7 kB)))) 1), zzI cy (rB 2) 4 (bkR (T_setkn tJ_8 (updM (T_kn tJ_8) j_7 kB (zgr ((T_kn tJ_8 kI kB) / 2) (zgd tJ_8 j_7 kB)))) 2), zzI cy (rB 3) 4 (bkR (T_setkn tJ_8 (updM (T_kn tJ_8) j_7 kB (zgr ((T_kn tJ_8 kI kB) / 2) (zgd tJ_8 j_7 kB)))) 3), zzI cy (rB 4) 4 (bkR (T_setkn tJ_8 (updM (T_kn tJ_8) j_7 kB (zgr ((T_kn tJ_8 kI kB) / 2) (zgd tJ_8 j_7 kB)))) 4), zzI cy (rB 5) 4 (bkR (T_setkn tJ_8 (updM (T_kn tJ_8) j_7 kB (zgr ((T_kn tJ_8 kI kB) / 2) (zgd tJ_8 j_7 kB)))) 5), zzI cy (rB 6) 4 (bkR (T_setkn tJ_8 (updM (T_kn tJ_8) j_7 kB (zgr ((T_kn tJ_8 kI kB) / 2) (zgd tJ_8 j_7 kB)))) 6), zzI cy (rB 7) 4 (bkR (T_setkn tJ_8 (updM (T_kn tJ_8) j_7 kB (zgr ((T_kn tJ_8 kI kB) / 2) (zgd tJ_8 j_7 kB)))) 7), zzG cy 3 qmO rO, zzI cy (rO 0) 5 (onR (T_setkn tJ_8 (updM (T_kn tJ_8) j_7 kB (zgr ((T_kn tJ_8 kI kB) / 2) (zgd tJ_8 j_7 kB)))) 0), zzI cy (rO 1) 5 (onR (T_setkn tJ_8 (updM (T_kn tJ_8) j_7 kB (zgr ((T_kn tJ_8 kI kB) / 2) (zgd tJ_8 j_7 kB)))) 1), zzI cy (rO 2) 5 (onR (T_setkn tJ_8 (updM (T_kn tJ_8) j_7 kB (zgr ((T_kn tJ_8 kI kB) / 2) (zgd tJ_8 j_7 kB)))) 2), zzI cy (rO 3) 5 (onR (T_setkn tJ_8 (updM (T_kn tJ_8) j_7 kB (zgr ((T_kn tJ_8 kI kB) / 2) (zgd tJ_8 j_7 kB)))) 3), zzI cy (rO 4) 5 (onR (T_setkn tJ_8 (updM (T_kn tJ_8) j_7 kB (zgr ((T_kn tJ_8 kI kB) / 2) (zgd tJ_8 j_7 kB)))) 4), zzI cy (rO 5) 5 (onR (T_setkn tJ_8 (updM (T_kn tJ_8) j_7 kB (zgr ((T_kn tJ_8 kI kB) / 2) (zgd tJ_8 j_7 kB)))) 5), zzI cy (rO 6) 5 (onR (T_setkn tJ_8 (updM (T_kn tJ_8) j_7 kB (zgr ((T_kn tJ_8 kI kB) / 2) (zgd tJ_8 j_7 kB)))) 6), zzI cy (rO 7) 5 (onR (T_setkn tJ_8 (updM (T_kn tJ_8) j_7 kB (zgr ((T_kn tJ_8 kI kB) / 2) (zgd tJ_8 j_7 kB)))) 7), zzG cy 3 qmK rK, zzI cy (rK 0) 8 (T_kn (T_setkn tJ_8 (updM (T_kn tJ_8) j_7 kB (zgr ((T_kn tJ_8 kI kB) / 2) (zgd tJ_8 j_7 kB)))) 0), zzI cy (rK 1) 8 (T_kn (T_setkn tJ_8 (updM (T_kn tJ_8) j_7 kB (zgr ((T_kn tJ_8 kI kB) / 2) (zgd tJ_8 j_7 kB)))) 1), zzI cy (rK 2) 8 (T_kn (T_setkn tJ_8 (updM (T_kn tJ_8) j_7 kB (zgr ((T_kn tJ_8 kI kB) / 2) (zgd tJ_8 j_7 kB)))) 2), zzI cy (rK 3) 8 (T_kn (T_setkn tJ_8 (updM (T_kn tJ_8) j_7 kB (zgr ((T_kn tJ_8 kI kB) / 2) (zgd tJ_8 j_7 kB)))) 3), zzI cy (rK 4) 8 (T_kn (T_setkn tJ_8 (updM (T_kn tJ_8) j_7 kB (zgr ((T_kn tJ_8 kI kB) / 2) (zgd tJ_8 j_7 kB)))) 4), zzI cy (rK 5) 8 (T_kn (T_setkn tJ_8 (updM (T_kn tJ_8) j_7 kB (zgr ((T_kn tJ_8 kI kB) / 2) (zgd tJ_8 j_7 kB)))) 5), zzI cy (rK 6) 8 (T_kn (T_setkn tJ_8 (updM (T_kn tJ_8) j_7 kB (zgr ((T_kn tJ_8 kI kB) / 2) (zgd tJ_8 j_7 kB)))) 6), zzI cy (rK 7) 8 (T_kn (T_setkn tJ_8 (updM (T_kn tJ_8) j_7 kB (zgr ((T_kn tJ_8 kI kB) / 2) (zgd tJ_8 j_7 kB)))) 7)]) (k := j_7) (g1 := T_kn (T_setkn tJ_8 (updM (T_kn tJ_8) j_7 kB (zgr ((T_kn tJ_8 kI kB) / 2) (zgd tJ_8 j_7 kB)))) j_7) hP hD (sg8 (n0 := 20) (f := (fun j => zzI cy (rK j) 8 (T_kn tJ_8 j))) rfl rfl rfl rfl rfl rfl rfl rfl) (sg8 (n0 := 20) (f := (fun j => zzI cy (rK j) 8 (T_kn (T_setkn tJ_8 (updM (T_kn tJ_8) j_7 kB (zgr ((T_kn tJ_8 kI kB) / 2) (zgd tJ_8 j_7 kB)))) j))) rfl rfl rfl rfl rfl rfl rfl rfl) rfl rfl (by omega) rfl (fun i _ => (congrFun (kn_u tJ_8 j_7 kB (zgr ((T_kn tJ_8 kI kB) / 2) (zgd tJ_8 j_7 kB))) i).symm) (fun j hj => congrArg (zzI cy (rK j) 8) (kn_n tJ_8 j_7 kB (zgr ((T_kn tJ_8 kI kB) / 2) (zgd tJ_8 j_7 kB)) hj))
                  clear hP hD
                  obtain ⟨hP, hD⟩ := hPD
                  refine lv_iinc (v := nI (j_7 + 1)) (lv' := [(5, .int (nI (j_7 + 1))), (4, .int (xC_9 + 1)), (6, .int (zgr ((T_kn tJ_8 kI kB) / 2) (zgd tJ_8 j_7 kB))), (0, .ref qm), (1, .int (nI kI)), (2, .int (nI kB)), (3, .int iS)]) hx hb dX6_readsTo_125 hl (k := 2) rfl (nI_1 _) (by decide) rfl (fun ls => ?_)
                  clear hl
                  intro hl
                  refine lv_goto (tgt := 12) hx hb dX6_readsTo_128 (by decide) ?_
                  exact ih_6 (j_7 + 1) (T_setkn tJ_8 (updM (T_kn tJ_8) j_7 kB (zgr ((T_kn tJ_8 kI kB) / 2) (zgd tJ_8 j_7 kB)))) (xC_9 + 1) (by omega) (by omega) (⟨TI_kn hT_11.1 (r_gr (r_half (hT_11.1.2.1 _ _)) (r_gd (hT_11.1.2.1 _) _)), hT_11.2⟩) _ _ _ hP hD hS (lv_sub hl [0, 1, 3, 4, 5, 6] rfl)
          · refine lv_if_eq (tgt := 125) hx hb dX6_readsTo_33 (by decide) (fun _ => ?_) (fun h9 => absurd (by decide) h9)
            refine lv_iinc (v := nI (j_7 + 1)) (lv' := [(5, .int (nI (j_7 + 1))), (4, .int xC_9), (0, .ref qm), (1, .int (nI kI)), (2, .int (nI kB)), (3, .int iS)]) hx hb dX6_readsTo_125 hl (k := 0) rfl (nI_1 _) (by decide) rfl (fun ls => ?_)
            clear hl
            intro hl
            refine lv_goto (tgt := 12) hx hb dX6_readsTo_128 (by decide) ?_
            exact ih_6 (j_7 + 1) tJ_8 xC_9 (by omega) (by omega) hT_11 _ _ _ hP hD hS (lv_sub hl [0, 1, 2, 3, 4, 5] rfl)
  exact lp_4 ((8 - 0) + 1) 0 (rdT tA kI kB) 0 (Nat.lt_succ_self _) (Nat.zero_le _) (⟨TI_rd hTI _ _, rfl, rfl⟩) _ _ ls hP hD hS (lv_sub hl [0, 1, 2, 3, 4, 5] rfl)
set_option maxHeartbeats 4000000 in
set_option maxRecDepth 100000 in
theorem c_X6_readMost (l : Launch) (G : va_G) (cy : Nat → ClassId) (sz : Nat) (qm : Nat) (v0 : Value) (v1 : Value) (v2 : Value) (v3 : Value) (v4 : Value) (v5 : Value) (v6 : Value) (v7 : Value) (v8 : Value) (v9 : Value) (tA : TA) (qmB : Nat) (qmO : Nat) (qmK : Nat) (iEn : Int32) (iTk : Int32) (v18 : Value) (v19 : Value) (v20 : Value) (v21 : Value) (v22 : Value) (v23 : Value) (v24 : Value) (v25 : Value) (v26 : Value) (iLv : Int32) (iWs : Int32) (v29 : Value) (v30 : Value) (v31 : Value) (v32 : Value) (v33 : Value) (v34 : Value) (rB : Nat → Nat) (rO : Nat → Nat) (rK : Nat → Nat) (kM : Nat) (iL : Int32)  (hB : T_nb tA ≤ 8) (hPp : T_np tA ≤ 8) (hTI : TI tA) (hM : kM ≤ 99) : MW l yX6_readMost cX6_readMost 6 (some .int) 6 0 0 G cy [zzO qm 5 [v0, v1, v2, v3, v4, v5, v6, v7, v8, v9, .int (nI (T_nb tA)), .ref qmB, .int (nI (T_np tA)), .ref qmO, .ref qmK, .int iEn, .int iTk, .int (T_sd tA), v18, v19, v20, v21, v22, v23, v24, v25, v26, .int iLv, .int iWs, v29, v30, v31, v32, v33, v34], zzG cy 3 qmB rB, zzI cy (rB 0) 4 (bkR tA 0), zzI cy (rB 1) 4 (bkR tA 1), zzI cy (rB 2) 4 (bkR tA 2), zzI cy (rB 3) 4 (bkR tA 3), zzI cy (rB 4) 4 (bkR tA 4), zzI cy (rB 5) 4 (bkR tA 5), zzI cy (rB 6) 4 (bkR tA 6), zzI cy (rB 7) 4 (bkR tA 7), zzG cy 3 qmO rO, zzI cy (rO 0) 5 (onR tA 0), zzI cy (rO 1) 5 (onR tA 1), zzI cy (rO 2) 5 (onR tA 2), zzI cy (rO 3) 5 (onR tA 3), zzI cy (rO 4) 5 (onR tA 4), zzI cy (rO 5) 5 (onR tA 5), zzI cy (rO 6) 5 (onR tA 6), zzI cy (rO 7) 5 (onR tA 7), zzG cy 3 qmK rK, zzI cy (rK 0) 8 (T_kn tA 0), zzI cy (rK 1) 8 (T_kn tA 1), zzI cy (rK 2) 8 (T_kn tA 2), zzI cy (rK 3) 8 (T_kn tA 3), zzI cy (rK 4) 8 (T_kn tA 4), zzI cy (rK 5) 8 (T_kn tA 5), zzI cy (rK 6) 8 (T_kn tA 6), zzI cy (rK 7) 8 (T_kn tA 7)] sz [.ref qm, .int (nI kM), .int iL] (Wi G (fun r u => ∃ (tX : TA), u = [zzO qm 5 [v0, v1, v2, v3, v4, v5, v6, v7, v8, v9, .int (nI (T_nb tX)), .ref qmB, .int (nI (T_np tX)), .ref qmO, .ref qmK, .int iEn, .int iTk, .int (T_sd tX), v18, v19, v20, v21, v22, v23, v24, v25, v26, .int iLv, .int iWs, v29, v30, v31, v32, v33, v34], zzG cy 3 qmB rB, zzI cy (rB 0) 4 (bkR tX 0), zzI cy (rB 1) 4 (bkR tX 1), zzI cy (rB 2) 4 (bkR tX 2), zzI cy (rB 3) 4 (bkR tX 3), zzI cy (rB 4) 4 (bkR tX 4), zzI cy (rB 5) 4 (bkR tX 5), zzI cy (rB 6) 4 (bkR tX 6), zzI cy (rB 7) 4 (bkR tX 7), zzG cy 3 qmO rO, zzI cy (rO 0) 5 (onR tX 0), zzI cy (rO 1) 5 (onR tX 1), zzI cy (rO 2) 5 (onR tX 2), zzI cy (rO 3) 5 (onR tX 3), zzI cy (rO 4) 5 (onR tX 4), zzI cy (rO 5) 5 (onR tX 5), zzI cy (rO 6) 5 (onR tX 6), zzI cy (rO 7) 5 (onR tX 7), zzG cy 3 qmK rK, zzI cy (rK 0) 8 (T_kn tX 0), zzI cy (rK 1) 8 (T_kn tX 1), zzI cy (rK 2) 8 (T_kn tX 2), zzI cy (rK 3) 8 (T_kn tX 3), zzI cy (rK 4) 8 (T_kn tX 4), zzI cy (rK 5) 8 (T_kn tX 5), zzI cy (rK 6) 8 (T_kn tX 6), zzI cy (rK 7) 8 (T_kn tX 7)] ∧ (TI tX ∧ T_nb tX = T_nb tA ∧ T_np tX = T_np tA) ∧ (True))) := by
  refine enW RX6 (by decide) rfl (Nat.le_of_ble_eq_true rfl) (fun p e s m below meth c ls A hx hb hml hown hts hr hlocks hP hN hl hin hD hA hS => ?_)
  have hin : meth.name = _ := hin
  have hK := hN.1
  replace hl : lv_has ls 6 [(0, .ref qm), (1, .int (nI kM)), (2, .int iL)] := hl
  refine lv_iconst (v := 0) hx hb dX6_readMost_0 (by decide) ?_
  refine lv_istore_n (lv' := [(3, .int 0), (0, .ref qm), (1, .int (nI kM)), (2, .int iL)]) hx hb dX6_readMost_1 rfl hl (by decide) rfl (fun ls => ?_)
  clear hl
  intro hl
  have lp_1 : ∀ (n_2 : Nat) (j_4 : Nat) (tJ_5 : TA), 99 - j_4 < n_2 → j_4 ≤ kM → TI tJ_5 ∧ T_nb tJ_5 = T_nb tA ∧ T_np tJ_5 = T_np tA → ∀ (H : Heap) (locs : List Loc) (ls : Array Slot), va_P G CL [zzO qm 5 [v0, v1, v2, v3, v4, v5, v6, v7, v8, v9, .int (nI (T_nb tJ_5)), .ref qmB, .int (nI (T_np tJ_5)), .ref qmO, .ref qmK, .int iEn, .int iTk, .int (T_sd tJ_5), v18, v19, v20, v21, v22, v23, v24, v25, v26, .int iLv, .int iWs, v29, v30, v31, v32, v33, v34], zzG cy 3 qmB rB, zzI cy (rB 0) 4 (bkR tJ_5 0), zzI cy (rB 1) 4 (bkR tJ_5 1), zzI cy (rB 2) 4 (bkR tJ_5 2), zzI cy (rB 3) 4 (bkR tJ_5 3), zzI cy (rB 4) 4 (bkR tJ_5 4), zzI cy (rB 5) 4 (bkR tJ_5 5), zzI cy (rB 6) 4 (bkR tJ_5 6), zzI cy (rB 7) 4 (bkR tJ_5 7), zzG cy 3 qmO rO, zzI cy (rO 0) 5 (onR tJ_5 0), zzI cy (rO 1) 5 (onR tJ_5 1), zzI cy (rO 2) 5 (onR tJ_5 2), zzI cy (rO 3) 5 (onR tJ_5 3), zzI cy (rO 4) 5 (onR tJ_5 4), zzI cy (rO 5) 5 (onR tJ_5 5), zzI cy (rO 6) 5 (onR tJ_5 6), zzI cy (rO 7) 5 (onR tJ_5 7), zzG cy 3 qmK rK, zzI cy (rK 0) 8 (T_kn tJ_5 0), zzI cy (rK 1) 8 (T_kn tJ_5 1), zzI cy (rK 2) 8 (T_kn tJ_5 2), zzI cy (rK 3) 8 (T_kn tJ_5 3), zzI cy (rK 4) 8 (T_kn tJ_5 4), zzI cy (rK 5) 8 (T_kn tJ_5 5), zzI cy (rK 6) 8 (T_kn tJ_5 6), zzI cy (rK 7) 8 (T_kn tJ_5 7)] H → va_D A [zzO qm 5 [v0, v1, v2, v3, v4, v5, v6, v7, v8, v9, .int (nI (T_nb tJ_5)), .ref qmB, .int (nI (T_np tJ_5)), .ref qmO, .ref qmK, .int iEn, .int iTk, .int (T_sd tJ_5), v18, v19, v20, v21, v22, v23, v24, v25, v26, .int iLv, .int iWs, v29, v30, v31, v32, v33, v34], zzG cy 3 qmB rB, zzI cy (rB 0) 4 (bkR tJ_5 0), zzI cy (rB 1) 4 (bkR tJ_5 1), zzI cy (rB 2) 4 (bkR tJ_5 2), zzI cy (rB 3) 4 (bkR tJ_5 3), zzI cy (rB 4) 4 (bkR tJ_5 4), zzI cy (rB 5) 4 (bkR tJ_5 5), zzI cy (rB 6) 4 (bkR tJ_5 6), zzI cy (rB 7) 4 (bkR tJ_5 7), zzG cy 3 qmO rO, zzI cy (rO 0) 5 (onR tJ_5 0), zzI cy (rO 1) 5 (onR tJ_5 1), zzI cy (rO 2) 5 (onR tJ_5 2), zzI cy (rO 3) 5 (onR tJ_5 3), zzI cy (rO 4) 5 (onR tJ_5 4), zzI cy (rO 5) 5 (onR tJ_5 5), zzI cy (rO 6) 5 (onR tJ_5 6), zzI cy (rO 7) 5 (onR tJ_5 7), zzG cy 3 qmK rK, zzI cy (rK 0) 8 (T_kn tJ_5 0), zzI cy (rK 1) 8 (T_kn tJ_5 1), zzI cy (rK 2) 8 (T_kn tJ_5 2), zzI cy (rK 3) 8 (T_kn tJ_5 3), zzI cy (rK 4) 8 (T_kn tJ_5 4), zzI cy (rK 5) 8 (T_kn tJ_5 5), zzI cy (rK 6) 8 (T_kn tJ_5 6), zzI cy (rK 7) 8 (T_kn tJ_5 7)] → va_S A s.heap H locs → lv_has ls 6 [(3, .int (nI j_4)), (0, .ref qm), (1, .int (nI kM)), (2, .int iL)] → W p l e (Rm 6 0 0) s m (List.toArray (α := Value) [.ref qm, .int (nI kM), .int iL]) below meth c H locs 0 0 (MQ below ((Wi G (fun r u => ∃ (tX : TA), u = [zzO qm 5 [v0, v1, v2, v3, v4, v5, v6, v7, v8, v9, .int (nI (T_nb tX)), .ref qmB, .int (nI (T_np tX)), .ref qmO, .ref qmK, .int iEn, .int iTk, .int (T_sd tX), v18, v19, v20, v21, v22, v23, v24, v25, v26, .int iLv, .int iWs, v29, v30, v31, v32, v33, v34], zzG cy 3 qmB rB, zzI cy (rB 0) 4 (bkR tX 0), zzI cy (rB 1) 4 (bkR tX 1), zzI cy (rB 2) 4 (bkR tX 2), zzI cy (rB 3) 4 (bkR tX 3), zzI cy (rB 4) 4 (bkR tX 4), zzI cy (rB 5) 4 (bkR tX 5), zzI cy (rB 6) 4 (bkR tX 6), zzI cy (rB 7) 4 (bkR tX 7), zzG cy 3 qmO rO, zzI cy (rO 0) 5 (onR tX 0), zzI cy (rO 1) 5 (onR tX 1), zzI cy (rO 2) 5 (onR tX 2), zzI cy (rO 3) 5 (onR tX 3), zzI cy (rO 4) 5 (onR tX 4), zzI cy (rO 5) 5 (onR tX 5), zzI cy (rO 6) 5 (onR tX 6), zzI cy (rO 7) 5 (onR tX 7), zzG cy 3 qmK rK, zzI cy (rK 0) 8 (T_kn tX 0), zzI cy (rK 1) 8 (T_kn tX 1), zzI cy (rK 2) 8 (T_kn tX 2), zzI cy (rK 3) 8 (T_kn tX 3), zzI cy (rK 4) 8 (T_kn tX 4), zzI cy (rK 5) 8 (T_kn tX 5), zzI cy (rK 6) 8 (T_kn tX 6), zzI cy (rK 7) 8 (T_kn tX 7)] ∧ (TI tX ∧ T_nb tX = T_nb tA ∧ T_np tX = T_np tA) ∧ (True))) A) (List.toArray (α := Value) [.ref qm, .int (nI kM), .int iL]) s 0 0 A) (F0 m 2 ls []) := by
    intro n_2
    induction n_2 with
    | zero => intro j_4 tJ_5 hm9; exact absurd hm9 (Nat.not_lt_zero _)
    | succ n_2 ih_3 =>
      intro j_4 tJ_5 hm_8 hj_6 hT_7 H locs ls hP hD hS hl
      refine lv_iload_n hx hb dX6_readMost_2 rfl (lv_at hl 0 rfl) ?_
      refine lv_iload_n hx hb dX6_readMost_3 rfl (lv_at hl 2 rfl) ?_
      refine lv_icmp_ge (tgt := 123) hx hb dX6_readMost_4 (by decide) (fun c_9 => ?_) (fun c_9 => ?_)
      · refine lv_iload_n hx hb dX6_readMost_123 rfl (lv_at hl 0 rfl) ?_
        exact endW (u := [zzO qm 5 [v0, v1, v2, v3, v4, v5, v6, v7, v8, v9, .int (nI (T_nb tJ_5)), .ref qmB, .int (nI (T_np tJ_5)), .ref qmO, .ref qmK, .int iEn, .int iTk, .int (T_sd tJ_5), v18, v19, v20, v21, v22, v23, v24, v25, v26, .int iLv, .int iWs, v29, v30, v31, v32, v33, v34], zzG cy 3 qmB rB, zzI cy (rB 0) 4 (bkR tJ_5 0), zzI cy (rB 1) 4 (bkR tJ_5 1), zzI cy (rB 2) 4 (bkR tJ_5 2), zzI cy (rB 3) 4 (bkR tJ_5 3), zzI cy (rB 4) 4 (bkR tJ_5 4), zzI cy (rB 5) 4 (bkR tJ_5 5), zzI cy (rB 6) 4 (bkR tJ_5 6), zzI cy (rB 7) 4 (bkR tJ_5 7), zzG cy 3 qmO rO, zzI cy (rO 0) 5 (onR tJ_5 0), zzI cy (rO 1) 5 (onR tJ_5 1), zzI cy (rO 2) 5 (onR tJ_5 2), zzI cy (rO 3) 5 (onR tJ_5 3), zzI cy (rO 4) 5 (onR tJ_5 4), zzI cy (rO 5) 5 (onR tJ_5 5), zzI cy (rO 6) 5 (onR tJ_5 6), zzI cy (rO 7) 5 (onR tJ_5 7), zzG cy 3 qmK rK, zzI cy (rK 0) 8 (T_kn tJ_5 0), zzI cy (rK 1) 8 (T_kn tJ_5 1), zzI cy (rK 2) 8 (T_kn tJ_5 2), zzI cy (rK 3) 8 (T_kn tJ_5 3), zzI cy (rK 4) 8 (T_kn tJ_5 4), zzI cy (rK 5) 8 (T_kn tJ_5 5), zzI cy (rK 6) 8 (T_kn tJ_5 6), zzI cy (rK 7) 8 (T_kn tJ_5 7)]) hx hb hr hlocks rfl (hP.sub [0, 1, 2, 3, 4, 5, 6, 7, 8, 9, 10, 11, 12, 13, 14, 15, 16, 17, 18, 19, 20, 21, 22, 23, 24, 25, 26, 27] rfl) (hD.sub [0, 1, 2, 3, 4, 5, 6, 7, 8, 9, 10, 11, 12, 13, 14, 15, 16, 17, 18, 19, 20, 21, 22, 23, 24, 25, 26, 27] (by decide +kernel) rfl) hS ⟨tJ_5, rfl, hT_7, trivial⟩ dX6_readMost_124
      · have hlt_11 : j_4 < kM := lp_lt rfl rfl (by omega) (by omega) c_9
        obtain ⟨hlt_11i, hlt_11b, hlt_11p⟩ := id hT_7
        refine lv_aload_n hx hb dX6_readMost_7 rfl (lv_at hl 1 rfl) ?_
        refine kRi (rV (As := []) (rest := []) (b := qm) ⟨hx, hb, hml, hown, hts⟩ (c_X6_thereMany l G cy qm v0 v1 v2 v3 v4 v5 v6 v7 v8 v9 tJ_5 qmB qmO qmK iEn iTk v18 v19 v20 v21 v22 v23 v24 v25 v26 iLv iWs v29 v30 v31 v32 v33 v34 rO (by first | omega | (simp only [nb_sr, np_sr, nb_wr, np_wr, nb_rd, np_rd, nb_ch, np_ch, nb_zr, np_zr, nb_za, np_za, nb_ey, np_ey, nb_hf, np_hf, nb_dd, np_dd, nb_so, np_so, nb_skn, np_skn, nb_swh, np_swh, nb_sgn, np_sgn, nb_ssd, np_ssd, nb_sgo, np_sgo, nb_sag, np_sag]; omega))) L_X6_275 (preRV (q := (RX6, TX6, 35)) hN hP [0, 10, 11, 12, 13, 14, 15, 16, 17, 18] rfl 0 5 rfl rfl) rfl ⟨Nat.le_of_ble_eq_true rfl, Nat.le_of_ble_eq_true rfl⟩ hl.1 (Nat.le_of_ble_eq_true rfl) dX6_readMost_8 ⟨Nat.le_of_ble_eq_true rfl, Nat.le_of_ble_eq_true rfl⟩) (fun r_12 h_13 => ?_)
        subst h_13
        refine lv_if_le (tgt := 123) hx hb dX6_readMost_11 (by decide) (fun c_14 => ?_) (fun c_14 => ?_)
        · refine lv_iload_n hx hb dX6_readMost_123 rfl (lv_at hl 0 rfl) ?_
          exact endW (u := [zzO qm 5 [v0, v1, v2, v3, v4, v5, v6, v7, v8, v9, .int (nI (T_nb tJ_5)), .ref qmB, .int (nI (T_np tJ_5)), .ref qmO, .ref qmK, .int iEn, .int iTk, .int (T_sd tJ_5), v18, v19, v20, v21, v22, v23, v24, v25, v26, .int iLv, .int iWs, v29, v30, v31, v32, v33, v34], zzG cy 3 qmB rB, zzI cy (rB 0) 4 (bkR tJ_5 0), zzI cy (rB 1) 4 (bkR tJ_5 1), zzI cy (rB 2) 4 (bkR tJ_5 2), zzI cy (rB 3) 4 (bkR tJ_5 3), zzI cy (rB 4) 4 (bkR tJ_5 4), zzI cy (rB 5) 4 (bkR tJ_5 5), zzI cy (rB 6) 4 (bkR tJ_5 6), zzI cy (rB 7) 4 (bkR tJ_5 7), zzG cy 3 qmO rO, zzI cy (rO 0) 5 (onR tJ_5 0), zzI cy (rO 1) 5 (onR tJ_5 1), zzI cy (rO 2) 5 (onR tJ_5 2), zzI cy (rO 3) 5 (onR tJ_5 3), zzI cy (rO 4) 5 (onR tJ_5 4), zzI cy (rO 5) 5 (onR tJ_5 5), zzI cy (rO 6) 5 (onR tJ_5 6), zzI cy (rO 7) 5 (onR tJ_5 7), zzG cy 3 qmK rK, zzI cy (rK 0) 8 (T_kn tJ_5 0), zzI cy (rK 1) 8 (T_kn tJ_5 1), zzI cy (rK 2) 8 (T_kn tJ_5 2), zzI cy (rK 3) 8 (T_kn tJ_5 3), zzI cy (rK 4) 8 (T_kn tJ_5 4), zzI cy (rK 5) 8 (T_kn tJ_5 5), zzI cy (rK 6) 8 (T_kn tJ_5 6), zzI cy (rK 7) 8 (T_kn tJ_5 7)]) hx hb hr hlocks rfl (hP.sub [0, 1, 2, 3, 4, 5, 6, 7, 8, 9, 10, 11, 12, 13, 14, 15, 16, 17, 18, 19, 20, 21, 22, 23, 24, 25, 26, 27] rfl) (hD.sub [0, 1, 2, 3, 4, 5, 6, 7, 8, 9, 10, 11, 12, 13, 14, 15, 16, 17, 18, 19, 20, 21, 22, 23, 24, 25, 26, 27] (by decide +kernel) rfl) hS ⟨tJ_5, rfl, hT_7, trivial⟩ dX6_readMost_124
        · refine lv_iconst (v := (-1)) hx hb dX6_readMost_14 (by decide) ?_
          refine lv_istore (lv' := [(4, .int (-1)), (3, .int (nI j_4)), (0, .ref qm), (1, .int (nI kM)), (2, .int iL)]) hx hb dX6_readMost_15 hl (by decide) rfl (fun ls => ?_)
          clear hl
          intro hl
          refine lv_iconst (v := 0) hx hb dX6_readMost_17 (by decide) ?_
          refine lv_istore (lv' := [(5, .int 0), (4, .int (-1)), (3, .int (nI j_4)), (0, .ref qm), (1, .int (nI kM)), (2, .int iL)]) hx hb dX6_readMost_18 hl (by decide) rfl (fun ls => ?_)
          clear hl
          intro hl
          have lp_15 : ∀ (n_16 : Nat) (m_18 : Nat) (xB_19 : Int32), 8 - m_18 < n_16 → m_18 ≤ T_nb tA → xB_19 = duF tJ_5 m_18 → ∀ (H : Heap) (locs : List Loc) (ls : Array Slot), va_P G CL [zzO qm 5 [v0, v1, v2, v3, v4, v5, v6, v7, v8, v9, .int (nI (T_nb tJ_5)), .ref qmB, .int (nI (T_np tJ_5)), .ref qmO, .ref qmK, .int iEn, .int iTk, .int (T_sd tJ_5), v18, v19, v20, v21, v22, v23, v24, v25, v26, .int iLv, .int iWs, v29, v30, v31, v32, v33, v34], zzG cy 3 qmB rB, zzI cy (rB 0) 4 (bkR tJ_5 0), zzI cy (rB 1) 4 (bkR tJ_5 1), zzI cy (rB 2) 4 (bkR tJ_5 2), zzI cy (rB 3) 4 (bkR tJ_5 3), zzI cy (rB 4) 4 (bkR tJ_5 4), zzI cy (rB 5) 4 (bkR tJ_5 5), zzI cy (rB 6) 4 (bkR tJ_5 6), zzI cy (rB 7) 4 (bkR tJ_5 7), zzG cy 3 qmO rO, zzI cy (rO 0) 5 (onR tJ_5 0), zzI cy (rO 1) 5 (onR tJ_5 1), zzI cy (rO 2) 5 (onR tJ_5 2), zzI cy (rO 3) 5 (onR tJ_5 3), zzI cy (rO 4) 5 (onR tJ_5 4), zzI cy (rO 5) 5 (onR tJ_5 5), zzI cy (rO 6) 5 (onR tJ_5 6), zzI cy (rO 7) 5 (onR tJ_5 7), zzG cy 3 qmK rK, zzI cy (rK 0) 8 (T_kn tJ_5 0), zzI cy (rK 1) 8 (T_kn tJ_5 1), zzI cy (rK 2) 8 (T_kn tJ_5 2), zzI cy (rK 3) 8 (T_kn tJ_5 3), zzI cy (rK 4) 8 (T_kn tJ_5 4), zzI cy (rK 5) 8 (T_kn tJ_5 5), zzI cy (rK 6) 8 (T_kn tJ_5 6), zzI cy (rK 7) 8 (T_kn tJ_5 7)] H → va_D A [zzO qm 5 [v0, v1, v2, v3, v4, v5, v6, v7, v8, v9, .int (nI (T_nb tJ_5)), .ref qmB, .int (nI (T_np tJ_5)), .ref qmO, .ref qmK, .int iEn, .int iTk, .int (T_sd tJ_5), v18, v19, v20, v21, v22, v23, v24, v25, v26, .int iLv, .int iWs, v29, v30, v31, v32, v33, v34], zzG cy 3 qmB rB, zzI cy (rB 0) 4 (bkR tJ_5 0), zzI cy (rB 1) 4 (bkR tJ_5 1), zzI cy (rB 2) 4 (bkR tJ_5 2), zzI cy (rB 3) 4 (bkR tJ_5 3), zzI cy (rB 4) 4 (bkR tJ_5 4), zzI cy (rB 5) 4 (bkR tJ_5 5), zzI cy (rB 6) 4 (bkR tJ_5 6), zzI cy (rB 7) 4 (bkR tJ_5 7), zzG cy 3 qmO rO, zzI cy (rO 0) 5 (onR tJ_5 0), zzI cy (rO 1) 5 (onR tJ_5 1), zzI cy (rO 2) 5 (onR tJ_5 2), zzI cy (rO 3) 5 (onR tJ_5 3), zzI cy (rO 4) 5 (onR tJ_5 4), zzI cy (rO 5) 5 (onR tJ_5 5), zzI cy (rO 6) 5 (onR tJ_5 6), zzI cy (rO 7) 5 (onR tJ_5 7), zzG cy 3 qmK rK, zzI cy (rK 0) 8 (T_kn tJ_5 0), zzI cy (rK 1) 8 (T_kn tJ_5 1), zzI cy (rK 2) 8 (T_kn tJ_5 2), zzI cy (rK 3) 8 (T_kn tJ_5 3), zzI cy (rK 4) 8 (T_kn tJ_5 4), zzI cy (rK 5) 8 (T_kn tJ_5 5), zzI cy (rK 6) 8 (T_kn tJ_5 6), zzI cy (rK 7) 8 (T_kn tJ_5 7)] → va_S A s.heap H locs → lv_has ls 6 [(5, .int (nI m_18)), (4, .int xB_19), (3, .int (nI j_4)), (0, .ref qm), (1, .int (nI kM)), (2, .int iL)] → W p l e (Rm 6 0 0) s m (List.toArray (α := Value) [.ref qm, .int (nI kM), .int iL]) below meth c H locs 0 0 (MQ below ((Wi G (fun r u => ∃ (tX : TA), u = [zzO qm 5 [v0, v1, v2, v3, v4, v5, v6, v7, v8, v9, .int (nI (T_nb tX)), .ref qmB, .int (nI (T_np tX)), .ref qmO, .ref qmK, .int iEn, .int iTk, .int (T_sd tX), v18, v19, v20, v21, v22, v23, v24, v25, v26, .int iLv, .int iWs, v29, v30, v31, v32, v33, v34], zzG cy 3 qmB rB, zzI cy (rB 0) 4 (bkR tX 0), zzI cy (rB 1) 4 (bkR tX 1), zzI cy (rB 2) 4 (bkR tX 2), zzI cy (rB 3) 4 (bkR tX 3), zzI cy (rB 4) 4 (bkR tX 4), zzI cy (rB 5) 4 (bkR tX 5), zzI cy (rB 6) 4 (bkR tX 6), zzI cy (rB 7) 4 (bkR tX 7), zzG cy 3 qmO rO, zzI cy (rO 0) 5 (onR tX 0), zzI cy (rO 1) 5 (onR tX 1), zzI cy (rO 2) 5 (onR tX 2), zzI cy (rO 3) 5 (onR tX 3), zzI cy (rO 4) 5 (onR tX 4), zzI cy (rO 5) 5 (onR tX 5), zzI cy (rO 6) 5 (onR tX 6), zzI cy (rO 7) 5 (onR tX 7), zzG cy 3 qmK rK, zzI cy (rK 0) 8 (T_kn tX 0), zzI cy (rK 1) 8 (T_kn tX 1), zzI cy (rK 2) 8 (T_kn tX 2), zzI cy (rK 3) 8 (T_kn tX 3), zzI cy (rK 4) 8 (T_kn tX 4), zzI cy (rK 5) 8 (T_kn tX 5), zzI cy (rK 6) 8 (T_kn tX 6), zzI cy (rK 7) 8 (T_kn tX 7)] ∧ (TI tX ∧ T_nb tX = T_nb tA ∧ T_np tX = T_np tA) ∧ (True))) A) (List.toArray (α := Value) [.ref qm, .int (nI kM), .int iL]) s 0 0 A) (F0 m 20 ls []) := by
            intro n_16
            induction n_16 with
            | zero => intro m_18 xB_19 hm9; exact absurd hm9 (Nat.not_lt_zero _)
            | succ n_16 ih_17 =>
              intro m_18 xB_19 hm_22 hm_22 hxB_21 H locs ls hP hD hS hl
              refine lv_iload hx hb dX6_readMost_20 (lv_at hl 0 rfl) ?_
              refine lv_aload_n hx hb dX6_readMost_22 rfl (lv_at hl 3 rfl) ?_
              refine va_get (D := G) (ci := 5) (v := .int (nI (T_nb tJ_5))) (C := RX6) (T := TX6) (N := 35) hx hb hts iX_X6 hown hK hP 0 rfl rfl 10 (by decide) (hts _ m_t860) (fun _ h9 => h9) rfl dX6_readMost_23 ?_
              refine lv_icmp_ge (tgt := 80) hx hb dX6_readMost_26 (by decide) (fun c_23 => ?_) (fun c_23 => ?_)
              · have hlt_24e : T_nb tJ_5 = T_nb tA := hT_7.2.1
                have hlt_24 : m_18 = T_nb tA := Nat.le_antisymm (by omega) (by rw [hlt_24e] at c_23; exact lp_ge rfl rfl (by omega) (by omega) c_23)
                refine lv_iload hx hb dX6_readMost_80 (lv_at hl 1 rfl) ?_
                refine lv_iconst (v := (-1)) hx hb dX6_readMost_82 (by decide) ?_
                refine lv_icmp_ne (tgt := 88) hx hb dX6_readMost_83 (by decide) (fun c_25 => ?_) (fun c_25 => ?_)
                · obtain ⟨k_26, hk_27, ek_28⟩ : ∃ k : Nat, k < m_18 ∧ xB_19 = nI k := by
                    rcases du_in tJ_5 m_18 with q | ⟨k, h1, h2⟩
                    · exact absurd (hxB_21.trans q) c_25
                    · exact ⟨k, h1, hxB_21.trans h2⟩
                  rw [ek_28] at hl
                  refine lv_aload_n hx hb dX6_readMost_88 rfl (lv_at hl 3 rfl) ?_
                  refine lv_aload_n hx hb dX6_readMost_89 rfl (lv_at hl 3 rfl) ?_
                  refine lv_iload hx hb dX6_readMost_90 (lv_at hl 1 rfl) ?_
                  refine kRi (rV (As := [.int (nI k_26)]) (rest := [.ref qm]) (b := qm) ⟨hx, hb, hml, hown, hts⟩ (c_X6_readerOf l G cy qm v0 v1 v2 v3 v4 v5 v6 v7 v8 v9 tJ_5 qmB qmO qmK iEn iTk v18 v19 v20 v21 v22 v23 v24 v25 v26 iLv iWs v29 v30 v31 v32 v33 v34 rB rO rK k_26 (by first | omega | (simp only [nb_sr, np_sr, nb_wr, np_wr, nb_rd, np_rd, nb_ch, np_ch, nb_zr, np_zr, nb_za, np_za, nb_ey, np_ey, nb_hf, np_hf, nb_dd, np_dd, nb_so, np_so, nb_skn, np_skn, nb_swh, np_swh, nb_sgn, np_sgn, nb_ssd, np_ssd, nb_sgo, np_sgo, nb_sag, np_sag]; omega)) (by first | omega | (simp only [nb_sr, np_sr, nb_wr, np_wr, nb_rd, np_rd, nb_ch, np_ch, nb_zr, np_zr, nb_za, np_za, nb_ey, np_ey, nb_hf, np_hf, nb_dd, np_dd, nb_so, np_so, nb_skn, np_skn, nb_swh, np_swh, nb_sgn, np_sgn, nb_ssd, np_ssd, nb_sgo, np_sgo, nb_sag, np_sag]; omega)) hlt_11i) L_X6_272 (preRV (q := (RX6, TX6, 35)) hN hP [0, 1, 2, 3, 4, 5, 6, 7, 8, 9, 10, 11, 12, 13, 14, 15, 16, 17, 18, 19, 20, 21, 22, 23, 24, 25, 26, 27] rfl 0 5 rfl rfl) rfl ⟨Nat.le_of_ble_eq_true rfl, Nat.le_of_ble_eq_true rfl⟩ hl.1 (Nat.le_of_ble_eq_true rfl) dX6_readMost_92 ⟨Nat.le_of_ble_eq_true rfl, Nat.le_of_ble_eq_true rfl⟩) (fun r_29 h_30 => ?_)
                  subst h_30
                  obtain ⟨k_31, hk_32, ek_33⟩ := br_some (b := k_26) hT_7.1 c_14
                  refine lv_seti (v := nI k_31) ek_33 ?_
                  refine lv_iload hx hb dX6_readMost_95 (lv_at hl 1 rfl) ?_
                  refine lv_iload_n hx hb dX6_readMost_97 rfl (lv_at hl 5 rfl) ?_
                  refine lv_if_eq (tgt := 112) hx hb dX6_readMost_98 (by decide) (fun c_34 => ?_) (fun c_34 => ?_)
                  · refine lv_iconst (v := 0) hx hb dX6_readMost_112 (by decide) ?_
                    refine cVi (As := [.int (nI k_31), .int (nI k_26), .int 0]) (rest := []) (b := qm) (q := (RX6, TX6, 35)) ⟨hx, hb, hml, hown, hts⟩ (c_X6_readsTo l G cy (H).size qm v0 v1 v2 v3 v4 v5 v6 v7 v8 v9 tJ_5 qmB qmO qmK iEn iTk v18 v19 v20 v21 v22 v23 v24 v25 v26 iLv iWs v29 v30 v31 v32 v33 v34 rB rO rK k_31 k_26 0 (by first | omega | (simp only [nb_sr, np_sr, nb_wr, np_wr, nb_rd, np_rd, nb_ch, np_ch, nb_zr, np_zr, nb_za, np_za, nb_ey, np_ey, nb_hf, np_hf, nb_dd, np_dd, nb_so, np_so, nb_skn, np_skn, nb_swh, np_swh, nb_sgn, np_sgn, nb_ssd, np_ssd, nb_sgo, np_sgo, nb_sag, np_sag]; omega)) (by first | omega | (simp only [nb_sr, np_sr, nb_wr, np_wr, nb_rd, np_rd, nb_ch, np_ch, nb_zr, np_zr, nb_za, np_za, nb_ey, np_ey, nb_hf, np_hf, nb_dd, np_dd, nb_so, np_so, nb_skn, np_skn, nb_swh, np_swh, nb_sgn, np_sgn, nb_ssd, np_ssd, nb_sgo, np_sgo, nb_sag, np_sag]; omega)) (by first | omega | (simp only [nb_sr, np_sr, nb_wr, np_wr, nb_rd, np_rd, nb_ch, np_ch, nb_zr, np_zr, nb_za, np_za, nb_ey, np_ey, nb_hf, np_hf, nb_dd, np_dd, nb_so, np_so, nb_skn, np_skn, nb_swh, np_swh, nb_sgn, np_sgn, nb_ssd, np_ssd, nb_sgo, np_sgo, nb_sag, np_sag]; omega)) hlt_11i) L_X6_260 hN hP hD hS hA [0, 1, 2, 3, 4, 5, 6, 7, 8, 9, 10, 11, 12, 13, 14, 15, 16, 17, 18, 19, 20, 21, 22, 23, 24, 25, 26, 27] [false, false, false, false, false, false, false, false, false, false, false, false, false, false, false, false, false, false, false, false, false, false, false, false, false, false, false, false] rfl (by decide +kernel) rfl 0 5 rfl rfl rfl ⟨Nat.le_of_ble_eq_true rfl, Nat.le_of_ble_eq_true rfl⟩ hl.1 (Nat.le_of_ble_eq_true rfl) dX6_readMost_113 ⟨Nat.le_of_ble_eq_true rfl, Nat.le_of_ble_eq_true rfl⟩ (fun r_35 u_37 H locs h_36 => ?_)
                    clear hP hD hS
                    intro hP hD hS
                    obtain ⟨tX_38, rfl, h_39, h_36⟩ := h_36
                    have hPD := pd_as [zzO qm 5 [v0, v1, v2, v3, v4, v5, v6, v7, v8, v9, .int (nI (T_nb tX_38)), .ref qmB, .int (nI (T_np tX_38)), .ref qmO, .ref qmK, .int iEn, .int iTk, .int (T_sd tX_38), v18, v19, v20, v21, v22, v23, v24, v25, v26, .int iLv, .int iWs, v29, v30, v31, v32, v33, v34], zzG cy 3 qmB rB, zzI cy (rB 0) 4 (bkR tX_38 0), zzI cy (rB 1) 4 (bkR tX_38 1), zzI cy (rB 2) 4 (bkR tX_38 2), zzI cy (rB 3) 4 (bkR tX_38 3), zzI cy (rB 4) 4 (bkR tX_38 4), zzI cy (rB 5) 4 (bkR tX_38 5), zzI cy (rB 6) 4 (bkR tX_38 6), zzI cy (rB 7) 4 (bkR tX_38 7), zzG cy 3 qmO rO, zzI cy (rO 0) 5 (onR tX_38 0), zzI cy (rO 1) 5 (onR tX_38 1), zzI cy (rO 2) 5 (onR tX_38 2), zzI cy (rO 3) 5 (onR tX_38 3), zzI cy (rO 4) 5 (onR tX_38 4), zzI cy (rO 5) 5 (onR tX_38 5), zzI cy (rO 6) 5 (onR tX_38 6), zzI cy (rO 7) 5 (onR tX_38 7), zzG cy 3 qmK rK, zzI cy (rK 0) 8 (T_kn tX_38 0), zzI cy (rK 1) 8 (T_kn tX_38 1), zzI cy (rK 2) 8 (T_kn tX_38 2), zzI cy (rK 3) 8 (T_kn tX_38 3), zzI cy (rK 4) 8 (T_kn tX_38 4), zzI cy (rK 5) 8 (T_kn tX_38 5), zzI cy (rK 6) 8 (T_kn tX_38 6), zzI cy (rK 7) 8 (T_kn tX_38 7)] hP hD rfl
                    clear hP hD
                    obtain ⟨hP, hD⟩ := hPD
                    refine lv_pop hx hb dX6_readMost_116 rfl ?_
                    refine lv_iinc (v := nI (j_4 + 1)) (lv' := [(3, .int (nI (j_4 + 1))), (5, .int (nI m_18)), (4, .int (nI k_26)), (0, .ref qm), (1, .int (nI kM)), (2, .int iL)]) hx hb dX6_readMost_117 hl (k := 2) rfl (nI_1 _) (by decide) rfl (fun ls => ?_)
                    clear hl
                    intro hl
                    refine lv_goto (tgt := 2) hx hb dX6_readMost_120 (by decide) ?_
                    exact ih_3 (j_4 + 1) tX_38 (by omega) (by omega) (⟨h_39.1, h_39.2.1.trans hT_7.2.1, h_39.2.2.trans hT_7.2.2⟩) _ _ _ hP hD hS (lv_sub hl [0, 3, 4, 5] rfl)
                  · refine lv_iconst (v := 1) hx hb dX6_readMost_101 (by decide) ?_
                    refine lv_aload_n hx hb dX6_readMost_102 rfl (lv_at hl 3 rfl) ?_
                    refine va_get (D := G) (ci := 5) (v := .int (nI (T_np tJ_5))) (C := RX6) (T := TX6) (N := 35) hx hb hts iX_X6 hown hK hP 0 rfl rfl 12 (by decide) (hts _ m_t862) (fun _ h9 => h9) rfl dX6_readMost_103 ?_
                    refine lv_ishl hx hb dX6_readMost_106 ?_
                    refine lv_iconst (v := 1) hx hb dX6_readMost_107 (by decide) ?_
                    refine lv_isub hx hb dX6_readMost_108 ?_
                    refine lv_goto (tgt := 113) hx hb dX6_readMost_109 (by decide) ?_
                    refine cVi (As := [.int (nI k_31), .int (nI k_26), .int ((1 <<< ((nI (T_np tJ_5)) &&& 31)) - 1)]) (rest := []) (b := qm) (q := (RX6, TX6, 35)) ⟨hx, hb, hml, hown, hts⟩ (c_X6_readsTo l G cy (H).size qm v0 v1 v2 v3 v4 v5 v6 v7 v8 v9 tJ_5 qmB qmO qmK iEn iTk v18 v19 v20 v21 v22 v23 v24 v25 v26 iLv iWs v29 v30 v31 v32 v33 v34 rB rO rK k_31 k_26 ((1 <<< ((nI (T_np tJ_5)) &&& 31)) - 1) (by first | omega | (simp only [nb_sr, np_sr, nb_wr, np_wr, nb_rd, np_rd, nb_ch, np_ch, nb_zr, np_zr, nb_za, np_za, nb_ey, np_ey, nb_hf, np_hf, nb_dd, np_dd, nb_so, np_so, nb_skn, np_skn, nb_swh, np_swh, nb_sgn, np_sgn, nb_ssd, np_ssd, nb_sgo, np_sgo, nb_sag, np_sag]; omega)) (by first | omega | (simp only [nb_sr, np_sr, nb_wr, np_wr, nb_rd, np_rd, nb_ch, np_ch, nb_zr, np_zr, nb_za, np_za, nb_ey, np_ey, nb_hf, np_hf, nb_dd, np_dd, nb_so, np_so, nb_skn, np_skn, nb_swh, np_swh, nb_sgn, np_sgn, nb_ssd, np_ssd, nb_sgo, np_sgo, nb_sag, np_sag]; omega)) (by first | omega | (simp only [nb_sr, np_sr, nb_wr, np_wr, nb_rd, np_rd, nb_ch, np_ch, nb_zr, np_zr, nb_za, np_za, nb_ey, np_ey, nb_hf, np_hf, nb_dd, np_dd, nb_so, np_so, nb_skn, np_skn, nb_swh, np_swh, nb_sgn, np_sgn, nb_ssd, np_ssd, nb_sgo, np_sgo, nb_sag, np_sag]; omega)) hlt_11i) L_X6_260 hN hP hD hS hA [0, 1, 2, 3, 4, 5, 6, 7, 8, 9, 10, 11, 12, 13, 14, 15, 16, 17, 18, 19, 20, 21, 22, 23, 24, 25, 26, 27] [false, false, false, false, false, false, false, false, false, false, false, false, false, false, false, false, false, false, false, false, false, false, false, false, false, false, false, false] rfl (by decide +kernel) rfl 0 5 rfl rfl rfl ⟨Nat.le_of_ble_eq_true rfl, Nat.le_of_ble_eq_true rfl⟩ hl.1 (Nat.le_of_ble_eq_true rfl) dX6_readMost_113 ⟨Nat.le_of_ble_eq_true rfl, Nat.le_of_ble_eq_true rfl⟩ (fun r_40 u_42 H locs h_41 => ?_)
                    clear hP hD hS
                    intro hP hD hS
                    obtain ⟨tX_43, rfl, h_44, h_41⟩ := h_41
                    have hPD := pd_as [zzO qm 5 [v0, v1, v2, v3, v4, v5, v6, v7, v8, v9, .int (nI (T_nb tX_43)), .ref qmB, .int (nI (T_np tX_43)), .ref qmO, .ref qmK, .int iEn, .int iTk, .int (T_sd tX_43), v18, v19, v20, v21, v22, v23, v24, v25, v26, .int iLv, .int iWs, v29, v30, v31, v32, v33, v34], zzG cy 3 qmB rB, zzI cy (rB 0) 4 (bkR tX_43 0), zzI cy (rB 1) 4 (bkR tX_43 1), zzI cy (rB 2) 4 (bkR tX_43 2), zzI cy (rB 3) 4 (bkR tX_43 3), zzI cy (rB 4) 4 (bkR tX_43 4), zzI cy (rB 5) 4 (bkR tX_43 5), zzI cy (rB 6) 4 (bkR tX_43 6), zzI cy (rB 7) 4 (bkR tX_43 7), zzG cy 3 qmO rO, zzI cy (rO 0) 5 (onR tX_43 0), zzI cy (rO 1) 5 (onR tX_43 1), zzI cy (rO 2) 5 (onR tX_43 2), zzI cy (rO 3) 5 (onR tX_43 3), zzI cy (rO 4) 5 (onR tX_43 4), zzI cy (rO 5) 5 (onR tX_43 5), zzI cy (rO 6) 5 (onR tX_43 6), zzI cy (rO 7) 5 (onR tX_43 7), zzG cy 3 qmK rK, zzI cy (rK 0) 8 (T_kn tX_43 0), zzI cy (rK 1) 8 (T_kn tX_43 1), zzI cy (rK 2) 8 (T_kn tX_43 2), zzI cy (rK 3) 8 (T_kn tX_43 3), zzI cy (rK 4) 8 (T_kn tX_43 4), zzI cy (rK 5) 8 (T_kn tX_43 5), zzI cy (rK 6) 8 (T_kn tX_43 6), zzI cy (rK 7) 8 (T_kn tX_43 7)] hP hD rfl
                    clear hP hD
                    obtain ⟨hP, hD⟩ := hPD
                    refine lv_pop hx hb dX6_readMost_116 rfl ?_
                    refine lv_iinc (v := nI (j_4 + 1)) (lv' := [(3, .int (nI (j_4 + 1))), (5, .int (nI m_18)), (4, .int (nI k_26)), (0, .ref qm), (1, .int (nI kM)), (2, .int iL)]) hx hb dX6_readMost_117 hl (k := 2) rfl (nI_1 _) (by decide) rfl (fun ls => ?_)
                    clear hl
                    intro hl
                    refine lv_goto (tgt := 2) hx hb dX6_readMost_120 (by decide) ?_
                    exact ih_3 (j_4 + 1) tX_43 (by omega) (by omega) (⟨h_44.1, h_44.2.1.trans hT_7.2.1, h_44.2.2.trans hT_7.2.2⟩) _ _ _ hP hD hS (lv_sub hl [0, 3, 4, 5] rfl)
                · refine lv_iload_n hx hb dX6_readMost_86 rfl (lv_at hl 2 rfl) ?_
                  exact endW (u := [zzO qm 5 [v0, v1, v2, v3, v4, v5, v6, v7, v8, v9, .int (nI (T_nb tJ_5)), .ref qmB, .int (nI (T_np tJ_5)), .ref qmO, .ref qmK, .int iEn, .int iTk, .int (T_sd tJ_5), v18, v19, v20, v21, v22, v23, v24, v25, v26, .int iLv, .int iWs, v29, v30, v31, v32, v33, v34], zzG cy 3 qmB rB, zzI cy (rB 0) 4 (bkR tJ_5 0), zzI cy (rB 1) 4 (bkR tJ_5 1), zzI cy (rB 2) 4 (bkR tJ_5 2), zzI cy (rB 3) 4 (bkR tJ_5 3), zzI cy (rB 4) 4 (bkR tJ_5 4), zzI cy (rB 5) 4 (bkR tJ_5 5), zzI cy (rB 6) 4 (bkR tJ_5 6), zzI cy (rB 7) 4 (bkR tJ_5 7), zzG cy 3 qmO rO, zzI cy (rO 0) 5 (onR tJ_5 0), zzI cy (rO 1) 5 (onR tJ_5 1), zzI cy (rO 2) 5 (onR tJ_5 2), zzI cy (rO 3) 5 (onR tJ_5 3), zzI cy (rO 4) 5 (onR tJ_5 4), zzI cy (rO 5) 5 (onR tJ_5 5), zzI cy (rO 6) 5 (onR tJ_5 6), zzI cy (rO 7) 5 (onR tJ_5 7), zzG cy 3 qmK rK, zzI cy (rK 0) 8 (T_kn tJ_5 0), zzI cy (rK 1) 8 (T_kn tJ_5 1), zzI cy (rK 2) 8 (T_kn tJ_5 2), zzI cy (rK 3) 8 (T_kn tJ_5 3), zzI cy (rK 4) 8 (T_kn tJ_5 4), zzI cy (rK 5) 8 (T_kn tJ_5 5), zzI cy (rK 6) 8 (T_kn tJ_5 6), zzI cy (rK 7) 8 (T_kn tJ_5 7)]) hx hb hr hlocks rfl (hP.sub [0, 1, 2, 3, 4, 5, 6, 7, 8, 9, 10, 11, 12, 13, 14, 15, 16, 17, 18, 19, 20, 21, 22, 23, 24, 25, 26, 27] rfl) (hD.sub [0, 1, 2, 3, 4, 5, 6, 7, 8, 9, 10, 11, 12, 13, 14, 15, 16, 17, 18, 19, 20, 21, 22, 23, 24, 25, 26, 27] (by decide +kernel) rfl) hS ⟨tJ_5, rfl, hT_7, trivial⟩ dX6_readMost_87
              · have hlt_45e : T_nb tJ_5 = T_nb tA := hT_7.2.1
                have hlt_45 : m_18 < T_nb tA := by rw [hlt_45e] at c_23; exact lp_lt rfl rfl (by omega) (by omega) c_23
                refine lv_aload_n hx hb dX6_readMost_29 rfl (lv_at hl 3 rfl) ?_
                refine lv_iload hx hb dX6_readMost_30 (lv_at hl 0 rfl) ?_
                refine kRi (rV (As := [.int (nI m_18)]) (rest := []) (b := qm) ⟨hx, hb, hml, hown, hts⟩ (c_X6_isWhite l G cy qm v0 v1 v2 v3 v4 v5 v6 v7 v8 v9 tJ_5 qmB qmO qmK iEn iTk v18 v19 v20 v21 v22 v23 v24 v25 v26 iLv iWs v29 v30 v31 v32 v33 v34 rB m_18 (by first | omega | (simp only [nb_sr, np_sr, nb_wr, np_wr, nb_rd, np_rd, nb_ch, np_ch, nb_zr, np_zr, nb_za, np_za, nb_ey, np_ey, nb_hf, np_hf, nb_dd, np_dd, nb_so, np_so, nb_skn, np_skn, nb_swh, np_swh, nb_sgn, np_sgn, nb_ssd, np_ssd, nb_sgo, np_sgo, nb_sag, np_sag]; omega))) L_X6_248 (preRV (q := (RX6, TX6, 35)) hN hP [0, 1, 2, 3, 4, 5, 6, 7, 8, 9] rfl 0 5 rfl rfl) rfl ⟨Nat.le_of_ble_eq_true rfl, Nat.le_of_ble_eq_true rfl⟩ hl.1 (Nat.le_of_ble_eq_true rfl) dX6_readMost_32 ⟨Nat.le_of_ble_eq_true rfl, Nat.le_of_ble_eq_true rfl⟩) (fun r_46 h_47 => ?_)
                rcases h_47 with ⟨rfl, h_48⟩ | ⟨rfl, h_48⟩
                · refine lv_if_ne (tgt := 70) hx hb dX6_readMost_35 (by decide) (fun _ => ?_) (fun h9 => absurd h9 (by decide))
                  refine lv_iload hx hb dX6_readMost_70 (lv_at hl 1 rfl) ?_
                  refine lv_istore (lv' := [(4, .int xB_19), (5, .int (nI m_18)), (3, .int (nI j_4)), (0, .ref qm), (1, .int (nI kM)), (2, .int iL)]) hx hb dX6_readMost_72 hl (by decide) rfl (fun ls => ?_)
                  clear hl
                  intro hl
                  refine lv_iinc (v := nI (m_18 + 1)) (lv' := [(5, .int (nI (m_18 + 1))), (4, .int xB_19), (3, .int (nI j_4)), (0, .ref qm), (1, .int (nI kM)), (2, .int iL)]) hx hb dX6_readMost_74 hl (k := 1) rfl (nI_1 _) (by decide) rfl (fun ls => ?_)
                  clear hl
                  intro hl
                  refine lv_goto (tgt := 20) hx hb dX6_readMost_77 (by decide) ?_
                  exact ih_17 (m_18 + 1) xB_19 (by omega) (by omega) (by rw [du_skip (fun q => by rw [h_48] at q; exact absurd q.1 (by decide))]; exact hxB_21) _ _ _ hP hD hS (lv_sub hl [0, 1, 2, 3, 4, 5] rfl)
                · refine lv_if_ne (tgt := 70) hx hb dX6_readMost_35 (by decide) (fun h9 => absurd (by decide) h9) (fun _ => ?_)
                  refine lv_iload hx hb dX6_readMost_38 (lv_at hl 1 rfl) ?_
                  refine lv_iconst (v := (-1)) hx hb dX6_readMost_40 (by decide) ?_
                  refine lv_icmp_eq (tgt := 65) hx hb dX6_readMost_41 (by decide) (fun c_51 => ?_) (fun c_51 => ?_)
                  · refine lv_iload hx hb dX6_readMost_65 (lv_at hl 0 rfl) ?_
                    refine lv_goto (tgt := 72) hx hb dX6_readMost_67 (by decide) ?_
                    refine lv_istore (lv' := [(4, .int (nI m_18)), (5, .int (nI m_18)), (3, .int (nI j_4)), (0, .ref qm), (1, .int (nI kM)), (2, .int iL)]) hx hb dX6_readMost_72 hl (by decide) rfl (fun ls => ?_)
                    clear hl
                    intro hl
                    refine lv_iinc (v := nI (m_18 + 1)) (lv' := [(5, .int (nI (m_18 + 1))), (4, .int (nI m_18)), (3, .int (nI j_4)), (0, .ref qm), (1, .int (nI kM)), (2, .int iL)]) hx hb dX6_readMost_74 hl (k := 1) rfl (nI_1 _) (by decide) rfl (fun ls => ?_)
                    clear hl
                    intro hl
                    refine lv_goto (tgt := 20) hx hb dX6_readMost_77 (by decide) ?_
                    exact ih_17 (m_18 + 1) (nI m_18) (by omega) (by omega) (by rw [du_upd ⟨h_48, Or.inl (hxB_21 ▸ c_51)⟩]) _ _ _ hP hD hS (lv_sub hl [0, 1, 2, 3, 4, 5] rfl)
                  · obtain ⟨k_52, hk_53, ek_54⟩ : ∃ k : Nat, k < m_18 ∧ xB_19 = nI k := by
                      rcases du_in tJ_5 m_18 with q | ⟨k, h1, h2⟩
                      · exact absurd (hxB_21.trans q) c_51
                      · exact ⟨k, h1, hxB_21.trans h2⟩
                    rw [ek_54] at hl
                    refine lv_aload_n hx hb dX6_readMost_44 rfl (lv_at hl 3 rfl) ?_
                    refine va_get (D := G) (ci := 5) (v := .ref qmB) (C := RX6) (T := TX6) (N := 35) hx hb hts iX_X6 hown hK hP 0 rfl rfl 11 (by decide) (hts _ m_t861) (fun _ h9 => h9) rfl dX6_readMost_45 ?_
                    refine lv_iload hx hb dX6_readMost_48 (lv_at hl 0 rfl) ?_
                    refine va_alda hx hb hK hP 1 3 rfl rfl (in8 (by omega)) dX6_readMost_50 ?_
                    refine lv_setv (v := .ref (rB m_18)) (g_ref (by omega)) ?_
                    refine lv_iconst (v := 0) hx hb dX6_readMost_51 (by decide) ?_
                    refine va_iald hx hb hK hP (2 + m_18) 0 (sg8 (n0 := 2) (f := (fun j => zzI cy (rB j) 4 (bkR tJ_5 j))) rfl rfl rfl rfl rfl rfl rfl rfl m_18 (by omega)) rfl (in_c rfl) dX6_readMost_52 ?_
                    refine lv_seti (v := T_wo tJ_5 m_18) (bk_0 _ _) ?_
                    refine lv_aload_n hx hb dX6_readMost_53 rfl (lv_at hl 3 rfl) ?_
                    refine va_get (D := G) (ci := 5) (v := .ref qmB) (C := RX6) (T := TX6) (N := 35) hx hb hts iX_X6 hown hK hP 0 rfl rfl 11 (by decide) (hts _ m_t861) (fun _ h9 => h9) rfl dX6_readMost_54 ?_
                    refine lv_iload hx hb dX6_readMost_57 (lv_at hl 1 rfl) ?_
                    refine va_alda hx hb hK hP 1 3 rfl rfl (in8 (by omega)) dX6_readMost_59 ?_
                    refine lv_setv (v := .ref (rB k_52)) (g_ref (by omega)) ?_
                    refine lv_iconst (v := 0) hx hb dX6_readMost_60 (by decide) ?_
                    refine va_iald hx hb hK hP (2 + k_52) 0 (sg8 (n0 := 2) (f := (fun j => zzI cy (rB j) 4 (bkR tJ_5 j))) rfl rfl rfl rfl rfl rfl rfl rfl k_52 (by omega)) rfl (in_c rfl) dX6_readMost_61 ?_
                    refine lv_seti (v := T_wo tJ_5 k_52) (bk_0 _ _) ?_
                    refine lv_icmp_le (tgt := 70) hx hb dX6_readMost_62 (by decide) (fun c_55 => ?_) (fun c_55 => ?_)
                    · refine lv_iload hx hb dX6_readMost_70 (lv_at hl 1 rfl) ?_
                      refine lv_istore (lv' := [(4, .int (nI k_52)), (5, .int (nI m_18)), (3, .int (nI j_4)), (0, .ref qm), (1, .int (nI kM)), (2, .int iL)]) hx hb dX6_readMost_72 hl (by decide) rfl (fun ls => ?_)
                      clear hl
                      intro hl
                      refine lv_iinc (v := nI (m_18 + 1)) (lv' := [(5, .int (nI (m_18 + 1))), (4, .int (nI k_52)), (3, .int (nI j_4)), (0, .ref qm), (1, .int (nI kM)), (2, .int iL)]) hx hb dX6_readMost_74 hl (k := 1) rfl (nI_1 _) (by decide) rfl (fun ls => ?_)
                      clear hl
                      intro hl
                      refine lv_goto (tgt := 20) hx hb dX6_readMost_77 (by decide) ?_
                      exact ih_17 (m_18 + 1) (nI k_52) (by omega) (by omega) (by rw [du_skip (fun q => q.2.elim (fun r => c_51 (hxB_21.trans r)) (fun r => by rw [← hxB_21, ek_54, nI_clamp (by omega)] at r; exact Int32.not_lt.mpr c_55 r))]; exact ek_54.symm.trans hxB_21) _ _ _ hP hD hS (lv_sub hl [0, 1, 2, 3, 4, 5] rfl)
                    · refine lv_iload hx hb dX6_readMost_65 (lv_at hl 0 rfl) ?_
                      refine lv_goto (tgt := 72) hx hb dX6_readMost_67 (by decide) ?_
                      refine lv_istore (lv' := [(4, .int (nI m_18)), (5, .int (nI m_18)), (3, .int (nI j_4)), (0, .ref qm), (1, .int (nI kM)), (2, .int iL)]) hx hb dX6_readMost_72 hl (by decide) rfl (fun ls => ?_)
                      clear hl
                      intro hl
                      refine lv_iinc (v := nI (m_18 + 1)) (lv' := [(5, .int (nI (m_18 + 1))), (4, .int (nI m_18)), (3, .int (nI j_4)), (0, .ref qm), (1, .int (nI kM)), (2, .int iL)]) hx hb dX6_readMost_74 hl (k := 1) rfl (nI_1 _) (by decide) rfl (fun ls => ?_)
                      clear hl
                      intro hl
                      refine lv_goto (tgt := 20) hx hb dX6_readMost_77 (by decide) ?_
                      exact ih_17 (m_18 + 1) (nI m_18) (by omega) (by omega) (by rw [du_upd ⟨h_48, Or.inr (by rw [← hxB_21, ek_54, nI_clamp (by omega)]; exact Int32.not_le.mp c_55)⟩]) _ _ _ hP hD hS (lv_sub hl [0, 1, 2, 3, 4, 5] rfl)
          exact lp_15 ((8 - 0) + 1) 0 (-1) (Nat.lt_succ_self _) (Nat.zero_le _) rfl _ _ ls hP hD hS (lv_sub hl [0, 1, 2, 3, 4, 5] rfl)
  exact lp_1 ((99 - 0) + 1) 0 tA (Nat.lt_succ_self _) (Nat.zero_le _) (⟨hTI, rfl, rfl⟩) _ _ ls hP hD hS (lv_sub hl [0, 1, 2, 3] rfl)
theorem c_X6_readMost8 (l : Launch) (G : va_G) (cy : Nat → ClassId) (sz : Nat) (qm : Nat) (v0 : Value) (v1 : Value) (v2 : Value) (v3 : Value) (v4 : Value) (v5 : Value) (v6 : Value) (v7 : Value) (v8 : Value) (v9 : Value) (tA : TA) (qmB : Nat) (qmO : Nat) (qmK : Nat) (iEn : Int32) (iTk : Int32) (v18 : Value) (v19 : Value) (v20 : Value) (v21 : Value) (v22 : Value) (v23 : Value) (v24 : Value) (v25 : Value) (v26 : Value) (iLv : Int32) (iWs : Int32) (v29 : Value) (v30 : Value) (v31 : Value) (v32 : Value) (v33 : Value) (v34 : Value) (rB : Nat → Nat) (rO : Nat → Nat) (rK : Nat → Nat) (iL : Int32)  (hB : T_nb tA ≤ 8) (hPp : T_np tA ≤ 8) (hTI : TI tA) : MW l yX6_readMost cX6_readMost 6 (some .int) 6 0 0 G cy [zzO qm 5 [v0, v1, v2, v3, v4, v5, v6, v7, v8, v9, .int (nI (T_nb tA)), .ref qmB, .int (nI (T_np tA)), .ref qmO, .ref qmK, .int iEn, .int iTk, .int (T_sd tA), v18, v19, v20, v21, v22, v23, v24, v25, v26, .int iLv, .int iWs, v29, v30, v31, v32, v33, v34], zzG cy 3 qmB rB, zzI cy (rB 0) 4 (bkR tA 0), zzI cy (rB 1) 4 (bkR tA 1), zzI cy (rB 2) 4 (bkR tA 2), zzI cy (rB 3) 4 (bkR tA 3), zzI cy (rB 4) 4 (bkR tA 4), zzI cy (rB 5) 4 (bkR tA 5), zzI cy (rB 6) 4 (bkR tA 6), zzI cy (rB 7) 4 (bkR tA 7), zzG cy 3 qmO rO, zzI cy (rO 0) 5 (onR tA 0), zzI cy (rO 1) 5 (onR tA 1), zzI cy (rO 2) 5 (onR tA 2), zzI cy (rO 3) 5 (onR tA 3), zzI cy (rO 4) 5 (onR tA 4), zzI cy (rO 5) 5 (onR tA 5), zzI cy (rO 6) 5 (onR tA 6), zzI cy (rO 7) 5 (onR tA 7), zzG cy 3 qmK rK, zzI cy (rK 0) 8 (T_kn tA 0), zzI cy (rK 1) 8 (T_kn tA 1), zzI cy (rK 2) 8 (T_kn tA 2), zzI cy (rK 3) 8 (T_kn tA 3), zzI cy (rK 4) 8 (T_kn tA 4), zzI cy (rK 5) 8 (T_kn tA 5), zzI cy (rK 6) 8 (T_kn tA 6), zzI cy (rK 7) 8 (T_kn tA 7)] sz [.ref qm, .int 8, .int iL] (Wi G (fun r u => ∃ (tX : TA), u = [zzO qm 5 [v0, v1, v2, v3, v4, v5, v6, v7, v8, v9, .int (nI (T_nb tX)), .ref qmB, .int (nI (T_np tX)), .ref qmO, .ref qmK, .int iEn, .int iTk, .int (T_sd tX), v18, v19, v20, v21, v22, v23, v24, v25, v26, .int iLv, .int iWs, v29, v30, v31, v32, v33, v34], zzG cy 3 qmB rB, zzI cy (rB 0) 4 (bkR tX 0), zzI cy (rB 1) 4 (bkR tX 1), zzI cy (rB 2) 4 (bkR tX 2), zzI cy (rB 3) 4 (bkR tX 3), zzI cy (rB 4) 4 (bkR tX 4), zzI cy (rB 5) 4 (bkR tX 5), zzI cy (rB 6) 4 (bkR tX 6), zzI cy (rB 7) 4 (bkR tX 7), zzG cy 3 qmO rO, zzI cy (rO 0) 5 (onR tX 0), zzI cy (rO 1) 5 (onR tX 1), zzI cy (rO 2) 5 (onR tX 2), zzI cy (rO 3) 5 (onR tX 3), zzI cy (rO 4) 5 (onR tX 4), zzI cy (rO 5) 5 (onR tX 5), zzI cy (rO 6) 5 (onR tX 6), zzI cy (rO 7) 5 (onR tX 7), zzG cy 3 qmK rK, zzI cy (rK 0) 8 (T_kn tX 0), zzI cy (rK 1) 8 (T_kn tX 1), zzI cy (rK 2) 8 (T_kn tX 2), zzI cy (rK 3) 8 (T_kn tX 3), zzI cy (rK 4) 8 (T_kn tX 4), zzI cy (rK 5) 8 (T_kn tX 5), zzI cy (rK 6) 8 (T_kn tX 6), zzI cy (rK 7) 8 (T_kn tX 7)] ∧ (TI tX ∧ T_nb tX = T_nb tA ∧ T_np tX = T_np tA) ∧ (True))) := c_X6_readMost l G cy sz qm v0 v1 v2 v3 v4 v5 v6 v7 v8 v9 tA qmB qmO qmK iEn iTk v18 v19 v20 v21 v22 v23 v24 v25 v26 iLv iWs v29 v30 v31 v32 v33 v34 rB rO rK 8 iL hB hPp hTI (by omega)
theorem c_X6_readMost1 (l : Launch) (G : va_G) (cy : Nat → ClassId) (sz : Nat) (qm : Nat) (v0 : Value) (v1 : Value) (v2 : Value) (v3 : Value) (v4 : Value) (v5 : Value) (v6 : Value) (v7 : Value) (v8 : Value) (v9 : Value) (tA : TA) (qmB : Nat) (qmO : Nat) (qmK : Nat) (iEn : Int32) (iTk : Int32) (v18 : Value) (v19 : Value) (v20 : Value) (v21 : Value) (v22 : Value) (v23 : Value) (v24 : Value) (v25 : Value) (v26 : Value) (iLv : Int32) (iWs : Int32) (v29 : Value) (v30 : Value) (v31 : Value) (v32 : Value) (v33 : Value) (v34 : Value) (rB : Nat → Nat) (rO : Nat → Nat) (rK : Nat → Nat) (iL : Int32)  (hB : T_nb tA ≤ 8) (hPp : T_np tA ≤ 8) (hTI : TI tA) : MW l yX6_readMost cX6_readMost 6 (some .int) 6 0 0 G cy [zzO qm 5 [v0, v1, v2, v3, v4, v5, v6, v7, v8, v9, .int (nI (T_nb tA)), .ref qmB, .int (nI (T_np tA)), .ref qmO, .ref qmK, .int iEn, .int iTk, .int (T_sd tA), v18, v19, v20, v21, v22, v23, v24, v25, v26, .int iLv, .int iWs, v29, v30, v31, v32, v33, v34], zzG cy 3 qmB rB, zzI cy (rB 0) 4 (bkR tA 0), zzI cy (rB 1) 4 (bkR tA 1), zzI cy (rB 2) 4 (bkR tA 2), zzI cy (rB 3) 4 (bkR tA 3), zzI cy (rB 4) 4 (bkR tA 4), zzI cy (rB 5) 4 (bkR tA 5), zzI cy (rB 6) 4 (bkR tA 6), zzI cy (rB 7) 4 (bkR tA 7), zzG cy 3 qmO rO, zzI cy (rO 0) 5 (onR tA 0), zzI cy (rO 1) 5 (onR tA 1), zzI cy (rO 2) 5 (onR tA 2), zzI cy (rO 3) 5 (onR tA 3), zzI cy (rO 4) 5 (onR tA 4), zzI cy (rO 5) 5 (onR tA 5), zzI cy (rO 6) 5 (onR tA 6), zzI cy (rO 7) 5 (onR tA 7), zzG cy 3 qmK rK, zzI cy (rK 0) 8 (T_kn tA 0), zzI cy (rK 1) 8 (T_kn tA 1), zzI cy (rK 2) 8 (T_kn tA 2), zzI cy (rK 3) 8 (T_kn tA 3), zzI cy (rK 4) 8 (T_kn tA 4), zzI cy (rK 5) 8 (T_kn tA 5), zzI cy (rK 6) 8 (T_kn tA 6), zzI cy (rK 7) 8 (T_kn tA 7)] sz [.ref qm, .int 1, .int iL] (Wi G (fun r u => ∃ (tX : TA), u = [zzO qm 5 [v0, v1, v2, v3, v4, v5, v6, v7, v8, v9, .int (nI (T_nb tX)), .ref qmB, .int (nI (T_np tX)), .ref qmO, .ref qmK, .int iEn, .int iTk, .int (T_sd tX), v18, v19, v20, v21, v22, v23, v24, v25, v26, .int iLv, .int iWs, v29, v30, v31, v32, v33, v34], zzG cy 3 qmB rB, zzI cy (rB 0) 4 (bkR tX 0), zzI cy (rB 1) 4 (bkR tX 1), zzI cy (rB 2) 4 (bkR tX 2), zzI cy (rB 3) 4 (bkR tX 3), zzI cy (rB 4) 4 (bkR tX 4), zzI cy (rB 5) 4 (bkR tX 5), zzI cy (rB 6) 4 (bkR tX 6), zzI cy (rB 7) 4 (bkR tX 7), zzG cy 3 qmO rO, zzI cy (rO 0) 5 (onR tX 0), zzI cy (rO 1) 5 (onR tX 1), zzI cy (rO 2) 5 (onR tX 2), zzI cy (rO 3) 5 (onR tX 3), zzI cy (rO 4) 5 (onR tX 4), zzI cy (rO 5) 5 (onR tX 5), zzI cy (rO 6) 5 (onR tX 6), zzI cy (rO 7) 5 (onR tX 7), zzG cy 3 qmK rK, zzI cy (rK 0) 8 (T_kn tX 0), zzI cy (rK 1) 8 (T_kn tX 1), zzI cy (rK 2) 8 (T_kn tX 2), zzI cy (rK 3) 8 (T_kn tX 3), zzI cy (rK 4) 8 (T_kn tX 4), zzI cy (rK 5) 8 (T_kn tX 5), zzI cy (rK 6) 8 (T_kn tX 6), zzI cy (rK 7) 8 (T_kn tX 7)] ∧ (TI tX ∧ T_nb tX = T_nb tA ∧ T_np tX = T_np tA) ∧ (True))) := c_X6_readMost l G cy sz qm v0 v1 v2 v3 v4 v5 v6 v7 v8 v9 tA qmB qmO qmK iEn iTk v18 v19 v20 v21 v22 v23 v24 v25 v26 iLv iWs v29 v30 v31 v32 v33 v34 rB rO rK 1 iL hB hPp hTI (by omega)
set_option maxHeartbeats 4000000 in
set_option maxRecDepth 100000 in
theorem c_X6_chain (l : Launch) (G : va_G) (cy : Nat → ClassId) (sz : Nat) (qm : Nat) (v0 : Value) (v1 : Value) (v2 : Value) (v3 : Value) (v4 : Value) (v5 : Value) (v6 : Value) (v7 : Value) (v8 : Value) (v9 : Value) (tA : TA) (qmB : Nat) (qmO : Nat) (qmK : Nat) (iEn : Int32) (iTk : Int32) (v18 : Value) (v19 : Value) (v20 : Value) (v21 : Value) (v22 : Value) (v23 : Value) (v24 : Value) (v25 : Value) (v26 : Value) (iLv : Int32) (iWs : Int32) (v29 : Value) (v30 : Value) (v31 : Value) (v32 : Value) (v33 : Value) (v34 : Value) (rB : Nat → Nat) (rO : Nat → Nat) (rK : Nat → Nat)  (hB : T_nb tA ≤ 8) (hPp : T_np tA ≤ 8) (hTI : TI tA) : MW l yX6_chain cX6_chain 4 none 4 0 0 G cy [zzO qm 5 [v0, v1, v2, v3, v4, v5, v6, v7, v8, v9, .int (nI (T_nb tA)), .ref qmB, .int (nI (T_np tA)), .ref qmO, .ref qmK, .int iEn, .int iTk, .int (T_sd tA), v18, v19, v20, v21, v22, v23, v24, v25, v26, .int iLv, .int iWs, v29, v30, v31, v32, v33, v34], zzG cy 3 qmB rB, zzI cy (rB 0) 4 (bkR tA 0), zzI cy (rB 1) 4 (bkR tA 1), zzI cy (rB 2) 4 (bkR tA 2), zzI cy (rB 3) 4 (bkR tA 3), zzI cy (rB 4) 4 (bkR tA 4), zzI cy (rB 5) 4 (bkR tA 5), zzI cy (rB 6) 4 (bkR tA 6), zzI cy (rB 7) 4 (bkR tA 7), zzG cy 3 qmO rO, zzI cy (rO 0) 5 (onR tA 0), zzI cy (rO 1) 5 (onR tA 1), zzI cy (rO 2) 5 (onR tA 2), zzI cy (rO 3) 5 (onR tA 3), zzI cy (rO 4) 5 (onR tA 4), zzI cy (rO 5) 5 (onR tA 5), zzI cy (rO 6) 5 (onR tA 6), zzI cy (rO 7) 5 (onR tA 7), zzG cy 3 qmK rK, zzI cy (rK 0) 8 (T_kn tA 0), zzI cy (rK 1) 8 (T_kn tA 1), zzI cy (rK 2) 8 (T_kn tA 2), zzI cy (rK 3) 8 (T_kn tA 3), zzI cy (rK 4) 8 (T_kn tA 4), zzI cy (rK 5) 8 (T_kn tA 5), zzI cy (rK 6) 8 (T_kn tA 6), zzI cy (rK 7) 8 (T_kn tA 7)] sz [.ref qm] (Wv G (fun u => ∃ (tX : TA), u = [zzO qm 5 [v0, v1, v2, v3, v4, v5, v6, v7, v8, v9, .int (nI (T_nb tX)), .ref qmB, .int (nI (T_np tX)), .ref qmO, .ref qmK, .int iEn, .int iTk, .int (T_sd tX), v18, v19, v20, v21, v22, v23, v24, v25, v26, .int iLv, .int iWs, v29, v30, v31, v32, v33, v34], zzG cy 3 qmB rB, zzI cy (rB 0) 4 (bkR tX 0), zzI cy (rB 1) 4 (bkR tX 1), zzI cy (rB 2) 4 (bkR tX 2), zzI cy (rB 3) 4 (bkR tX 3), zzI cy (rB 4) 4 (bkR tX 4), zzI cy (rB 5) 4 (bkR tX 5), zzI cy (rB 6) 4 (bkR tX 6), zzI cy (rB 7) 4 (bkR tX 7), zzG cy 3 qmO rO, zzI cy (rO 0) 5 (onR tX 0), zzI cy (rO 1) 5 (onR tX 1), zzI cy (rO 2) 5 (onR tX 2), zzI cy (rO 3) 5 (onR tX 3), zzI cy (rO 4) 5 (onR tX 4), zzI cy (rO 5) 5 (onR tX 5), zzI cy (rO 6) 5 (onR tX 6), zzI cy (rO 7) 5 (onR tX 7), zzG cy 3 qmK rK, zzI cy (rK 0) 8 (T_kn tX 0), zzI cy (rK 1) 8 (T_kn tX 1), zzI cy (rK 2) 8 (T_kn tX 2), zzI cy (rK 3) 8 (T_kn tX 3), zzI cy (rK 4) 8 (T_kn tX 4), zzI cy (rK 5) 8 (T_kn tX 5), zzI cy (rK 6) 8 (T_kn tX 6), zzI cy (rK 7) 8 (T_kn tX 7)] ∧ (TI tX ∧ T_nb tX = T_nb tA ∧ T_np tX = T_np tA))) := by
  refine enW RX6 (by decide) rfl (Nat.le_of_ble_eq_true rfl) (fun p e s m below meth c ls A hx hb hml hown hts hr hlocks hP hN hl hin hD hA hS => ?_)
  have hin : meth.name = _ := hin
  have hK := hN.1
  replace hl : lv_has ls 4 [(0, .ref qm)] := hl
  refine lv_iconst (v := 0) hx hb dX6_chain_0 (by decide) ?_
  refine lv_istore_n (lv' := [(1, .int 0), (0, .ref qm)]) hx hb dX6_chain_1 rfl hl (by decide) rfl (fun ls => ?_)
  clear hl
  intro hl
  have lp_1 : ∀ (n_2 : Nat) (j_4 : Nat) (tJ_5 : TA), 8 - j_4 < n_2 → j_4 ≤ T_np tA → TI tJ_5 ∧ T_nb tJ_5 = T_nb tA ∧ T_np tJ_5 = T_np tA → ∀ (H : Heap) (locs : List Loc) (ls : Array Slot), va_P G CL [zzO qm 5 [v0, v1, v2, v3, v4, v5, v6, v7, v8, v9, .int (nI (T_nb tJ_5)), .ref qmB, .int (nI (T_np tJ_5)), .ref qmO, .ref qmK, .int iEn, .int iTk, .int (T_sd tJ_5), v18, v19, v20, v21, v22, v23, v24, v25, v26, .int iLv, .int iWs, v29, v30, v31, v32, v33, v34], zzG cy 3 qmB rB, zzI cy (rB 0) 4 (bkR tJ_5 0), zzI cy (rB 1) 4 (bkR tJ_5 1), zzI cy (rB 2) 4 (bkR tJ_5 2), zzI cy (rB 3) 4 (bkR tJ_5 3), zzI cy (rB 4) 4 (bkR tJ_5 4), zzI cy (rB 5) 4 (bkR tJ_5 5), zzI cy (rB 6) 4 (bkR tJ_5 6), zzI cy (rB 7) 4 (bkR tJ_5 7), zzG cy 3 qmO rO, zzI cy (rO 0) 5 (onR tJ_5 0), zzI cy (rO 1) 5 (onR tJ_5 1), zzI cy (rO 2) 5 (onR tJ_5 2), zzI cy (rO 3) 5 (onR tJ_5 3), zzI cy (rO 4) 5 (onR tJ_5 4), zzI cy (rO 5) 5 (onR tJ_5 5), zzI cy (rO 6) 5 (onR tJ_5 6), zzI cy (rO 7) 5 (onR tJ_5 7), zzG cy 3 qmK rK, zzI cy (rK 0) 8 (T_kn tJ_5 0), zzI cy (rK 1) 8 (T_kn tJ_5 1), zzI cy (rK 2) 8 (T_kn tJ_5 2), zzI cy (rK 3) 8 (T_kn tJ_5 3), zzI cy (rK 4) 8 (T_kn tJ_5 4), zzI cy (rK 5) 8 (T_kn tJ_5 5), zzI cy (rK 6) 8 (T_kn tJ_5 6), zzI cy (rK 7) 8 (T_kn tJ_5 7)] H → va_D A [zzO qm 5 [v0, v1, v2, v3, v4, v5, v6, v7, v8, v9, .int (nI (T_nb tJ_5)), .ref qmB, .int (nI (T_np tJ_5)), .ref qmO, .ref qmK, .int iEn, .int iTk, .int (T_sd tJ_5), v18, v19, v20, v21, v22, v23, v24, v25, v26, .int iLv, .int iWs, v29, v30, v31, v32, v33, v34], zzG cy 3 qmB rB, zzI cy (rB 0) 4 (bkR tJ_5 0), zzI cy (rB 1) 4 (bkR tJ_5 1), zzI cy (rB 2) 4 (bkR tJ_5 2), zzI cy (rB 3) 4 (bkR tJ_5 3), zzI cy (rB 4) 4 (bkR tJ_5 4), zzI cy (rB 5) 4 (bkR tJ_5 5), zzI cy (rB 6) 4 (bkR tJ_5 6), zzI cy (rB 7) 4 (bkR tJ_5 7), zzG cy 3 qmO rO, zzI cy (rO 0) 5 (onR tJ_5 0), zzI cy (rO 1) 5 (onR tJ_5 1), zzI cy (rO 2) 5 (onR tJ_5 2), zzI cy (rO 3) 5 (onR tJ_5 3), zzI cy (rO 4) 5 (onR tJ_5 4), zzI cy (rO 5) 5 (onR tJ_5 5), zzI cy (rO 6) 5 (onR tJ_5 6), zzI cy (rO 7) 5 (onR tJ_5 7), zzG cy 3 qmK rK, zzI cy (rK 0) 8 (T_kn tJ_5 0), zzI cy (rK 1) 8 (T_kn tJ_5 1), zzI cy (rK 2) 8 (T_kn tJ_5 2), zzI cy (rK 3) 8 (T_kn tJ_5 3), zzI cy (rK 4) 8 (T_kn tJ_5 4), zzI cy (rK 5) 8 (T_kn tJ_5 5), zzI cy (rK 6) 8 (T_kn tJ_5 6), zzI cy (rK 7) 8 (T_kn tJ_5 7)] → va_S A s.heap H locs → lv_has ls 4 [(1, .int (nI j_4)), (0, .ref qm)] → W p l e (Rm 4 0 0) s m (List.toArray (α := Value) [.ref qm]) below meth c H locs 0 0 (MQ below ((Wv G (fun u => ∃ (tX : TA), u = [zzO qm 5 [v0, v1, v2, v3, v4, v5, v6, v7, v8, v9, .int (nI (T_nb tX)), .ref qmB, .int (nI (T_np tX)), .ref qmO, .ref qmK, .int iEn, .int iTk, .int (T_sd tX), v18, v19, v20, v21, v22, v23, v24, v25, v26, .int iLv, .int iWs, v29, v30, v31, v32, v33, v34], zzG cy 3 qmB rB, zzI cy (rB 0) 4 (bkR tX 0), zzI cy (rB 1) 4 (bkR tX 1), zzI cy (rB 2) 4 (bkR tX 2), zzI cy (rB 3) 4 (bkR tX 3), zzI cy (rB 4) 4 (bkR tX 4), zzI cy (rB 5) 4 (bkR tX 5), zzI cy (rB 6) 4 (bkR tX 6), zzI cy (rB 7) 4 (bkR tX 7), zzG cy 3 qmO rO, zzI cy (rO 0) 5 (onR tX 0), zzI cy (rO 1) 5 (onR tX 1), zzI cy (rO 2) 5 (onR tX 2), zzI cy (rO 3) 5 (onR tX 3), zzI cy (rO 4) 5 (onR tX 4), zzI cy (rO 5) 5 (onR tX 5), zzI cy (rO 6) 5 (onR tX 6), zzI cy (rO 7) 5 (onR tX 7), zzG cy 3 qmK rK, zzI cy (rK 0) 8 (T_kn tX 0), zzI cy (rK 1) 8 (T_kn tX 1), zzI cy (rK 2) 8 (T_kn tX 2), zzI cy (rK 3) 8 (T_kn tX 3), zzI cy (rK 4) 8 (T_kn tX 4), zzI cy (rK 5) 8 (T_kn tX 5), zzI cy (rK 6) 8 (T_kn tX 6), zzI cy (rK 7) 8 (T_kn tX 7)] ∧ (TI tX ∧ T_nb tX = T_nb tA ∧ T_np tX = T_np tA))) A) (List.toArray (α := Value) [.ref qm]) s 0 0 A) (F0 m 2 ls []) := by
    intro n_2
    induction n_2 with
    | zero => intro j_4 tJ_5 hm9; exact absurd hm9 (Nat.not_lt_zero _)
    | succ n_2 ih_3 =>
      intro j_4 tJ_5 hm_8 hj_6 hT_7 H locs ls hP hD hS hl
      refine lv_iload_n hx hb dX6_chain_2 rfl (lv_at hl 0 rfl) ?_
      refine lv_aload_n hx hb dX6_chain_3 rfl (lv_at hl 1 rfl) ?_
      refine va_get (D := G) (ci := 5) (v := .int (nI (T_np tJ_5))) (C := RX6) (T := TX6) (N := 35) hx hb hts iX_X6 hown hK hP 0 rfl rfl 12 (by decide) (hts _ m_t862) (fun _ h9 => h9) rfl dX6_chain_4 ?_
      refine lv_icmp_ge (tgt := 73) hx hb dX6_chain_7 (by decide) (fun c_9 => ?_) (fun c_9 => ?_)
      · have hlt_10e : T_np tJ_5 = T_np tA := hT_7.2.2
        have hlt_10 : j_4 = T_np tA := Nat.le_antisymm (by omega) (by rw [hlt_10e] at c_9; exact lp_ge rfl rfl (by omega) (by omega) c_9)
        obtain ⟨hlt_10i, hlt_10b, hlt_10p⟩ := id hT_7
        exact endV (u := [zzO qm 5 [v0, v1, v2, v3, v4, v5, v6, v7, v8, v9, .int (nI (T_nb tJ_5)), .ref qmB, .int (nI (T_np tJ_5)), .ref qmO, .ref qmK, .int iEn, .int iTk, .int (T_sd tJ_5), v18, v19, v20, v21, v22, v23, v24, v25, v26, .int iLv, .int iWs, v29, v30, v31, v32, v33, v34], zzG cy 3 qmB rB, zzI cy (rB 0) 4 (bkR tJ_5 0), zzI cy (rB 1) 4 (bkR tJ_5 1), zzI cy (rB 2) 4 (bkR tJ_5 2), zzI cy (rB 3) 4 (bkR tJ_5 3), zzI cy (rB 4) 4 (bkR tJ_5 4), zzI cy (rB 5) 4 (bkR tJ_5 5), zzI cy (rB 6) 4 (bkR tJ_5 6), zzI cy (rB 7) 4 (bkR tJ_5 7), zzG cy 3 qmO rO, zzI cy (rO 0) 5 (onR tJ_5 0), zzI cy (rO 1) 5 (onR tJ_5 1), zzI cy (rO 2) 5 (onR tJ_5 2), zzI cy (rO 3) 5 (onR tJ_5 3), zzI cy (rO 4) 5 (onR tJ_5 4), zzI cy (rO 5) 5 (onR tJ_5 5), zzI cy (rO 6) 5 (onR tJ_5 6), zzI cy (rO 7) 5 (onR tJ_5 7), zzG cy 3 qmK rK, zzI cy (rK 0) 8 (T_kn tJ_5 0), zzI cy (rK 1) 8 (T_kn tJ_5 1), zzI cy (rK 2) 8 (T_kn tJ_5 2), zzI cy (rK 3) 8 (T_kn tJ_5 3), zzI cy (rK 4) 8 (T_kn tJ_5 4), zzI cy (rK 5) 8 (T_kn tJ_5 5), zzI cy (rK 6) 8 (T_kn tJ_5 6), zzI cy (rK 7) 8 (T_kn tJ_5 7)]) hx hb hr hlocks (hP.sub [0, 1, 2, 3, 4, 5, 6, 7, 8, 9, 10, 11, 12, 13, 14, 15, 16, 17, 18, 19, 20, 21, 22, 23, 24, 25, 26, 27] rfl) (hD.sub [0, 1, 2, 3, 4, 5, 6, 7, 8, 9, 10, 11, 12, 13, 14, 15, 16, 17, 18, 19, 20, 21, 22, 23, 24, 25, 26, 27] (by decide +kernel) rfl) hS ⟨tJ_5, rfl, hT_7⟩ dX6_chain_73
      · have hlt_11e : T_np tJ_5 = T_np tA := hT_7.2.2
        have hlt_11 : j_4 < T_np tA := by rw [hlt_11e] at c_9; exact lp_lt rfl rfl (by omega) (by omega) c_9
        obtain ⟨hlt_11i, hlt_11b, hlt_11p⟩ := id hT_7
        refine lv_aload_n hx hb dX6_chain_10 rfl (lv_at hl 1 rfl) ?_
        refine lv_iload_n hx hb dX6_chain_11 rfl (lv_at hl 0 rfl) ?_
        refine kRi (rV (As := [.int (nI j_4)]) (rest := []) (b := qm) ⟨hx, hb, hml, hown, hts⟩ (c_X6_isThere l G cy qm v0 v1 v2 v3 v4 v5 v6 v7 v8 v9 tJ_5 qmB qmO qmK iEn iTk v18 v19 v20 v21 v22 v23 v24 v25 v26 iLv iWs v29 v30 v31 v32 v33 v34 rO j_4 (by first | omega | (simp only [nb_sr, np_sr, nb_wr, np_wr, nb_rd, np_rd, nb_ch, np_ch, nb_zr, np_zr, nb_za, np_za, nb_ey, np_ey, nb_hf, np_hf, nb_dd, np_dd, nb_so, np_so, nb_skn, np_skn, nb_swh, np_swh, nb_sgn, np_sgn, nb_ssd, np_ssd, nb_sgo, np_sgo, nb_sag, np_sag]; omega))) L_X6_81 (preRV (q := (RX6, TX6, 35)) hN hP [0, 10, 11, 12, 13, 14, 15, 16, 17, 18] rfl 0 5 rfl rfl) rfl ⟨Nat.le_of_ble_eq_true rfl, Nat.le_of_ble_eq_true rfl⟩ hl.1 (Nat.le_of_ble_eq_true rfl) dX6_chain_12 ⟨Nat.le_of_ble_eq_true rfl, Nat.le_of_ble_eq_true rfl⟩) (fun r_12 h_13 => ?_)
        rcases h_13 with ⟨rfl, h_14⟩ | ⟨rfl, h_14⟩
        · refine lv_if_eq (tgt := 26) hx hb dX6_chain_15 (by decide) (fun h9 => absurd h9 (by decide)) (fun _ => ?_)
          refine lv_aload_n hx hb dX6_chain_18 rfl (lv_at hl 1 rfl) ?_
          refine lv_iload_n hx hb dX6_chain_19 rfl (lv_at hl 0 rfl) ?_
          refine kRi (rV (As := [.int (nI j_4)]) (rest := []) (b := qm) ⟨hx, hb, hml, hown, hts⟩ (c_X6_youngestBut l G cy qm v0 v1 v2 v3 v4 v5 v6 v7 v8 v9 tJ_5 qmB qmO qmK iEn iTk v18 v19 v20 v21 v22 v23 v24 v25 v26 iLv iWs v29 v30 v31 v32 v33 v34 rO (nI j_4) (by first | omega | (simp only [nb_sr, np_sr, nb_wr, np_wr, nb_rd, np_rd, nb_ch, np_ch, nb_zr, np_zr, nb_za, np_za, nb_ey, np_ey, nb_hf, np_hf, nb_dd, np_dd, nb_so, np_so, nb_skn, np_skn, nb_swh, np_swh, nb_sgn, np_sgn, nb_ssd, np_ssd, nb_sgo, np_sgo, nb_sag, np_sag]; omega))) L_X6_269 (preRV (q := (RX6, TX6, 35)) hN hP [0, 10, 11, 12, 13, 14, 15, 16, 17, 18] rfl 0 5 rfl rfl) rfl ⟨Nat.le_of_ble_eq_true rfl, Nat.le_of_ble_eq_true rfl⟩ hl.1 (Nat.le_of_ble_eq_true rfl) dX6_chain_20 ⟨Nat.le_of_ble_eq_true rfl, Nat.le_of_ble_eq_true rfl⟩) (fun r_16 h_17 => ?_)
          subst h_17
          refine lv_goto (tgt := 27) hx hb dX6_chain_23 (by decide) ?_
          refine lv_istore_n (lv' := [(2, .int (zyb tJ_5 (nI j_4))), (1, .int (nI j_4)), (0, .ref qm)]) hx hb dX6_chain_27 rfl hl (by decide) rfl (fun ls => ?_)
          clear hl
          intro hl
          refine lv_iconst (v := 0) hx hb dX6_chain_28 (by decide) ?_
          refine lv_istore_n (lv' := [(3, .int 0), (2, .int (zyb tJ_5 (nI j_4))), (1, .int (nI j_4)), (0, .ref qm)]) hx hb dX6_chain_29 rfl hl (by decide) rfl (fun ls => ?_)
          clear hl
          intro hl
          rcases yb_in tJ_5 (nI j_4) (T_np tJ_5) with ek_20 | ⟨k_18, hk_19, ek_20⟩
          · have ek_20 : zyb tJ_5 (nI j_4) = -1 := ek_20
            rw [ek_20] at hl
            refine lv_iload_n hx hb dX6_chain_30 rfl (lv_at hl 0 rfl) ?_
            refine lv_aload_n hx hb dX6_chain_31 rfl (lv_at hl 3 rfl) ?_
            refine va_get (D := G) (ci := 5) (v := .int (nI (T_nb tJ_5))) (C := RX6) (T := TX6) (N := 35) hx hb hts iX_X6 hown hK hP 0 rfl rfl 10 (by decide) (hts _ m_t860) (fun _ h9 => h9) rfl dX6_chain_32 ?_
            refine lv_icmp_ge (tgt := 67) hx hb dX6_chain_35 (by decide) (fun c_21 => ?_) (fun c_21 => ?_)
            · refine lv_iinc (v := nI (j_4 + 1)) (lv' := [(1, .int (nI (j_4 + 1))), (3, .int 0), (2, .int (-1)), (0, .ref qm)]) hx hb dX6_chain_67 hl (k := 2) rfl (nI_1 _) (by decide) rfl (fun ls => ?_)
              clear hl
              intro hl
              refine lv_goto (tgt := 2) hx hb dX6_chain_70 (by decide) ?_
              exact ih_3 (j_4 + 1) tJ_5 (by omega) (by omega) hT_7 _ _ _ hP hD hS (lv_sub hl [0, 3] rfl)
            · refine lv_iload_n hx hb dX6_chain_38 rfl (lv_at hl 1 rfl) ?_
              refine lv_iconst (v := (-1)) hx hb dX6_chain_39 (by decide) ?_
              refine lv_icmp_eq (tgt := 67) hx hb dX6_chain_40 (by decide) (fun _ => ?_) (fun h9 => absurd (by decide) h9)
              refine lv_iinc (v := nI (j_4 + 1)) (lv' := [(1, .int (nI (j_4 + 1))), (3, .int 0), (2, .int (-1)), (0, .ref qm)]) hx hb dX6_chain_67 hl (k := 2) rfl (nI_1 _) (by decide) rfl (fun ls => ?_)
              clear hl
              intro hl
              refine lv_goto (tgt := 2) hx hb dX6_chain_70 (by decide) ?_
              exact ih_3 (j_4 + 1) tJ_5 (by omega) (by omega) hT_7 _ _ _ hP hD hS (lv_sub hl [0, 3] rfl)
          · have ek_20 : zyb tJ_5 (nI j_4) = nI k_18 := ek_20
            rw [ek_20] at hl
            have lp_23 : ∀ (n_24 : Nat) (m_26 : Nat) (tK_27 : TA), 8 - m_26 < n_24 → m_26 ≤ T_nb tA → TI tK_27 ∧ T_nb tK_27 = T_nb tA ∧ T_np tK_27 = T_np tA → ∀ (H : Heap) (locs : List Loc) (ls : Array Slot), va_P G CL [zzO qm 5 [v0, v1, v2, v3, v4, v5, v6, v7, v8, v9, .int (nI (T_nb tK_27)), .ref qmB, .int (nI (T_np tK_27)), .ref qmO, .ref qmK, .int iEn, .int iTk, .int (T_sd tK_27), v18, v19, v20, v21, v22, v23, v24, v25, v26, .int iLv, .int iWs, v29, v30, v31, v32, v33, v34], zzG cy 3 qmB rB, zzI cy (rB 0) 4 (bkR tK_27 0), zzI cy (rB 1) 4 (bkR tK_27 1), zzI cy (rB 2) 4 (bkR tK_27 2), zzI cy (rB 3) 4 (bkR tK_27 3), zzI cy (rB 4) 4 (bkR tK_27 4), zzI cy (rB 5) 4 (bkR tK_27 5), zzI cy (rB 6) 4 (bkR tK_27 6), zzI cy (rB 7) 4 (bkR tK_27 7), zzG cy 3 qmO rO, zzI cy (rO 0) 5 (onR tK_27 0), zzI cy (rO 1) 5 (onR tK_27 1), zzI cy (rO 2) 5 (onR tK_27 2), zzI cy (rO 3) 5 (onR tK_27 3), zzI cy (rO 4) 5 (onR tK_27 4), zzI cy (rO 5) 5 (onR tK_27 5), zzI cy (rO 6) 5 (onR tK_27 6), zzI cy (rO 7) 5 (onR tK_27 7), zzG cy 3 qmK rK, zzI cy (rK 0) 8 (T_kn tK_27 0), zzI cy (rK 1) 8 (T_kn tK_27 1), zzI cy (rK 2) 8 (T_kn tK_27 2), zzI cy (rK 3) 8 (T_kn tK_27 3), zzI cy (rK 4) 8 (T_kn tK_27 4), zzI cy (rK 5) 8 (T_kn tK_27 5), zzI cy (rK 6) 8 (T_kn tK_27 6), zzI cy (rK 7) 8 (T_kn tK_27 7)] H → va_D A [zzO qm 5 [v0, v1, v2, v3, v4, v5, v6, v7, v8, v9, .int (nI (T_nb tK_27)), .ref qmB, .int (nI (T_np tK_27)), .ref qmO, .ref qmK, .int iEn, .int iTk, .int (T_sd tK_27), v18, v19, v20, v21, v22, v23, v24, v25, v26, .int iLv, .int iWs, v29, v30, v31, v32, v33, v34], zzG cy 3 qmB rB, zzI cy (rB 0) 4 (bkR tK_27 0), zzI cy (rB 1) 4 (bkR tK_27 1), zzI cy (rB 2) 4 (bkR tK_27 2), zzI cy (rB 3) 4 (bkR tK_27 3), zzI cy (rB 4) 4 (bkR tK_27 4), zzI cy (rB 5) 4 (bkR tK_27 5), zzI cy (rB 6) 4 (bkR tK_27 6), zzI cy (rB 7) 4 (bkR tK_27 7), zzG cy 3 qmO rO, zzI cy (rO 0) 5 (onR tK_27 0), zzI cy (rO 1) 5 (onR tK_27 1), zzI cy (rO 2) 5 (onR tK_27 2), zzI cy (rO 3) 5 (onR tK_27 3), zzI cy (rO 4) 5 (onR tK_27 4), zzI cy (rO 5) 5 (onR tK_27 5), zzI cy (rO 6) 5 (onR tK_27 6), zzI cy (rO 7) 5 (onR tK_27 7), zzG cy 3 qmK rK, zzI cy (rK 0) 8 (T_kn tK_27 0), zzI cy (rK 1) 8 (T_kn tK_27 1), zzI cy (rK 2) 8 (T_kn tK_27 2), zzI cy (rK 3) 8 (T_kn tK_27 3), zzI cy (rK 4) 8 (T_kn tK_27 4), zzI cy (rK 5) 8 (T_kn tK_27 5), zzI cy (rK 6) 8 (T_kn tK_27 6), zzI cy (rK 7) 8 (T_kn tK_27 7)] → va_S A s.heap H locs → lv_has ls 4 [(3, .int (nI m_26)), (2, .int (nI k_18)), (1, .int (nI j_4)), (0, .ref qm)] → W p l e (Rm 4 0 0) s m (List.toArray (α := Value) [.ref qm]) below meth c H locs 0 0 (MQ below ((Wv G (fun u => ∃ (tX : TA), u = [zzO qm 5 [v0, v1, v2, v3, v4, v5, v6, v7, v8, v9, .int (nI (T_nb tX)), .ref qmB, .int (nI (T_np tX)), .ref qmO, .ref qmK, .int iEn, .int iTk, .int (T_sd tX), v18, v19, v20, v21, v22, v23, v24, v25, v26, .int iLv, .int iWs, v29, v30, v31, v32, v33, v34], zzG cy 3 qmB rB, zzI cy (rB 0) 4 (bkR tX 0), zzI cy (rB 1) 4 (bkR tX 1), zzI cy (rB 2) 4 (bkR tX 2), zzI cy (rB 3) 4 (bkR tX 3), zzI cy (rB 4) 4 (bkR tX 4), zzI cy (rB 5) 4 (bkR tX 5), zzI cy (rB 6) 4 (bkR tX 6), zzI cy (rB 7) 4 (bkR tX 7), zzG cy 3 qmO rO, zzI cy (rO 0) 5 (onR tX 0), zzI cy (rO 1) 5 (onR tX 1), zzI cy (rO 2) 5 (onR tX 2), zzI cy (rO 3) 5 (onR tX 3), zzI cy (rO 4) 5 (onR tX 4), zzI cy (rO 5) 5 (onR tX 5), zzI cy (rO 6) 5 (onR tX 6), zzI cy (rO 7) 5 (onR tX 7), zzG cy 3 qmK rK, zzI cy (rK 0) 8 (T_kn tX 0), zzI cy (rK 1) 8 (T_kn tX 1), zzI cy (rK 2) 8 (T_kn tX 2), zzI cy (rK 3) 8 (T_kn tX 3), zzI cy (rK 4) 8 (T_kn tX 4), zzI cy (rK 5) 8 (T_kn tX 5), zzI cy (rK 6) 8 (T_kn tX 6), zzI cy (rK 7) 8 (T_kn tX 7)] ∧ (TI tX ∧ T_nb tX = T_nb tA ∧ T_np tX = T_np tA))) A) (List.toArray (α := Value) [.ref qm]) s 0 0 A) (F0 m 30 ls []) := by
              intro n_24
              induction n_24 with
              | zero => intro m_26 tK_27 hm9; exact absurd hm9 (Nat.not_lt_zero _)
              | succ n_24 ih_25 =>
                intro m_26 tK_27 hm_30 hm_30 hTK_29 H locs ls hP hD hS hl
                refine lv_iload_n hx hb dX6_chain_30 rfl (lv_at hl 0 rfl) ?_
                refine lv_aload_n hx hb dX6_chain_31 rfl (lv_at hl 3 rfl) ?_
                refine va_get (D := G) (ci := 5) (v := .int (nI (T_nb tK_27))) (C := RX6) (T := TX6) (N := 35) hx hb hts iX_X6 hown hK hP 0 rfl rfl 10 (by decide) (hts _ m_t860) (fun _ h9 => h9) rfl dX6_chain_32 ?_
                refine lv_icmp_ge (tgt := 67) hx hb dX6_chain_35 (by decide) (fun c_31 => ?_) (fun c_31 => ?_)
                · have hlt_32e : T_nb tK_27 = T_nb tA := hTK_29.2.1
                  refine lv_iinc (v := nI (j_4 + 1)) (lv' := [(1, .int (nI (j_4 + 1))), (3, .int (nI m_26)), (2, .int (nI k_18)), (0, .ref qm)]) hx hb dX6_chain_67 hl (k := 2) rfl (nI_1 _) (by decide) rfl (fun ls => ?_)
                  clear hl
                  intro hl
                  refine lv_goto (tgt := 2) hx hb dX6_chain_70 (by decide) ?_
                  exact ih_3 (j_4 + 1) tK_27 (by omega) (by omega) hTK_29 _ _ _ hP hD hS (lv_sub hl [0, 3] rfl)
                · have hlt_33e : T_nb tK_27 = T_nb tA := hTK_29.2.1
                  have hlt_33 : m_26 < T_nb tA := by rw [hlt_33e] at c_31; exact lp_lt rfl rfl (by omega) (by omega) c_31
                  refine lv_iload_n hx hb dX6_chain_38 rfl (lv_at hl 1 rfl) ?_
                  refine lv_iconst (v := (-1)) hx hb dX6_chain_39 (by decide) ?_
                  refine lv_icmp_eq (tgt := 67) hx hb dX6_chain_40 (by decide) (fun c_34 => ?_) (fun c_34 => ?_)
                  · exact absurd c_34 (nI_ne1 (by omega))
                  · refine lv_aload_n hx hb dX6_chain_43 rfl (lv_at hl 3 rfl) ?_
                    refine va_get (D := G) (ci := 5) (v := .ref qmK) (C := RX6) (T := TX6) (N := 35) hx hb hts iX_X6 hown hK hP 0 rfl rfl 14 (by decide) (hts _ m_t864) (fun _ h9 => h9) rfl dX6_chain_44 ?_
                    refine lv_iload_n hx hb dX6_chain_47 rfl (lv_at hl 1 rfl) ?_
                    refine va_alda hx hb hK hP 19 3 rfl rfl (in8 (by omega)) dX6_chain_48 ?_
                    refine lv_setv (v := .ref (rK k_18)) (g_ref (by omega)) ?_
                    refine lv_iload_n hx hb dX6_chain_49 rfl (lv_at hl 0 rfl) ?_
                    refine lv_dup2_11 hx hb dX6_chain_50 rfl rfl ?_
                    refine va_iald hx hb hK hP (20 + k_18) 0 (sg8 (n0 := 20) (f := (fun j => zzI cy (rK j) 8 (T_kn tK_27 j))) rfl rfl rfl rfl rfl rfl rfl rfl k_18 (by omega)) rfl (vp_in_nI (by omega) (by omega)) dX6_chain_51 ?_
                    refine lv_seti (v := T_kn tK_27 k_18 m_26) (congrArg (T_kn tK_27 k_18) (nI_clamp (by omega))) ?_
                    refine lv_aload_n hx hb dX6_chain_52 rfl (lv_at hl 3 rfl) ?_
                    refine lv_iload_n hx hb dX6_chain_53 rfl (lv_at hl 2 rfl) ?_
                    refine lv_iload_n hx hb dX6_chain_54 rfl (lv_at hl 1 rfl) ?_
                    refine lv_iload_n hx hb dX6_chain_55 rfl (lv_at hl 0 rfl) ?_
                    refine kRi (rV (As := [.int (nI j_4), .int (nI k_18), .int (nI m_26)]) (rest := [.int (T_kn tK_27 k_18 m_26), .int (nI m_26), .ref (rK k_18)]) (b := qm) ⟨hx, hb, hml, hown, hts⟩ (c_X6_moreBy l G cy qm v0 v1 v2 v3 v4 v5 v6 v7 v8 v9 tK_27 qmB qmO qmK iEn iTk v18 v19 v20 v21 v22 v23 v24 v25 v26 iLv iWs v29 v30 v31 v32 v33 v34 rB rO rK j_4 k_18 m_26 (by first | omega | (simp only [nb_sr, np_sr, nb_wr, np_wr, nb_rd, np_rd, nb_ch, np_ch, nb_zr, np_zr, nb_za, np_za, nb_ey, np_ey, nb_hf, np_hf, nb_dd, np_dd, nb_so, np_so, nb_skn, np_skn, nb_swh, np_swh, nb_sgn, np_sgn, nb_ssd, np_ssd, nb_sgo, np_sgo, nb_sag, np_sag]; omega)) (by first | omega | (simp only [nb_sr, np_sr, nb_wr, np_wr, nb_rd, np_rd, nb_ch, np_ch, nb_zr, np_zr, nb_za, np_za, nb_ey, np_ey, nb_hf, np_hf, nb_dd, np_dd, nb_so, np_so, nb_skn, np_skn, nb_swh, np_swh, nb_sgn, np_sgn, nb_ssd, np_ssd, nb_sgo, np_sgo, nb_sag, np_sag]; omega)) (by first | omega | (simp only [nb_sr, np_sr, nb_wr, np_wr, nb_rd, np_rd, nb_ch, np_ch, nb_zr, np_zr, nb_za, np_za, nb_ey, np_ey, nb_hf, np_hf, nb_dd, np_dd, nb_so, np_so, nb_skn, np_skn, nb_swh, np_swh, nb_sgn, np_sgn, nb_ssd, np_ssd, nb_sgo, np_sgo, nb_sag, np_sag]; omega)) hTK_29.1) L_X6_263 (preRV (q := (RX6, TX6, 35)) hN hP [0, 1, 2, 3, 4, 5, 6, 7, 8, 9, 10, 11, 12, 13, 14, 15, 16, 17, 18, 19, 20, 21, 22, 23, 24, 25, 26, 27] rfl 0 5 rfl rfl) rfl ⟨Nat.le_of_ble_eq_true rfl, Nat.le_of_ble_eq_true rfl⟩ hl.1 (Nat.le_of_ble_eq_true rfl) dX6_chain_56 ⟨Nat.le_of_ble_eq_true rfl, Nat.le_of_ble_eq_true rfl⟩) (fun r_35 h_36 => ?_)
                    subst h_36
                    refine lv_iadd hx hb dX6_chain_59 ?_
                    refine va_iast hx hb hK hP hD hS (20 + k_18) 0 ((sg8 (n0 := 20) (f := (fun j => zzI cy (rK j) 8 (T_kn tK_27 j))) rfl rfl rfl rfl rfl rfl rfl rfl) k_18 (by omega)) rfl (vp_in_nI (by omega) (by omega)) dX6_chain_60 (fun H locs => ?_)
                    clear hP hD hS
                    intro hP hD hS
                    rw [nI_clamp (n := m_26) (by omega)] at hP hD
                    have hPD := st8PD (ws' := [zzO qm 5 [v0, v1, v2, v3, v4, v5, v6, v7, v8, v9, .int (nI (T_nb (T_setkn tK_27 (updM (T_kn tK_27) k_18 m_26 ((T_kn tK_27 k_18 m_26) + (zgt tK_27 j_4 k_18 m_26)))))), .ref qmB, .int (nI (T_np (T_setkn tK_27 (updM (T_kn tK_27) k_18 m_26 ((T_kn tK_27 k_18 m_26) + (zgt tK_27 j_4 k_18 m_26)))))), .ref qmO, .ref qmK, .int iEn, .int iTk, .int (T_sd (T_setkn tK_27 (updM (T_kn tK_27) k_18 m_26 ((T_kn tK_27 k_18 m_26) + (zgt tK_27 j_4 k_18 m_26))))), v18, v19, v20, v21, v22, v23, v24, v25, v26, .int iLv, .int iWs, v29, v30, v31, v32, v33, v34], zzG cy 3 qmB rB, zzI cy (rB 0) 4 (bkR (T_setkn tK_27 (updM (T_kn tK_27) k_18 m_26 ((T_kn tK_27 k_18 m_26) + (zgt tK_27 j_4 k_18 m_26)))) 0), zzI cy (rB 1) 4 (bkR (T_setkn tK_27 (updM (T_kn tK_27) k_18 m_26 ((T_kn tK_27 k_18 m_26) + (zgt tK_27 j_4 k_18 m_26)))) 1), zzI cy (rB 2) 4 (bkR (T_setkn tK_27 (updM (T_kn tK_27) k_18 m_26 ((T_kn tK_27 k_18 m_26) + (zgt tK_27 j_4 k_18 m_26)))) 2), zzI cy (rB 3) 4 (bkR (T_setkn tK_27 (updM (T_kn tK_27) k_18 m_26 ((T_kn tK_27 k_18 m_26) + (zgt tK_27 j_4 k_18 m_26)))) 3), zzI cy (rB 4) 4 (bkR (T_setkn tK_27 (updM (T_kn tK_27) k_18 m_26 ((T_kn tK_27 k_18 m_26) + (zgt tK_27 j_4 k_18 m_26)))) 4), zzI cy (rB 5) 4 (bkR (T_setkn tK_27 (updM (T_kn tK_27) k_18 m_26 ((T_kn tK_27 k_18 m_26) + (zgt tK_27 j_4 k_18 m_26)))) 5), zzI cy (rB 6) 4 (bkR (T_setkn tK_27 (updM (T_kn tK_27) k_18 m_26 ((T_kn tK_27 k_18 m_26) + (zgt tK_27 j_4 k_18 m_26)))) 6), zzI cy (rB 7) 4 (bkR (T_setkn tK_27 (updM (T_kn tK_27) k_18 m_26 ((T_kn tK_27 k_18 m_26) + (zgt tK_27 j_4 k_18 m_26)))) 7), zzG cy 3 qmO rO, zzI cy (rO 0) 5 (onR (T_setkn tK_27 (updM (T_kn tK_27) k_18 m_26 ((T_kn tK_27 k_18 m_26) + (zgt tK_27 j_4 k_18 m_26)))) 0), zzI cy (rO 1) 5 (onR (T_setkn tK_27 (updM (T_kn tK_27) k_18 m_26 ((T_kn tK_27 k_18 m_26) + (zgt tK_27 j_4 k_18 m_26)))) 1), zzI cy (rO 2) 5 (onR (T_setkn tK_27 (updM (T_kn tK_27) k_18 m_26 ((T_kn tK_27 k_18 m_26) + (zgt tK_27 j_4 k_18 m_26)))) 2), zzI cy (rO 3) 5 (onR (T_setkn tK_27 (updM (T_kn tK_27) k_18 m_26 ((T_kn tK_27 k_18 m_26) + (zgt tK_27 j_4 k_18 m_26)))) 3), zzI cy (rO 4) 5 (onR (T_setkn tK_27 (updM (T_kn tK_27) k_18 m_26 ((T_kn tK_27 k_18 m_26) + (zgt tK_27 j_4 k_18 m_26)))) 4), zzI cy (rO 5) 5 (onR (T_setkn tK_27 (updM (T_kn tK_27) k_18 m_26 ((T_kn tK_27 k_18 m_26) + (zgt tK_27 j_4 k_18 m_26)))) 5), zzI cy (rO 6) 5 (onR (T_setkn tK_27 (updM (T_kn tK_27) k_18 m_26 ((T_kn tK_27 k_18 m_26) + (zgt tK_27 j_4 k_18 m_26)))) 6), zzI cy (rO 7) 5 (onR (T_setkn tK_27 (updM (T_kn tK_27) k_18 m_26 ((T_kn tK_27 k_18 m_26) + (zgt tK_27 j_4 k_18 m_26)))) 7), zzG cy 3 qmK rK, zzI cy (rK 0) 8 (T_kn (T_setkn tK_27 (updM (T_kn tK_27) k_18 m_26 ((T_kn tK_27 k_18 m_26) + (zgt tK_27 j_4 k_18 m_26)))) 0), zzI cy (rK 1) 8 (T_kn (T_setkn tK_27 (updM (T_kn tK_27) k_18 m_26 ((T_kn tK_27 k_18 m_26) + (zgt tK_27 j_4 k_18 m_26)))) 1), zzI cy (rK 2) 8 (T_kn (T_setkn tK_27 (updM (T_kn tK_27) k_18 m_26 ((T_kn tK_27 k_18 m_26) + (zgt tK_27 j_4 k_18 m_26)))) 2), zzI cy (rK 3) 8 (T_kn (T_setkn tK_27 (updM (T_kn tK_27) k_18 m_26 ((T_kn tK_27 k_18 m_26) + (zgt tK_27 j_4 k_18 m_26)))) 3), zzI cy (rK 4) 8 (T_kn (T_setkn tK_27 (updM (T_kn tK_27) k_18 m_26 ((T_kn tK_27 k_18 m_26) + (zgt tK_27 j_4 k_18 m_26)))) 4), zzI cy (rK 5) 8 (T_kn (T_setkn tK_27 (updM (T_kn tK_27) k_18 m_26 ((T_kn tK_27 k_18 m_26) + (zgt tK_27 j_4 k_18 m_26)))) 5), zzI cy (rK 6) 8 (T_kn (T_setkn tK_27 (updM (T_kn tK_27) k_18 m_26 ((T_kn tK_27 k_18 m_26) + (zgt tK_27 j_4 k_18 m_26)))) 6), zzI cy (rK 7) 8 (T_kn (T_setkn tK_27 (updM (T_kn tK_27) k_18 m_26 ((T_kn tK_27 k_18 m_26) + (zgt tK_27 j_4 k_18 m_26)))) 7)]) (k := k_18) (g1 := T_kn (T_setkn tK_27 (updM (T_kn tK_27) k_18 m_26 ((T_kn tK_27 k_18 m_26) + (zgt tK_27 j_4 k_18 m_26)))) k_18) hP hD (sg8 (n0 := 20) (f := (fun j => zzI cy (rK j) 8 (T_kn tK_27 j))) rfl rfl rfl rfl rfl rfl rfl rfl) (sg8 (n0 := 20) (f := (fun j => zzI cy (rK j) 8 (T_kn (T_setkn tK_27 (updM (T_kn tK_27) k_18 m_26 ((T_kn tK_27 k_18 m_26) + (zgt tK_27 j_4 k_18 m_26)))) j))) rfl rfl rfl rfl rfl rfl rfl rfl) rfl rfl (by omega) rfl (fun i _ => (congrFun (kn_u tK_27 k_18 m_26 ((T_kn tK_27 k_18 m_26) + (zgt tK_27 j_4 k_18 m_26))) i).symm) (fun j hj => congrArg (zzI cy (rK j) 8) (kn_n tK_27 k_18 m_26 ((T_kn tK_27 k_18 m_26) + (zgt tK_27 j_4 k_18 m_26)) hj))
                    clear hP hD
                    obtain ⟨hP, hD⟩ := hPD
                    refine lv_iinc (v := nI (m_26 + 1)) (lv' := [(3, .int (nI (m_26 + 1))), (2, .int (nI k_18)), (1, .int (nI j_4)), (0, .ref qm)]) hx hb dX6_chain_61 hl (k := 0) rfl (nI_1 _) (by decide) rfl (fun ls => ?_)
                    clear hl
                    intro hl
                    refine lv_goto (tgt := 30) hx hb dX6_chain_64 (by decide) ?_
                    exact ih_25 (m_26 + 1) (T_setkn tK_27 (updM (T_kn tK_27) k_18 m_26 ((T_kn tK_27 k_18 m_26) + (zgt tK_27 j_4 k_18 m_26)))) (by omega) (by omega) (⟨TI_tl hTK_29.1 _ _ _, hTK_29.2⟩) _ _ _ hP hD hS (lv_sub hl [0, 1, 2, 3] rfl)
            exact lp_23 ((8 - 0) + 1) 0 tJ_5 (Nat.lt_succ_self _) (Nat.zero_le _) hT_7 _ _ ls hP hD hS (lv_sub hl [0, 1, 2, 3] rfl)
        · refine lv_if_eq (tgt := 26) hx hb dX6_chain_15 (by decide) (fun _ => ?_) (fun h9 => absurd (by decide) h9)
          refine lv_iconst (v := (-1)) hx hb dX6_chain_26 (by decide) ?_
          refine lv_istore_n (lv' := [(2, .int (-1)), (1, .int (nI j_4)), (0, .ref qm)]) hx hb dX6_chain_27 rfl hl (by decide) rfl (fun ls => ?_)
          clear hl
          intro hl
          refine lv_iconst (v := 0) hx hb dX6_chain_28 (by decide) ?_
          refine lv_istore_n (lv' := [(3, .int 0), (2, .int (-1)), (1, .int (nI j_4)), (0, .ref qm)]) hx hb dX6_chain_29 rfl hl (by decide) rfl (fun ls => ?_)
          clear hl
          intro hl
          refine lv_iload_n hx hb dX6_chain_30 rfl (lv_at hl 0 rfl) ?_
          refine lv_aload_n hx hb dX6_chain_31 rfl (lv_at hl 3 rfl) ?_
          refine va_get (D := G) (ci := 5) (v := .int (nI (T_nb tJ_5))) (C := RX6) (T := TX6) (N := 35) hx hb hts iX_X6 hown hK hP 0 rfl rfl 10 (by decide) (hts _ m_t860) (fun _ h9 => h9) rfl dX6_chain_32 ?_
          refine lv_icmp_ge (tgt := 67) hx hb dX6_chain_35 (by decide) (fun c_38 => ?_) (fun c_38 => ?_)
          · refine lv_iinc (v := nI (j_4 + 1)) (lv' := [(1, .int (nI (j_4 + 1))), (3, .int 0), (2, .int (-1)), (0, .ref qm)]) hx hb dX6_chain_67 hl (k := 2) rfl (nI_1 _) (by decide) rfl (fun ls => ?_)
            clear hl
            intro hl
            refine lv_goto (tgt := 2) hx hb dX6_chain_70 (by decide) ?_
            exact ih_3 (j_4 + 1) tJ_5 (by omega) (by omega) hT_7 _ _ _ hP hD hS (lv_sub hl [0, 3] rfl)
          · refine lv_iload_n hx hb dX6_chain_38 rfl (lv_at hl 1 rfl) ?_
            refine lv_iconst (v := (-1)) hx hb dX6_chain_39 (by decide) ?_
            refine lv_icmp_eq (tgt := 67) hx hb dX6_chain_40 (by decide) (fun _ => ?_) (fun h9 => absurd (by decide) h9)
            refine lv_iinc (v := nI (j_4 + 1)) (lv' := [(1, .int (nI (j_4 + 1))), (3, .int 0), (2, .int (-1)), (0, .ref qm)]) hx hb dX6_chain_67 hl (k := 2) rfl (nI_1 _) (by decide) rfl (fun ls => ?_)
            clear hl
            intro hl
            refine lv_goto (tgt := 2) hx hb dX6_chain_70 (by decide) ?_
            exact ih_3 (j_4 + 1) tJ_5 (by omega) (by omega) hT_7 _ _ _ hP hD hS (lv_sub hl [0, 3] rfl)
  exact lp_1 ((8 - 0) + 1) 0 tA (Nat.lt_succ_self _) (Nat.zero_le _) (⟨hTI, rfl, rfl⟩) _ _ ls hP hD hS (lv_sub hl [0, 1] rfl)
set_option maxHeartbeats 4000000 in
set_option maxRecDepth 100000 in
theorem c_X6_does (l : Launch) (G : va_G) (cy : Nat → ClassId) (sz : Nat) (qm : Nat) (v0 : Value) (v1 : Value) (v2 : Value) (v3 : Value) (v4 : Value) (v5 : Value) (v6 : Value) (v7 : Value) (v8 : Value) (v9 : Value) (tA : TA) (qmB : Nat) (qmO : Nat) (qmK : Nat) (iEn : Int32) (iTk : Int32) (v18 : Value) (v19 : Value) (v20 : Value) (v21 : Value) (v22 : Value) (v23 : Value) (v24 : Value) (v25 : Value) (v26 : Value) (iLv : Int32) (iWs : Int32) (v29 : Value) (v30 : Value) (v31 : Value) (v32 : Value) (v33 : Value) (v34 : Value) (rB : Nat → Nat) (rO : Nat → Nat) (rK : Nat → Nat) (iK : Int32) (kM : Nat)  (hB : T_nb tA ≤ 8) (hPp : T_np tA ≤ 8) (hTI : TI tA) (hM : kM ≤ 99) : MW l yX6_does cX6_does 3 (some .int) 7 0 0 G cy [zzO qm 5 [v0, v1, v2, v3, v4, v5, v6, v7, v8, v9, .int (nI (T_nb tA)), .ref qmB, .int (nI (T_np tA)), .ref qmO, .ref qmK, .int iEn, .int iTk, .int (T_sd tA), v18, v19, v20, v21, v22, v23, v24, v25, v26, .int iLv, .int iWs, v29, v30, v31, v32, v33, v34], zzG cy 3 qmB rB, zzI cy (rB 0) 4 (bkR tA 0), zzI cy (rB 1) 4 (bkR tA 1), zzI cy (rB 2) 4 (bkR tA 2), zzI cy (rB 3) 4 (bkR tA 3), zzI cy (rB 4) 4 (bkR tA 4), zzI cy (rB 5) 4 (bkR tA 5), zzI cy (rB 6) 4 (bkR tA 6), zzI cy (rB 7) 4 (bkR tA 7), zzG cy 3 qmO rO, zzI cy (rO 0) 5 (onR tA 0), zzI cy (rO 1) 5 (onR tA 1), zzI cy (rO 2) 5 (onR tA 2), zzI cy (rO 3) 5 (onR tA 3), zzI cy (rO 4) 5 (onR tA 4), zzI cy (rO 5) 5 (onR tA 5), zzI cy (rO 6) 5 (onR tA 6), zzI cy (rO 7) 5 (onR tA 7), zzG cy 3 qmK rK, zzI cy (rK 0) 8 (T_kn tA 0), zzI cy (rK 1) 8 (T_kn tA 1), zzI cy (rK 2) 8 (T_kn tA 2), zzI cy (rK 3) 8 (T_kn tA 3), zzI cy (rK 4) 8 (T_kn tA 4), zzI cy (rK 5) 8 (T_kn tA 5), zzI cy (rK 6) 8 (T_kn tA 6), zzI cy (rK 7) 8 (T_kn tA 7)] sz [.ref qm, .int iK, .int (nI kM)] (Wi G (fun r u => ∃ (tX : TA), u = [zzO qm 5 [v0, v1, v2, v3, v4, v5, v6, v7, v8, v9, .int (nI (T_nb tX)), .ref qmB, .int (nI (T_np tX)), .ref qmO, .ref qmK, .int iEn, .int iTk, .int (T_sd tX), v18, v19, v20, v21, v22, v23, v24, v25, v26, .int iLv, .int iWs, v29, v30, v31, v32, v33, v34], zzG cy 3 qmB rB, zzI cy (rB 0) 4 (bkR tX 0), zzI cy (rB 1) 4 (bkR tX 1), zzI cy (rB 2) 4 (bkR tX 2), zzI cy (rB 3) 4 (bkR tX 3), zzI cy (rB 4) 4 (bkR tX 4), zzI cy (rB 5) 4 (bkR tX 5), zzI cy (rB 6) 4 (bkR tX 6), zzI cy (rB 7) 4 (bkR tX 7), zzG cy 3 qmO rO, zzI cy (rO 0) 5 (onR tX 0), zzI cy (rO 1) 5 (onR tX 1), zzI cy (rO 2) 5 (onR tX 2), zzI cy (rO 3) 5 (onR tX 3), zzI cy (rO 4) 5 (onR tX 4), zzI cy (rO 5) 5 (onR tX 5), zzI cy (rO 6) 5 (onR tX 6), zzI cy (rO 7) 5 (onR tX 7), zzG cy 3 qmK rK, zzI cy (rK 0) 8 (T_kn tX 0), zzI cy (rK 1) 8 (T_kn tX 1), zzI cy (rK 2) 8 (T_kn tX 2), zzI cy (rK 3) 8 (T_kn tX 3), zzI cy (rK 4) 8 (T_kn tX 4), zzI cy (rK 5) 8 (T_kn tX 5), zzI cy (rK 6) 8 (T_kn tX 6), zzI cy (rK 7) 8 (T_kn tX 7)] ∧ (TI tX ∧ T_nb tX = T_nb tA ∧ T_np tX = T_np tA) ∧ (True))) := by
  refine enW RX6 (by decide) rfl (Nat.le_of_ble_eq_true rfl) (fun p e s m below meth c ls A hx hb hml hown hts hr hlocks hP hN hl hin hD hA hS => ?_)
  have hin : meth.name = _ := hin
  have hK := hN.1
  replace hl : lv_has ls 3 [(0, .ref qm), (1, .int iK), (2, .int (nI kM))] := hl
  refine lv_iload_n hx hb dX6_does_0 rfl (lv_at hl 1 rfl) ?_
  rcases sw_1_5 iK with rfl | rfl | rfl | rfl | rfl | h_1
  · refine lv_tableIn (tgt := 36) (off := 35) hx hb dX6_does_1 (by decide) (by decide) (by decide) (by decide) ?_
    refine lv_aload_n hx hb dX6_does_36 rfl (lv_at hl 0 rfl) ?_
    refine lv_bipush (v := 8) hx hb dX6_does_37 (by decide) ?_
    refine lv_iconst (v := 0) hx hb dX6_does_39 (by decide) ?_
    refine cVi (As := [.int 8, .int 0]) (rest := []) (b := qm) (q := (RX6, TX6, 35)) ⟨hx, hb, hml, hown, hts⟩ (c_X6_readMost8 l G cy (s.heap).size qm v0 v1 v2 v3 v4 v5 v6 v7 v8 v9 tA qmB qmO qmK iEn iTk v18 v19 v20 v21 v22 v23 v24 v25 v26 iLv iWs v29 v30 v31 v32 v33 v34 rB rO rK 0 hB hPp hTI) L_X6_278 hN hP hD hS hA [0, 1, 2, 3, 4, 5, 6, 7, 8, 9, 10, 11, 12, 13, 14, 15, 16, 17, 18, 19, 20, 21, 22, 23, 24, 25, 26, 27] [false, false, false, false, false, false, false, false, false, false, false, false, false, false, false, false, false, false, false, false, false, false, false, false, false, false, false, false] rfl (by decide +kernel) rfl 0 5 rfl rfl rfl ⟨Nat.le_of_ble_eq_true rfl, Nat.le_of_ble_eq_true rfl⟩ hl.1 (Nat.le_of_ble_eq_true rfl) dX6_does_40 ⟨Nat.le_of_ble_eq_true rfl, Nat.le_of_ble_eq_true rfl⟩ (fun r_2 u_4 H locs h_3 => ?_)
    clear hP hD hS
    intro hP hD hS
    obtain ⟨tX_5, rfl, h_6, h_3⟩ := h_3
    have hPD := pd_as [zzO qm 5 [v0, v1, v2, v3, v4, v5, v6, v7, v8, v9, .int (nI (T_nb tX_5)), .ref qmB, .int (nI (T_np tX_5)), .ref qmO, .ref qmK, .int iEn, .int iTk, .int (T_sd tX_5), v18, v19, v20, v21, v22, v23, v24, v25, v26, .int iLv, .int iWs, v29, v30, v31, v32, v33, v34], zzG cy 3 qmB rB, zzI cy (rB 0) 4 (bkR tX_5 0), zzI cy (rB 1) 4 (bkR tX_5 1), zzI cy (rB 2) 4 (bkR tX_5 2), zzI cy (rB 3) 4 (bkR tX_5 3), zzI cy (rB 4) 4 (bkR tX_5 4), zzI cy (rB 5) 4 (bkR tX_5 5), zzI cy (rB 6) 4 (bkR tX_5 6), zzI cy (rB 7) 4 (bkR tX_5 7), zzG cy 3 qmO rO, zzI cy (rO 0) 5 (onR tX_5 0), zzI cy (rO 1) 5 (onR tX_5 1), zzI cy (rO 2) 5 (onR tX_5 2), zzI cy (rO 3) 5 (onR tX_5 3), zzI cy (rO 4) 5 (onR tX_5 4), zzI cy (rO 5) 5 (onR tX_5 5), zzI cy (rO 6) 5 (onR tX_5 6), zzI cy (rO 7) 5 (onR tX_5 7), zzG cy 3 qmK rK, zzI cy (rK 0) 8 (T_kn tX_5 0), zzI cy (rK 1) 8 (T_kn tX_5 1), zzI cy (rK 2) 8 (T_kn tX_5 2), zzI cy (rK 3) 8 (T_kn tX_5 3), zzI cy (rK 4) 8 (T_kn tX_5 4), zzI cy (rK 5) 8 (T_kn tX_5 5), zzI cy (rK 6) 8 (T_kn tX_5 6), zzI cy (rK 7) 8 (T_kn tX_5 7)] hP hD rfl
    clear hP hD
    obtain ⟨hP, hD⟩ := hPD
    exact endW (u := [zzO qm 5 [v0, v1, v2, v3, v4, v5, v6, v7, v8, v9, .int (nI (T_nb tX_5)), .ref qmB, .int (nI (T_np tX_5)), .ref qmO, .ref qmK, .int iEn, .int iTk, .int (T_sd tX_5), v18, v19, v20, v21, v22, v23, v24, v25, v26, .int iLv, .int iWs, v29, v30, v31, v32, v33, v34], zzG cy 3 qmB rB, zzI cy (rB 0) 4 (bkR tX_5 0), zzI cy (rB 1) 4 (bkR tX_5 1), zzI cy (rB 2) 4 (bkR tX_5 2), zzI cy (rB 3) 4 (bkR tX_5 3), zzI cy (rB 4) 4 (bkR tX_5 4), zzI cy (rB 5) 4 (bkR tX_5 5), zzI cy (rB 6) 4 (bkR tX_5 6), zzI cy (rB 7) 4 (bkR tX_5 7), zzG cy 3 qmO rO, zzI cy (rO 0) 5 (onR tX_5 0), zzI cy (rO 1) 5 (onR tX_5 1), zzI cy (rO 2) 5 (onR tX_5 2), zzI cy (rO 3) 5 (onR tX_5 3), zzI cy (rO 4) 5 (onR tX_5 4), zzI cy (rO 5) 5 (onR tX_5 5), zzI cy (rO 6) 5 (onR tX_5 6), zzI cy (rO 7) 5 (onR tX_5 7), zzG cy 3 qmK rK, zzI cy (rK 0) 8 (T_kn tX_5 0), zzI cy (rK 1) 8 (T_kn tX_5 1), zzI cy (rK 2) 8 (T_kn tX_5 2), zzI cy (rK 3) 8 (T_kn tX_5 3), zzI cy (rK 4) 8 (T_kn tX_5 4), zzI cy (rK 5) 8 (T_kn tX_5 5), zzI cy (rK 6) 8 (T_kn tX_5 6), zzI cy (rK 7) 8 (T_kn tX_5 7)]) hx hb hr hlocks rfl (hP.sub [0, 1, 2, 3, 4, 5, 6, 7, 8, 9, 10, 11, 12, 13, 14, 15, 16, 17, 18, 19, 20, 21, 22, 23, 24, 25, 26, 27] rfl) (hD.sub [0, 1, 2, 3, 4, 5, 6, 7, 8, 9, 10, 11, 12, 13, 14, 15, 16, 17, 18, 19, 20, 21, 22, 23, 24, 25, 26, 27] (by decide +kernel) rfl) hS ⟨tX_5, rfl, h_6, trivial⟩ dX6_does_43
  · refine lv_tableIn (tgt := 44) (off := 43) hx hb dX6_does_1 (by decide) (by decide) (by decide) (by decide) ?_
    refine lv_aload_n hx hb dX6_does_44 rfl (lv_at hl 0 rfl) ?_
    refine lv_iload_n hx hb dX6_does_45 rfl (lv_at hl 2 rfl) ?_
    refine lv_iconst (v := 0) hx hb dX6_does_46 (by decide) ?_
    refine cVi (As := [.int (nI kM), .int 0]) (rest := []) (b := qm) (q := (RX6, TX6, 35)) ⟨hx, hb, hml, hown, hts⟩ (c_X6_readMost l G cy (s.heap).size qm v0 v1 v2 v3 v4 v5 v6 v7 v8 v9 tA qmB qmO qmK iEn iTk v18 v19 v20 v21 v22 v23 v24 v25 v26 iLv iWs v29 v30 v31 v32 v33 v34 rB rO rK kM 0 hB hPp hTI hM) L_X6_278 hN hP hD hS hA [0, 1, 2, 3, 4, 5, 6, 7, 8, 9, 10, 11, 12, 13, 14, 15, 16, 17, 18, 19, 20, 21, 22, 23, 24, 25, 26, 27] [false, false, false, false, false, false, false, false, false, false, false, false, false, false, false, false, false, false, false, false, false, false, false, false, false, false, false, false] rfl (by decide +kernel) rfl 0 5 rfl rfl rfl ⟨Nat.le_of_ble_eq_true rfl, Nat.le_of_ble_eq_true rfl⟩ hl.1 (Nat.le_of_ble_eq_true rfl) dX6_does_47 ⟨Nat.le_of_ble_eq_true rfl, Nat.le_of_ble_eq_true rfl⟩ (fun r_7 u_9 H locs h_8 => ?_)
    clear hP hD hS
    intro hP hD hS
    obtain ⟨tX_10, rfl, h_11, h_8⟩ := h_8
    have hPD := pd_as [zzO qm 5 [v0, v1, v2, v3, v4, v5, v6, v7, v8, v9, .int (nI (T_nb tX_10)), .ref qmB, .int (nI (T_np tX_10)), .ref qmO, .ref qmK, .int iEn, .int iTk, .int (T_sd tX_10), v18, v19, v20, v21, v22, v23, v24, v25, v26, .int iLv, .int iWs, v29, v30, v31, v32, v33, v34], zzG cy 3 qmB rB, zzI cy (rB 0) 4 (bkR tX_10 0), zzI cy (rB 1) 4 (bkR tX_10 1), zzI cy (rB 2) 4 (bkR tX_10 2), zzI cy (rB 3) 4 (bkR tX_10 3), zzI cy (rB 4) 4 (bkR tX_10 4), zzI cy (rB 5) 4 (bkR tX_10 5), zzI cy (rB 6) 4 (bkR tX_10 6), zzI cy (rB 7) 4 (bkR tX_10 7), zzG cy 3 qmO rO, zzI cy (rO 0) 5 (onR tX_10 0), zzI cy (rO 1) 5 (onR tX_10 1), zzI cy (rO 2) 5 (onR tX_10 2), zzI cy (rO 3) 5 (onR tX_10 3), zzI cy (rO 4) 5 (onR tX_10 4), zzI cy (rO 5) 5 (onR tX_10 5), zzI cy (rO 6) 5 (onR tX_10 6), zzI cy (rO 7) 5 (onR tX_10 7), zzG cy 3 qmK rK, zzI cy (rK 0) 8 (T_kn tX_10 0), zzI cy (rK 1) 8 (T_kn tX_10 1), zzI cy (rK 2) 8 (T_kn tX_10 2), zzI cy (rK 3) 8 (T_kn tX_10 3), zzI cy (rK 4) 8 (T_kn tX_10 4), zzI cy (rK 5) 8 (T_kn tX_10 5), zzI cy (rK 6) 8 (T_kn tX_10 6), zzI cy (rK 7) 8 (T_kn tX_10 7)] hP hD rfl
    clear hP hD
    obtain ⟨hP, hD⟩ := hPD
    exact endW (u := [zzO qm 5 [v0, v1, v2, v3, v4, v5, v6, v7, v8, v9, .int (nI (T_nb tX_10)), .ref qmB, .int (nI (T_np tX_10)), .ref qmO, .ref qmK, .int iEn, .int iTk, .int (T_sd tX_10), v18, v19, v20, v21, v22, v23, v24, v25, v26, .int iLv, .int iWs, v29, v30, v31, v32, v33, v34], zzG cy 3 qmB rB, zzI cy (rB 0) 4 (bkR tX_10 0), zzI cy (rB 1) 4 (bkR tX_10 1), zzI cy (rB 2) 4 (bkR tX_10 2), zzI cy (rB 3) 4 (bkR tX_10 3), zzI cy (rB 4) 4 (bkR tX_10 4), zzI cy (rB 5) 4 (bkR tX_10 5), zzI cy (rB 6) 4 (bkR tX_10 6), zzI cy (rB 7) 4 (bkR tX_10 7), zzG cy 3 qmO rO, zzI cy (rO 0) 5 (onR tX_10 0), zzI cy (rO 1) 5 (onR tX_10 1), zzI cy (rO 2) 5 (onR tX_10 2), zzI cy (rO 3) 5 (onR tX_10 3), zzI cy (rO 4) 5 (onR tX_10 4), zzI cy (rO 5) 5 (onR tX_10 5), zzI cy (rO 6) 5 (onR tX_10 6), zzI cy (rO 7) 5 (onR tX_10 7), zzG cy 3 qmK rK, zzI cy (rK 0) 8 (T_kn tX_10 0), zzI cy (rK 1) 8 (T_kn tX_10 1), zzI cy (rK 2) 8 (T_kn tX_10 2), zzI cy (rK 3) 8 (T_kn tX_10 3), zzI cy (rK 4) 8 (T_kn tX_10 4), zzI cy (rK 5) 8 (T_kn tX_10 5), zzI cy (rK 6) 8 (T_kn tX_10 6), zzI cy (rK 7) 8 (T_kn tX_10 7)]) hx hb hr hlocks rfl (hP.sub [0, 1, 2, 3, 4, 5, 6, 7, 8, 9, 10, 11, 12, 13, 14, 15, 16, 17, 18, 19, 20, 21, 22, 23, 24, 25, 26, 27] rfl) (hD.sub [0, 1, 2, 3, 4, 5, 6, 7, 8, 9, 10, 11, 12, 13, 14, 15, 16, 17, 18, 19, 20, 21, 22, 23, 24, 25, 26, 27] (by decide +kernel) rfl) hS ⟨tX_10, rfl, h_11, trivial⟩ dX6_does_50
  · refine lv_tableIn (tgt := 51) (off := 50) hx hb dX6_does_1 (by decide) (by decide) (by decide) (by decide) ?_
    refine lv_aload_n hx hb dX6_does_51 rfl (lv_at hl 0 rfl) ?_
    refine lv_bipush (v := 8) hx hb dX6_does_52 (by decide) ?_
    refine lv_iconst (v := 1) hx hb dX6_does_54 (by decide) ?_
    refine cVi (As := [.int 8, .int 1]) (rest := []) (b := qm) (q := (RX6, TX6, 35)) ⟨hx, hb, hml, hown, hts⟩ (c_X6_readMost8 l G cy (s.heap).size qm v0 v1 v2 v3 v4 v5 v6 v7 v8 v9 tA qmB qmO qmK iEn iTk v18 v19 v20 v21 v22 v23 v24 v25 v26 iLv iWs v29 v30 v31 v32 v33 v34 rB rO rK 1 hB hPp hTI) L_X6_278 hN hP hD hS hA [0, 1, 2, 3, 4, 5, 6, 7, 8, 9, 10, 11, 12, 13, 14, 15, 16, 17, 18, 19, 20, 21, 22, 23, 24, 25, 26, 27] [false, false, false, false, false, false, false, false, false, false, false, false, false, false, false, false, false, false, false, false, false, false, false, false, false, false, false, false] rfl (by decide +kernel) rfl 0 5 rfl rfl rfl ⟨Nat.le_of_ble_eq_true rfl, Nat.le_of_ble_eq_true rfl⟩ hl.1 (Nat.le_of_ble_eq_true rfl) dX6_does_55 ⟨Nat.le_of_ble_eq_true rfl, Nat.le_of_ble_eq_true rfl⟩ (fun r_12 u_14 H locs h_13 => ?_)
    clear hP hD hS
    intro hP hD hS
    obtain ⟨tX_15, rfl, h_16, h_13⟩ := h_13
    have hPD := pd_as [zzO qm 5 [v0, v1, v2, v3, v4, v5, v6, v7, v8, v9, .int (nI (T_nb tX_15)), .ref qmB, .int (nI (T_np tX_15)), .ref qmO, .ref qmK, .int iEn, .int iTk, .int (T_sd tX_15), v18, v19, v20, v21, v22, v23, v24, v25, v26, .int iLv, .int iWs, v29, v30, v31, v32, v33, v34], zzG cy 3 qmB rB, zzI cy (rB 0) 4 (bkR tX_15 0), zzI cy (rB 1) 4 (bkR tX_15 1), zzI cy (rB 2) 4 (bkR tX_15 2), zzI cy (rB 3) 4 (bkR tX_15 3), zzI cy (rB 4) 4 (bkR tX_15 4), zzI cy (rB 5) 4 (bkR tX_15 5), zzI cy (rB 6) 4 (bkR tX_15 6), zzI cy (rB 7) 4 (bkR tX_15 7), zzG cy 3 qmO rO, zzI cy (rO 0) 5 (onR tX_15 0), zzI cy (rO 1) 5 (onR tX_15 1), zzI cy (rO 2) 5 (onR tX_15 2), zzI cy (rO 3) 5 (onR tX_15 3), zzI cy (rO 4) 5 (onR tX_15 4), zzI cy (rO 5) 5 (onR tX_15 5), zzI cy (rO 6) 5 (onR tX_15 6), zzI cy (rO 7) 5 (onR tX_15 7), zzG cy 3 qmK rK, zzI cy (rK 0) 8 (T_kn tX_15 0), zzI cy (rK 1) 8 (T_kn tX_15 1), zzI cy (rK 2) 8 (T_kn tX_15 2), zzI cy (rK 3) 8 (T_kn tX_15 3), zzI cy (rK 4) 8 (T_kn tX_15 4), zzI cy (rK 5) 8 (T_kn tX_15 5), zzI cy (rK 6) 8 (T_kn tX_15 6), zzI cy (rK 7) 8 (T_kn tX_15 7)] hP hD rfl
    clear hP hD
    obtain ⟨hP, hD⟩ := hPD
    exact endW (u := [zzO qm 5 [v0, v1, v2, v3, v4, v5, v6, v7, v8, v9, .int (nI (T_nb tX_15)), .ref qmB, .int (nI (T_np tX_15)), .ref qmO, .ref qmK, .int iEn, .int iTk, .int (T_sd tX_15), v18, v19, v20, v21, v22, v23, v24, v25, v26, .int iLv, .int iWs, v29, v30, v31, v32, v33, v34], zzG cy 3 qmB rB, zzI cy (rB 0) 4 (bkR tX_15 0), zzI cy (rB 1) 4 (bkR tX_15 1), zzI cy (rB 2) 4 (bkR tX_15 2), zzI cy (rB 3) 4 (bkR tX_15 3), zzI cy (rB 4) 4 (bkR tX_15 4), zzI cy (rB 5) 4 (bkR tX_15 5), zzI cy (rB 6) 4 (bkR tX_15 6), zzI cy (rB 7) 4 (bkR tX_15 7), zzG cy 3 qmO rO, zzI cy (rO 0) 5 (onR tX_15 0), zzI cy (rO 1) 5 (onR tX_15 1), zzI cy (rO 2) 5 (onR tX_15 2), zzI cy (rO 3) 5 (onR tX_15 3), zzI cy (rO 4) 5 (onR tX_15 4), zzI cy (rO 5) 5 (onR tX_15 5), zzI cy (rO 6) 5 (onR tX_15 6), zzI cy (rO 7) 5 (onR tX_15 7), zzG cy 3 qmK rK, zzI cy (rK 0) 8 (T_kn tX_15 0), zzI cy (rK 1) 8 (T_kn tX_15 1), zzI cy (rK 2) 8 (T_kn tX_15 2), zzI cy (rK 3) 8 (T_kn tX_15 3), zzI cy (rK 4) 8 (T_kn tX_15 4), zzI cy (rK 5) 8 (T_kn tX_15 5), zzI cy (rK 6) 8 (T_kn tX_15 6), zzI cy (rK 7) 8 (T_kn tX_15 7)]) hx hb hr hlocks rfl (hP.sub [0, 1, 2, 3, 4, 5, 6, 7, 8, 9, 10, 11, 12, 13, 14, 15, 16, 17, 18, 19, 20, 21, 22, 23, 24, 25, 26, 27] rfl) (hD.sub [0, 1, 2, 3, 4, 5, 6, 7, 8, 9, 10, 11, 12, 13, 14, 15, 16, 17, 18, 19, 20, 21, 22, 23, 24, 25, 26, 27] (by decide +kernel) rfl) hS ⟨tX_15, rfl, h_16, trivial⟩ dX6_does_58
  · refine lv_tableIn (tgt := 59) (off := 58) hx hb dX6_does_1 (by decide) (by decide) (by decide) (by decide) ?_
    refine lv_aload_n hx hb dX6_does_59 rfl (lv_at hl 0 rfl) ?_
    refine cVv (As := []) (rest := []) (b := qm) (q := (RX6, TX6, 35)) ⟨hx, hb, hml, hown, hts⟩ (c_X6_chain l G cy (s.heap).size qm v0 v1 v2 v3 v4 v5 v6 v7 v8 v9 tA qmB qmO qmK iEn iTk v18 v19 v20 v21 v22 v23 v24 v25 v26 iLv iWs v29 v30 v31 v32 v33 v34 rB rO rK hB hPp hTI) L_X6_282 hN hP hD hS hA [0, 1, 2, 3, 4, 5, 6, 7, 8, 9, 10, 11, 12, 13, 14, 15, 16, 17, 18, 19, 20, 21, 22, 23, 24, 25, 26, 27] [false, false, false, false, false, false, false, false, false, false, false, false, false, false, false, false, false, false, false, false, false, false, false, false, false, false, false, false] rfl (by decide +kernel) rfl 0 5 rfl rfl rfl ⟨Nat.le_of_ble_eq_true rfl, Nat.le_of_ble_eq_true rfl⟩ hl.1 (Nat.le_of_ble_eq_true rfl) dX6_does_60 ⟨Nat.le_of_ble_eq_true rfl, Nat.le_of_ble_eq_true rfl⟩ (fun u_19 H locs h_18 => ?_)
    clear hP hD hS
    intro hP hD hS
    obtain ⟨tX_20, rfl, h_21⟩ := h_18
    have hPD := pd_as [zzO qm 5 [v0, v1, v2, v3, v4, v5, v6, v7, v8, v9, .int (nI (T_nb tX_20)), .ref qmB, .int (nI (T_np tX_20)), .ref qmO, .ref qmK, .int iEn, .int iTk, .int (T_sd tX_20), v18, v19, v20, v21, v22, v23, v24, v25, v26, .int iLv, .int iWs, v29, v30, v31, v32, v33, v34], zzG cy 3 qmB rB, zzI cy (rB 0) 4 (bkR tX_20 0), zzI cy (rB 1) 4 (bkR tX_20 1), zzI cy (rB 2) 4 (bkR tX_20 2), zzI cy (rB 3) 4 (bkR tX_20 3), zzI cy (rB 4) 4 (bkR tX_20 4), zzI cy (rB 5) 4 (bkR tX_20 5), zzI cy (rB 6) 4 (bkR tX_20 6), zzI cy (rB 7) 4 (bkR tX_20 7), zzG cy 3 qmO rO, zzI cy (rO 0) 5 (onR tX_20 0), zzI cy (rO 1) 5 (onR tX_20 1), zzI cy (rO 2) 5 (onR tX_20 2), zzI cy (rO 3) 5 (onR tX_20 3), zzI cy (rO 4) 5 (onR tX_20 4), zzI cy (rO 5) 5 (onR tX_20 5), zzI cy (rO 6) 5 (onR tX_20 6), zzI cy (rO 7) 5 (onR tX_20 7), zzG cy 3 qmK rK, zzI cy (rK 0) 8 (T_kn tX_20 0), zzI cy (rK 1) 8 (T_kn tX_20 1), zzI cy (rK 2) 8 (T_kn tX_20 2), zzI cy (rK 3) 8 (T_kn tX_20 3), zzI cy (rK 4) 8 (T_kn tX_20 4), zzI cy (rK 5) 8 (T_kn tX_20 5), zzI cy (rK 6) 8 (T_kn tX_20 6), zzI cy (rK 7) 8 (T_kn tX_20 7)] hP hD rfl
    clear hP hD
    obtain ⟨hP, hD⟩ := hPD
    refine lv_iconst (v := 0) hx hb dX6_does_63 (by decide) ?_
    exact endW (u := [zzO qm 5 [v0, v1, v2, v3, v4, v5, v6, v7, v8, v9, .int (nI (T_nb tX_20)), .ref qmB, .int (nI (T_np tX_20)), .ref qmO, .ref qmK, .int iEn, .int iTk, .int (T_sd tX_20), v18, v19, v20, v21, v22, v23, v24, v25, v26, .int iLv, .int iWs, v29, v30, v31, v32, v33, v34], zzG cy 3 qmB rB, zzI cy (rB 0) 4 (bkR tX_20 0), zzI cy (rB 1) 4 (bkR tX_20 1), zzI cy (rB 2) 4 (bkR tX_20 2), zzI cy (rB 3) 4 (bkR tX_20 3), zzI cy (rB 4) 4 (bkR tX_20 4), zzI cy (rB 5) 4 (bkR tX_20 5), zzI cy (rB 6) 4 (bkR tX_20 6), zzI cy (rB 7) 4 (bkR tX_20 7), zzG cy 3 qmO rO, zzI cy (rO 0) 5 (onR tX_20 0), zzI cy (rO 1) 5 (onR tX_20 1), zzI cy (rO 2) 5 (onR tX_20 2), zzI cy (rO 3) 5 (onR tX_20 3), zzI cy (rO 4) 5 (onR tX_20 4), zzI cy (rO 5) 5 (onR tX_20 5), zzI cy (rO 6) 5 (onR tX_20 6), zzI cy (rO 7) 5 (onR tX_20 7), zzG cy 3 qmK rK, zzI cy (rK 0) 8 (T_kn tX_20 0), zzI cy (rK 1) 8 (T_kn tX_20 1), zzI cy (rK 2) 8 (T_kn tX_20 2), zzI cy (rK 3) 8 (T_kn tX_20 3), zzI cy (rK 4) 8 (T_kn tX_20 4), zzI cy (rK 5) 8 (T_kn tX_20 5), zzI cy (rK 6) 8 (T_kn tX_20 6), zzI cy (rK 7) 8 (T_kn tX_20 7)]) hx hb hr hlocks rfl (hP.sub [0, 1, 2, 3, 4, 5, 6, 7, 8, 9, 10, 11, 12, 13, 14, 15, 16, 17, 18, 19, 20, 21, 22, 23, 24, 25, 26, 27] rfl) (hD.sub [0, 1, 2, 3, 4, 5, 6, 7, 8, 9, 10, 11, 12, 13, 14, 15, 16, 17, 18, 19, 20, 21, 22, 23, 24, 25, 26, 27] (by decide +kernel) rfl) hS ⟨tX_20, rfl, h_21, trivial⟩ dX6_does_64
  · refine lv_tableIn (tgt := 65) (off := 64) hx hb dX6_does_1 (by decide) (by decide) (by decide) (by decide) ?_
    refine lv_aload_n hx hb dX6_does_65 rfl (lv_at hl 0 rfl) ?_
    refine cVv (As := []) (rest := []) (b := qm) (q := (RX6, TX6, 35)) ⟨hx, hb, hml, hown, hts⟩ (c_X6_chain l G cy (s.heap).size qm v0 v1 v2 v3 v4 v5 v6 v7 v8 v9 tA qmB qmO qmK iEn iTk v18 v19 v20 v21 v22 v23 v24 v25 v26 iLv iWs v29 v30 v31 v32 v33 v34 rB rO rK hB hPp hTI) L_X6_282 hN hP hD hS hA [0, 1, 2, 3, 4, 5, 6, 7, 8, 9, 10, 11, 12, 13, 14, 15, 16, 17, 18, 19, 20, 21, 22, 23, 24, 25, 26, 27] [false, false, false, false, false, false, false, false, false, false, false, false, false, false, false, false, false, false, false, false, false, false, false, false, false, false, false, false] rfl (by decide +kernel) rfl 0 5 rfl rfl rfl ⟨Nat.le_of_ble_eq_true rfl, Nat.le_of_ble_eq_true rfl⟩ hl.1 (Nat.le_of_ble_eq_true rfl) dX6_does_66 ⟨Nat.le_of_ble_eq_true rfl, Nat.le_of_ble_eq_true rfl⟩ (fun u_24 H locs h_23 => ?_)
    clear hP hD hS
    intro hP hD hS
    obtain ⟨tX_25, rfl, h_26⟩ := h_23
    have hPD := pd_as [zzO qm 5 [v0, v1, v2, v3, v4, v5, v6, v7, v8, v9, .int (nI (T_nb tX_25)), .ref qmB, .int (nI (T_np tX_25)), .ref qmO, .ref qmK, .int iEn, .int iTk, .int (T_sd tX_25), v18, v19, v20, v21, v22, v23, v24, v25, v26, .int iLv, .int iWs, v29, v30, v31, v32, v33, v34], zzG cy 3 qmB rB, zzI cy (rB 0) 4 (bkR tX_25 0), zzI cy (rB 1) 4 (bkR tX_25 1), zzI cy (rB 2) 4 (bkR tX_25 2), zzI cy (rB 3) 4 (bkR tX_25 3), zzI cy (rB 4) 4 (bkR tX_25 4), zzI cy (rB 5) 4 (bkR tX_25 5), zzI cy (rB 6) 4 (bkR tX_25 6), zzI cy (rB 7) 4 (bkR tX_25 7), zzG cy 3 qmO rO, zzI cy (rO 0) 5 (onR tX_25 0), zzI cy (rO 1) 5 (onR tX_25 1), zzI cy (rO 2) 5 (onR tX_25 2), zzI cy (rO 3) 5 (onR tX_25 3), zzI cy (rO 4) 5 (onR tX_25 4), zzI cy (rO 5) 5 (onR tX_25 5), zzI cy (rO 6) 5 (onR tX_25 6), zzI cy (rO 7) 5 (onR tX_25 7), zzG cy 3 qmK rK, zzI cy (rK 0) 8 (T_kn tX_25 0), zzI cy (rK 1) 8 (T_kn tX_25 1), zzI cy (rK 2) 8 (T_kn tX_25 2), zzI cy (rK 3) 8 (T_kn tX_25 3), zzI cy (rK 4) 8 (T_kn tX_25 4), zzI cy (rK 5) 8 (T_kn tX_25 5), zzI cy (rK 6) 8 (T_kn tX_25 6), zzI cy (rK 7) 8 (T_kn tX_25 7)] hP hD rfl
    clear hP hD
    obtain ⟨hP, hD⟩ := hPD
    refine lv_aload_n hx hb dX6_does_69 rfl (lv_at hl 0 rfl) ?_
    refine cVv (As := []) (rest := []) (b := qm) (q := (RX6, TX6, 35)) ⟨hx, hb, hml, hown, hts⟩ (c_X6_chain l G cy (H).size qm v0 v1 v2 v3 v4 v5 v6 v7 v8 v9 tX_25 qmB qmO qmK iEn iTk v18 v19 v20 v21 v22 v23 v24 v25 v26 iLv iWs v29 v30 v31 v32 v33 v34 rB rO rK (by have := h_26; omega) (by have := h_26; omega) h_26.1) L_X6_282 hN hP hD hS hA [0, 1, 2, 3, 4, 5, 6, 7, 8, 9, 10, 11, 12, 13, 14, 15, 16, 17, 18, 19, 20, 21, 22, 23, 24, 25, 26, 27] [false, false, false, false, false, false, false, false, false, false, false, false, false, false, false, false, false, false, false, false, false, false, false, false, false, false, false, false] rfl (by decide +kernel) rfl 0 5 rfl rfl rfl ⟨Nat.le_of_ble_eq_true rfl, Nat.le_of_ble_eq_true rfl⟩ hl.1 (Nat.le_of_ble_eq_true rfl) dX6_does_70 ⟨Nat.le_of_ble_eq_true rfl, Nat.le_of_ble_eq_true rfl⟩ (fun u_29 H locs h_28 => ?_)
    clear hP hD hS
    intro hP hD hS
    obtain ⟨tX_30, rfl, h_31⟩ := h_28
    have hPD := pd_as [zzO qm 5 [v0, v1, v2, v3, v4, v5, v6, v7, v8, v9, .int (nI (T_nb tX_30)), .ref qmB, .int (nI (T_np tX_30)), .ref qmO, .ref qmK, .int iEn, .int iTk, .int (T_sd tX_30), v18, v19, v20, v21, v22, v23, v24, v25, v26, .int iLv, .int iWs, v29, v30, v31, v32, v33, v34], zzG cy 3 qmB rB, zzI cy (rB 0) 4 (bkR tX_30 0), zzI cy (rB 1) 4 (bkR tX_30 1), zzI cy (rB 2) 4 (bkR tX_30 2), zzI cy (rB 3) 4 (bkR tX_30 3), zzI cy (rB 4) 4 (bkR tX_30 4), zzI cy (rB 5) 4 (bkR tX_30 5), zzI cy (rB 6) 4 (bkR tX_30 6), zzI cy (rB 7) 4 (bkR tX_30 7), zzG cy 3 qmO rO, zzI cy (rO 0) 5 (onR tX_30 0), zzI cy (rO 1) 5 (onR tX_30 1), zzI cy (rO 2) 5 (onR tX_30 2), zzI cy (rO 3) 5 (onR tX_30 3), zzI cy (rO 4) 5 (onR tX_30 4), zzI cy (rO 5) 5 (onR tX_30 5), zzI cy (rO 6) 5 (onR tX_30 6), zzI cy (rO 7) 5 (onR tX_30 7), zzG cy 3 qmK rK, zzI cy (rK 0) 8 (T_kn tX_30 0), zzI cy (rK 1) 8 (T_kn tX_30 1), zzI cy (rK 2) 8 (T_kn tX_30 2), zzI cy (rK 3) 8 (T_kn tX_30 3), zzI cy (rK 4) 8 (T_kn tX_30 4), zzI cy (rK 5) 8 (T_kn tX_30 5), zzI cy (rK 6) 8 (T_kn tX_30 6), zzI cy (rK 7) 8 (T_kn tX_30 7)] hP hD rfl
    clear hP hD
    obtain ⟨hP, hD⟩ := hPD
    refine lv_iconst (v := 0) hx hb dX6_does_73 (by decide) ?_
    exact endW (u := [zzO qm 5 [v0, v1, v2, v3, v4, v5, v6, v7, v8, v9, .int (nI (T_nb tX_30)), .ref qmB, .int (nI (T_np tX_30)), .ref qmO, .ref qmK, .int iEn, .int iTk, .int (T_sd tX_30), v18, v19, v20, v21, v22, v23, v24, v25, v26, .int iLv, .int iWs, v29, v30, v31, v32, v33, v34], zzG cy 3 qmB rB, zzI cy (rB 0) 4 (bkR tX_30 0), zzI cy (rB 1) 4 (bkR tX_30 1), zzI cy (rB 2) 4 (bkR tX_30 2), zzI cy (rB 3) 4 (bkR tX_30 3), zzI cy (rB 4) 4 (bkR tX_30 4), zzI cy (rB 5) 4 (bkR tX_30 5), zzI cy (rB 6) 4 (bkR tX_30 6), zzI cy (rB 7) 4 (bkR tX_30 7), zzG cy 3 qmO rO, zzI cy (rO 0) 5 (onR tX_30 0), zzI cy (rO 1) 5 (onR tX_30 1), zzI cy (rO 2) 5 (onR tX_30 2), zzI cy (rO 3) 5 (onR tX_30 3), zzI cy (rO 4) 5 (onR tX_30 4), zzI cy (rO 5) 5 (onR tX_30 5), zzI cy (rO 6) 5 (onR tX_30 6), zzI cy (rO 7) 5 (onR tX_30 7), zzG cy 3 qmK rK, zzI cy (rK 0) 8 (T_kn tX_30 0), zzI cy (rK 1) 8 (T_kn tX_30 1), zzI cy (rK 2) 8 (T_kn tX_30 2), zzI cy (rK 3) 8 (T_kn tX_30 3), zzI cy (rK 4) 8 (T_kn tX_30 4), zzI cy (rK 5) 8 (T_kn tX_30 5), zzI cy (rK 6) 8 (T_kn tX_30 6), zzI cy (rK 7) 8 (T_kn tX_30 7)]) hx hb hr hlocks rfl (hP.sub [0, 1, 2, 3, 4, 5, 6, 7, 8, 9, 10, 11, 12, 13, 14, 15, 16, 17, 18, 19, 20, 21, 22, 23, 24, 25, 26, 27] rfl) (hD.sub [0, 1, 2, 3, 4, 5, 6, 7, 8, 9, 10, 11, 12, 13, 14, 15, 16, 17, 18, 19, 20, 21, 22, 23, 24, 25, 26, 27] (by decide +kernel) rfl) hS ⟨tX_30, rfl, ⟨h_31.1, h_31.2.1.trans h_26.2.1, h_31.2.2.trans h_26.2.2⟩, trivial⟩ dX6_does_74
  · refine lv_tableOut (tgt := 75) hx hb dX6_does_1 h_1 (by decide) ?_
    refine lv_aload_n hx hb dX6_does_75 rfl (lv_at hl 0 rfl) ?_
    refine cVv (As := []) (rest := []) (b := qm) (q := (RX6, TX6, 35)) ⟨hx, hb, hml, hown, hts⟩ (c_X6_chain l G cy (s.heap).size qm v0 v1 v2 v3 v4 v5 v6 v7 v8 v9 tA qmB qmO qmK iEn iTk v18 v19 v20 v21 v22 v23 v24 v25 v26 iLv iWs v29 v30 v31 v32 v33 v34 rB rO rK hB hPp hTI) L_X6_282 hN hP hD hS hA [0, 1, 2, 3, 4, 5, 6, 7, 8, 9, 10, 11, 12, 13, 14, 15, 16, 17, 18, 19, 20, 21, 22, 23, 24, 25, 26, 27] [false, false, false, false, false, false, false, false, false, false, false, false, false, false, false, false, false, false, false, false, false, false, false, false, false, false, false, false] rfl (by decide +kernel) rfl 0 5 rfl rfl rfl ⟨Nat.le_of_ble_eq_true rfl, Nat.le_of_ble_eq_true rfl⟩ hl.1 (Nat.le_of_ble_eq_true rfl) dX6_does_76 ⟨Nat.le_of_ble_eq_true rfl, Nat.le_of_ble_eq_true rfl⟩ (fun u_34 H locs h_33 => ?_)
    clear hP hD hS
    intro hP hD hS
    obtain ⟨tX_35, rfl, h_36⟩ := h_33
    have hPD := pd_as [zzO qm 5 [v0, v1, v2, v3, v4, v5, v6, v7, v8, v9, .int (nI (T_nb tX_35)), .ref qmB, .int (nI (T_np tX_35)), .ref qmO, .ref qmK, .int iEn, .int iTk, .int (T_sd tX_35), v18, v19, v20, v21, v22, v23, v24, v25, v26, .int iLv, .int iWs, v29, v30, v31, v32, v33, v34], zzG cy 3 qmB rB, zzI cy (rB 0) 4 (bkR tX_35 0), zzI cy (rB 1) 4 (bkR tX_35 1), zzI cy (rB 2) 4 (bkR tX_35 2), zzI cy (rB 3) 4 (bkR tX_35 3), zzI cy (rB 4) 4 (bkR tX_35 4), zzI cy (rB 5) 4 (bkR tX_35 5), zzI cy (rB 6) 4 (bkR tX_35 6), zzI cy (rB 7) 4 (bkR tX_35 7), zzG cy 3 qmO rO, zzI cy (rO 0) 5 (onR tX_35 0), zzI cy (rO 1) 5 (onR tX_35 1), zzI cy (rO 2) 5 (onR tX_35 2), zzI cy (rO 3) 5 (onR tX_35 3), zzI cy (rO 4) 5 (onR tX_35 4), zzI cy (rO 5) 5 (onR tX_35 5), zzI cy (rO 6) 5 (onR tX_35 6), zzI cy (rO 7) 5 (onR tX_35 7), zzG cy 3 qmK rK, zzI cy (rK 0) 8 (T_kn tX_35 0), zzI cy (rK 1) 8 (T_kn tX_35 1), zzI cy (rK 2) 8 (T_kn tX_35 2), zzI cy (rK 3) 8 (T_kn tX_35 3), zzI cy (rK 4) 8 (T_kn tX_35 4), zzI cy (rK 5) 8 (T_kn tX_35 5), zzI cy (rK 6) 8 (T_kn tX_35 6), zzI cy (rK 7) 8 (T_kn tX_35 7)] hP hD rfl
    clear hP hD
    obtain ⟨hP, hD⟩ := hPD
    refine lv_aload_n hx hb dX6_does_79 rfl (lv_at hl 0 rfl) ?_
    refine lv_iconst (v := 1) hx hb dX6_does_80 (by decide) ?_
    refine lv_iconst (v := 0) hx hb dX6_does_81 (by decide) ?_
    refine cVi (As := [.int 1, .int 0]) (rest := []) (b := qm) (q := (RX6, TX6, 35)) ⟨hx, hb, hml, hown, hts⟩ (c_X6_readMost1 l G cy (H).size qm v0 v1 v2 v3 v4 v5 v6 v7 v8 v9 tX_35 qmB qmO qmK iEn iTk v18 v19 v20 v21 v22 v23 v24 v25 v26 iLv iWs v29 v30 v31 v32 v33 v34 rB rO rK 0 (by have := h_36; omega) (by have := h_36; omega) h_36.1) L_X6_278 hN hP hD hS hA [0, 1, 2, 3, 4, 5, 6, 7, 8, 9, 10, 11, 12, 13, 14, 15, 16, 17, 18, 19, 20, 21, 22, 23, 24, 25, 26, 27] [false, false, false, false, false, false, false, false, false, false, false, false, false, false, false, false, false, false, false, false, false, false, false, false, false, false, false, false] rfl (by decide +kernel) rfl 0 5 rfl rfl rfl ⟨Nat.le_of_ble_eq_true rfl, Nat.le_of_ble_eq_true rfl⟩ hl.1 (Nat.le_of_ble_eq_true rfl) dX6_does_82 ⟨Nat.le_of_ble_eq_true rfl, Nat.le_of_ble_eq_true rfl⟩ (fun r_37 u_39 H locs h_38 => ?_)
    clear hP hD hS
    intro hP hD hS
    obtain ⟨tX_40, rfl, h_41, h_38⟩ := h_38
    have hPD := pd_as [zzO qm 5 [v0, v1, v2, v3, v4, v5, v6, v7, v8, v9, .int (nI (T_nb tX_40)), .ref qmB, .int (nI (T_np tX_40)), .ref qmO, .ref qmK, .int iEn, .int iTk, .int (T_sd tX_40), v18, v19, v20, v21, v22, v23, v24, v25, v26, .int iLv, .int iWs, v29, v30, v31, v32, v33, v34], zzG cy 3 qmB rB, zzI cy (rB 0) 4 (bkR tX_40 0), zzI cy (rB 1) 4 (bkR tX_40 1), zzI cy (rB 2) 4 (bkR tX_40 2), zzI cy (rB 3) 4 (bkR tX_40 3), zzI cy (rB 4) 4 (bkR tX_40 4), zzI cy (rB 5) 4 (bkR tX_40 5), zzI cy (rB 6) 4 (bkR tX_40 6), zzI cy (rB 7) 4 (bkR tX_40 7), zzG cy 3 qmO rO, zzI cy (rO 0) 5 (onR tX_40 0), zzI cy (rO 1) 5 (onR tX_40 1), zzI cy (rO 2) 5 (onR tX_40 2), zzI cy (rO 3) 5 (onR tX_40 3), zzI cy (rO 4) 5 (onR tX_40 4), zzI cy (rO 5) 5 (onR tX_40 5), zzI cy (rO 6) 5 (onR tX_40 6), zzI cy (rO 7) 5 (onR tX_40 7), zzG cy 3 qmK rK, zzI cy (rK 0) 8 (T_kn tX_40 0), zzI cy (rK 1) 8 (T_kn tX_40 1), zzI cy (rK 2) 8 (T_kn tX_40 2), zzI cy (rK 3) 8 (T_kn tX_40 3), zzI cy (rK 4) 8 (T_kn tX_40 4), zzI cy (rK 5) 8 (T_kn tX_40 5), zzI cy (rK 6) 8 (T_kn tX_40 6), zzI cy (rK 7) 8 (T_kn tX_40 7)] hP hD rfl
    clear hP hD
    obtain ⟨hP, hD⟩ := hPD
    exact endW (u := [zzO qm 5 [v0, v1, v2, v3, v4, v5, v6, v7, v8, v9, .int (nI (T_nb tX_40)), .ref qmB, .int (nI (T_np tX_40)), .ref qmO, .ref qmK, .int iEn, .int iTk, .int (T_sd tX_40), v18, v19, v20, v21, v22, v23, v24, v25, v26, .int iLv, .int iWs, v29, v30, v31, v32, v33, v34], zzG cy 3 qmB rB, zzI cy (rB 0) 4 (bkR tX_40 0), zzI cy (rB 1) 4 (bkR tX_40 1), zzI cy (rB 2) 4 (bkR tX_40 2), zzI cy (rB 3) 4 (bkR tX_40 3), zzI cy (rB 4) 4 (bkR tX_40 4), zzI cy (rB 5) 4 (bkR tX_40 5), zzI cy (rB 6) 4 (bkR tX_40 6), zzI cy (rB 7) 4 (bkR tX_40 7), zzG cy 3 qmO rO, zzI cy (rO 0) 5 (onR tX_40 0), zzI cy (rO 1) 5 (onR tX_40 1), zzI cy (rO 2) 5 (onR tX_40 2), zzI cy (rO 3) 5 (onR tX_40 3), zzI cy (rO 4) 5 (onR tX_40 4), zzI cy (rO 5) 5 (onR tX_40 5), zzI cy (rO 6) 5 (onR tX_40 6), zzI cy (rO 7) 5 (onR tX_40 7), zzG cy 3 qmK rK, zzI cy (rK 0) 8 (T_kn tX_40 0), zzI cy (rK 1) 8 (T_kn tX_40 1), zzI cy (rK 2) 8 (T_kn tX_40 2), zzI cy (rK 3) 8 (T_kn tX_40 3), zzI cy (rK 4) 8 (T_kn tX_40 4), zzI cy (rK 5) 8 (T_kn tX_40 5), zzI cy (rK 6) 8 (T_kn tX_40 6), zzI cy (rK 7) 8 (T_kn tX_40 7)]) hx hb hr hlocks rfl (hP.sub [0, 1, 2, 3, 4, 5, 6, 7, 8, 9, 10, 11, 12, 13, 14, 15, 16, 17, 18, 19, 20, 21, 22, 23, 24, 25, 26, 27] rfl) (hD.sub [0, 1, 2, 3, 4, 5, 6, 7, 8, 9, 10, 11, 12, 13, 14, 15, 16, 17, 18, 19, 20, 21, 22, 23, 24, 25, 26, 27] (by decide +kernel) rfl) hS ⟨tX_40, rfl, ⟨h_41.1, h_41.2.1.trans h_36.2.1, h_41.2.2.trans h_36.2.2⟩, trivial⟩ dX6_does_85
set_option maxHeartbeats 4000000 in
set_option maxRecDepth 100000 in
theorem c_X6_end (l : Launch) (G : va_G) (cy : Nat → ClassId) (sz : Nat) (qm : Nat) (v0 : Value) (v1 : Value) (v2 : Value) (v3 : Value) (v4 : Value) (v5 : Value) (v6 : Value) (v7 : Value) (v8 : Value) (v9 : Value) (tA : TA) (qmB : Nat) (qmO : Nat) (qmK : Nat) (iEn : Int32) (iTk : Int32) (v18 : Value) (v19 : Value) (v20 : Value) (v21 : Value) (v22 : Value) (v23 : Value) (v24 : Value) (v25 : Value) (v26 : Value) (iLv : Int32) (iWs : Int32) (v29 : Value) (v30 : Value) (v31 : Value) (v32 : Value) (v33 : Value) (v34 : Value) (rB : Nat → Nat) (rO : Nat → Nat) (rK : Nat → Nat)  (hB : T_nb tA ≤ 8) (hPp : T_np tA ≤ 8) (hTI : TI tA) : MW l yX6_end cX6_end 5 (some .int) 2 0 0 G cy [zzO qm 5 [v0, v1, v2, v3, v4, v5, v6, v7, v8, v9, .int (nI (T_nb tA)), .ref qmB, .int (nI (T_np tA)), .ref qmO, .ref qmK, .int iEn, .int iTk, .int (T_sd tA), v18, v19, v20, v21, v22, v23, v24, v25, v26, .int iLv, .int iWs, v29, v30, v31, v32, v33, v34], zzG cy 3 qmB rB, zzI cy (rB 0) 4 (bkR tA 0), zzI cy (rB 1) 4 (bkR tA 1), zzI cy (rB 2) 4 (bkR tA 2), zzI cy (rB 3) 4 (bkR tA 3), zzI cy (rB 4) 4 (bkR tA 4), zzI cy (rB 5) 4 (bkR tA 5), zzI cy (rB 6) 4 (bkR tA 6), zzI cy (rB 7) 4 (bkR tA 7), zzG cy 3 qmO rO, zzI cy (rO 0) 5 (onR tA 0), zzI cy (rO 1) 5 (onR tA 1), zzI cy (rO 2) 5 (onR tA 2), zzI cy (rO 3) 5 (onR tA 3), zzI cy (rO 4) 5 (onR tA 4), zzI cy (rO 5) 5 (onR tA 5), zzI cy (rO 6) 5 (onR tA 6), zzI cy (rO 7) 5 (onR tA 7), zzG cy 3 qmK rK, zzI cy (rK 0) 8 (T_kn tA 0), zzI cy (rK 1) 8 (T_kn tA 1), zzI cy (rK 2) 8 (T_kn tA 2), zzI cy (rK 3) 8 (T_kn tA 3), zzI cy (rK 4) 8 (T_kn tA 4), zzI cy (rK 5) 8 (T_kn tA 5), zzI cy (rK 6) 8 (T_kn tA 6), zzI cy (rK 7) 8 (T_kn tA 7)] sz [.ref qm] (Wi G (fun r u => ∃ (tX : TA) (iX : Int32), u = [zzO qm 5 [v0, v1, v2, v3, v4, v5, v6, v7, v8, v9, .int (nI (T_nb tX)), .ref qmB, .int (nI (T_np tX)), .ref qmO, .ref qmK, .int iX, .int iTk, .int (T_sd tX), v18, v19, v20, v21, v22, v23, v24, v25, v26, .int iLv, .int iWs, v29, v30, v31, v32, v33, v34], zzG cy 3 qmB rB, zzI cy (rB 0) 4 (bkR tX 0), zzI cy (rB 1) 4 (bkR tX 1), zzI cy (rB 2) 4 (bkR tX 2), zzI cy (rB 3) 4 (bkR tX 3), zzI cy (rB 4) 4 (bkR tX 4), zzI cy (rB 5) 4 (bkR tX 5), zzI cy (rB 6) 4 (bkR tX 6), zzI cy (rB 7) 4 (bkR tX 7), zzG cy 3 qmO rO, zzI cy (rO 0) 5 (onR tX 0), zzI cy (rO 1) 5 (onR tX 1), zzI cy (rO 2) 5 (onR tX 2), zzI cy (rO 3) 5 (onR tX 3), zzI cy (rO 4) 5 (onR tX 4), zzI cy (rO 5) 5 (onR tX 5), zzI cy (rO 6) 5 (onR tX 6), zzI cy (rO 7) 5 (onR tX 7), zzG cy 3 qmK rK, zzI cy (rK 0) 8 (T_kn tX 0), zzI cy (rK 1) 8 (T_kn tX 1), zzI cy (rK 2) 8 (T_kn tX 2), zzI cy (rK 3) 8 (T_kn tX 3), zzI cy (rK 4) 8 (T_kn tX 4), zzI cy (rK 5) 8 (T_kn tX 5), zzI cy (rK 6) 8 (T_kn tX 6), zzI cy (rK 7) 8 (T_kn tX 7)] ∧ (TI tX ∧ T_nb tX = T_nb tA ∧ T_np tX = T_np tA) ∧ (True))) := by
  refine enW RX6 (by decide) rfl (Nat.le_of_ble_eq_true rfl) (fun p e s m below meth c ls A hx hb hml hown hts hr hlocks hP hN hl hin hD hA hS => ?_)
  have hin : meth.name = _ := hin
  have hK := hN.1
  replace hl : lv_has ls 5 [(0, .ref qm)] := hl
  refine lv_iconst (v := 0) hx hb dX6_end_0 (by decide) ?_
  refine lv_istore_n (lv' := [(1, .int 0), (0, .ref qm)]) hx hb dX6_end_1 rfl hl (by decide) rfl (fun ls => ?_)
  clear hl
  intro hl
  refine lv_iconst (v := 0) hx hb dX6_end_2 (by decide) ?_
  refine lv_istore_n (lv' := [(2, .int 0), (1, .int 0), (0, .ref qm)]) hx hb dX6_end_3 rfl hl (by decide) rfl (fun ls => ?_)
  clear hl
  intro hl
  have lp_1 : ∀ (n_2 : Nat) (j_4 : Nat) (tJ_5 : TA) (xG_6 : Int32), 8 - j_4 < n_2 → j_4 ≤ T_np tA → TI tJ_5 ∧ T_nb tJ_5 = T_nb tA ∧ T_np tJ_5 = T_np tA → ∀ (H : Heap) (locs : List Loc) (ls : Array Slot), va_P G CL [zzO qm 5 [v0, v1, v2, v3, v4, v5, v6, v7, v8, v9, .int (nI (T_nb tJ_5)), .ref qmB, .int (nI (T_np tJ_5)), .ref qmO, .ref qmK, .int iEn, .int iTk, .int (T_sd tJ_5), v18, v19, v20, v21, v22, v23, v24, v25, v26, .int iLv, .int iWs, v29, v30, v31, v32, v33, v34], zzG cy 3 qmB rB, zzI cy (rB 0) 4 (bkR tJ_5 0), zzI cy (rB 1) 4 (bkR tJ_5 1), zzI cy (rB 2) 4 (bkR tJ_5 2), zzI cy (rB 3) 4 (bkR tJ_5 3), zzI cy (rB 4) 4 (bkR tJ_5 4), zzI cy (rB 5) 4 (bkR tJ_5 5), zzI cy (rB 6) 4 (bkR tJ_5 6), zzI cy (rB 7) 4 (bkR tJ_5 7), zzG cy 3 qmO rO, zzI cy (rO 0) 5 (onR tJ_5 0), zzI cy (rO 1) 5 (onR tJ_5 1), zzI cy (rO 2) 5 (onR tJ_5 2), zzI cy (rO 3) 5 (onR tJ_5 3), zzI cy (rO 4) 5 (onR tJ_5 4), zzI cy (rO 5) 5 (onR tJ_5 5), zzI cy (rO 6) 5 (onR tJ_5 6), zzI cy (rO 7) 5 (onR tJ_5 7), zzG cy 3 qmK rK, zzI cy (rK 0) 8 (T_kn tJ_5 0), zzI cy (rK 1) 8 (T_kn tJ_5 1), zzI cy (rK 2) 8 (T_kn tJ_5 2), zzI cy (rK 3) 8 (T_kn tJ_5 3), zzI cy (rK 4) 8 (T_kn tJ_5 4), zzI cy (rK 5) 8 (T_kn tJ_5 5), zzI cy (rK 6) 8 (T_kn tJ_5 6), zzI cy (rK 7) 8 (T_kn tJ_5 7)] H → va_D A [zzO qm 5 [v0, v1, v2, v3, v4, v5, v6, v7, v8, v9, .int (nI (T_nb tJ_5)), .ref qmB, .int (nI (T_np tJ_5)), .ref qmO, .ref qmK, .int iEn, .int iTk, .int (T_sd tJ_5), v18, v19, v20, v21, v22, v23, v24, v25, v26, .int iLv, .int iWs, v29, v30, v31, v32, v33, v34], zzG cy 3 qmB rB, zzI cy (rB 0) 4 (bkR tJ_5 0), zzI cy (rB 1) 4 (bkR tJ_5 1), zzI cy (rB 2) 4 (bkR tJ_5 2), zzI cy (rB 3) 4 (bkR tJ_5 3), zzI cy (rB 4) 4 (bkR tJ_5 4), zzI cy (rB 5) 4 (bkR tJ_5 5), zzI cy (rB 6) 4 (bkR tJ_5 6), zzI cy (rB 7) 4 (bkR tJ_5 7), zzG cy 3 qmO rO, zzI cy (rO 0) 5 (onR tJ_5 0), zzI cy (rO 1) 5 (onR tJ_5 1), zzI cy (rO 2) 5 (onR tJ_5 2), zzI cy (rO 3) 5 (onR tJ_5 3), zzI cy (rO 4) 5 (onR tJ_5 4), zzI cy (rO 5) 5 (onR tJ_5 5), zzI cy (rO 6) 5 (onR tJ_5 6), zzI cy (rO 7) 5 (onR tJ_5 7), zzG cy 3 qmK rK, zzI cy (rK 0) 8 (T_kn tJ_5 0), zzI cy (rK 1) 8 (T_kn tJ_5 1), zzI cy (rK 2) 8 (T_kn tJ_5 2), zzI cy (rK 3) 8 (T_kn tJ_5 3), zzI cy (rK 4) 8 (T_kn tJ_5 4), zzI cy (rK 5) 8 (T_kn tJ_5 5), zzI cy (rK 6) 8 (T_kn tJ_5 6), zzI cy (rK 7) 8 (T_kn tJ_5 7)] → va_S A s.heap H locs → lv_has ls 5 [(2, .int (nI j_4)), (1, .int xG_6), (0, .ref qm)] → W p l e (Rm 2 0 0) s m (List.toArray (α := Value) [.ref qm]) below meth c H locs 0 0 (MQ below ((Wi G (fun r u => ∃ (tX : TA) (iX : Int32), u = [zzO qm 5 [v0, v1, v2, v3, v4, v5, v6, v7, v8, v9, .int (nI (T_nb tX)), .ref qmB, .int (nI (T_np tX)), .ref qmO, .ref qmK, .int iX, .int iTk, .int (T_sd tX), v18, v19, v20, v21, v22, v23, v24, v25, v26, .int iLv, .int iWs, v29, v30, v31, v32, v33, v34], zzG cy 3 qmB rB, zzI cy (rB 0) 4 (bkR tX 0), zzI cy (rB 1) 4 (bkR tX 1), zzI cy (rB 2) 4 (bkR tX 2), zzI cy (rB 3) 4 (bkR tX 3), zzI cy (rB 4) 4 (bkR tX 4), zzI cy (rB 5) 4 (bkR tX 5), zzI cy (rB 6) 4 (bkR tX 6), zzI cy (rB 7) 4 (bkR tX 7), zzG cy 3 qmO rO, zzI cy (rO 0) 5 (onR tX 0), zzI cy (rO 1) 5 (onR tX 1), zzI cy (rO 2) 5 (onR tX 2), zzI cy (rO 3) 5 (onR tX 3), zzI cy (rO 4) 5 (onR tX 4), zzI cy (rO 5) 5 (onR tX 5), zzI cy (rO 6) 5 (onR tX 6), zzI cy (rO 7) 5 (onR tX 7), zzG cy 3 qmK rK, zzI cy (rK 0) 8 (T_kn tX 0), zzI cy (rK 1) 8 (T_kn tX 1), zzI cy (rK 2) 8 (T_kn tX 2), zzI cy (rK 3) 8 (T_kn tX 3), zzI cy (rK 4) 8 (T_kn tX 4), zzI cy (rK 5) 8 (T_kn tX 5), zzI cy (rK 6) 8 (T_kn tX 6), zzI cy (rK 7) 8 (T_kn tX 7)] ∧ (TI tX ∧ T_nb tX = T_nb tA ∧ T_np tX = T_np tA) ∧ (True))) A) (List.toArray (α := Value) [.ref qm]) s 0 0 A) (F0 m 4 ls []) := by
    intro n_2
    induction n_2 with
    | zero => intro j_4 tJ_5 xG_6 hm9; exact absurd hm9 (Nat.not_lt_zero _)
    | succ n_2 ih_3 =>
      intro j_4 tJ_5 xG_6 hm_9 hj_7 hT_8 H locs ls hP hD hS hl
      refine lv_iload_n hx hb dX6_end_4 rfl (lv_at hl 0 rfl) ?_
      refine lv_aload_n hx hb dX6_end_5 rfl (lv_at hl 2 rfl) ?_
      refine va_get (D := G) (ci := 5) (v := .int (nI (T_np tJ_5))) (C := RX6) (T := TX6) (N := 35) hx hb hts iX_X6 hown hK hP 0 rfl rfl 12 (by decide) (hts _ m_t862) (fun _ h9 => h9) rfl dX6_end_6 ?_
      refine lv_icmp_ge (tgt := 145) hx hb dX6_end_9 (by decide) (fun c_10 => ?_) (fun c_10 => ?_)
      · have hlt_11e : T_np tJ_5 = T_np tA := hT_8.2.2
        have hlt_11 : j_4 = T_np tA := Nat.le_antisymm (by omega) (by rw [hlt_11e] at c_10; exact lp_ge rfl rfl (by omega) (by omega) c_10)
        obtain ⟨hlt_11i, hlt_11b, hlt_11p⟩ := id hT_8
        refine lv_aload_n hx hb dX6_end_145 rfl (lv_at hl 2 rfl) ?_
        refine lv_dup hx hb dX6_end_146 rfl ?_
        refine va_get (D := G) (ci := 5) (v := .int iEn) (C := RX6) (T := TX6) (N := 35) hx hb hts iX_X6 hown hK hP 0 rfl rfl 15 (by decide) (hts _ m_t865) (fun _ h9 => h9) rfl dX6_end_147 ?_
        refine lv_iconst (v := 1) hx hb dX6_end_150 (by decide) ?_
        refine lv_iadd hx hb dX6_end_151 ?_
        refine va_put (D := G) (ci := 5) (v := .int (iEn + 1)) (ty := .int) (C := RX6) (T := TX6) (N := 35) hx hb hts iX_X6 tyX6 tyX6_ok nmX6 hown hK hP hD hS 0 rfl rfl 15 (by decide) (hts _ m_t865) (fun _ h9 => h9) rfl (by decide +kernel) rfl rfl (Nat.le_of_ble_eq_true rfl) dX6_end_152 (fun H locs => ?_)
        clear hP hD hS
        intro hP hD hS
        have hPD := pd_as [zzO qm 5 [v0, v1, v2, v3, v4, v5, v6, v7, v8, v9, .int (nI (T_nb tJ_5)), .ref qmB, .int (nI (T_np tJ_5)), .ref qmO, .ref qmK, .int (iEn + 1), .int iTk, .int (T_sd tJ_5), v18, v19, v20, v21, v22, v23, v24, v25, v26, .int iLv, .int iWs, v29, v30, v31, v32, v33, v34], zzG cy 3 qmB rB, zzI cy (rB 0) 4 (bkR tJ_5 0), zzI cy (rB 1) 4 (bkR tJ_5 1), zzI cy (rB 2) 4 (bkR tJ_5 2), zzI cy (rB 3) 4 (bkR tJ_5 3), zzI cy (rB 4) 4 (bkR tJ_5 4), zzI cy (rB 5) 4 (bkR tJ_5 5), zzI cy (rB 6) 4 (bkR tJ_5 6), zzI cy (rB 7) 4 (bkR tJ_5 7), zzG cy 3 qmO rO, zzI cy (rO 0) 5 (onR tJ_5 0), zzI cy (rO 1) 5 (onR tJ_5 1), zzI cy (rO 2) 5 (onR tJ_5 2), zzI cy (rO 3) 5 (onR tJ_5 3), zzI cy (rO 4) 5 (onR tJ_5 4), zzI cy (rO 5) 5 (onR tJ_5 5), zzI cy (rO 6) 5 (onR tJ_5 6), zzI cy (rO 7) 5 (onR tJ_5 7), zzG cy 3 qmK rK, zzI cy (rK 0) 8 (T_kn tJ_5 0), zzI cy (rK 1) 8 (T_kn tJ_5 1), zzI cy (rK 2) 8 (T_kn tJ_5 2), zzI cy (rK 3) 8 (T_kn tJ_5 3), zzI cy (rK 4) 8 (T_kn tJ_5 4), zzI cy (rK 5) 8 (T_kn tJ_5 5), zzI cy (rK 6) 8 (T_kn tJ_5 6), zzI cy (rK 7) 8 (T_kn tJ_5 7)] hP hD rfl
        clear hP hD
        obtain ⟨hP, hD⟩ := hPD
        refine lv_iload_n hx hb dX6_end_155 rfl (lv_at hl 1 rfl) ?_
        exact endW (u := [zzO qm 5 [v0, v1, v2, v3, v4, v5, v6, v7, v8, v9, .int (nI (T_nb tJ_5)), .ref qmB, .int (nI (T_np tJ_5)), .ref qmO, .ref qmK, .int (iEn + 1), .int iTk, .int (T_sd tJ_5), v18, v19, v20, v21, v22, v23, v24, v25, v26, .int iLv, .int iWs, v29, v30, v31, v32, v33, v34], zzG cy 3 qmB rB, zzI cy (rB 0) 4 (bkR tJ_5 0), zzI cy (rB 1) 4 (bkR tJ_5 1), zzI cy (rB 2) 4 (bkR tJ_5 2), zzI cy (rB 3) 4 (bkR tJ_5 3), zzI cy (rB 4) 4 (bkR tJ_5 4), zzI cy (rB 5) 4 (bkR tJ_5 5), zzI cy (rB 6) 4 (bkR tJ_5 6), zzI cy (rB 7) 4 (bkR tJ_5 7), zzG cy 3 qmO rO, zzI cy (rO 0) 5 (onR tJ_5 0), zzI cy (rO 1) 5 (onR tJ_5 1), zzI cy (rO 2) 5 (onR tJ_5 2), zzI cy (rO 3) 5 (onR tJ_5 3), zzI cy (rO 4) 5 (onR tJ_5 4), zzI cy (rO 5) 5 (onR tJ_5 5), zzI cy (rO 6) 5 (onR tJ_5 6), zzI cy (rO 7) 5 (onR tJ_5 7), zzG cy 3 qmK rK, zzI cy (rK 0) 8 (T_kn tJ_5 0), zzI cy (rK 1) 8 (T_kn tJ_5 1), zzI cy (rK 2) 8 (T_kn tJ_5 2), zzI cy (rK 3) 8 (T_kn tJ_5 3), zzI cy (rK 4) 8 (T_kn tJ_5 4), zzI cy (rK 5) 8 (T_kn tJ_5 5), zzI cy (rK 6) 8 (T_kn tJ_5 6), zzI cy (rK 7) 8 (T_kn tJ_5 7)]) hx hb hr hlocks rfl (hP.sub [0, 1, 2, 3, 4, 5, 6, 7, 8, 9, 10, 11, 12, 13, 14, 15, 16, 17, 18, 19, 20, 21, 22, 23, 24, 25, 26, 27] rfl) (hD.sub [0, 1, 2, 3, 4, 5, 6, 7, 8, 9, 10, 11, 12, 13, 14, 15, 16, 17, 18, 19, 20, 21, 22, 23, 24, 25, 26, 27] (by decide +kernel) rfl) hS ⟨tJ_5, iEn + 1, rfl, hT_8, trivial⟩ dX6_end_156
      · have hlt_12e : T_np tJ_5 = T_np tA := hT_8.2.2
        have hlt_12 : j_4 < T_np tA := by rw [hlt_12e] at c_10; exact lp_lt rfl rfl (by omega) (by omega) c_10
        obtain ⟨hlt_12i, hlt_12b, hlt_12p⟩ := id hT_8
        refine lv_aload_n hx hb dX6_end_12 rfl (lv_at hl 2 rfl) ?_
        refine lv_iload_n hx hb dX6_end_13 rfl (lv_at hl 0 rfl) ?_
        refine kRi (rV (As := [.int (nI j_4)]) (rest := []) (b := qm) ⟨hx, hb, hml, hown, hts⟩ (c_X6_isThere l G cy qm v0 v1 v2 v3 v4 v5 v6 v7 v8 v9 tJ_5 qmB qmO qmK iEn iTk v18 v19 v20 v21 v22 v23 v24 v25 v26 iLv iWs v29 v30 v31 v32 v33 v34 rO j_4 (by first | omega | (simp only [nb_sr, np_sr, nb_wr, np_wr, nb_rd, np_rd, nb_ch, np_ch, nb_zr, np_zr, nb_za, np_za, nb_ey, np_ey, nb_hf, np_hf, nb_dd, np_dd, nb_so, np_so, nb_skn, np_skn, nb_swh, np_swh, nb_sgn, np_sgn, nb_ssd, np_ssd, nb_sgo, np_sgo, nb_sag, np_sag]; omega))) L_X6_81 (preRV (q := (RX6, TX6, 35)) hN hP [0, 10, 11, 12, 13, 14, 15, 16, 17, 18] rfl 0 5 rfl rfl) rfl ⟨Nat.le_of_ble_eq_true rfl, Nat.le_of_ble_eq_true rfl⟩ hl.1 (Nat.le_of_ble_eq_true rfl) dX6_end_14 ⟨Nat.le_of_ble_eq_true rfl, Nat.le_of_ble_eq_true rfl⟩) (fun r_13 h_14 => ?_)
        rcases h_14 with ⟨rfl, h_15⟩ | ⟨rfl, h_15⟩
        · refine lv_if_eq (tgt := 139) hx hb dX6_end_17 (by decide) (fun h9 => absurd h9 (by decide)) (fun _ => ?_)
          refine lv_aload_n hx hb dX6_end_20 rfl (lv_at hl 2 rfl) ?_
          refine va_get (D := G) (ci := 5) (v := .ref qmO) (C := RX6) (T := TX6) (N := 35) hx hb hts iX_X6 hown hK hP 0 rfl rfl 13 (by decide) (hts _ m_t863) (fun _ h9 => h9) rfl dX6_end_21 ?_
          refine lv_iload_n hx hb dX6_end_24 rfl (lv_at hl 0 rfl) ?_
          refine va_alda hx hb hK hP 10 3 rfl rfl (in8 (by omega)) dX6_end_25 ?_
          refine lv_setv (v := .ref (rO j_4)) (g_ref (by omega)) ?_
          refine lv_iconst (v := 0) hx hb dX6_end_26 (by decide) ?_
          refine lv_dup2_11 hx hb dX6_end_27 rfl rfl ?_
          refine va_iald hx hb hK hP (11 + j_4) 0 (sg8 (n0 := 11) (f := (fun j => zzI cy (rO j) 5 (onR tJ_5 j))) rfl rfl rfl rfl rfl rfl rfl rfl j_4 (by omega)) rfl (in_c rfl) dX6_end_28 ?_
          refine lv_seti (v := T_ag tJ_5 j_4) (on_0 _ _) ?_
          refine lv_iconst (v := 1) hx hb dX6_end_29 (by decide) ?_
          refine lv_iadd hx hb dX6_end_30 ?_
          refine va_iast hx hb hK hP hD hS (11 + j_4) 0 ((sg8 (n0 := 11) (f := (fun j => zzI cy (rO j) 5 (onR tJ_5 j))) rfl rfl rfl rfl rfl rfl rfl rfl) j_4 (by omega)) rfl (in_c rfl) dX6_end_31 (fun H locs => ?_)
          clear hP hD hS
          intro hP hD hS
          have hPD := st8PD (ws' := [zzO qm 5 [v0, v1, v2, v3, v4, v5, v6, v7, v8, v9, .int (nI (T_nb (T_setag tJ_5 (upd (T_ag tJ_5) j_4 ((T_ag tJ_5 j_4) + 1))))), .ref qmB, .int (nI (T_np (T_setag tJ_5 (upd (T_ag tJ_5) j_4 ((T_ag tJ_5 j_4) + 1))))), .ref qmO, .ref qmK, .int iEn, .int iTk, .int (T_sd (T_setag tJ_5 (upd (T_ag tJ_5) j_4 ((T_ag tJ_5 j_4) + 1)))), v18, v19, v20, v21, v22, v23, v24, v25, v26, .int iLv, .int iWs, v29, v30, v31, v32, v33, v34], zzG cy 3 qmB rB, zzI cy (rB 0) 4 (bkR (T_setag tJ_5 (upd (T_ag tJ_5) j_4 ((T_ag tJ_5 j_4) + 1))) 0), zzI cy (rB 1) 4 (bkR (T_setag tJ_5 (upd (T_ag tJ_5) j_4 ((T_ag tJ_5 j_4) + 1))) 1), zzI cy (rB 2) 4 (bkR (T_setag tJ_5 (upd (T_ag tJ_5) j_4 ((T_ag tJ_5 j_4) + 1))) 2), zzI cy (rB 3) 4 (bkR (T_setag tJ_5 (upd (T_ag tJ_5) j_4 ((T_ag tJ_5 j_4) + 1))) 3), zzI cy (rB 4) 4 (bkR (T_setag tJ_5 (upd (T_ag tJ_5) j_4 ((T_ag tJ_5 j_4) + 1))) 4), zzI cy (rB 5) 4 (bkR (T_setag tJ_5 (upd (T_ag tJ_5) j_4 ((T_ag tJ_5 j_4) + 1))) 5), zzI cy (rB 6) 4 (bkR (T_setag tJ_5 (upd (T_ag tJ_5) j_4 ((T_ag tJ_5 j_4) + 1))) 6), zzI cy (rB 7) 4 (bkR (T_setag tJ_5 (upd (T_ag tJ_5) j_4 ((T_ag tJ_5 j_4) + 1))) 7), zzG cy 3 qmO rO, zzI cy (rO 0) 5 (onR (T_setag tJ_5 (upd (T_ag tJ_5) j_4 ((T_ag tJ_5 j_4) + 1))) 0), zzI cy (rO 1) 5 (onR (T_setag tJ_5 (upd (T_ag tJ_5) j_4 ((T_ag tJ_5 j_4) + 1))) 1), zzI cy (rO 2) 5 (onR (T_setag tJ_5 (upd (T_ag tJ_5) j_4 ((T_ag tJ_5 j_4) + 1))) 2), zzI cy (rO 3) 5 (onR (T_setag tJ_5 (upd (T_ag tJ_5) j_4 ((T_ag tJ_5 j_4) + 1))) 3), zzI cy (rO 4) 5 (onR (T_setag tJ_5 (upd (T_ag tJ_5) j_4 ((T_ag tJ_5 j_4) + 1))) 4), zzI cy (rO 5) 5 (onR (T_setag tJ_5 (upd (T_ag tJ_5) j_4 ((T_ag tJ_5 j_4) + 1))) 5), zzI cy (rO 6) 5 (onR (T_setag tJ_5 (upd (T_ag tJ_5) j_4 ((T_ag tJ_5 j_4) + 1))) 6), zzI cy (rO 7) 5 (onR (T_setag tJ_5 (upd (T_ag tJ_5) j_4 ((T_ag tJ_5 j_4) + 1))) 7), zzG cy 3 qmK rK, zzI cy (rK 0) 8 (T_kn (T_setag tJ_5 (upd (T_ag tJ_5) j_4 ((T_ag tJ_5 j_4) + 1))) 0), zzI cy (rK 1) 8 (T_kn (T_setag tJ_5 (upd (T_ag tJ_5) j_4 ((T_ag tJ_5 j_4) + 1))) 1), zzI cy (rK 2) 8 (T_kn (T_setag tJ_5 (upd (T_ag tJ_5) j_4 ((T_ag tJ_5 j_4) + 1))) 2), zzI cy (rK 3) 8 (T_kn (T_setag tJ_5 (upd (T_ag tJ_5) j_4 ((T_ag tJ_5 j_4) + 1))) 3), zzI cy (rK 4) 8 (T_kn (T_setag tJ_5 (upd (T_ag tJ_5) j_4 ((T_ag tJ_5 j_4) + 1))) 4), zzI cy (rK 5) 8 (T_kn (T_setag tJ_5 (upd (T_ag tJ_5) j_4 ((T_ag tJ_5 j_4) + 1))) 5), zzI cy (rK 6) 8 (T_kn (T_setag tJ_5 (upd (T_ag tJ_5) j_4 ((T_ag tJ_5 j_4) + 1))) 6), zzI cy (rK 7) 8 (T_kn (T_setag tJ_5 (upd (T_ag tJ_5) j_4 ((T_ag tJ_5 j_4) + 1))) 7)]) (k := j_4) (g1 := onR (T_setag tJ_5 (upd (T_ag tJ_5) j_4 ((T_ag tJ_5 j_4) + 1))) j_4) hP hD (sg8 (n0 := 11) (f := (fun j => zzI cy (rO j) 5 (onR tJ_5 j))) rfl rfl rfl rfl rfl rfl rfl rfl) (sg8 (n0 := 11) (f := (fun j => zzI cy (rO j) 5 (onR (T_setag tJ_5 (upd (T_ag tJ_5) j_4 ((T_ag tJ_5 j_4) + 1))) j))) rfl rfl rfl rfl rfl rfl rfl rfl) rfl rfl (by omega) rfl (fun i _ => (congrFun (on_u0 tJ_5 j_4 ((T_ag tJ_5 j_4) + 1)) i).symm) (fun j hj => congrArg (zzI cy (rO j) 5) (on_n0 tJ_5 j_4 ((T_ag tJ_5 j_4) + 1) hj))
          clear hP hD
          obtain ⟨hP, hD⟩ := hPD
          refine lv_aload_n hx hb dX6_end_32 rfl (lv_at hl 2 rfl) ?_
          refine va_get (D := G) (ci := 5) (v := .ref qmO) (C := RX6) (T := TX6) (N := 35) hx hb hts iX_X6 hown hK hP 0 rfl rfl 13 (by decide) (hts _ m_t863) (fun _ h9 => h9) rfl dX6_end_33 ?_
          refine lv_iload_n hx hb dX6_end_36 rfl (lv_at hl 0 rfl) ?_
          refine va_alda hx hb hK hP 10 3 rfl rfl (in8 (by omega)) dX6_end_37 ?_
          refine lv_setv (v := .ref (rO j_4)) (g_ref (by omega)) ?_
          refine lv_iconst (v := 0) hx hb dX6_end_38 (by decide) ?_
          refine va_iald hx hb hK hP (11 + j_4) 0 (sg8 (n0 := 11) (f := (fun j => zzI cy (rO j) 5 (onR (T_setag tJ_5 (upd (T_ag tJ_5) j_4 ((T_ag tJ_5 j_4) + 1))) j))) rfl rfl rfl rfl rfl rfl rfl rfl j_4 (by omega)) rfl (in_c rfl) dX6_end_39 ?_
          refine lv_seti (v := T_ag (T_setag tJ_5 (upd (T_ag tJ_5) j_4 ((T_ag tJ_5 j_4) + 1))) j_4) (on_0 _ _) ?_
          refine lv_bipush (v := 10) hx hb dX6_end_40 (by decide) ?_
          refine lv_icmp_ne (tgt := 49) hx hb dX6_end_42 (by decide) (fun c_17 => ?_) (fun c_17 => ?_)
          · refine lv_iconst (v := 0) hx hb dX6_end_49 (by decide) ?_
            refine lv_istore_n (lv' := [(3, .int 0), (2, .int (nI j_4)), (1, .int xG_6), (0, .ref qm)]) hx hb dX6_end_50 rfl hl (by decide) rfl (fun ls => ?_)
            clear hl
            intro hl
            refine lv_aload_n hx hb dX6_end_51 rfl (lv_at hl 3 rfl) ?_
            refine va_get (D := G) (ci := 5) (v := .ref qmO) (C := RX6) (T := TX6) (N := 35) hx hb hts iX_X6 hown hK hP 0 rfl rfl 13 (by decide) (hts _ m_t863) (fun _ h9 => h9) rfl dX6_end_52 ?_
            refine lv_iload_n hx hb dX6_end_55 rfl (lv_at hl 1 rfl) ?_
            refine va_alda hx hb hK hP 10 3 rfl rfl (in8 (by omega)) dX6_end_56 ?_
            refine lv_setv (v := .ref (rO j_4)) (g_ref (by omega)) ?_
            refine lv_iconst (v := 4) hx hb dX6_end_57 (by decide) ?_
            refine lv_iload_n hx hb dX6_end_58 rfl (lv_at hl 0 rfl) ?_
            refine lv_if_eq (tgt := 66) hx hb dX6_end_59 (by decide) (fun _ => ?_) (fun h9 => absurd (by decide) h9)
            refine lv_iconst (v := 0) hx hb dX6_end_66 (by decide) ?_
            refine va_iast hx hb hK hP hD hS (11 + j_4) 0 ((sg8 (n0 := 11) (f := (fun j => zzI cy (rO j) 5 (onR (T_setag tJ_5 (upd (T_ag tJ_5) j_4 ((T_ag tJ_5 j_4) + 1))) j))) rfl rfl rfl rfl rfl rfl rfl rfl) j_4 (by omega)) rfl (in_c rfl) dX6_end_67 (fun H locs => ?_)
            clear hP hD hS
            intro hP hD hS
            have hPD := st8PD (ws' := [zzO qm 5 [v0, v1, v2, v3, v4, v5, v6, v7, v8, v9, .int (nI (T_nb (T_setgn (T_setag tJ_5 (upd (T_ag tJ_5) j_4 ((T_ag tJ_5 j_4) + 1))) (updB (T_gn (T_setag tJ_5 (upd (T_ag tJ_5) j_4 ((T_ag tJ_5 j_4) + 1)))) j_4 false)))), .ref qmB, .int (nI (T_np (T_setgn (T_setag tJ_5 (upd (T_ag tJ_5) j_4 ((T_ag tJ_5 j_4) + 1))) (updB (T_gn (T_setag tJ_5 (upd (T_ag tJ_5) j_4 ((T_ag tJ_5 j_4) + 1)))) j_4 false)))), .ref qmO, .ref qmK, .int iEn, .int iTk, .int (T_sd (T_setgn (T_setag tJ_5 (upd (T_ag tJ_5) j_4 ((T_ag tJ_5 j_4) + 1))) (updB (T_gn (T_setag tJ_5 (upd (T_ag tJ_5) j_4 ((T_ag tJ_5 j_4) + 1)))) j_4 false))), v18, v19, v20, v21, v22, v23, v24, v25, v26, .int iLv, .int iWs, v29, v30, v31, v32, v33, v34], zzG cy 3 qmB rB, zzI cy (rB 0) 4 (bkR (T_setgn (T_setag tJ_5 (upd (T_ag tJ_5) j_4 ((T_ag tJ_5 j_4) + 1))) (updB (T_gn (T_setag tJ_5 (upd (T_ag tJ_5) j_4 ((T_ag tJ_5 j_4) + 1)))) j_4 false)) 0), zzI cy (rB 1) 4 (bkR (T_setgn (T_setag tJ_5 (upd (T_ag tJ_5) j_4 ((T_ag tJ_5 j_4) + 1))) (updB (T_gn (T_setag tJ_5 (upd (T_ag tJ_5) j_4 ((T_ag tJ_5 j_4) + 1)))) j_4 false)) 1), zzI cy (rB 2) 4 (bkR (T_setgn (T_setag tJ_5 (upd (T_ag tJ_5) j_4 ((T_ag tJ_5 j_4) + 1))) (updB (T_gn (T_setag tJ_5 (upd (T_ag tJ_5) j_4 ((T_ag tJ_5 j_4) + 1)))) j_4 false)) 2), zzI cy (rB 3) 4 (bkR (T_setgn (T_setag tJ_5 (upd (T_ag tJ_5) j_4 ((T_ag tJ_5 j_4) + 1))) (updB (T_gn (T_setag tJ_5 (upd (T_ag tJ_5) j_4 ((T_ag tJ_5 j_4) + 1)))) j_4 false)) 3), zzI cy (rB 4) 4 (bkR (T_setgn (T_setag tJ_5 (upd (T_ag tJ_5) j_4 ((T_ag tJ_5 j_4) + 1))) (updB (T_gn (T_setag tJ_5 (upd (T_ag tJ_5) j_4 ((T_ag tJ_5 j_4) + 1)))) j_4 false)) 4), zzI cy (rB 5) 4 (bkR (T_setgn (T_setag tJ_5 (upd (T_ag tJ_5) j_4 ((T_ag tJ_5 j_4) + 1))) (updB (T_gn (T_setag tJ_5 (upd (T_ag tJ_5) j_4 ((T_ag tJ_5 j_4) + 1)))) j_4 false)) 5), zzI cy (rB 6) 4 (bkR (T_setgn (T_setag tJ_5 (upd (T_ag tJ_5) j_4 ((T_ag tJ_5 j_4) + 1))) (updB (T_gn (T_setag tJ_5 (upd (T_ag tJ_5) j_4 ((T_ag tJ_5 j_4) + 1)))) j_4 false)) 6), zzI cy (rB 7) 4 (bkR (T_setgn (T_setag tJ_5 (upd (T_ag tJ_5) j_4 ((T_ag tJ_5 j_4) + 1))) (updB (T_gn (T_setag tJ_5 (upd (T_ag tJ_5) j_4 ((T_ag tJ_5 j_4) + 1)))) j_4 false)) 7), zzG cy 3 qmO rO, zzI cy (rO 0) 5 (onR (T_setgn (T_setag tJ_5 (upd (T_ag tJ_5) j_4 ((T_ag tJ_5 j_4) + 1))) (updB (T_gn (T_setag tJ_5 (upd (T_ag tJ_5) j_4 ((T_ag tJ_5 j_4) + 1)))) j_4 false)) 0), zzI cy (rO 1) 5 (onR (T_setgn (T_setag tJ_5 (upd (T_ag tJ_5) j_4 ((T_ag tJ_5 j_4) + 1))) (updB (T_gn (T_setag tJ_5 (upd (T_ag tJ_5) j_4 ((T_ag tJ_5 j_4) + 1)))) j_4 false)) 1), zzI cy (rO 2) 5 (onR (T_setgn (T_setag tJ_5 (upd (T_ag tJ_5) j_4 ((T_ag tJ_5 j_4) + 1))) (updB (T_gn (T_setag tJ_5 (upd (T_ag tJ_5) j_4 ((T_ag tJ_5 j_4) + 1)))) j_4 false)) 2), zzI cy (rO 3) 5 (onR (T_setgn (T_setag tJ_5 (upd (T_ag tJ_5) j_4 ((T_ag tJ_5 j_4) + 1))) (updB (T_gn (T_setag tJ_5 (upd (T_ag tJ_5) j_4 ((T_ag tJ_5 j_4) + 1)))) j_4 false)) 3), zzI cy (rO 4) 5 (onR (T_setgn (T_setag tJ_5 (upd (T_ag tJ_5) j_4 ((T_ag tJ_5 j_4) + 1))) (updB (T_gn (T_setag tJ_5 (upd (T_ag tJ_5) j_4 ((T_ag tJ_5 j_4) + 1)))) j_4 false)) 4), zzI cy (rO 5) 5 (onR (T_setgn (T_setag tJ_5 (upd (T_ag tJ_5) j_4 ((T_ag tJ_5 j_4) + 1))) (updB (T_gn (T_setag tJ_5 (upd (T_ag tJ_5) j_4 ((T_ag tJ_5 j_4) + 1)))) j_4 false)) 5), zzI cy (rO 6) 5 (onR (T_setgn (T_setag tJ_5 (upd (T_ag tJ_5) j_4 ((T_ag tJ_5 j_4) + 1))) (updB (T_gn (T_setag tJ_5 (upd (T_ag tJ_5) j_4 ((T_ag tJ_5 j_4) + 1)))) j_4 false)) 6), zzI cy (rO 7) 5 (onR (T_setgn (T_setag tJ_5 (upd (T_ag tJ_5) j_4 ((T_ag tJ_5 j_4) + 1))) (updB (T_gn (T_setag tJ_5 (upd (T_ag tJ_5) j_4 ((T_ag tJ_5 j_4) + 1)))) j_4 false)) 7), zzG cy 3 qmK rK, zzI cy (rK 0) 8 (T_kn (T_setgn (T_setag tJ_5 (upd (T_ag tJ_5) j_4 ((T_ag tJ_5 j_4) + 1))) (updB (T_gn (T_setag tJ_5 (upd (T_ag tJ_5) j_4 ((T_ag tJ_5 j_4) + 1)))) j_4 false)) 0), zzI cy (rK 1) 8 (T_kn (T_setgn (T_setag tJ_5 (upd (T_ag tJ_5) j_4 ((T_ag tJ_5 j_4) + 1))) (updB (T_gn (T_setag tJ_5 (upd (T_ag tJ_5) j_4 ((T_ag tJ_5 j_4) + 1)))) j_4 false)) 1), zzI cy (rK 2) 8 (T_kn (T_setgn (T_setag tJ_5 (upd (T_ag tJ_5) j_4 ((T_ag tJ_5 j_4) + 1))) (updB (T_gn (T_setag tJ_5 (upd (T_ag tJ_5) j_4 ((T_ag tJ_5 j_4) + 1)))) j_4 false)) 2), zzI cy (rK 3) 8 (T_kn (T_setgn (T_setag tJ_5 (upd (T_ag tJ_5) j_4 ((T_ag tJ_5 j_4) + 1))) (updB (T_gn (T_setag tJ_5 (upd (T_ag tJ_5) j_4 ((T_ag tJ_5 j_4) + 1)))) j_4 false)) 3), zzI cy (rK 4) 8 (T_kn (T_setgn (T_setag tJ_5 (upd (T_ag tJ_5) j_4 ((T_ag tJ_5 j_4) + 1))) (updB (T_gn (T_setag tJ_5 (upd (T_ag tJ_5) j_4 ((T_ag tJ_5 j_4) + 1)))) j_4 false)) 4), zzI cy (rK 5) 8 (T_kn (T_setgn (T_setag tJ_5 (upd (T_ag tJ_5) j_4 ((T_ag tJ_5 j_4) + 1))) (updB (T_gn (T_setag tJ_5 (upd (T_ag tJ_5) j_4 ((T_ag tJ_5 j_4) + 1)))) j_4 false)) 5), zzI cy (rK 6) 8 (T_kn (T_setgn (T_setag tJ_5 (upd (T_ag tJ_5) j_4 ((T_ag tJ_5 j_4) + 1))) (updB (T_gn (T_setag tJ_5 (upd (T_ag tJ_5) j_4 ((T_ag tJ_5 j_4) + 1)))) j_4 false)) 6), zzI cy (rK 7) 8 (T_kn (T_setgn (T_setag tJ_5 (upd (T_ag tJ_5) j_4 ((T_ag tJ_5 j_4) + 1))) (updB (T_gn (T_setag tJ_5 (upd (T_ag tJ_5) j_4 ((T_ag tJ_5 j_4) + 1)))) j_4 false)) 7)]) (k := j_4) (g1 := onR (T_setgn (T_setag tJ_5 (upd (T_ag tJ_5) j_4 ((T_ag tJ_5 j_4) + 1))) (updB (T_gn (T_setag tJ_5 (upd (T_ag tJ_5) j_4 ((T_ag tJ_5 j_4) + 1)))) j_4 false)) j_4) hP hD (sg8 (n0 := 11) (f := (fun j => zzI cy (rO j) 5 (onR (T_setag tJ_5 (upd (T_ag tJ_5) j_4 ((T_ag tJ_5 j_4) + 1))) j))) rfl rfl rfl rfl rfl rfl rfl rfl) (sg8 (n0 := 11) (f := (fun j => zzI cy (rO j) 5 (onR (T_setgn (T_setag tJ_5 (upd (T_ag tJ_5) j_4 ((T_ag tJ_5 j_4) + 1))) (updB (T_gn (T_setag tJ_5 (upd (T_ag tJ_5) j_4 ((T_ag tJ_5 j_4) + 1)))) j_4 false)) j))) rfl rfl rfl rfl rfl rfl rfl rfl) rfl rfl (by omega) rfl (on_w4 (T_setag tJ_5 (upd (T_ag tJ_5) j_4 ((T_ag tJ_5 j_4) + 1))) j_4 false) (fun j hj => congrArg (zzI cy (rO j) 5) (on_n4 (T_setag tJ_5 (upd (T_ag tJ_5) j_4 ((T_ag tJ_5 j_4) + 1))) j_4 false hj))
            clear hP hD
            obtain ⟨hP, hD⟩ := hPD
            refine lv_iload_n hx hb dX6_end_68 rfl (lv_at hl 2 rfl) ?_
            refine lv_iload_n hx hb dX6_end_69 rfl (lv_at hl 0 rfl) ?_
            refine lv_if_eq (tgt := 77) hx hb dX6_end_70 (by decide) (fun _ => ?_) (fun h9 => absurd (by decide) h9)
            refine lv_iconst (v := 0) hx hb dX6_end_77 (by decide) ?_
            refine lv_iadd hx hb dX6_end_78 ?_
            refine lv_istore_n (lv' := [(1, .int (xG_6 + 0)), (3, .int 0), (2, .int (nI j_4)), (0, .ref qm)]) hx hb dX6_end_79 rfl hl (by decide) rfl (fun ls => ?_)
            clear hl
            intro hl
            refine lv_iconst (v := 0) hx hb dX6_end_80 (by decide) ?_
            refine lv_istore (lv' := [(4, .int 0), (1, .int (xG_6 + 0)), (3, .int 0), (2, .int (nI j_4)), (0, .ref qm)]) hx hb dX6_end_81 hl (by decide) rfl (fun ls => ?_)
            clear hl
            intro hl
            have lp_20 : ∀ (n_21 : Nat) (m_23 : Nat) (tK_24 : TA), 8 - m_23 < n_21 → m_23 ≤ T_nb tA → TI tK_24 ∧ T_nb tK_24 = T_nb tA ∧ T_np tK_24 = T_np tA → ∀ (H : Heap) (locs : List Loc) (ls : Array Slot), va_P G CL [zzO qm 5 [v0, v1, v2, v3, v4, v5, v6, v7, v8, v9, .int (nI (T_nb tK_24)), .ref qmB, .int (nI (T_np tK_24)), .ref qmO, .ref qmK, .int iEn, .int iTk, .int (T_sd tK_24), v18, v19, v20, v21, v22, v23, v24, v25, v26, .int iLv, .int iWs, v29, v30, v31, v32, v33, v34], zzG cy 3 qmB rB, zzI cy (rB 0) 4 (bkR tK_24 0), zzI cy (rB 1) 4 (bkR tK_24 1), zzI cy (rB 2) 4 (bkR tK_24 2), zzI cy (rB 3) 4 (bkR tK_24 3), zzI cy (rB 4) 4 (bkR tK_24 4), zzI cy (rB 5) 4 (bkR tK_24 5), zzI cy (rB 6) 4 (bkR tK_24 6), zzI cy (rB 7) 4 (bkR tK_24 7), zzG cy 3 qmO rO, zzI cy (rO 0) 5 (onR tK_24 0), zzI cy (rO 1) 5 (onR tK_24 1), zzI cy (rO 2) 5 (onR tK_24 2), zzI cy (rO 3) 5 (onR tK_24 3), zzI cy (rO 4) 5 (onR tK_24 4), zzI cy (rO 5) 5 (onR tK_24 5), zzI cy (rO 6) 5 (onR tK_24 6), zzI cy (rO 7) 5 (onR tK_24 7), zzG cy 3 qmK rK, zzI cy (rK 0) 8 (T_kn tK_24 0), zzI cy (rK 1) 8 (T_kn tK_24 1), zzI cy (rK 2) 8 (T_kn tK_24 2), zzI cy (rK 3) 8 (T_kn tK_24 3), zzI cy (rK 4) 8 (T_kn tK_24 4), zzI cy (rK 5) 8 (T_kn tK_24 5), zzI cy (rK 6) 8 (T_kn tK_24 6), zzI cy (rK 7) 8 (T_kn tK_24 7)] H → va_D A [zzO qm 5 [v0, v1, v2, v3, v4, v5, v6, v7, v8, v9, .int (nI (T_nb tK_24)), .ref qmB, .int (nI (T_np tK_24)), .ref qmO, .ref qmK, .int iEn, .int iTk, .int (T_sd tK_24), v18, v19, v20, v21, v22, v23, v24, v25, v26, .int iLv, .int iWs, v29, v30, v31, v32, v33, v34], zzG cy 3 qmB rB, zzI cy (rB 0) 4 (bkR tK_24 0), zzI cy (rB 1) 4 (bkR tK_24 1), zzI cy (rB 2) 4 (bkR tK_24 2), zzI cy (rB 3) 4 (bkR tK_24 3), zzI cy (rB 4) 4 (bkR tK_24 4), zzI cy (rB 5) 4 (bkR tK_24 5), zzI cy (rB 6) 4 (bkR tK_24 6), zzI cy (rB 7) 4 (bkR tK_24 7), zzG cy 3 qmO rO, zzI cy (rO 0) 5 (onR tK_24 0), zzI cy (rO 1) 5 (onR tK_24 1), zzI cy (rO 2) 5 (onR tK_24 2), zzI cy (rO 3) 5 (onR tK_24 3), zzI cy (rO 4) 5 (onR tK_24 4), zzI cy (rO 5) 5 (onR tK_24 5), zzI cy (rO 6) 5 (onR tK_24 6), zzI cy (rO 7) 5 (onR tK_24 7), zzG cy 3 qmK rK, zzI cy (rK 0) 8 (T_kn tK_24 0), zzI cy (rK 1) 8 (T_kn tK_24 1), zzI cy (rK 2) 8 (T_kn tK_24 2), zzI cy (rK 3) 8 (T_kn tK_24 3), zzI cy (rK 4) 8 (T_kn tK_24 4), zzI cy (rK 5) 8 (T_kn tK_24 5), zzI cy (rK 6) 8 (T_kn tK_24 6), zzI cy (rK 7) 8 (T_kn tK_24 7)] → va_S A s.heap H locs → lv_has ls 5 [(4, .int (nI m_23)), (1, .int (xG_6 + 0)), (3, .int 0), (2, .int (nI j_4)), (0, .ref qm)] → W p l e (Rm 2 0 0) s m (List.toArray (α := Value) [.ref qm]) below meth c H locs 0 0 (MQ below ((Wi G (fun r u => ∃ (tX : TA) (iX : Int32), u = [zzO qm 5 [v0, v1, v2, v3, v4, v5, v6, v7, v8, v9, .int (nI (T_nb tX)), .ref qmB, .int (nI (T_np tX)), .ref qmO, .ref qmK, .int iX, .int iTk, .int (T_sd tX), v18, v19, v20, v21, v22, v23, v24, v25, v26, .int iLv, .int iWs, v29, v30, v31, v32, v33, v34], zzG cy 3 qmB rB, zzI cy (rB 0) 4 (bkR tX 0), zzI cy (rB 1) 4 (bkR tX 1), zzI cy (rB 2) 4 (bkR tX 2), zzI cy (rB 3) 4 (bkR tX 3), zzI cy (rB 4) 4 (bkR tX 4), zzI cy (rB 5) 4 (bkR tX 5), zzI cy (rB 6) 4 (bkR tX 6), zzI cy (rB 7) 4 (bkR tX 7), zzG cy 3 qmO rO, zzI cy (rO 0) 5 (onR tX 0), zzI cy (rO 1) 5 (onR tX 1), zzI cy (rO 2) 5 (onR tX 2), zzI cy (rO 3) 5 (onR tX 3), zzI cy (rO 4) 5 (onR tX 4), zzI cy (rO 5) 5 (onR tX 5), zzI cy (rO 6) 5 (onR tX 6), zzI cy (rO 7) 5 (onR tX 7), zzG cy 3 qmK rK, zzI cy (rK 0) 8 (T_kn tX 0), zzI cy (rK 1) 8 (T_kn tX 1), zzI cy (rK 2) 8 (T_kn tX 2), zzI cy (rK 3) 8 (T_kn tX 3), zzI cy (rK 4) 8 (T_kn tX 4), zzI cy (rK 5) 8 (T_kn tX 5), zzI cy (rK 6) 8 (T_kn tX 6), zzI cy (rK 7) 8 (T_kn tX 7)] ∧ (TI tX ∧ T_nb tX = T_nb tA ∧ T_np tX = T_np tA) ∧ (True))) A) (List.toArray (α := Value) [.ref qm]) s 0 0 A) (F0 m 83 ls []) := by
              intro n_21
              induction n_21 with
              | zero => intro m_23 tK_24 hm9; exact absurd hm9 (Nat.not_lt_zero _)
              | succ n_21 ih_22 =>
                intro m_23 tK_24 hm_27 hm_27 hTK_26 H locs ls hP hD hS hl
                refine lv_iload hx hb dX6_end_83 (lv_at hl 0 rfl) ?_
                refine lv_aload_n hx hb dX6_end_85 rfl (lv_at hl 4 rfl) ?_
                refine va_get (D := G) (ci := 5) (v := .int (nI (T_nb tK_24))) (C := RX6) (T := TX6) (N := 35) hx hb hts iX_X6 hown hK hP 0 rfl rfl 10 (by decide) (hts _ m_t860) (fun _ h9 => h9) rfl dX6_end_86 ?_
                refine lv_icmp_ge (tgt := 139) hx hb dX6_end_89 (by decide) (fun c_28 => ?_) (fun c_28 => ?_)
                · have hlt_29e : T_nb tK_24 = T_nb tA := hTK_26.2.1
                  refine lv_iinc (v := nI (j_4 + 1)) (lv' := [(2, .int (nI (j_4 + 1))), (4, .int (nI m_23)), (1, .int (xG_6 + 0)), (3, .int 0), (0, .ref qm)]) hx hb dX6_end_139 hl (k := 3) rfl (nI_1 _) (by decide) rfl (fun ls => ?_)
                  clear hl
                  intro hl
                  refine lv_goto (tgt := 4) hx hb dX6_end_142 (by decide) ?_
                  exact ih_3 (j_4 + 1) tK_24 (xG_6 + 0) (by omega) (by omega) hTK_26 _ _ _ hP hD hS (lv_sub hl [0, 2, 4] rfl)
                · have hlt_30e : T_nb tK_24 = T_nb tA := hTK_26.2.1
                  have hlt_30 : m_23 < T_nb tA := by rw [hlt_30e] at c_28; exact lp_lt rfl rfl (by omega) (by omega) c_28
                  refine lv_aload_n hx hb dX6_end_92 rfl (lv_at hl 4 rfl) ?_
                  refine va_get (D := G) (ci := 5) (v := .ref qmK) (C := RX6) (T := TX6) (N := 35) hx hb hts iX_X6 hown hK hP 0 rfl rfl 14 (by decide) (hts _ m_t864) (fun _ h9 => h9) rfl dX6_end_93 ?_
                  refine lv_iload_n hx hb dX6_end_96 rfl (lv_at hl 3 rfl) ?_
                  refine va_alda hx hb hK hP 19 3 rfl rfl (in8 (by omega)) dX6_end_97 ?_
                  refine lv_setv (v := .ref (rK j_4)) (g_ref (by omega)) ?_
                  refine lv_iload hx hb dX6_end_98 (lv_at hl 0 rfl) ?_
                  refine lv_iload_n hx hb dX6_end_100 rfl (lv_at hl 2 rfl) ?_
                  refine lv_if_eq (tgt := 108) hx hb dX6_end_101 (by decide) (fun _ => ?_) (fun h9 => absurd (by decide) h9)
                  refine lv_aload_n hx hb dX6_end_108 rfl (lv_at hl 4 rfl) ?_
                  refine va_get (D := G) (ci := 5) (v := .ref qmK) (C := RX6) (T := TX6) (N := 35) hx hb hts iX_X6 hown hK hP 0 rfl rfl 14 (by decide) (hts _ m_t864) (fun _ h9 => h9) rfl dX6_end_109 ?_
                  refine lv_iload_n hx hb dX6_end_112 rfl (lv_at hl 3 rfl) ?_
                  refine va_alda hx hb hK hP 19 3 rfl rfl (in8 (by omega)) dX6_end_113 ?_
                  refine lv_setv (v := .ref (rK j_4)) (g_ref (by omega)) ?_
                  refine lv_iload hx hb dX6_end_114 (lv_at hl 0 rfl) ?_
                  refine va_iald hx hb hK hP (20 + j_4) 0 (sg8 (n0 := 20) (f := (fun j => zzI cy (rK j) 8 (T_kn tK_24 j))) rfl rfl rfl rfl rfl rfl rfl rfl j_4 (by omega)) rfl (vp_in_nI (by omega) (by omega)) dX6_end_116 ?_
                  refine lv_seti (v := T_kn tK_24 j_4 m_23) (congrArg (T_kn tK_24 j_4) (nI_clamp (by omega))) ?_
                  refine lv_bipush (v := 90) hx hb dX6_end_117 (by decide) ?_
                  refine lv_aload_n hx hb dX6_end_119 rfl (lv_at hl 4 rfl) ?_
                  refine va_get (D := G) (ci := 5) (v := .ref qmO) (C := RX6) (T := TX6) (N := 35) hx hb hts iX_X6 hown hK hP 0 rfl rfl 13 (by decide) (hts _ m_t863) (fun _ h9 => h9) rfl dX6_end_120 ?_
                  refine lv_iload_n hx hb dX6_end_123 rfl (lv_at hl 3 rfl) ?_
                  refine va_alda hx hb hK hP 10 3 rfl rfl (in8 (by omega)) dX6_end_124 ?_
                  refine lv_setv (v := .ref (rO j_4)) (g_ref (by omega)) ?_
                  refine lv_iconst (v := 2) hx hb dX6_end_125 (by decide) ?_
                  refine va_iald hx hb hK hP (11 + j_4) 0 (sg8 (n0 := 11) (f := (fun j => zzI cy (rO j) 5 (onR tK_24 j))) rfl rfl rfl rfl rfl rfl rfl rfl j_4 (by omega)) rfl (in_c rfl) dX6_end_126 ?_
                  refine lv_seti (v := T_me tK_24 j_4) (on_2' _ _) ?_
                  refine lv_iadd hx hb dX6_end_127 ?_
                  refine lv_imul hx hb dX6_end_128 ?_
                  refine lv_bipush (v := 100) hx hb dX6_end_129 (by decide) ?_
                  refine lv_idiv hx hb dX6_end_131 (by decide) ?_
                  refine va_iast hx hb hK hP hD hS (20 + j_4) 0 ((sg8 (n0 := 20) (f := (fun j => zzI cy (rK j) 8 (T_kn tK_24 j))) rfl rfl rfl rfl rfl rfl rfl rfl) j_4 (by omega)) rfl (vp_in_nI (by omega) (by omega)) dX6_end_132 (fun H locs => ?_)
                  clear hP hD hS
                  intro hP hD hS
                  rw [nI_clamp (n := m_23) (by omega)] at hP hD
                  have hPD := st8PD (ws' := [zzO qm 5 [v0, v1, v2, v3, v4, v5, v6, v7, v8, v9, .int (nI (T_nb (T_setkn tK_24 (updM (T_kn tK_24) j_4 m_23 (((T_kn tK_24 j_4 m_23) * (90 + (T_me tK_24 j_4))) / 100))))), .ref qmB, .int (nI (T_np (T_setkn tK_24 (updM (T_kn tK_24) j_4 m_23 (((T_kn tK_24 j_4 m_23) * (90 + (T_me tK_24 j_4))) / 100))))), .ref qmO, .ref qmK, .int iEn, .int iTk, .int (T_sd (T_setkn tK_24 (updM (T_kn tK_24) j_4 m_23 (((T_kn tK_24 j_4 m_23) * (90 + (T_me tK_24 j_4))) / 100)))), v18, v19, v20, v21, v22, v23, v24, v25, v26, .int iLv, .int iWs, v29, v30, v31, v32, v33, v34], zzG cy 3 qmB rB, zzI cy (rB 0) 4 (bkR (T_setkn tK_24 (updM (T_kn tK_24) j_4 m_23 (((T_kn tK_24 j_4 m_23) * (90 + (T_me tK_24 j_4))) / 100))) 0), zzI cy (rB 1) 4 (bkR (T_setkn tK_24 (updM (T_kn tK_24) j_4 m_23 (((T_kn tK_24 j_4 m_23) * (90 + (T_me tK_24 j_4))) / 100))) 1), zzI cy (rB 2) 4 (bkR (T_setkn tK_24 (updM (T_kn tK_24) j_4 m_23 (((T_kn tK_24 j_4 m_23) * (90 + (T_me tK_24 j_4))) / 100))) 2), zzI cy (rB 3) 4 (bkR (T_setkn tK_24 (updM (T_kn tK_24) j_4 m_23 (((T_kn tK_24 j_4 m_23) * (90 + (T_me tK_24 j_4))) / 100))) 3), zzI cy (rB 4) 4 (bkR (T_setkn tK_24 (updM (T_kn tK_24) j_4 m_23 (((T_kn tK_24 j_4 m_23) * (90 + (T_me tK_24 j_4))) / 100))) 4), zzI cy (rB 5) 4 (bkR (T_setkn tK_24 (updM (T_kn tK_24) j_4 m_23 (((T_kn tK_24 j_4 m_23) * (90 + (T_me tK_24 j_4))) / 100))) 5), zzI cy (rB 6) 4 (bkR (T_setkn tK_24 (updM (T_kn tK_24) j_4 m_23 (((T_kn tK_24 j_4 m_23) * (90 + (T_me tK_24 j_4))) / 100))) 6), zzI cy (rB 7) 4 (bkR (T_setkn tK_24 (updM (T_kn tK_24) j_4 m_23 (((T_kn tK_24 j_4 m_23) * (90 + (T_me tK_24 j_4))) / 100))) 7), zzG cy 3 qmO rO, zzI cy (rO 0) 5 (onR (T_setkn tK_24 (updM (T_kn tK_24) j_4 m_23 (((T_kn tK_24 j_4 m_23) * (90 + (T_me tK_24 j_4))) / 100))) 0), zzI cy (rO 1) 5 (onR (T_setkn tK_24 (updM (T_kn tK_24) j_4 m_23 (((T_kn tK_24 j_4 m_23) * (90 + (T_me tK_24 j_4))) / 100))) 1), zzI cy (rO 2) 5 (onR (T_setkn tK_24 (updM (T_kn tK_24) j_4 m_23 (((T_kn tK_24 j_4 m_23) * (90 + (T_me tK_24 j_4))) / 100))) 2), zzI cy (rO 3) 5 (onR (T_setkn tK_24 (updM (T_kn tK_24) j_4 m_23 (((T_kn tK_24 j_4 m_23) * (90 + (T_me tK_24 j_4))) / 100))) 3), zzI cy (rO 4) 5 (onR (T_setkn tK_24 (updM (T_kn tK_24) j_4 m_23 (((T_kn tK_24 j_4 m_23) * (90 + (T_me tK_24 j_4))) / 100))) 4), zzI cy (rO 5) 5 (onR (T_setkn tK_24 (updM (T_kn tK_24) j_4 m_23 (((T_kn tK_24 j_4 m_23) * (90 + (T_me tK_24 j_4))) / 100))) 5), zzI cy (rO 6) 5 (onR (T_setkn tK_24 (updM (T_kn tK_24) j_4 m_23 (((T_kn tK_24 j_4 m_23) * (90 + (T_me tK_24 j_4))) / 100))) 6), zzI cy (rO 7) 5 (onR (T_setkn tK_24 (updM (T_kn tK_24) j_4 m_23 (((T_kn tK_24 j_4 m_23) * (90 + (T_me tK_24 j_4))) / 100))) 7), zzG cy 3 qmK rK, zzI cy (rK 0) 8 (T_kn (T_setkn tK_24 (updM (T_kn tK_24) j_4 m_23 (((T_kn tK_24 j_4 m_23) * (90 + (T_me tK_24 j_4))) / 100))) 0), zzI cy (rK 1) 8 (T_kn (T_setkn tK_24 (updM (T_kn tK_24) j_4 m_23 (((T_kn tK_24 j_4 m_23) * (90 + (T_me tK_24 j_4))) / 100))) 1), zzI cy (rK 2) 8 (T_kn (T_setkn tK_24 (updM (T_kn tK_24) j_4 m_23 (((T_kn tK_24 j_4 m_23) * (90 + (T_me tK_24 j_4))) / 100))) 2), zzI cy (rK 3) 8 (T_kn (T_setkn tK_24 (updM (T_kn tK_24) j_4 m_23 (((T_kn tK_24 j_4 m_23) * (90 + (T_me tK_24 j_4))) / 100))) 3), zzI cy (rK 4) 8 (T_kn (T_setkn tK_24 (updM (T_kn tK_24) j_4 m_23 (((T_kn tK_24 j_4 m_23) * (90 + (T_me tK_24 j_4))) / 100))) 4), zzI cy (rK 5) 8 (T_kn (T_setkn tK_24 (updM (T_kn tK_24) j_4 m_23 (((T_kn tK_24 j_4 m_23) * (90 + (T_me tK_24 j_4))) / 100))) 5), zzI cy (rK 6) 8 (T_kn (T_setkn tK_24 (updM (T_kn tK_24) j_4 m_23 (((T_kn tK_24 j_4 m_23) * (90 + (T_me tK_24 j_4))) / 100))) 6), zzI cy (rK 7) 8 (T_kn (T_setkn tK_24 (updM (T_kn tK_24) j_4 m_23 (((T_kn tK_24 j_4 m_23) * (90 + (T_me tK_24 j_4))) / 100))) 7)]) (k := j_4) (g1 := T_kn (T_setkn tK_24 (updM (T_kn tK_24) j_4 m_23 (((T_kn tK_24 j_4 m_23) * (90 + (T_me tK_24 j_4))) / 100))) j_4) hP hD (sg8 (n0 := 20) (f := (fun j => zzI cy (rK j) 8 (T_kn tK_24 j))) rfl rfl rfl rfl rfl rfl rfl rfl) (sg8 (n0 := 20) (f := (fun j => zzI cy (rK j) 8 (T_kn (T_setkn tK_24 (updM (T_kn tK_24) j_4 m_23 (((T_kn tK_24 j_4 m_23) * (90 + (T_me tK_24 j_4))) / 100))) j))) rfl rfl rfl rfl rfl rfl rfl rfl) rfl rfl (by omega) rfl (fun i _ => (congrFun (kn_u tK_24 j_4 m_23 (((T_kn tK_24 j_4 m_23) * (90 + (T_me tK_24 j_4))) / 100)) i).symm) (fun j hj => congrArg (zzI cy (rK j) 8) (kn_n tK_24 j_4 m_23 (((T_kn tK_24 j_4 m_23) * (90 + (T_me tK_24 j_4))) / 100) hj))
                  clear hP hD
                  obtain ⟨hP, hD⟩ := hPD
                  refine lv_iinc (v := nI (m_23 + 1)) (lv' := [(4, .int (nI (m_23 + 1))), (1, .int (xG_6 + 0)), (3, .int 0), (2, .int (nI j_4)), (0, .ref qm)]) hx hb dX6_end_133 hl (k := 0) rfl (nI_1 _) (by decide) rfl (fun ls => ?_)
                  clear hl
                  intro hl
                  refine lv_goto (tgt := 83) hx hb dX6_end_136 (by decide) ?_
                  exact ih_22 (m_23 + 1) (T_setkn tK_24 (updM (T_kn tK_24) j_4 m_23 (((T_kn tK_24 j_4 m_23) * (90 + (T_me tK_24 j_4))) / 100))) (by omega) (by omega) (⟨TI_kn hTK_26.1 (r_fg (hTK_26.1.2.1 _ _) (hTK_26.1.2.2.2.2.1 _)), hTK_26.2⟩) _ _ _ hP hD hS (lv_sub hl [0, 1, 2, 3, 4] rfl)
            exact lp_20 ((8 - 0) + 1) 0 (T_setgn (T_setag tJ_5 (upd (T_ag tJ_5) j_4 ((T_ag tJ_5 j_4) + 1))) (updB (T_gn (T_setag tJ_5 (upd (T_ag tJ_5) j_4 ((T_ag tJ_5 j_4) + 1)))) j_4 false)) (Nat.lt_succ_self _) (Nat.zero_le _) (⟨hT_8.1, hT_8.2⟩) _ _ ls hP hD hS (lv_sub hl [0, 1, 2, 3, 4] rfl)
          · refine lv_iconst (v := 1) hx hb dX6_end_45 (by decide) ?_
            refine lv_goto (tgt := 50) hx hb dX6_end_46 (by decide) ?_
            refine lv_istore_n (lv' := [(3, .int 1), (2, .int (nI j_4)), (1, .int xG_6), (0, .ref qm)]) hx hb dX6_end_50 rfl hl (by decide) rfl (fun ls => ?_)
            clear hl
            intro hl
            refine lv_aload_n hx hb dX6_end_51 rfl (lv_at hl 3 rfl) ?_
            refine va_get (D := G) (ci := 5) (v := .ref qmO) (C := RX6) (T := TX6) (N := 35) hx hb hts iX_X6 hown hK hP 0 rfl rfl 13 (by decide) (hts _ m_t863) (fun _ h9 => h9) rfl dX6_end_52 ?_
            refine lv_iload_n hx hb dX6_end_55 rfl (lv_at hl 1 rfl) ?_
            refine va_alda hx hb hK hP 10 3 rfl rfl (in8 (by omega)) dX6_end_56 ?_
            refine lv_setv (v := .ref (rO j_4)) (g_ref (by omega)) ?_
            refine lv_iconst (v := 4) hx hb dX6_end_57 (by decide) ?_
            refine lv_iload_n hx hb dX6_end_58 rfl (lv_at hl 0 rfl) ?_
            refine lv_if_eq (tgt := 66) hx hb dX6_end_59 (by decide) (fun h9 => absurd h9 (by decide)) (fun _ => ?_)
            refine lv_iconst (v := 1) hx hb dX6_end_62 (by decide) ?_
            refine lv_goto (tgt := 67) hx hb dX6_end_63 (by decide) ?_
            refine va_iast hx hb hK hP hD hS (11 + j_4) 0 ((sg8 (n0 := 11) (f := (fun j => zzI cy (rO j) 5 (onR (T_setag tJ_5 (upd (T_ag tJ_5) j_4 ((T_ag tJ_5 j_4) + 1))) j))) rfl rfl rfl rfl rfl rfl rfl rfl) j_4 (by omega)) rfl (in_c rfl) dX6_end_67 (fun H locs => ?_)
            clear hP hD hS
            intro hP hD hS
            have hPD := st8PD (ws' := [zzO qm 5 [v0, v1, v2, v3, v4, v5, v6, v7, v8, v9, .int (nI (T_nb (T_setgn (T_setag tJ_5 (upd (T_ag tJ_5) j_4 ((T_ag tJ_5 j_4) + 1))) (updB (T_gn (T_setag tJ_5 (upd (T_ag tJ_5) j_4 ((T_ag tJ_5 j_4) + 1)))) j_4 true)))), .ref qmB, .int (nI (T_np (T_setgn (T_setag tJ_5 (upd (T_ag tJ_5) j_4 ((T_ag tJ_5 j_4) + 1))) (updB (T_gn (T_setag tJ_5 (upd (T_ag tJ_5) j_4 ((T_ag tJ_5 j_4) + 1)))) j_4 true)))), .ref qmO, .ref qmK, .int iEn, .int iTk, .int (T_sd (T_setgn (T_setag tJ_5 (upd (T_ag tJ_5) j_4 ((T_ag tJ_5 j_4) + 1))) (updB (T_gn (T_setag tJ_5 (upd (T_ag tJ_5) j_4 ((T_ag tJ_5 j_4) + 1)))) j_4 true))), v18, v19, v20, v21, v22, v23, v24, v25, v26, .int iLv, .int iWs, v29, v30, v31, v32, v33, v34], zzG cy 3 qmB rB, zzI cy (rB 0) 4 (bkR (T_setgn (T_setag tJ_5 (upd (T_ag tJ_5) j_4 ((T_ag tJ_5 j_4) + 1))) (updB (T_gn (T_setag tJ_5 (upd (T_ag tJ_5) j_4 ((T_ag tJ_5 j_4) + 1)))) j_4 true)) 0), zzI cy (rB 1) 4 (bkR (T_setgn (T_setag tJ_5 (upd (T_ag tJ_5) j_4 ((T_ag tJ_5 j_4) + 1))) (updB (T_gn (T_setag tJ_5 (upd (T_ag tJ_5) j_4 ((T_ag tJ_5 j_4) + 1)))) j_4 true)) 1), zzI cy (rB 2) 4 (bkR (T_setgn (T_setag tJ_5 (upd (T_ag tJ_5) j_4 ((T_ag tJ_5 j_4) + 1))) (updB (T_gn (T_setag tJ_5 (upd (T_ag tJ_5) j_4 ((T_ag tJ_5 j_4) + 1)))) j_4 true)) 2), zzI cy (rB 3) 4 (bkR (T_setgn (T_setag tJ_5 (upd (T_ag tJ_5) j_4 ((T_ag tJ_5 j_4) + 1))) (updB (T_gn (T_setag tJ_5 (upd (T_ag tJ_5) j_4 ((T_ag tJ_5 j_4) + 1)))) j_4 true)) 3), zzI cy (rB 4) 4 (bkR (T_setgn (T_setag tJ_5 (upd (T_ag tJ_5) j_4 ((T_ag tJ_5 j_4) + 1))) (updB (T_gn (T_setag tJ_5 (upd (T_ag tJ_5) j_4 ((T_ag tJ_5 j_4) + 1)))) j_4 true)) 4), zzI cy (rB 5) 4 (bkR (T_setgn (T_setag tJ_5 (upd (T_ag tJ_5) j_4 ((T_ag tJ_5 j_4) + 1))) (updB (T_gn (T_setag tJ_5 (upd (T_ag tJ_5) j_4 ((T_ag tJ_5 j_4) + 1)))) j_4 true)) 5), zzI cy (rB 6) 4 (bkR (T_setgn (T_setag tJ_5 (upd (T_ag tJ_5) j_4 ((T_ag tJ_5 j_4) + 1))) (updB (T_gn (T_setag tJ_5 (upd (T_ag tJ_5) j_4 ((T_ag tJ_5 j_4) + 1)))) j_4 true)) 6), zzI cy (rB 7) 4 (bkR (T_setgn (T_setag tJ_5 (upd (T_ag tJ_5) j_4 ((T_ag tJ_5 j_4) + 1))) (updB (T_gn (T_setag tJ_5 (upd (T_ag tJ_5) j_4 ((T_ag tJ_5 j_4) + 1)))) j_4 true)) 7), zzG cy 3 qmO rO, zzI cy (rO 0) 5 (onR (T_setgn (T_setag tJ_5 (upd (T_ag tJ_5) j_4 ((T_ag tJ_5 j_4) + 1))) (updB (T_gn (T_setag tJ_5 (upd (T_ag tJ_5) j_4 ((T_ag tJ_5 j_4) + 1)))) j_4 true)) 0), zzI cy (rO 1) 5 (onR (T_setgn (T_setag tJ_5 (upd (T_ag tJ_5) j_4 ((T_ag tJ_5 j_4) + 1))) (updB (T_gn (T_setag tJ_5 (upd (T_ag tJ_5) j_4 ((T_ag tJ_5 j_4) + 1)))) j_4 true)) 1), zzI cy (rO 2) 5 (onR (T_setgn (T_setag tJ_5 (upd (T_ag tJ_5) j_4 ((T_ag tJ_5 j_4) + 1))) (updB (T_gn (T_setag tJ_5 (upd (T_ag tJ_5) j_4 ((T_ag tJ_5 j_4) + 1)))) j_4 true)) 2), zzI cy (rO 3) 5 (onR (T_setgn (T_setag tJ_5 (upd (T_ag tJ_5) j_4 ((T_ag tJ_5 j_4) + 1))) (updB (T_gn (T_setag tJ_5 (upd (T_ag tJ_5) j_4 ((T_ag tJ_5 j_4) + 1)))) j_4 true)) 3), zzI cy (rO 4) 5 (onR (T_setgn (T_setag tJ_5 (upd (T_ag tJ_5) j_4 ((T_ag tJ_5 j_4) + 1))) (updB (T_gn (T_setag tJ_5 (upd (T_ag tJ_5) j_4 ((T_ag tJ_5 j_4) + 1)))) j_4 true)) 4), zzI cy (rO 5) 5 (onR (T_setgn (T_setag tJ_5 (upd (T_ag tJ_5) j_4 ((T_ag tJ_5 j_4) + 1))) (updB (T_gn (T_setag tJ_5 (upd (T_ag tJ_5) j_4 ((T_ag tJ_5 j_4) + 1)))) j_4 true)) 5), zzI cy (rO 6) 5 (onR (T_setgn (T_setag tJ_5 (upd (T_ag tJ_5) j_4 ((T_ag tJ_5 j_4) + 1))) (updB (T_gn (T_setag tJ_5 (upd (T_ag tJ_5) j_4 ((T_ag tJ_5 j_4) + 1)))) j_4 true)) 6), zzI cy (rO 7) 5 (onR (T_setgn (T_setag tJ_5 (upd (T_ag tJ_5) j_4 ((T_ag tJ_5 j_4) + 1))) (updB (T_gn (T_setag tJ_5 (upd (T_ag tJ_5) j_4 ((T_ag tJ_5 j_4) + 1)))) j_4 true)) 7), zzG cy 3 qmK rK, zzI cy (rK 0) 8 (T_kn (T_setgn (T_setag tJ_5 (upd (T_ag tJ_5) j_4 ((T_ag tJ_5 j_4) + 1))) (updB (T_gn (T_setag tJ_5 (upd (T_ag tJ_5) j_4 ((T_ag tJ_5 j_4) + 1)))) j_4 true)) 0), zzI cy (rK 1) 8 (T_kn (T_setgn (T_setag tJ_5 (upd (T_ag tJ_5) j_4 ((T_ag tJ_5 j_4) + 1))) (updB (T_gn (T_setag tJ_5 (upd (T_ag tJ_5) j_4 ((T_ag tJ_5 j_4) + 1)))) j_4 true)) 1), zzI cy (rK 2) 8 (T_kn (T_setgn (T_setag tJ_5 (upd (T_ag tJ_5) j_4 ((T_ag tJ_5 j_4) + 1))) (updB (T_gn (T_setag tJ_5 (upd (T_ag tJ_5) j_4 ((T_ag tJ_5 j_4) + 1)))) j_4 true)) 2), zzI cy (rK 3) 8 (T_kn (T_setgn (T_setag tJ_5 (upd (T_ag tJ_5) j_4 ((T_ag tJ_5 j_4) + 1))) (updB (T_gn (T_setag tJ_5 (upd (T_ag tJ_5) j_4 ((T_ag tJ_5 j_4) + 1)))) j_4 true)) 3), zzI cy (rK 4) 8 (T_kn (T_setgn (T_setag tJ_5 (upd (T_ag tJ_5) j_4 ((T_ag tJ_5 j_4) + 1))) (updB (T_gn (T_setag tJ_5 (upd (T_ag tJ_5) j_4 ((T_ag tJ_5 j_4) + 1)))) j_4 true)) 4), zzI cy (rK 5) 8 (T_kn (T_setgn (T_setag tJ_5 (upd (T_ag tJ_5) j_4 ((T_ag tJ_5 j_4) + 1))) (updB (T_gn (T_setag tJ_5 (upd (T_ag tJ_5) j_4 ((T_ag tJ_5 j_4) + 1)))) j_4 true)) 5), zzI cy (rK 6) 8 (T_kn (T_setgn (T_setag tJ_5 (upd (T_ag tJ_5) j_4 ((T_ag tJ_5 j_4) + 1))) (updB (T_gn (T_setag tJ_5 (upd (T_ag tJ_5) j_4 ((T_ag tJ_5 j_4) + 1)))) j_4 true)) 6), zzI cy (rK 7) 8 (T_kn (T_setgn (T_setag tJ_5 (upd (T_ag tJ_5) j_4 ((T_ag tJ_5 j_4) + 1))) (updB (T_gn (T_setag tJ_5 (upd (T_ag tJ_5) j_4 ((T_ag tJ_5 j_4) + 1)))) j_4 true)) 7)]) (k := j_4) (g1 := onR (T_setgn (T_setag tJ_5 (upd (T_ag tJ_5) j_4 ((T_ag tJ_5 j_4) + 1))) (updB (T_gn (T_setag tJ_5 (upd (T_ag tJ_5) j_4 ((T_ag tJ_5 j_4) + 1)))) j_4 true)) j_4) hP hD (sg8 (n0 := 11) (f := (fun j => zzI cy (rO j) 5 (onR (T_setag tJ_5 (upd (T_ag tJ_5) j_4 ((T_ag tJ_5 j_4) + 1))) j))) rfl rfl rfl rfl rfl rfl rfl rfl) (sg8 (n0 := 11) (f := (fun j => zzI cy (rO j) 5 (onR (T_setgn (T_setag tJ_5 (upd (T_ag tJ_5) j_4 ((T_ag tJ_5 j_4) + 1))) (updB (T_gn (T_setag tJ_5 (upd (T_ag tJ_5) j_4 ((T_ag tJ_5 j_4) + 1)))) j_4 true)) j))) rfl rfl rfl rfl rfl rfl rfl rfl) rfl rfl (by omega) rfl (on_w4 (T_setag tJ_5 (upd (T_ag tJ_5) j_4 ((T_ag tJ_5 j_4) + 1))) j_4 true) (fun j hj => congrArg (zzI cy (rO j) 5) (on_n4 (T_setag tJ_5 (upd (T_ag tJ_5) j_4 ((T_ag tJ_5 j_4) + 1))) j_4 true hj))
            clear hP hD
            obtain ⟨hP, hD⟩ := hPD
            refine lv_iload_n hx hb dX6_end_68 rfl (lv_at hl 2 rfl) ?_
            refine lv_iload_n hx hb dX6_end_69 rfl (lv_at hl 0 rfl) ?_
            refine lv_if_eq (tgt := 77) hx hb dX6_end_70 (by decide) (fun h9 => absurd h9 (by decide)) (fun _ => ?_)
            refine lv_iconst (v := 1) hx hb dX6_end_73 (by decide) ?_
            refine lv_goto (tgt := 78) hx hb dX6_end_74 (by decide) ?_
            refine lv_iadd hx hb dX6_end_78 ?_
            refine lv_istore_n (lv' := [(1, .int (xG_6 + 1)), (3, .int 1), (2, .int (nI j_4)), (0, .ref qm)]) hx hb dX6_end_79 rfl hl (by decide) rfl (fun ls => ?_)
            clear hl
            intro hl
            refine lv_iconst (v := 0) hx hb dX6_end_80 (by decide) ?_
            refine lv_istore (lv' := [(4, .int 0), (1, .int (xG_6 + 1)), (3, .int 1), (2, .int (nI j_4)), (0, .ref qm)]) hx hb dX6_end_81 hl (by decide) rfl (fun ls => ?_)
            clear hl
            intro hl
            have lp_34 : ∀ (n_35 : Nat) (m_37 : Nat) (tK_38 : TA), 8 - m_37 < n_35 → m_37 ≤ T_nb tA → TI tK_38 ∧ T_nb tK_38 = T_nb tA ∧ T_np tK_38 = T_np tA → ∀ (H : Heap) (locs : List Loc) (ls : Array Slot), va_P G CL [zzO qm 5 [v0, v1, v2, v3, v4, v5, v6, v7, v8, v9, .int (nI (T_nb tK_38)), .ref qmB, .int (nI (T_np tK_38)), .ref qmO, .ref qmK, .int iEn, .int iTk, .int (T_sd tK_38), v18, v19, v20, v21, v22, v23, v24, v25, v26, .int iLv, .int iWs, v29, v30, v31, v32, v33, v34], zzG cy 3 qmB rB, zzI cy (rB 0) 4 (bkR tK_38 0), zzI cy (rB 1) 4 (bkR tK_38 1), zzI cy (rB 2) 4 (bkR tK_38 2), zzI cy (rB 3) 4 (bkR tK_38 3), zzI cy (rB 4) 4 (bkR tK_38 4), zzI cy (rB 5) 4 (bkR tK_38 5), zzI cy (rB 6) 4 (bkR tK_38 6), zzI cy (rB 7) 4 (bkR tK_38 7), zzG cy 3 qmO rO, zzI cy (rO 0) 5 (onR tK_38 0), zzI cy (rO 1) 5 (onR tK_38 1), zzI cy (rO 2) 5 (onR tK_38 2), zzI cy (rO 3) 5 (onR tK_38 3), zzI cy (rO 4) 5 (onR tK_38 4), zzI cy (rO 5) 5 (onR tK_38 5), zzI cy (rO 6) 5 (onR tK_38 6), zzI cy (rO 7) 5 (onR tK_38 7), zzG cy 3 qmK rK, zzI cy (rK 0) 8 (T_kn tK_38 0), zzI cy (rK 1) 8 (T_kn tK_38 1), zzI cy (rK 2) 8 (T_kn tK_38 2), zzI cy (rK 3) 8 (T_kn tK_38 3), zzI cy (rK 4) 8 (T_kn tK_38 4), zzI cy (rK 5) 8 (T_kn tK_38 5), zzI cy (rK 6) 8 (T_kn tK_38 6), zzI cy (rK 7) 8 (T_kn tK_38 7)] H → va_D A [zzO qm 5 [v0, v1, v2, v3, v4, v5, v6, v7, v8, v9, .int (nI (T_nb tK_38)), .ref qmB, .int (nI (T_np tK_38)), .ref qmO, .ref qmK, .int iEn, .int iTk, .int (T_sd tK_38), v18, v19, v20, v21, v22, v23, v24, v25, v26, .int iLv, .int iWs, v29, v30, v31, v32, v33, v34], zzG cy 3 qmB rB, zzI cy (rB 0) 4 (bkR tK_38 0), zzI cy (rB 1) 4 (bkR tK_38 1), zzI cy (rB 2) 4 (bkR tK_38 2), zzI cy (rB 3) 4 (bkR tK_38 3), zzI cy (rB 4) 4 (bkR tK_38 4), zzI cy (rB 5) 4 (bkR tK_38 5), zzI cy (rB 6) 4 (bkR tK_38 6), zzI cy (rB 7) 4 (bkR tK_38 7), zzG cy 3 qmO rO, zzI cy (rO 0) 5 (onR tK_38 0), zzI cy (rO 1) 5 (onR tK_38 1), zzI cy (rO 2) 5 (onR tK_38 2), zzI cy (rO 3) 5 (onR tK_38 3), zzI cy (rO 4) 5 (onR tK_38 4), zzI cy (rO 5) 5 (onR tK_38 5), zzI cy (rO 6) 5 (onR tK_38 6), zzI cy (rO 7) 5 (onR tK_38 7), zzG cy 3 qmK rK, zzI cy (rK 0) 8 (T_kn tK_38 0), zzI cy (rK 1) 8 (T_kn tK_38 1), zzI cy (rK 2) 8 (T_kn tK_38 2), zzI cy (rK 3) 8 (T_kn tK_38 3), zzI cy (rK 4) 8 (T_kn tK_38 4), zzI cy (rK 5) 8 (T_kn tK_38 5), zzI cy (rK 6) 8 (T_kn tK_38 6), zzI cy (rK 7) 8 (T_kn tK_38 7)] → va_S A s.heap H locs → lv_has ls 5 [(4, .int (nI m_37)), (1, .int (xG_6 + 1)), (3, .int 1), (2, .int (nI j_4)), (0, .ref qm)] → W p l e (Rm 2 0 0) s m (List.toArray (α := Value) [.ref qm]) below meth c H locs 0 0 (MQ below ((Wi G (fun r u => ∃ (tX : TA) (iX : Int32), u = [zzO qm 5 [v0, v1, v2, v3, v4, v5, v6, v7, v8, v9, .int (nI (T_nb tX)), .ref qmB, .int (nI (T_np tX)), .ref qmO, .ref qmK, .int iX, .int iTk, .int (T_sd tX), v18, v19, v20, v21, v22, v23, v24, v25, v26, .int iLv, .int iWs, v29, v30, v31, v32, v33, v34], zzG cy 3 qmB rB, zzI cy (rB 0) 4 (bkR tX 0), zzI cy (rB 1) 4 (bkR tX 1), zzI cy (rB 2) 4 (bkR tX 2), zzI cy (rB 3) 4 (bkR tX 3), zzI cy (rB 4) 4 (bkR tX 4), zzI cy (rB 5) 4 (bkR tX 5), zzI cy (rB 6) 4 (bkR tX 6), zzI cy (rB 7) 4 (bkR tX 7), zzG cy 3 qmO rO, zzI cy (rO 0) 5 (onR tX 0), zzI cy (rO 1) 5 (onR tX 1), zzI cy (rO 2) 5 (onR tX 2), zzI cy (rO 3) 5 (onR tX 3), zzI cy (rO 4) 5 (onR tX 4), zzI cy (rO 5) 5 (onR tX 5), zzI cy (rO 6) 5 (onR tX 6), zzI cy (rO 7) 5 (onR tX 7), zzG cy 3 qmK rK, zzI cy (rK 0) 8 (T_kn tX 0), zzI cy (rK 1) 8 (T_kn tX 1), zzI cy (rK 2) 8 (T_kn tX 2), zzI cy (rK 3) 8 (T_kn tX 3), zzI cy (rK 4) 8 (T_kn tX 4), zzI cy (rK 5) 8 (T_kn tX 5), zzI cy (rK 6) 8 (T_kn tX 6), zzI cy (rK 7) 8 (T_kn tX 7)] ∧ (TI tX ∧ T_nb tX = T_nb tA ∧ T_np tX = T_np tA) ∧ (True))) A) (List.toArray (α := Value) [.ref qm]) s 0 0 A) (F0 m 83 ls []) := by
              intro n_35
              induction n_35 with
              | zero => intro m_37 tK_38 hm9; exact absurd hm9 (Nat.not_lt_zero _)
              | succ n_35 ih_36 =>
                intro m_37 tK_38 hm_41 hm_41 hTK_40 H locs ls hP hD hS hl
                refine lv_iload hx hb dX6_end_83 (lv_at hl 0 rfl) ?_
                refine lv_aload_n hx hb dX6_end_85 rfl (lv_at hl 4 rfl) ?_
                refine va_get (D := G) (ci := 5) (v := .int (nI (T_nb tK_38))) (C := RX6) (T := TX6) (N := 35) hx hb hts iX_X6 hown hK hP 0 rfl rfl 10 (by decide) (hts _ m_t860) (fun _ h9 => h9) rfl dX6_end_86 ?_
                refine lv_icmp_ge (tgt := 139) hx hb dX6_end_89 (by decide) (fun c_42 => ?_) (fun c_42 => ?_)
                · have hlt_43e : T_nb tK_38 = T_nb tA := hTK_40.2.1
                  refine lv_iinc (v := nI (j_4 + 1)) (lv' := [(2, .int (nI (j_4 + 1))), (4, .int (nI m_37)), (1, .int (xG_6 + 1)), (3, .int 1), (0, .ref qm)]) hx hb dX6_end_139 hl (k := 3) rfl (nI_1 _) (by decide) rfl (fun ls => ?_)
                  clear hl
                  intro hl
                  refine lv_goto (tgt := 4) hx hb dX6_end_142 (by decide) ?_
                  exact ih_3 (j_4 + 1) tK_38 (xG_6 + 1) (by omega) (by omega) hTK_40 _ _ _ hP hD hS (lv_sub hl [0, 2, 4] rfl)
                · have hlt_44e : T_nb tK_38 = T_nb tA := hTK_40.2.1
                  have hlt_44 : m_37 < T_nb tA := by rw [hlt_44e] at c_42; exact lp_lt rfl rfl (by omega) (by omega) c_42
                  refine lv_aload_n hx hb dX6_end_92 rfl (lv_at hl 4 rfl) ?_
                  refine va_get (D := G) (ci := 5) (v := .ref qmK) (C := RX6) (T := TX6) (N := 35) hx hb hts iX_X6 hown hK hP 0 rfl rfl 14 (by decide) (hts _ m_t864) (fun _ h9 => h9) rfl dX6_end_93 ?_
                  refine lv_iload_n hx hb dX6_end_96 rfl (lv_at hl 3 rfl) ?_
                  refine va_alda hx hb hK hP 19 3 rfl rfl (in8 (by omega)) dX6_end_97 ?_
                  refine lv_setv (v := .ref (rK j_4)) (g_ref (by omega)) ?_
                  refine lv_iload hx hb dX6_end_98 (lv_at hl 0 rfl) ?_
                  refine lv_iload_n hx hb dX6_end_100 rfl (lv_at hl 2 rfl) ?_
                  refine lv_if_eq (tgt := 108) hx hb dX6_end_101 (by decide) (fun h9 => absurd h9 (by decide)) (fun _ => ?_)
                  refine lv_iconst (v := 0) hx hb dX6_end_104 (by decide) ?_
                  refine lv_goto (tgt := 132) hx hb dX6_end_105 (by decide) ?_
                  refine va_iast hx hb hK hP hD hS (20 + j_4) 0 ((sg8 (n0 := 20) (f := (fun j => zzI cy (rK j) 8 (T_kn tK_38 j))) rfl rfl rfl rfl rfl rfl rfl rfl) j_4 (by omega)) rfl (vp_in_nI (by omega) (by omega)) dX6_end_132 (fun H locs => ?_)
                  clear hP hD hS
                  intro hP hD hS
                  rw [nI_clamp (n := m_37) (by omega)] at hP hD
                  have hPD := st8PD (ws' := [zzO qm 5 [v0, v1, v2, v3, v4, v5, v6, v7, v8, v9, .int (nI (T_nb (T_setkn tK_38 (updM (T_kn tK_38) j_4 m_37 0)))), .ref qmB, .int (nI (T_np (T_setkn tK_38 (updM (T_kn tK_38) j_4 m_37 0)))), .ref qmO, .ref qmK, .int iEn, .int iTk, .int (T_sd (T_setkn tK_38 (updM (T_kn tK_38) j_4 m_37 0))), v18, v19, v20, v21, v22, v23, v24, v25, v26, .int iLv, .int iWs, v29, v30, v31, v32, v33, v34], zzG cy 3 qmB rB, zzI cy (rB 0) 4 (bkR (T_setkn tK_38 (updM (T_kn tK_38) j_4 m_37 0)) 0), zzI cy (rB 1) 4 (bkR (T_setkn tK_38 (updM (T_kn tK_38) j_4 m_37 0)) 1), zzI cy (rB 2) 4 (bkR (T_setkn tK_38 (updM (T_kn tK_38) j_4 m_37 0)) 2), zzI cy (rB 3) 4 (bkR (T_setkn tK_38 (updM (T_kn tK_38) j_4 m_37 0)) 3), zzI cy (rB 4) 4 (bkR (T_setkn tK_38 (updM (T_kn tK_38) j_4 m_37 0)) 4), zzI cy (rB 5) 4 (bkR (T_setkn tK_38 (updM (T_kn tK_38) j_4 m_37 0)) 5), zzI cy (rB 6) 4 (bkR (T_setkn tK_38 (updM (T_kn tK_38) j_4 m_37 0)) 6), zzI cy (rB 7) 4 (bkR (T_setkn tK_38 (updM (T_kn tK_38) j_4 m_37 0)) 7), zzG cy 3 qmO rO, zzI cy (rO 0) 5 (onR (T_setkn tK_38 (updM (T_kn tK_38) j_4 m_37 0)) 0), zzI cy (rO 1) 5 (onR (T_setkn tK_38 (updM (T_kn tK_38) j_4 m_37 0)) 1), zzI cy (rO 2) 5 (onR (T_setkn tK_38 (updM (T_kn tK_38) j_4 m_37 0)) 2), zzI cy (rO 3) 5 (onR (T_setkn tK_38 (updM (T_kn tK_38) j_4 m_37 0)) 3), zzI cy (rO 4) 5 (onR (T_setkn tK_38 (updM (T_kn tK_38) j_4 m_37 0)) 4), zzI cy (rO 5) 5 (onR (T_setkn tK_38 (updM (T_kn tK_38) j_4 m_37 0)) 5), zzI cy (rO 6) 5 (onR (T_setkn tK_38 (updM (T_kn tK_38) j_4 m_37 0)) 6), zzI cy (rO 7) 5 (onR (T_setkn tK_38 (updM (T_kn tK_38) j_4 m_37 0)) 7), zzG cy 3 qmK rK, zzI cy (rK 0) 8 (T_kn (T_setkn tK_38 (updM (T_kn tK_38) j_4 m_37 0)) 0), zzI cy (rK 1) 8 (T_kn (T_setkn tK_38 (updM (T_kn tK_38) j_4 m_37 0)) 1), zzI cy (rK 2) 8 (T_kn (T_setkn tK_38 (updM (T_kn tK_38) j_4 m_37 0)) 2), zzI cy (rK 3) 8 (T_kn (T_setkn tK_38 (updM (T_kn tK_38) j_4 m_37 0)) 3), zzI cy (rK 4) 8 (T_kn (T_setkn tK_38 (updM (T_kn tK_38) j_4 m_37 0)) 4), zzI cy (rK 5) 8 (T_kn (T_setkn tK_38 (updM (T_kn tK_38) j_4 m_37 0)) 5), zzI cy (rK 6) 8 (T_kn (T_setkn tK_38 (updM (T_kn tK_38) j_4 m_37 0)) 6), zzI cy (rK 7) 8 (T_kn (T_setkn tK_38 (updM (T_kn tK_38) j_4 m_37 0)) 7)]) (k := j_4) (g1 := T_kn (T_setkn tK_38 (updM (T_kn tK_38) j_4 m_37 0)) j_4) hP hD (sg8 (n0 := 20) (f := (fun j => zzI cy (rK j) 8 (T_kn tK_38 j))) rfl rfl rfl rfl rfl rfl rfl rfl) (sg8 (n0 := 20) (f := (fun j => zzI cy (rK j) 8 (T_kn (T_setkn tK_38 (updM (T_kn tK_38) j_4 m_37 0)) j))) rfl rfl rfl rfl rfl rfl rfl rfl) rfl rfl (by omega) rfl (fun i _ => (congrFun (kn_u tK_38 j_4 m_37 0) i).symm) (fun j hj => congrArg (zzI cy (rK j) 8) (kn_n tK_38 j_4 m_37 0 hj))
                  clear hP hD
                  obtain ⟨hP, hD⟩ := hPD
                  refine lv_iinc (v := nI (m_37 + 1)) (lv' := [(4, .int (nI (m_37 + 1))), (1, .int (xG_6 + 1)), (3, .int 1), (2, .int (nI j_4)), (0, .ref qm)]) hx hb dX6_end_133 hl (k := 0) rfl (nI_1 _) (by decide) rfl (fun ls => ?_)
                  clear hl
                  intro hl
                  refine lv_goto (tgt := 83) hx hb dX6_end_136 (by decide) ?_
                  exact ih_36 (m_37 + 1) (T_setkn tK_38 (updM (T_kn tK_38) j_4 m_37 0)) (by omega) (by omega) (⟨TI_kn hTK_40.1 (r_0 1000), hTK_40.2⟩) _ _ _ hP hD hS (lv_sub hl [0, 1, 2, 3, 4] rfl)
            exact lp_34 ((8 - 0) + 1) 0 (T_setgn (T_setag tJ_5 (upd (T_ag tJ_5) j_4 ((T_ag tJ_5 j_4) + 1))) (updB (T_gn (T_setag tJ_5 (upd (T_ag tJ_5) j_4 ((T_ag tJ_5 j_4) + 1)))) j_4 true)) (Nat.lt_succ_self _) (Nat.zero_le _) (⟨hT_8.1, hT_8.2⟩) _ _ ls hP hD hS (lv_sub hl [0, 1, 2, 3, 4] rfl)
        · refine lv_if_eq (tgt := 139) hx hb dX6_end_17 (by decide) (fun _ => ?_) (fun h9 => absurd (by decide) h9)
          refine lv_iinc (v := nI (j_4 + 1)) (lv' := [(2, .int (nI (j_4 + 1))), (1, .int xG_6), (0, .ref qm)]) hx hb dX6_end_139 hl (k := 0) rfl (nI_1 _) (by decide) rfl (fun ls => ?_)
          clear hl
          intro hl
          refine lv_goto (tgt := 4) hx hb dX6_end_142 (by decide) ?_
          exact ih_3 (j_4 + 1) tJ_5 xG_6 (by omega) (by omega) hT_8 _ _ _ hP hD hS (lv_sub hl [0, 1, 2] rfl)
  exact lp_1 ((8 - 0) + 1) 0 tA 0 (Nat.lt_succ_self _) (Nat.zero_le _) (⟨hTI, rfl, rfl⟩) _ _ ls hP hD hS (lv_sub hl [0, 1, 2] rfl)
set_option maxHeartbeats 4000000 in
set_option maxRecDepth 100000 in
theorem c_X6_goes (l : Launch) (G : va_G) (cy : Nat → ClassId) (sz : Nat) (qm : Nat) (v0 : Value) (v1 : Value) (v2 : Value) (v3 : Value) (v4 : Value) (v5 : Value) (v6 : Value) (v7 : Value) (v8 : Value) (v9 : Value) (tA : TA) (qmB : Nat) (qmO : Nat) (qmK : Nat) (iEn : Int32) (iTk : Int32) (v18 : Value) (v19 : Value) (v20 : Value) (v21 : Value) (v22 : Value) (v23 : Value) (v24 : Value) (v25 : Value) (v26 : Value) (iLv : Int32) (iWs : Int32) (v29 : Value) (v30 : Value) (v31 : Value) (v32 : Value) (v33 : Value) (v34 : Value) (rB : Nat → Nat) (rO : Nat → Nat) (rK : Nat → Nat) (iK : Int32) (kM : Nat) (kN : Nat)  (hB : T_nb tA ≤ 8) (hPp : T_np tA ≤ 8) (hTI : TI tA) (hM : kM ≤ 99) (hN60 : kN ≤ 60) : MW l yX6_goes cX6_goes 6 (some .int) 8 0 0 G cy [zzO qm 5 [v0, v1, v2, v3, v4, v5, v6, v7, v8, v9, .int (nI (T_nb tA)), .ref qmB, .int (nI (T_np tA)), .ref qmO, .ref qmK, .int iEn, .int iTk, .int (T_sd tA), v18, v19, v20, v21, v22, v23, v24, v25, v26, .int iLv, .int iWs, v29, v30, v31, v32, v33, v34], zzG cy 3 qmB rB, zzI cy (rB 0) 4 (bkR tA 0), zzI cy (rB 1) 4 (bkR tA 1), zzI cy (rB 2) 4 (bkR tA 2), zzI cy (rB 3) 4 (bkR tA 3), zzI cy (rB 4) 4 (bkR tA 4), zzI cy (rB 5) 4 (bkR tA 5), zzI cy (rB 6) 4 (bkR tA 6), zzI cy (rB 7) 4 (bkR tA 7), zzG cy 3 qmO rO, zzI cy (rO 0) 5 (onR tA 0), zzI cy (rO 1) 5 (onR tA 1), zzI cy (rO 2) 5 (onR tA 2), zzI cy (rO 3) 5 (onR tA 3), zzI cy (rO 4) 5 (onR tA 4), zzI cy (rO 5) 5 (onR tA 5), zzI cy (rO 6) 5 (onR tA 6), zzI cy (rO 7) 5 (onR tA 7), zzG cy 3 qmK rK, zzI cy (rK 0) 8 (T_kn tA 0), zzI cy (rK 1) 8 (T_kn tA 1), zzI cy (rK 2) 8 (T_kn tA 2), zzI cy (rK 3) 8 (T_kn tA 3), zzI cy (rK 4) 8 (T_kn tA 4), zzI cy (rK 5) 8 (T_kn tA 5), zzI cy (rK 6) 8 (T_kn tA 6), zzI cy (rK 7) 8 (T_kn tA 7)] sz [.ref qm, .int iK, .int (nI kM), .int (nI kN)] (Wi G (fun r u => ∃ (tX : TA) (iX : Int32) (iY : Int32), u = [zzO qm 5 [v0, v1, v2, v3, v4, v5, v6, v7, v8, v9, .int (nI (T_nb tX)), .ref qmB, .int (nI (T_np tX)), .ref qmO, .ref qmK, .int iX, .int iTk, .int (T_sd tX), v18, v19, v20, v21, v22, v23, v24, v25, v26, .int iY, .int iWs, v29, v30, v31, v32, v33, v34], zzG cy 3 qmB rB, zzI cy (rB 0) 4 (bkR tX 0), zzI cy (rB 1) 4 (bkR tX 1), zzI cy (rB 2) 4 (bkR tX 2), zzI cy (rB 3) 4 (bkR tX 3), zzI cy (rB 4) 4 (bkR tX 4), zzI cy (rB 5) 4 (bkR tX 5), zzI cy (rB 6) 4 (bkR tX 6), zzI cy (rB 7) 4 (bkR tX 7), zzG cy 3 qmO rO, zzI cy (rO 0) 5 (onR tX 0), zzI cy (rO 1) 5 (onR tX 1), zzI cy (rO 2) 5 (onR tX 2), zzI cy (rO 3) 5 (onR tX 3), zzI cy (rO 4) 5 (onR tX 4), zzI cy (rO 5) 5 (onR tX 5), zzI cy (rO 6) 5 (onR tX 6), zzI cy (rO 7) 5 (onR tX 7), zzG cy 3 qmK rK, zzI cy (rK 0) 8 (T_kn tX 0), zzI cy (rK 1) 8 (T_kn tX 1), zzI cy (rK 2) 8 (T_kn tX 2), zzI cy (rK 3) 8 (T_kn tX 3), zzI cy (rK 4) 8 (T_kn tX 4), zzI cy (rK 5) 8 (T_kn tX 5), zzI cy (rK 6) 8 (T_kn tX 6), zzI cy (rK 7) 8 (T_kn tX 7)] ∧ (TI tX ∧ T_nb tX = T_nb tA ∧ T_np tX = T_np tA) ∧ (True))) := by
  refine enW RX6 (by decide) rfl (Nat.le_of_ble_eq_true rfl) (fun p e s m below meth c ls A hx hb hml hown hts hr hlocks hP hN hl hin hD hA hS => ?_)
  have hin : meth.name = _ := hin
  have hK := hN.1
  replace hl : lv_has ls 6 [(0, .ref qm), (1, .int iK), (2, .int (nI kM)), (3, .int (nI kN))] := hl
  refine lv_iconst (v := 0) hx hb dX6_goes_0 (by decide) ?_
  refine lv_istore (lv' := [(4, .int 0), (0, .ref qm), (1, .int iK), (2, .int (nI kM)), (3, .int (nI kN))]) hx hb dX6_goes_1 hl (by decide) rfl (fun ls => ?_)
  clear hl
  intro hl
  refine lv_iconst (v := 0) hx hb dX6_goes_3 (by decide) ?_
  refine lv_istore (lv' := [(5, .int 0), (4, .int 0), (0, .ref qm), (1, .int iK), (2, .int (nI kM)), (3, .int (nI kN))]) hx hb dX6_goes_4 hl (by decide) rfl (fun ls => ?_)
  clear hl
  intro hl
  have lp_1 : ∀ (n_2 : Nat) (j_4 : Nat) (tJ_5 : TA) (xS_6 : Int32) (xE_7 : Int32) (xL_8 : Int32), 60 - j_4 < n_2 → j_4 ≤ kN → TI tJ_5 ∧ T_nb tJ_5 = T_nb tA ∧ T_np tJ_5 = T_np tA → ∀ (H : Heap) (locs : List Loc) (ls : Array Slot), va_P G CL [zzO qm 5 [v0, v1, v2, v3, v4, v5, v6, v7, v8, v9, .int (nI (T_nb tJ_5)), .ref qmB, .int (nI (T_np tJ_5)), .ref qmO, .ref qmK, .int xE_7, .int iTk, .int (T_sd tJ_5), v18, v19, v20, v21, v22, v23, v24, v25, v26, .int xL_8, .int iWs, v29, v30, v31, v32, v33, v34], zzG cy 3 qmB rB, zzI cy (rB 0) 4 (bkR tJ_5 0), zzI cy (rB 1) 4 (bkR tJ_5 1), zzI cy (rB 2) 4 (bkR tJ_5 2), zzI cy (rB 3) 4 (bkR tJ_5 3), zzI cy (rB 4) 4 (bkR tJ_5 4), zzI cy (rB 5) 4 (bkR tJ_5 5), zzI cy (rB 6) 4 (bkR tJ_5 6), zzI cy (rB 7) 4 (bkR tJ_5 7), zzG cy 3 qmO rO, zzI cy (rO 0) 5 (onR tJ_5 0), zzI cy (rO 1) 5 (onR tJ_5 1), zzI cy (rO 2) 5 (onR tJ_5 2), zzI cy (rO 3) 5 (onR tJ_5 3), zzI cy (rO 4) 5 (onR tJ_5 4), zzI cy (rO 5) 5 (onR tJ_5 5), zzI cy (rO 6) 5 (onR tJ_5 6), zzI cy (rO 7) 5 (onR tJ_5 7), zzG cy 3 qmK rK, zzI cy (rK 0) 8 (T_kn tJ_5 0), zzI cy (rK 1) 8 (T_kn tJ_5 1), zzI cy (rK 2) 8 (T_kn tJ_5 2), zzI cy (rK 3) 8 (T_kn tJ_5 3), zzI cy (rK 4) 8 (T_kn tJ_5 4), zzI cy (rK 5) 8 (T_kn tJ_5 5), zzI cy (rK 6) 8 (T_kn tJ_5 6), zzI cy (rK 7) 8 (T_kn tJ_5 7)] H → va_D A [zzO qm 5 [v0, v1, v2, v3, v4, v5, v6, v7, v8, v9, .int (nI (T_nb tJ_5)), .ref qmB, .int (nI (T_np tJ_5)), .ref qmO, .ref qmK, .int xE_7, .int iTk, .int (T_sd tJ_5), v18, v19, v20, v21, v22, v23, v24, v25, v26, .int xL_8, .int iWs, v29, v30, v31, v32, v33, v34], zzG cy 3 qmB rB, zzI cy (rB 0) 4 (bkR tJ_5 0), zzI cy (rB 1) 4 (bkR tJ_5 1), zzI cy (rB 2) 4 (bkR tJ_5 2), zzI cy (rB 3) 4 (bkR tJ_5 3), zzI cy (rB 4) 4 (bkR tJ_5 4), zzI cy (rB 5) 4 (bkR tJ_5 5), zzI cy (rB 6) 4 (bkR tJ_5 6), zzI cy (rB 7) 4 (bkR tJ_5 7), zzG cy 3 qmO rO, zzI cy (rO 0) 5 (onR tJ_5 0), zzI cy (rO 1) 5 (onR tJ_5 1), zzI cy (rO 2) 5 (onR tJ_5 2), zzI cy (rO 3) 5 (onR tJ_5 3), zzI cy (rO 4) 5 (onR tJ_5 4), zzI cy (rO 5) 5 (onR tJ_5 5), zzI cy (rO 6) 5 (onR tJ_5 6), zzI cy (rO 7) 5 (onR tJ_5 7), zzG cy 3 qmK rK, zzI cy (rK 0) 8 (T_kn tJ_5 0), zzI cy (rK 1) 8 (T_kn tJ_5 1), zzI cy (rK 2) 8 (T_kn tJ_5 2), zzI cy (rK 3) 8 (T_kn tJ_5 3), zzI cy (rK 4) 8 (T_kn tJ_5 4), zzI cy (rK 5) 8 (T_kn tJ_5 5), zzI cy (rK 6) 8 (T_kn tJ_5 6), zzI cy (rK 7) 8 (T_kn tJ_5 7)] → va_S A s.heap H locs → lv_has ls 6 [(5, .int (nI j_4)), (4, .int xS_6), (0, .ref qm), (1, .int iK), (2, .int (nI kM)), (3, .int (nI kN))] → W p l e (Rm 8 0 0) s m (List.toArray (α := Value) [.ref qm, .int iK, .int (nI kM), .int (nI kN)]) below meth c H locs 0 0 (MQ below ((Wi G (fun r u => ∃ (tX : TA) (iX : Int32) (iY : Int32), u = [zzO qm 5 [v0, v1, v2, v3, v4, v5, v6, v7, v8, v9, .int (nI (T_nb tX)), .ref qmB, .int (nI (T_np tX)), .ref qmO, .ref qmK, .int iX, .int iTk, .int (T_sd tX), v18, v19, v20, v21, v22, v23, v24, v25, v26, .int iY, .int iWs, v29, v30, v31, v32, v33, v34], zzG cy 3 qmB rB, zzI cy (rB 0) 4 (bkR tX 0), zzI cy (rB 1) 4 (bkR tX 1), zzI cy (rB 2) 4 (bkR tX 2), zzI cy (rB 3) 4 (bkR tX 3), zzI cy (rB 4) 4 (bkR tX 4), zzI cy (rB 5) 4 (bkR tX 5), zzI cy (rB 6) 4 (bkR tX 6), zzI cy (rB 7) 4 (bkR tX 7), zzG cy 3 qmO rO, zzI cy (rO 0) 5 (onR tX 0), zzI cy (rO 1) 5 (onR tX 1), zzI cy (rO 2) 5 (onR tX 2), zzI cy (rO 3) 5 (onR tX 3), zzI cy (rO 4) 5 (onR tX 4), zzI cy (rO 5) 5 (onR tX 5), zzI cy (rO 6) 5 (onR tX 6), zzI cy (rO 7) 5 (onR tX 7), zzG cy 3 qmK rK, zzI cy (rK 0) 8 (T_kn tX 0), zzI cy (rK 1) 8 (T_kn tX 1), zzI cy (rK 2) 8 (T_kn tX 2), zzI cy (rK 3) 8 (T_kn tX 3), zzI cy (rK 4) 8 (T_kn tX 4), zzI cy (rK 5) 8 (T_kn tX 5), zzI cy (rK 6) 8 (T_kn tX 6), zzI cy (rK 7) 8 (T_kn tX 7)] ∧ (TI tX ∧ T_nb tX = T_nb tA ∧ T_np tX = T_np tA) ∧ (True))) A) (List.toArray (α := Value) [.ref qm, .int iK, .int (nI kM), .int (nI kN)]) s 0 0 A) (F0 m 6 ls []) := by
    intro n_2
    induction n_2 with
    | zero => intro j_4 tJ_5 xS_6 xE_7 xL_8 hm9; exact absurd hm9 (Nat.not_lt_zero _)
    | succ n_2 ih_3 =>
      intro j_4 tJ_5 xS_6 xE_7 xL_8 hm_11 hj_9 hT_10 H locs ls hP hD hS hl
      refine lv_iload hx hb dX6_goes_6 (lv_at hl 0 rfl) ?_
      refine lv_iload_n hx hb dX6_goes_8 rfl (lv_at hl 5 rfl) ?_
      refine lv_icmp_ge (tgt := 52) hx hb dX6_goes_9 (by decide) (fun c_12 => ?_) (fun c_12 => ?_)
      · refine lv_iload hx hb dX6_goes_52 (lv_at hl 1 rfl) ?_
        exact endW (u := [zzO qm 5 [v0, v1, v2, v3, v4, v5, v6, v7, v8, v9, .int (nI (T_nb tJ_5)), .ref qmB, .int (nI (T_np tJ_5)), .ref qmO, .ref qmK, .int xE_7, .int iTk, .int (T_sd tJ_5), v18, v19, v20, v21, v22, v23, v24, v25, v26, .int xL_8, .int iWs, v29, v30, v31, v32, v33, v34], zzG cy 3 qmB rB, zzI cy (rB 0) 4 (bkR tJ_5 0), zzI cy (rB 1) 4 (bkR tJ_5 1), zzI cy (rB 2) 4 (bkR tJ_5 2), zzI cy (rB 3) 4 (bkR tJ_5 3), zzI cy (rB 4) 4 (bkR tJ_5 4), zzI cy (rB 5) 4 (bkR tJ_5 5), zzI cy (rB 6) 4 (bkR tJ_5 6), zzI cy (rB 7) 4 (bkR tJ_5 7), zzG cy 3 qmO rO, zzI cy (rO 0) 5 (onR tJ_5 0), zzI cy (rO 1) 5 (onR tJ_5 1), zzI cy (rO 2) 5 (onR tJ_5 2), zzI cy (rO 3) 5 (onR tJ_5 3), zzI cy (rO 4) 5 (onR tJ_5 4), zzI cy (rO 5) 5 (onR tJ_5 5), zzI cy (rO 6) 5 (onR tJ_5 6), zzI cy (rO 7) 5 (onR tJ_5 7), zzG cy 3 qmK rK, zzI cy (rK 0) 8 (T_kn tJ_5 0), zzI cy (rK 1) 8 (T_kn tJ_5 1), zzI cy (rK 2) 8 (T_kn tJ_5 2), zzI cy (rK 3) 8 (T_kn tJ_5 3), zzI cy (rK 4) 8 (T_kn tJ_5 4), zzI cy (rK 5) 8 (T_kn tJ_5 5), zzI cy (rK 6) 8 (T_kn tJ_5 6), zzI cy (rK 7) 8 (T_kn tJ_5 7)]) hx hb hr hlocks rfl (hP.sub [0, 1, 2, 3, 4, 5, 6, 7, 8, 9, 10, 11, 12, 13, 14, 15, 16, 17, 18, 19, 20, 21, 22, 23, 24, 25, 26, 27] rfl) (hD.sub [0, 1, 2, 3, 4, 5, 6, 7, 8, 9, 10, 11, 12, 13, 14, 15, 16, 17, 18, 19, 20, 21, 22, 23, 24, 25, 26, 27] (by decide +kernel) rfl) hS ⟨tJ_5, xE_7, xL_8, rfl, hT_10, trivial⟩ dX6_goes_54
      · have hlt_14 : j_4 < kN := lp_lt rfl rfl (by omega) (by omega) c_12
        obtain ⟨hlt_14i, hlt_14b, hlt_14p⟩ := id hT_10
        refine lv_iload_n hx hb dX6_goes_12 rfl (lv_at hl 3 rfl) ?_
        refine lv_iconst (v := (-1)) hx hb dX6_goes_13 (by decide) ?_
        refine lv_icmp_eq (tgt := 24) hx hb dX6_goes_14 (by decide) (fun c_15 => ?_) (fun c_15 => ?_)
        · refine lv_aload_n hx hb dX6_goes_24 rfl (lv_at hl 2 rfl) ?_
          refine lv_aload_n hx hb dX6_goes_25 rfl (lv_at hl 2 rfl) ?_
          refine kRi (rV (As := []) (rest := [.ref qm]) (b := qm) ⟨hx, hb, hml, hown, hts⟩ (c_X6_valueNow l G cy qm v0 v1 v2 v3 v4 v5 v6 v7 v8 v9 tJ_5 qmB qmO qmK xE_7 iTk v18 v19 v20 v21 v22 v23 v24 v25 v26 xL_8 iWs v29 v30 v31 v32 v33 v34 rB rO rK (by first | omega | (simp only [nb_sr, np_sr, nb_wr, np_wr, nb_rd, np_rd, nb_ch, np_ch, nb_zr, np_zr, nb_za, np_za, nb_ey, np_ey, nb_hf, np_hf, nb_dd, np_dd, nb_so, np_so, nb_skn, np_skn, nb_swh, np_swh, nb_sgn, np_sgn, nb_ssd, np_ssd, nb_sgo, np_sgo, nb_sag, np_sag]; omega)) (by first | omega | (simp only [nb_sr, np_sr, nb_wr, np_wr, nb_rd, np_rd, nb_ch, np_ch, nb_zr, np_zr, nb_za, np_za, nb_ey, np_ey, nb_hf, np_hf, nb_dd, np_dd, nb_so, np_so, nb_skn, np_skn, nb_swh, np_swh, nb_sgn, np_sgn, nb_ssd, np_ssd, nb_sgo, np_sgo, nb_sag, np_sag]; omega))) L_X6_122 (preRV (q := (RX6, TX6, 35)) hN hP [0, 1, 2, 3, 4, 5, 6, 7, 8, 9, 10, 11, 12, 13, 14, 15, 16, 17, 18, 19, 20, 21, 22, 23, 24, 25, 26, 27] rfl 0 5 rfl rfl) rfl ⟨Nat.le_of_ble_eq_true rfl, Nat.le_of_ble_eq_true rfl⟩ hl.1 (Nat.le_of_ble_eq_true rfl) dX6_goes_26 ⟨Nat.le_of_ble_eq_true rfl, Nat.le_of_ble_eq_true rfl⟩) (fun r_16 h_17 => ?_)
          subst h_17
          refine va_put (D := G) (ci := 5) (v := .int (mvo tJ_5 ((1 <<< (nI (T_np tJ_5) &&& 31)) - 1))) (ty := .int) (C := RX6) (T := TX6) (N := 35) hx hb hts iX_X6 tyX6 tyX6_ok nmX6 hown hK hP hD hS 0 rfl rfl 27 (by decide) (hts _ m_t877) (fun _ h9 => h9) rfl (by decide +kernel) rfl rfl (Nat.le_of_ble_eq_true rfl) dX6_goes_29 (fun H locs => ?_)
          clear hP hD hS
          intro hP hD hS
          have hPD := pd_as [zzO qm 5 [v0, v1, v2, v3, v4, v5, v6, v7, v8, v9, .int (nI (T_nb tJ_5)), .ref qmB, .int (nI (T_np tJ_5)), .ref qmO, .ref qmK, .int xE_7, .int iTk, .int (T_sd tJ_5), v18, v19, v20, v21, v22, v23, v24, v25, v26, .int (mvo tJ_5 ((1 <<< (nI (T_np tJ_5) &&& 31)) - 1)), .int iWs, v29, v30, v31, v32, v33, v34], zzG cy 3 qmB rB, zzI cy (rB 0) 4 (bkR tJ_5 0), zzI cy (rB 1) 4 (bkR tJ_5 1), zzI cy (rB 2) 4 (bkR tJ_5 2), zzI cy (rB 3) 4 (bkR tJ_5 3), zzI cy (rB 4) 4 (bkR tJ_5 4), zzI cy (rB 5) 4 (bkR tJ_5 5), zzI cy (rB 6) 4 (bkR tJ_5 6), zzI cy (rB 7) 4 (bkR tJ_5 7), zzG cy 3 qmO rO, zzI cy (rO 0) 5 (onR tJ_5 0), zzI cy (rO 1) 5 (onR tJ_5 1), zzI cy (rO 2) 5 (onR tJ_5 2), zzI cy (rO 3) 5 (onR tJ_5 3), zzI cy (rO 4) 5 (onR tJ_5 4), zzI cy (rO 5) 5 (onR tJ_5 5), zzI cy (rO 6) 5 (onR tJ_5 6), zzI cy (rO 7) 5 (onR tJ_5 7), zzG cy 3 qmK rK, zzI cy (rK 0) 8 (T_kn tJ_5 0), zzI cy (rK 1) 8 (T_kn tJ_5 1), zzI cy (rK 2) 8 (T_kn tJ_5 2), zzI cy (rK 3) 8 (T_kn tJ_5 3), zzI cy (rK 4) 8 (T_kn tJ_5 4), zzI cy (rK 5) 8 (T_kn tJ_5 5), zzI cy (rK 6) 8 (T_kn tJ_5 6), zzI cy (rK 7) 8 (T_kn tJ_5 7)] hP hD rfl
          clear hP hD
          obtain ⟨hP, hD⟩ := hPD
          refine lv_iload hx hb dX6_goes_32 (lv_at hl 1 rfl) ?_
          refine lv_aload_n hx hb dX6_goes_34 rfl (lv_at hl 2 rfl) ?_
          refine va_get (D := G) (ci := 5) (v := .int (mvo tJ_5 ((1 <<< (nI (T_np tJ_5) &&& 31)) - 1))) (C := RX6) (T := TX6) (N := 35) hx hb hts iX_X6 hown hK hP 0 rfl rfl 27 (by decide) (hts _ m_t877) (fun _ h9 => h9) rfl dX6_goes_35 ?_
          refine lv_iadd hx hb dX6_goes_38 ?_
          refine lv_istore (lv' := [(4, .int (xS_6 + (mvo tJ_5 ((1 <<< (nI (T_np tJ_5) &&& 31)) - 1)))), (5, .int (nI j_4)), (0, .ref qm), (1, .int iK), (2, .int (nI kM)), (3, .int (nI kN))]) hx hb dX6_goes_39 hl (by decide) rfl (fun ls => ?_)
          clear hl
          intro hl
          refine lv_aload_n hx hb dX6_goes_41 rfl (lv_at hl 2 rfl) ?_
          refine cVi (As := []) (rest := []) (b := qm) (q := (RX6, TX6, 35)) ⟨hx, hb, hml, hown, hts⟩ (c_X6_end l G cy (H).size qm v0 v1 v2 v3 v4 v5 v6 v7 v8 v9 tJ_5 qmB qmO qmK xE_7 iTk v18 v19 v20 v21 v22 v23 v24 v25 v26 (mvo tJ_5 ((1 <<< (nI (T_np tJ_5) &&& 31)) - 1)) iWs v29 v30 v31 v32 v33 v34 rB rO rK (by first | omega | (simp only [nb_sr, np_sr, nb_wr, np_wr, nb_rd, np_rd, nb_ch, np_ch, nb_zr, np_zr, nb_za, np_za, nb_ey, np_ey, nb_hf, np_hf, nb_dd, np_dd, nb_so, np_so, nb_skn, np_skn, nb_swh, np_swh, nb_sgn, np_sgn, nb_ssd, np_ssd, nb_sgo, np_sgo, nb_sag, np_sag]; omega)) (by first | omega | (simp only [nb_sr, np_sr, nb_wr, np_wr, nb_rd, np_rd, nb_ch, np_ch, nb_zr, np_zr, nb_za, np_za, nb_ey, np_ey, nb_hf, np_hf, nb_dd, np_dd, nb_so, np_so, nb_skn, np_skn, nb_swh, np_swh, nb_sgn, np_sgn, nb_ssd, np_ssd, nb_sgo, np_sgo, nb_sag, np_sag]; omega)) hlt_14i) L_X6_288 hN hP hD hS hA [0, 1, 2, 3, 4, 5, 6, 7, 8, 9, 10, 11, 12, 13, 14, 15, 16, 17, 18, 19, 20, 21, 22, 23, 24, 25, 26, 27] [false, false, false, false, false, false, false, false, false, false, false, false, false, false, false, false, false, false, false, false, false, false, false, false, false, false, false, false] rfl (by decide +kernel) rfl 0 5 rfl rfl rfl ⟨Nat.le_of_ble_eq_true rfl, Nat.le_of_ble_eq_true rfl⟩ hl.1 (Nat.le_of_ble_eq_true rfl) dX6_goes_42 ⟨Nat.le_of_ble_eq_true rfl, Nat.le_of_ble_eq_true rfl⟩ (fun r_18 u_20 H locs h_19 => ?_)
          clear hP hD hS
          intro hP hD hS
          obtain ⟨tX_21, iX_22, rfl, h_23, h_19⟩ := h_19
          have hPD := pd_as [zzO qm 5 [v0, v1, v2, v3, v4, v5, v6, v7, v8, v9, .int (nI (T_nb tX_21)), .ref qmB, .int (nI (T_np tX_21)), .ref qmO, .ref qmK, .int iX_22, .int iTk, .int (T_sd tX_21), v18, v19, v20, v21, v22, v23, v24, v25, v26, .int (mvo tJ_5 ((1 <<< (nI (T_np tJ_5) &&& 31)) - 1)), .int iWs, v29, v30, v31, v32, v33, v34], zzG cy 3 qmB rB, zzI cy (rB 0) 4 (bkR tX_21 0), zzI cy (rB 1) 4 (bkR tX_21 1), zzI cy (rB 2) 4 (bkR tX_21 2), zzI cy (rB 3) 4 (bkR tX_21 3), zzI cy (rB 4) 4 (bkR tX_21 4), zzI cy (rB 5) 4 (bkR tX_21 5), zzI cy (rB 6) 4 (bkR tX_21 6), zzI cy (rB 7) 4 (bkR tX_21 7), zzG cy 3 qmO rO, zzI cy (rO 0) 5 (onR tX_21 0), zzI cy (rO 1) 5 (onR tX_21 1), zzI cy (rO 2) 5 (onR tX_21 2), zzI cy (rO 3) 5 (onR tX_21 3), zzI cy (rO 4) 5 (onR tX_21 4), zzI cy (rO 5) 5 (onR tX_21 5), zzI cy (rO 6) 5 (onR tX_21 6), zzI cy (rO 7) 5 (onR tX_21 7), zzG cy 3 qmK rK, zzI cy (rK 0) 8 (T_kn tX_21 0), zzI cy (rK 1) 8 (T_kn tX_21 1), zzI cy (rK 2) 8 (T_kn tX_21 2), zzI cy (rK 3) 8 (T_kn tX_21 3), zzI cy (rK 4) 8 (T_kn tX_21 4), zzI cy (rK 5) 8 (T_kn tX_21 5), zzI cy (rK 6) 8 (T_kn tX_21 6), zzI cy (rK 7) 8 (T_kn tX_21 7)] hP hD rfl
          clear hP hD
          obtain ⟨hP, hD⟩ := hPD
          refine lv_pop hx hb dX6_goes_45 rfl ?_
          refine lv_iinc (v := nI (j_4 + 1)) (lv' := [(5, .int (nI (j_4 + 1))), (4, .int (xS_6 + (mvo tJ_5 ((1 <<< (nI (T_np tJ_5) &&& 31)) - 1)))), (0, .ref qm), (1, .int iK), (2, .int (nI kM)), (3, .int (nI kN))]) hx hb dX6_goes_46 hl (k := 1) rfl (nI_1 _) (by decide) rfl (fun ls => ?_)
          clear hl
          intro hl
          refine lv_goto (tgt := 6) hx hb dX6_goes_49 (by decide) ?_
          exact ih_3 (j_4 + 1) tX_21 (xS_6 + (mvo tJ_5 ((1 <<< (nI (T_np tJ_5) &&& 31)) - 1))) iX_22 (mvo tJ_5 ((1 <<< (nI (T_np tJ_5) &&& 31)) - 1)) (by omega) (by omega) (⟨h_23.1, h_23.2.1.trans hT_10.2.1, h_23.2.2.trans hT_10.2.2⟩) _ _ _ hP hD hS (lv_sub hl [0, 1, 2, 3, 4, 5] rfl)
        · refine lv_aload_n hx hb dX6_goes_17 rfl (lv_at hl 2 rfl) ?_
          refine lv_iload_n hx hb dX6_goes_18 rfl (lv_at hl 3 rfl) ?_
          refine lv_iload_n hx hb dX6_goes_19 rfl (lv_at hl 4 rfl) ?_
          refine cVi (As := [.int iK, .int (nI kM)]) (rest := []) (b := qm) (q := (RX6, TX6, 35)) ⟨hx, hb, hml, hown, hts⟩ (c_X6_does l G cy (H).size qm v0 v1 v2 v3 v4 v5 v6 v7 v8 v9 tJ_5 qmB qmO qmK xE_7 iTk v18 v19 v20 v21 v22 v23 v24 v25 v26 xL_8 iWs v29 v30 v31 v32 v33 v34 rB rO rK iK kM (by first | omega | (simp only [nb_sr, np_sr, nb_wr, np_wr, nb_rd, np_rd, nb_ch, np_ch, nb_zr, np_zr, nb_za, np_za, nb_ey, np_ey, nb_hf, np_hf, nb_dd, np_dd, nb_so, np_so, nb_skn, np_skn, nb_swh, np_swh, nb_sgn, np_sgn, nb_ssd, np_ssd, nb_sgo, np_sgo, nb_sag, np_sag]; omega)) (by first | omega | (simp only [nb_sr, np_sr, nb_wr, np_wr, nb_rd, np_rd, nb_ch, np_ch, nb_zr, np_zr, nb_za, np_za, nb_ey, np_ey, nb_hf, np_hf, nb_dd, np_dd, nb_so, np_so, nb_skn, np_skn, nb_swh, np_swh, nb_sgn, np_sgn, nb_ssd, np_ssd, nb_sgo, np_sgo, nb_sag, np_sag]; omega)) hlt_14i hM) L_X6_114 hN hP hD hS hA [0, 1, 2, 3, 4, 5, 6, 7, 8, 9, 10, 11, 12, 13, 14, 15, 16, 17, 18, 19, 20, 21, 22, 23, 24, 25, 26, 27] [false, false, false, false, false, false, false, false, false, false, false, false, false, false, false, false, false, false, false, false, false, false, false, false, false, false, false, false] rfl (by decide +kernel) rfl 0 5 rfl rfl rfl ⟨Nat.le_of_ble_eq_true rfl, Nat.le_of_ble_eq_true rfl⟩ hl.1 (Nat.le_of_ble_eq_true rfl) dX6_goes_20 ⟨Nat.le_of_ble_eq_true rfl, Nat.le_of_ble_eq_true rfl⟩ (fun r_24 u_26 H locs h_25 => ?_)
          clear hP hD hS
          intro hP hD hS
          obtain ⟨tX_27, rfl, h_28, h_25⟩ := h_25
          have hPD := pd_as [zzO qm 5 [v0, v1, v2, v3, v4, v5, v6, v7, v8, v9, .int (nI (T_nb tX_27)), .ref qmB, .int (nI (T_np tX_27)), .ref qmO, .ref qmK, .int xE_7, .int iTk, .int (T_sd tX_27), v18, v19, v20, v21, v22, v23, v24, v25, v26, .int xL_8, .int iWs, v29, v30, v31, v32, v33, v34], zzG cy 3 qmB rB, zzI cy (rB 0) 4 (bkR tX_27 0), zzI cy (rB 1) 4 (bkR tX_27 1), zzI cy (rB 2) 4 (bkR tX_27 2), zzI cy (rB 3) 4 (bkR tX_27 3), zzI cy (rB 4) 4 (bkR tX_27 4), zzI cy (rB 5) 4 (bkR tX_27 5), zzI cy (rB 6) 4 (bkR tX_27 6), zzI cy (rB 7) 4 (bkR tX_27 7), zzG cy 3 qmO rO, zzI cy (rO 0) 5 (onR tX_27 0), zzI cy (rO 1) 5 (onR tX_27 1), zzI cy (rO 2) 5 (onR tX_27 2), zzI cy (rO 3) 5 (onR tX_27 3), zzI cy (rO 4) 5 (onR tX_27 4), zzI cy (rO 5) 5 (onR tX_27 5), zzI cy (rO 6) 5 (onR tX_27 6), zzI cy (rO 7) 5 (onR tX_27 7), zzG cy 3 qmK rK, zzI cy (rK 0) 8 (T_kn tX_27 0), zzI cy (rK 1) 8 (T_kn tX_27 1), zzI cy (rK 2) 8 (T_kn tX_27 2), zzI cy (rK 3) 8 (T_kn tX_27 3), zzI cy (rK 4) 8 (T_kn tX_27 4), zzI cy (rK 5) 8 (T_kn tX_27 5), zzI cy (rK 6) 8 (T_kn tX_27 6), zzI cy (rK 7) 8 (T_kn tX_27 7)] hP hD rfl
          clear hP hD
          obtain ⟨hP, hD⟩ := hPD
          refine lv_pop hx hb dX6_goes_23 rfl ?_
          refine lv_aload_n hx hb dX6_goes_24 rfl (lv_at hl 2 rfl) ?_
          refine lv_aload_n hx hb dX6_goes_25 rfl (lv_at hl 2 rfl) ?_
          refine kRi (rV (As := []) (rest := [.ref qm]) (b := qm) ⟨hx, hb, hml, hown, hts⟩ (c_X6_valueNow l G cy qm v0 v1 v2 v3 v4 v5 v6 v7 v8 v9 tX_27 qmB qmO qmK xE_7 iTk v18 v19 v20 v21 v22 v23 v24 v25 v26 xL_8 iWs v29 v30 v31 v32 v33 v34 rB rO rK (by first | omega | (simp only [nb_sr, np_sr, nb_wr, np_wr, nb_rd, np_rd, nb_ch, np_ch, nb_zr, np_zr, nb_za, np_za, nb_ey, np_ey, nb_hf, np_hf, nb_dd, np_dd, nb_so, np_so, nb_skn, np_skn, nb_swh, np_swh, nb_sgn, np_sgn, nb_ssd, np_ssd, nb_sgo, np_sgo, nb_sag, np_sag]; omega)) (by first | omega | (simp only [nb_sr, np_sr, nb_wr, np_wr, nb_rd, np_rd, nb_ch, np_ch, nb_zr, np_zr, nb_za, np_za, nb_ey, np_ey, nb_hf, np_hf, nb_dd, np_dd, nb_so, np_so, nb_skn, np_skn, nb_swh, np_swh, nb_sgn, np_sgn, nb_ssd, np_ssd, nb_sgo, np_sgo, nb_sag, np_sag]; omega))) L_X6_122 (preRV (q := (RX6, TX6, 35)) hN hP [0, 1, 2, 3, 4, 5, 6, 7, 8, 9, 10, 11, 12, 13, 14, 15, 16, 17, 18, 19, 20, 21, 22, 23, 24, 25, 26, 27] rfl 0 5 rfl rfl) rfl ⟨Nat.le_of_ble_eq_true rfl, Nat.le_of_ble_eq_true rfl⟩ hl.1 (Nat.le_of_ble_eq_true rfl) dX6_goes_26 ⟨Nat.le_of_ble_eq_true rfl, Nat.le_of_ble_eq_true rfl⟩) (fun r_29 h_30 => ?_)
          subst h_30
          refine va_put (D := G) (ci := 5) (v := .int (mvo tX_27 ((1 <<< (nI (T_np tX_27) &&& 31)) - 1))) (ty := .int) (C := RX6) (T := TX6) (N := 35) hx hb hts iX_X6 tyX6 tyX6_ok nmX6 hown hK hP hD hS 0 rfl rfl 27 (by decide) (hts _ m_t877) (fun _ h9 => h9) rfl (by decide +kernel) rfl rfl (Nat.le_of_ble_eq_true rfl) dX6_goes_29 (fun H locs => ?_)
          clear hP hD hS
          intro hP hD hS
          have hPD := pd_as [zzO qm 5 [v0, v1, v2, v3, v4, v5, v6, v7, v8, v9, .int (nI (T_nb tX_27)), .ref qmB, .int (nI (T_np tX_27)), .ref qmO, .ref qmK, .int xE_7, .int iTk, .int (T_sd tX_27), v18, v19, v20, v21, v22, v23, v24, v25, v26, .int (mvo tX_27 ((1 <<< (nI (T_np tX_27) &&& 31)) - 1)), .int iWs, v29, v30, v31, v32, v33, v34], zzG cy 3 qmB rB, zzI cy (rB 0) 4 (bkR tX_27 0), zzI cy (rB 1) 4 (bkR tX_27 1), zzI cy (rB 2) 4 (bkR tX_27 2), zzI cy (rB 3) 4 (bkR tX_27 3), zzI cy (rB 4) 4 (bkR tX_27 4), zzI cy (rB 5) 4 (bkR tX_27 5), zzI cy (rB 6) 4 (bkR tX_27 6), zzI cy (rB 7) 4 (bkR tX_27 7), zzG cy 3 qmO rO, zzI cy (rO 0) 5 (onR tX_27 0), zzI cy (rO 1) 5 (onR tX_27 1), zzI cy (rO 2) 5 (onR tX_27 2), zzI cy (rO 3) 5 (onR tX_27 3), zzI cy (rO 4) 5 (onR tX_27 4), zzI cy (rO 5) 5 (onR tX_27 5), zzI cy (rO 6) 5 (onR tX_27 6), zzI cy (rO 7) 5 (onR tX_27 7), zzG cy 3 qmK rK, zzI cy (rK 0) 8 (T_kn tX_27 0), zzI cy (rK 1) 8 (T_kn tX_27 1), zzI cy (rK 2) 8 (T_kn tX_27 2), zzI cy (rK 3) 8 (T_kn tX_27 3), zzI cy (rK 4) 8 (T_kn tX_27 4), zzI cy (rK 5) 8 (T_kn tX_27 5), zzI cy (rK 6) 8 (T_kn tX_27 6), zzI cy (rK 7) 8 (T_kn tX_27 7)] hP hD rfl
          clear hP hD
          obtain ⟨hP, hD⟩ := hPD
          refine lv_iload hx hb dX6_goes_32 (lv_at hl 1 rfl) ?_
          refine lv_aload_n hx hb dX6_goes_34 rfl (lv_at hl 2 rfl) ?_
          refine va_get (D := G) (ci := 5) (v := .int (mvo tX_27 ((1 <<< (nI (T_np tX_27) &&& 31)) - 1))) (C := RX6) (T := TX6) (N := 35) hx hb hts iX_X6 hown hK hP 0 rfl rfl 27 (by decide) (hts _ m_t877) (fun _ h9 => h9) rfl dX6_goes_35 ?_
          refine lv_iadd hx hb dX6_goes_38 ?_
          refine lv_istore (lv' := [(4, .int (xS_6 + (mvo tX_27 ((1 <<< (nI (T_np tX_27) &&& 31)) - 1)))), (5, .int (nI j_4)), (0, .ref qm), (1, .int iK), (2, .int (nI kM)), (3, .int (nI kN))]) hx hb dX6_goes_39 hl (by decide) rfl (fun ls => ?_)
          clear hl
          intro hl
          refine lv_aload_n hx hb dX6_goes_41 rfl (lv_at hl 2 rfl) ?_
          refine cVi (As := []) (rest := []) (b := qm) (q := (RX6, TX6, 35)) ⟨hx, hb, hml, hown, hts⟩ (c_X6_end l G cy (H).size qm v0 v1 v2 v3 v4 v5 v6 v7 v8 v9 tX_27 qmB qmO qmK xE_7 iTk v18 v19 v20 v21 v22 v23 v24 v25 v26 (mvo tX_27 ((1 <<< (nI (T_np tX_27) &&& 31)) - 1)) iWs v29 v30 v31 v32 v33 v34 rB rO rK (by first | omega | (simp only [nb_sr, np_sr, nb_wr, np_wr, nb_rd, np_rd, nb_ch, np_ch, nb_zr, np_zr, nb_za, np_za, nb_ey, np_ey, nb_hf, np_hf, nb_dd, np_dd, nb_so, np_so, nb_skn, np_skn, nb_swh, np_swh, nb_sgn, np_sgn, nb_ssd, np_ssd, nb_sgo, np_sgo, nb_sag, np_sag]; omega)) (by first | omega | (simp only [nb_sr, np_sr, nb_wr, np_wr, nb_rd, np_rd, nb_ch, np_ch, nb_zr, np_zr, nb_za, np_za, nb_ey, np_ey, nb_hf, np_hf, nb_dd, np_dd, nb_so, np_so, nb_skn, np_skn, nb_swh, np_swh, nb_sgn, np_sgn, nb_ssd, np_ssd, nb_sgo, np_sgo, nb_sag, np_sag]; omega)) h_28.1) L_X6_288 hN hP hD hS hA [0, 1, 2, 3, 4, 5, 6, 7, 8, 9, 10, 11, 12, 13, 14, 15, 16, 17, 18, 19, 20, 21, 22, 23, 24, 25, 26, 27] [false, false, false, false, false, false, false, false, false, false, false, false, false, false, false, false, false, false, false, false, false, false, false, false, false, false, false, false] rfl (by decide +kernel) rfl 0 5 rfl rfl rfl ⟨Nat.le_of_ble_eq_true rfl, Nat.le_of_ble_eq_true rfl⟩ hl.1 (Nat.le_of_ble_eq_true rfl) dX6_goes_42 ⟨Nat.le_of_ble_eq_true rfl, Nat.le_of_ble_eq_true rfl⟩ (fun r_31 u_33 H locs h_32 => ?_)
          clear hP hD hS
          intro hP hD hS
          obtain ⟨tX_34, iX_35, rfl, h_36, h_32⟩ := h_32
          have hPD := pd_as [zzO qm 5 [v0, v1, v2, v3, v4, v5, v6, v7, v8, v9, .int (nI (T_nb tX_34)), .ref qmB, .int (nI (T_np tX_34)), .ref qmO, .ref qmK, .int iX_35, .int iTk, .int (T_sd tX_34), v18, v19, v20, v21, v22, v23, v24, v25, v26, .int (mvo tX_27 ((1 <<< (nI (T_np tX_27) &&& 31)) - 1)), .int iWs, v29, v30, v31, v32, v33, v34], zzG cy 3 qmB rB, zzI cy (rB 0) 4 (bkR tX_34 0), zzI cy (rB 1) 4 (bkR tX_34 1), zzI cy (rB 2) 4 (bkR tX_34 2), zzI cy (rB 3) 4 (bkR tX_34 3), zzI cy (rB 4) 4 (bkR tX_34 4), zzI cy (rB 5) 4 (bkR tX_34 5), zzI cy (rB 6) 4 (bkR tX_34 6), zzI cy (rB 7) 4 (bkR tX_34 7), zzG cy 3 qmO rO, zzI cy (rO 0) 5 (onR tX_34 0), zzI cy (rO 1) 5 (onR tX_34 1), zzI cy (rO 2) 5 (onR tX_34 2), zzI cy (rO 3) 5 (onR tX_34 3), zzI cy (rO 4) 5 (onR tX_34 4), zzI cy (rO 5) 5 (onR tX_34 5), zzI cy (rO 6) 5 (onR tX_34 6), zzI cy (rO 7) 5 (onR tX_34 7), zzG cy 3 qmK rK, zzI cy (rK 0) 8 (T_kn tX_34 0), zzI cy (rK 1) 8 (T_kn tX_34 1), zzI cy (rK 2) 8 (T_kn tX_34 2), zzI cy (rK 3) 8 (T_kn tX_34 3), zzI cy (rK 4) 8 (T_kn tX_34 4), zzI cy (rK 5) 8 (T_kn tX_34 5), zzI cy (rK 6) 8 (T_kn tX_34 6), zzI cy (rK 7) 8 (T_kn tX_34 7)] hP hD rfl
          clear hP hD
          obtain ⟨hP, hD⟩ := hPD
          refine lv_pop hx hb dX6_goes_45 rfl ?_
          refine lv_iinc (v := nI (j_4 + 1)) (lv' := [(5, .int (nI (j_4 + 1))), (4, .int (xS_6 + (mvo tX_27 ((1 <<< (nI (T_np tX_27) &&& 31)) - 1)))), (0, .ref qm), (1, .int iK), (2, .int (nI kM)), (3, .int (nI kN))]) hx hb dX6_goes_46 hl (k := 1) rfl (nI_1 _) (by decide) rfl (fun ls => ?_)
          clear hl
          intro hl
          refine lv_goto (tgt := 6) hx hb dX6_goes_49 (by decide) ?_
          exact ih_3 (j_4 + 1) tX_34 (xS_6 + (mvo tX_27 ((1 <<< (nI (T_np tX_27) &&& 31)) - 1))) iX_35 (mvo tX_27 ((1 <<< (nI (T_np tX_27) &&& 31)) - 1)) (by omega) (by omega) (⟨h_36.1, h_36.2.1.trans (h_28.2.1.trans hT_10.2.1), h_36.2.2.trans (h_28.2.2.trans hT_10.2.2)⟩) _ _ _ hP hD hS (lv_sub hl [0, 1, 2, 3, 4, 5] rfl)
  exact lp_1 ((60 - 0) + 1) 0 tA 0 iEn iLv (Nat.lt_succ_self _) (Nat.zero_le _) (⟨hTI, rfl, rfl⟩) _ _ ls hP hD hS (lv_sub hl [0, 1, 2, 3, 4, 5] rfl)
theorem c_X6_goes0 (l : Launch) (G : va_G) (cy : Nat → ClassId) (sz : Nat) (qm : Nat) (v0 : Value) (v1 : Value) (v2 : Value) (v3 : Value) (v4 : Value) (v5 : Value) (v6 : Value) (v7 : Value) (v8 : Value) (v9 : Value) (tA : TA) (qmB : Nat) (qmO : Nat) (qmK : Nat) (iEn : Int32) (iTk : Int32) (v18 : Value) (v19 : Value) (v20 : Value) (v21 : Value) (v22 : Value) (v23 : Value) (v24 : Value) (v25 : Value) (v26 : Value) (iLv : Int32) (iWs : Int32) (v29 : Value) (v30 : Value) (v31 : Value) (v32 : Value) (v33 : Value) (v34 : Value) (rB : Nat → Nat) (rO : Nat → Nat) (rK : Nat → Nat) (kN : Nat)  (hB : T_nb tA ≤ 8) (hPp : T_np tA ≤ 8) (hTI : TI tA) (hN60 : kN ≤ 60) : MW l yX6_goes cX6_goes 6 (some .int) 8 0 0 G cy [zzO qm 5 [v0, v1, v2, v3, v4, v5, v6, v7, v8, v9, .int (nI (T_nb tA)), .ref qmB, .int (nI (T_np tA)), .ref qmO, .ref qmK, .int iEn, .int iTk, .int (T_sd tA), v18, v19, v20, v21, v22, v23, v24, v25, v26, .int iLv, .int iWs, v29, v30, v31, v32, v33, v34], zzG cy 3 qmB rB, zzI cy (rB 0) 4 (bkR tA 0), zzI cy (rB 1) 4 (bkR tA 1), zzI cy (rB 2) 4 (bkR tA 2), zzI cy (rB 3) 4 (bkR tA 3), zzI cy (rB 4) 4 (bkR tA 4), zzI cy (rB 5) 4 (bkR tA 5), zzI cy (rB 6) 4 (bkR tA 6), zzI cy (rB 7) 4 (bkR tA 7), zzG cy 3 qmO rO, zzI cy (rO 0) 5 (onR tA 0), zzI cy (rO 1) 5 (onR tA 1), zzI cy (rO 2) 5 (onR tA 2), zzI cy (rO 3) 5 (onR tA 3), zzI cy (rO 4) 5 (onR tA 4), zzI cy (rO 5) 5 (onR tA 5), zzI cy (rO 6) 5 (onR tA 6), zzI cy (rO 7) 5 (onR tA 7), zzG cy 3 qmK rK, zzI cy (rK 0) 8 (T_kn tA 0), zzI cy (rK 1) 8 (T_kn tA 1), zzI cy (rK 2) 8 (T_kn tA 2), zzI cy (rK 3) 8 (T_kn tA 3), zzI cy (rK 4) 8 (T_kn tA 4), zzI cy (rK 5) 8 (T_kn tA 5), zzI cy (rK 6) 8 (T_kn tA 6), zzI cy (rK 7) 8 (T_kn tA 7)] sz [.ref qm, .int (-1), .int 0, .int (nI kN)] (Wi G (fun r u => ∃ (tX : TA) (iX : Int32) (iY : Int32), u = [zzO qm 5 [v0, v1, v2, v3, v4, v5, v6, v7, v8, v9, .int (nI (T_nb tX)), .ref qmB, .int (nI (T_np tX)), .ref qmO, .ref qmK, .int iX, .int iTk, .int (T_sd tX), v18, v19, v20, v21, v22, v23, v24, v25, v26, .int iY, .int iWs, v29, v30, v31, v32, v33, v34], zzG cy 3 qmB rB, zzI cy (rB 0) 4 (bkR tX 0), zzI cy (rB 1) 4 (bkR tX 1), zzI cy (rB 2) 4 (bkR tX 2), zzI cy (rB 3) 4 (bkR tX 3), zzI cy (rB 4) 4 (bkR tX 4), zzI cy (rB 5) 4 (bkR tX 5), zzI cy (rB 6) 4 (bkR tX 6), zzI cy (rB 7) 4 (bkR tX 7), zzG cy 3 qmO rO, zzI cy (rO 0) 5 (onR tX 0), zzI cy (rO 1) 5 (onR tX 1), zzI cy (rO 2) 5 (onR tX 2), zzI cy (rO 3) 5 (onR tX 3), zzI cy (rO 4) 5 (onR tX 4), zzI cy (rO 5) 5 (onR tX 5), zzI cy (rO 6) 5 (onR tX 6), zzI cy (rO 7) 5 (onR tX 7), zzG cy 3 qmK rK, zzI cy (rK 0) 8 (T_kn tX 0), zzI cy (rK 1) 8 (T_kn tX 1), zzI cy (rK 2) 8 (T_kn tX 2), zzI cy (rK 3) 8 (T_kn tX 3), zzI cy (rK 4) 8 (T_kn tX 4), zzI cy (rK 5) 8 (T_kn tX 5), zzI cy (rK 6) 8 (T_kn tX 6), zzI cy (rK 7) 8 (T_kn tX 7)] ∧ (TI tX ∧ T_nb tX = T_nb tA ∧ T_np tX = T_np tA) ∧ (True))) := c_X6_goes l G cy sz qm v0 v1 v2 v3 v4 v5 v6 v7 v8 v9 tA qmB qmO qmK iEn iTk v18 v19 v20 v21 v22 v23 v24 v25 v26 iLv iWs v29 v30 v31 v32 v33 v34 rB rO rK (-1) 0 kN hB hPp hTI (by omega) hN60
theorem c_X6_goes01 (l : Launch) (G : va_G) (cy : Nat → ClassId) (sz : Nat) (qm : Nat) (v0 : Value) (v1 : Value) (v2 : Value) (v3 : Value) (v4 : Value) (v5 : Value) (v6 : Value) (v7 : Value) (v8 : Value) (v9 : Value) (tA : TA) (qmB : Nat) (qmO : Nat) (qmK : Nat) (iEn : Int32) (iTk : Int32) (v18 : Value) (v19 : Value) (v20 : Value) (v21 : Value) (v22 : Value) (v23 : Value) (v24 : Value) (v25 : Value) (v26 : Value) (iLv : Int32) (iWs : Int32) (v29 : Value) (v30 : Value) (v31 : Value) (v32 : Value) (v33 : Value) (v34 : Value) (rB : Nat → Nat) (rO : Nat → Nat) (rK : Nat → Nat)  (hB : T_nb tA ≤ 8) (hPp : T_np tA ≤ 8) (hTI : TI tA) : MW l yX6_goes cX6_goes 6 (some .int) 8 0 0 G cy [zzO qm 5 [v0, v1, v2, v3, v4, v5, v6, v7, v8, v9, .int (nI (T_nb tA)), .ref qmB, .int (nI (T_np tA)), .ref qmO, .ref qmK, .int iEn, .int iTk, .int (T_sd tA), v18, v19, v20, v21, v22, v23, v24, v25, v26, .int iLv, .int iWs, v29, v30, v31, v32, v33, v34], zzG cy 3 qmB rB, zzI cy (rB 0) 4 (bkR tA 0), zzI cy (rB 1) 4 (bkR tA 1), zzI cy (rB 2) 4 (bkR tA 2), zzI cy (rB 3) 4 (bkR tA 3), zzI cy (rB 4) 4 (bkR tA 4), zzI cy (rB 5) 4 (bkR tA 5), zzI cy (rB 6) 4 (bkR tA 6), zzI cy (rB 7) 4 (bkR tA 7), zzG cy 3 qmO rO, zzI cy (rO 0) 5 (onR tA 0), zzI cy (rO 1) 5 (onR tA 1), zzI cy (rO 2) 5 (onR tA 2), zzI cy (rO 3) 5 (onR tA 3), zzI cy (rO 4) 5 (onR tA 4), zzI cy (rO 5) 5 (onR tA 5), zzI cy (rO 6) 5 (onR tA 6), zzI cy (rO 7) 5 (onR tA 7), zzG cy 3 qmK rK, zzI cy (rK 0) 8 (T_kn tA 0), zzI cy (rK 1) 8 (T_kn tA 1), zzI cy (rK 2) 8 (T_kn tA 2), zzI cy (rK 3) 8 (T_kn tA 3), zzI cy (rK 4) 8 (T_kn tA 4), zzI cy (rK 5) 8 (T_kn tA 5), zzI cy (rK 6) 8 (T_kn tA 6), zzI cy (rK 7) 8 (T_kn tA 7)] sz [.ref qm, .int (-1), .int 0, .int 1] (Wi G (fun r u => ∃ (tX : TA) (iX : Int32) (iY : Int32), u = [zzO qm 5 [v0, v1, v2, v3, v4, v5, v6, v7, v8, v9, .int (nI (T_nb tX)), .ref qmB, .int (nI (T_np tX)), .ref qmO, .ref qmK, .int iX, .int iTk, .int (T_sd tX), v18, v19, v20, v21, v22, v23, v24, v25, v26, .int iY, .int iWs, v29, v30, v31, v32, v33, v34], zzG cy 3 qmB rB, zzI cy (rB 0) 4 (bkR tX 0), zzI cy (rB 1) 4 (bkR tX 1), zzI cy (rB 2) 4 (bkR tX 2), zzI cy (rB 3) 4 (bkR tX 3), zzI cy (rB 4) 4 (bkR tX 4), zzI cy (rB 5) 4 (bkR tX 5), zzI cy (rB 6) 4 (bkR tX 6), zzI cy (rB 7) 4 (bkR tX 7), zzG cy 3 qmO rO, zzI cy (rO 0) 5 (onR tX 0), zzI cy (rO 1) 5 (onR tX 1), zzI cy (rO 2) 5 (onR tX 2), zzI cy (rO 3) 5 (onR tX 3), zzI cy (rO 4) 5 (onR tX 4), zzI cy (rO 5) 5 (onR tX 5), zzI cy (rO 6) 5 (onR tX 6), zzI cy (rO 7) 5 (onR tX 7), zzG cy 3 qmK rK, zzI cy (rK 0) 8 (T_kn tX 0), zzI cy (rK 1) 8 (T_kn tX 1), zzI cy (rK 2) 8 (T_kn tX 2), zzI cy (rK 3) 8 (T_kn tX 3), zzI cy (rK 4) 8 (T_kn tX 4), zzI cy (rK 5) 8 (T_kn tX 5), zzI cy (rK 6) 8 (T_kn tX 6), zzI cy (rK 7) 8 (T_kn tX 7)] ∧ (TI tX ∧ T_nb tX = T_nb tA ∧ T_np tX = T_np tA) ∧ (True))) := c_X6_goes l G cy sz qm v0 v1 v2 v3 v4 v5 v6 v7 v8 v9 tA qmB qmO qmK iEn iTk v18 v19 v20 v21 v22 v23 v24 v25 v26 iLv iWs v29 v30 v31 v32 v33 v34 rB rO rK (-1) 0 1 hB hPp hTI (by omega) (by omega)
end
section
/-! a world with a tail: cells that may be there or not stand behind the known ones -/
section TAIL
variable {p : Program} {l : Launch} {e : Env} {R : Room} {s : State} {m : MethodId} {args : Array Value} {below : List Frame} {meth : Method} {c : Code} {H : Heap} {locs : List Loc} {cells slots : Nat} {Q : State → Prop}
variable {pc mc ms : Nat} {ls : Array Slot} {st0 rest As : List Value} {G : va_G} {cy : Nat → ClassId} {b : Nat} {a : Array Value}
variable {Xw cx wr pl : va_W} {A : Nat → Prop} {H0 : Heap} {X : (Nat → Prop) → State → Heap → Prop}
theorem preWVP {q : vw_C} {fs : List Value} (hN : KN G cy s) (hP : va_P G CL (Xw ++ pl) H) (hD : va_D A (Xw ++ pl)) (isC : List Nat) (hC : isC.map (fun i => Xw[i]?) = cx.map some) (hn : va_nd isC = true) (qr ci : Nat) (he : (Xw ++ pl)[qr]? = some (b, .inr (ci, fs))) (hc : CL[ci]? = some q) : PreV s H q.1 b (Wr G cy (cx ++ pl) H.size (.ref b :: As)) As :=
  ⟨Wr.blind, va_recv hN.1 hP hc he, fun U hU hW => ⟨rfl, by rw [hU], by rw [hU]; exact hP.part isC hC, hN.warm hW, (hD.part isC hn hC).weaken (fun _ _ _ _ => trivial)⟩⟩
theorem preWVXP {q : vw_C} {fs : List Value} (hN : KN G cy s) (hP : va_P G CL (Xw ++ pl) H) (hD : va_D A (Xw ++ pl)) (isC : List Nat) (hC : isC.map (fun i => Xw[i]?) = cx.map some) (hn : va_nd isC = true) (qr ci : Nat) (he : (Xw ++ pl)[qr]? = some (b, .inr (ci, fs))) (hc : CL[ci]? = some q) (ok : XOK X) (hX : X A s s.heap) (hS : va_S A s.heap H locs) (hA : ∀ q, s.heap.size ≤ q → A q) : PreV s H q.1 b (WrX G cy X (cx ++ pl) H.size (.ref b :: As)) As :=
  ⟨WrX.blind, va_recv hN.1 hP hc he, fun U hU hW => ⟨rfl, by rw [hU], by rw [hU]; exact hP.part isC hC, hN.warm hW, (hD.part isC hn hC).weaken (fun _ _ _ _ => trivial), ok, xq ok hX hS hU hW (va_freeP hD hS hA isC hC)⟩⟩
/-- the callee has no tail -/
theorem kWiQ {wc : va_W} {post : Int32 → va_W → Prop} (hr : va_Run p l e R s m args below meth c H locs cells slots mc ms (F0 m pc ls st0) rest (Wi G post (va_A wc H.size) a) (va_A wc H.size)) (hP : va_P G CL (Xw ++ pl) H) (hD : va_D A (Xw ++ pl)) (hS : va_S A H0 H locs) (hA : ∀ q, H0.size ≤ q → A q)
    (isC isR : List Nat) (hC : isC.map (fun i => Xw[i]?) = wc.map some) (hC2 : isC.map (fun i => (Xw ++ pl)[i]?) = wc.map some) (hR : isR.map (fun i => Xw[i]?) = wr.map some) (hn : va_nd isR = true) (hdis : ∀ i ∈ isR, i ∉ isC)
    (kk : ∀ (r : Int32) (u : va_W) (H1 : Heap) (locs1 : List Loc), post r u → va_P G CL ((wr ++ u) ++ pl) H1 → va_D A ((wr ++ u) ++ pl) → va_S A H0 H1 locs1 → W p l e R s m args below meth c H1 locs1 (cells + mc) (slots + ms) Q (F0 m (pc + 3) ls (.int r :: rest))) : W p l e R s m args below meth c H locs cells slots Q (F0 m pc ls st0) := by
  have hF := va_free (wc := wc) hD hS hA isC hC2
  refine va_calli hr hS (fun q _ h => hF q h) hF (fun r u t H1 locs1 ht hvm hw hB hz1 hk1 hS1 => ?_)
  obtain ⟨hP1, hD1⟩ := hB
  rw [ht] at hP1
  obtain ⟨hP2, hD2⟩ := va_joinQ hP hD isC isR hC hR hn hdis hk1 hF hP1 hD1
  exact kk r u H1 locs1 hw hP2 hD2 hS1
theorem kWvQ {wc : va_W} {post : va_W → Prop} (hr : va_Run p l e R s m args below meth c H locs cells slots mc ms (F0 m pc ls st0) rest (Wv G post (va_A wc H.size) a) (va_A wc H.size)) (hP : va_P G CL (Xw ++ pl) H) (hD : va_D A (Xw ++ pl)) (hS : va_S A H0 H locs) (hA : ∀ q, H0.size ≤ q → A q)
    (isC isR : List Nat) (hC : isC.map (fun i => Xw[i]?) = wc.map some) (hC2 : isC.map (fun i => (Xw ++ pl)[i]?) = wc.map some) (hR : isR.map (fun i => Xw[i]?) = wr.map some) (hn : va_nd isR = true) (hdis : ∀ i ∈ isR, i ∉ isC)
    (kk : ∀ (u : va_W) (H1 : Heap) (locs1 : List Loc), post u → va_P G CL ((wr ++ u) ++ pl) H1 → va_D A ((wr ++ u) ++ pl) → va_S A H0 H1 locs1 → W p l e R s m args below meth c H1 locs1 (cells + mc) (slots + ms) Q (F0 m (pc + 3) ls rest)) : W p l e R s m args below meth c H locs cells slots Q (F0 m pc ls st0) := by
  have hF := va_free (wc := wc) hD hS hA isC hC2
  refine va_callv hr hS (fun q _ h => hF q h) hF (fun u t H1 locs1 ht hvm hw hB hz1 hk1 hS1 => ?_)
  obtain ⟨hP1, hD1⟩ := hB
  rw [ht] at hP1
  obtain ⟨hP2, hD2⟩ := va_joinQ hP hD isC isR hC hR hn hdis hk1 hF hP1 hD1
  exact kk u H1 locs1 hw hP2 hD2 hS1
/-- the callee has the tail -/
theorem va_joinT {D : va_G} {u : va_W} {H1 : Heap} (hP : va_P D CL (Xw ++ pl) H) (hD : va_D A (Xw ++ pl)) (isC isR : List Nat) (hC : isC.map (fun i => Xw[i]?) = cx.map some) (hR : isR.map (fun i => Xw[i]?) = wr.map some) (hn : va_nd isR = true) (hdis : ∀ i ∈ isR, i ∉ isC)
    (hk : ∀ q : Nat, q < H.size → ¬ va_A (cx ++ pl) H.size q → H1[q]? = H[q]?) (hF : ∀ q, va_A (cx ++ pl) H.size q → A q) (hP1 : va_P D CL u H1) (hD1 : va_D (va_A (cx ++ pl) H.size) u) : va_P D CL (wr ++ u) H1 ∧ va_D A (wr ++ u) := by
  have h := va_joinP (rx := []) (pl1 := u) hP hD isC isR hC hR hn hdis hk hF hP1 hD1
  rw [List.append_nil] at h
  exact h
theorem kWiP {post : Int32 → va_W → Prop} (hr : va_Run p l e R s m args below meth c H locs cells slots mc ms (F0 m pc ls st0) rest (Wi G post (va_A (cx ++ pl) H.size) a) (va_A (cx ++ pl) H.size)) (hP : va_P G CL (Xw ++ pl) H) (hD : va_D A (Xw ++ pl)) (hS : va_S A H0 H locs) (hA : ∀ q, H0.size ≤ q → A q)
    (isC isR : List Nat) (hC : isC.map (fun i => Xw[i]?) = cx.map some) (hR : isR.map (fun i => Xw[i]?) = wr.map some) (hn : va_nd isR = true) (hdis : ∀ i ∈ isR, i ∉ isC)
    (kk : ∀ (r : Int32) (u : va_W) (H1 : Heap) (locs1 : List Loc), post r u → va_P G CL (wr ++ u) H1 → va_D A (wr ++ u) → va_S A H0 H1 locs1 → W p l e R s m args below meth c H1 locs1 (cells + mc) (slots + ms) Q (F0 m (pc + 3) ls (.int r :: rest))) : W p l e R s m args below meth c H locs cells slots Q (F0 m pc ls st0) := by
  have hF := va_freeP hD hS hA isC hC
  refine va_calli hr hS (fun q _ h => hF q h) hF (fun r u t H1 locs1 ht hvm hw hB hz1 hk1 hS1 => ?_)
  obtain ⟨hP1, hD1⟩ := hB
  rw [ht] at hP1
  obtain ⟨hP2, hD2⟩ := va_joinT hP hD isC isR hC hR hn hdis hk1 hF hP1 hD1
  exact kk r u H1 locs1 hw hP2 hD2 hS1
theorem kWvP {post : va_W → Prop} (hr : va_Run p l e R s m args below meth c H locs cells slots mc ms (F0 m pc ls st0) rest (Wv G post (va_A (cx ++ pl) H.size) a) (va_A (cx ++ pl) H.size)) (hP : va_P G CL (Xw ++ pl) H) (hD : va_D A (Xw ++ pl)) (hS : va_S A H0 H locs) (hA : ∀ q, H0.size ≤ q → A q)
    (isC isR : List Nat) (hC : isC.map (fun i => Xw[i]?) = cx.map some) (hR : isR.map (fun i => Xw[i]?) = wr.map some) (hn : va_nd isR = true) (hdis : ∀ i ∈ isR, i ∉ isC)
    (kk : ∀ (u : va_W) (H1 : Heap) (locs1 : List Loc), post u → va_P G CL (wr ++ u) H1 → va_D A (wr ++ u) → va_S A H0 H1 locs1 → W p l e R s m args below meth c H1 locs1 (cells + mc) (slots + ms) Q (F0 m (pc + 3) ls rest)) : W p l e R s m args below meth c H locs cells slots Q (F0 m pc ls st0) := by
  have hF := va_freeP hD hS hA isC hC
  refine va_callv hr hS (fun q _ h => hF q h) hF (fun u t H1 locs1 ht hvm hw hB hz1 hk1 hS1 => ?_)
  obtain ⟨hP1, hD1⟩ := hB
  rw [ht] at hP1
  obtain ⟨hP2, hD2⟩ := va_joinT hP hD isC isR hC hR hn hdis hk1 hF hP1 hD1
  exact kk u H1 locs1 hw hP2 hD2 hS1
theorem kWqP {post : Nat → va_W → Prop} (hr : va_Run p l e R s m args below meth c H locs cells slots mc ms (F0 m pc ls st0) rest (Wq G post (va_A (cx ++ pl) H.size) a) (va_A (cx ++ pl) H.size)) (hP : va_P G CL (Xw ++ pl) H) (hD : va_D A (Xw ++ pl)) (hS : va_S A H0 H locs) (hA : ∀ q, H0.size ≤ q → A q)
    (isC isR : List Nat) (hC : isC.map (fun i => Xw[i]?) = cx.map some) (hR : isR.map (fun i => Xw[i]?) = wr.map some) (hn : va_nd isR = true) (hdis : ∀ i ∈ isR, i ∉ isC)
    (kk : ∀ (r : Nat) (u : va_W) (H1 : Heap) (locs1 : List Loc), post r u → va_P G CL (wr ++ u) H1 → va_D A (wr ++ u) → va_S A H0 H1 locs1 → W p l e R s m args below meth c H1 locs1 (cells + mc) (slots + ms) Q (F0 m (pc + 3) ls (.ref r :: rest))) : W p l e R s m args below meth c H locs cells slots Q (F0 m pc ls st0) := by
  have hF := va_freeP hD hS hA isC hC
  refine va_callr hr hS (fun q _ h => hF q h) hF (fun u ra t H1 locs1 ht hvm hw hB hz1 hk1 hS1 => ?_)
  obtain ⟨⟨hP1, hD1⟩, hpo⟩ := hB
  rw [ht] at hP1
  obtain ⟨hP2, hD2⟩ := va_joinT hP hD isC isR hC hR hn hdis hk1 hF hP1 hD1
  exact kk ra u H1 locs1 hpo hP2 hD2 hS1
end TAIL
/-- rows of longs -/
noncomputable def updN (K : Nat → Nat → Int64) (p b : Nat) (v : Int64) : Nat → Nat → Int64 := fun p' => if p' = p then vp_updL (K p) b v else K p'
theorem un_u {K : Nat → Nat → Int64} {p b : Nat} {v : Int64} : updN K p b v p = vp_updL (K p) b v := if_pos rfl
theorem un_n {K : Nat → Nat → Int64} {p b : Nat} {v : Int64} {j : Nat} (h : j ≠ p) : updN K p b v j = K j := if_neg h
/-- a reference that is kept beside: its place, its grids, its town, the rest of its fields -/
noncomputable abbrev DM : Type := Nat × Nat × Nat × Nat × (Nat → Nat) × (Nat → Nat) × (Nat → Nat) × TA × (Nat → Value) × Int32 × Int32 × Int32 × Int32
noncomputable abbrev UM : Type := Option DM
noncomputable def fvL (l : List Value) : Nat → Value := fun i => l.getD i .null
noncomputable def ov (u : UM) : Value := match u with
  | none => .null
  | some d => .ref d.1
noncomputable def mC (cy : Nat → ClassId) (q qB qO qK : Nat) (rB rO rK : Nat → Nat) (t : TA) (x : Nat → Value) (iE iT iL iW : Int32) : va_W := [zzO q 5 [x 0, x 1, x 2, x 3, x 4, x 5, x 6, x 7, x 8, x 9, .int (nI (T_nb t)), .ref qB, .int (nI (T_np t)), .ref qO, .ref qK, .int iE, .int iT, .int (T_sd t), x 18, x 19, x 20, x 21, x 22, x 23, x 24, x 25, x 26, .int iL, .int iW, x 29, x 30, x 31, x 32, x 33, x 34], zzG cy 3 qB rB, zzI cy (rB 0) 4 (bkR t 0), zzI cy (rB 1) 4 (bkR t 1), zzI cy (rB 2) 4 (bkR t 2), zzI cy (rB 3) 4 (bkR t 3), zzI cy (rB 4) 4 (bkR t 4), zzI cy (rB 5) 4 (bkR t 5), zzI cy (rB 6) 4 (bkR t 6), zzI cy (rB 7) 4 (bkR t 7), zzG cy 3 qO rO, zzI cy (rO 0) 5 (onR t 0), zzI cy (rO 1) 5 (onR t 1), zzI cy (rO 2) 5 (onR t 2), zzI cy (rO 3) 5 (onR t 3), zzI cy (rO 4) 5 (onR t 4), zzI cy (rO 5) 5 (onR t 5), zzI cy (rO 6) 5 (onR t 6), zzI cy (rO 7) 5 (onR t 7), zzG cy 3 qK rK, zzI cy (rK 0) 8 (T_kn t 0), zzI cy (rK 1) 8 (T_kn t 1), zzI cy (rK 2) 8 (T_kn t 2), zzI cy (rK 3) 8 (T_kn t 3), zzI cy (rK 4) 8 (T_kn t 4), zzI cy (rK 5) 8 (T_kn t 5), zzI cy (rK 6) 8 (T_kn t 6), zzI cy (rK 7) 8 (T_kn t 7)]
noncomputable def oM (cy : Nat → ClassId) (u : UM) : va_W := match u with
  | none => []
  | some (q, qB, qO, qK, rB, rO, rK, t, x, iE, iT, iL, iW) => mC cy q qB qO qK rB rO rK t x iE iT iL iW
noncomputable def T0 : TA := T_mk 0 0 1 (fun _ => false) (fun _ => false) (fun _ => 0) (fun _ => 0) (fun _ => 0) (fun _ => 0) (fun _ => 0) (fun _ => 0) (fun _ => 0) (fun _ _ => 0)
theorem bk_T0 (j : Nat) : bkR T0 j = fun _ => 0 := by
  funext i
  show (if i = 0 then (0 : Int32) else if i = 1 then 0 else if i = 2 then 0 else 0) = 0
  split
  · rfl
  · split
    · rfl
    · split <;> rfl
theorem on_T0 (j : Nat) : onR T0 j = fun _ => 0 := by
  funext i
  show (if i = 0 then (0 : Int32) else if i = 1 then 0 else if i = 2 then 0 else if i = 3 then 0 else 0) = 0
  split
  · rfl
  · split
    · rfl
    · split
      · rfl
      · split <;> rfl
theorem TI_0 : TI T0 := ⟨⟨by decide, by decide⟩, fun _ _ => r_0 _, fun _ => r_0 _, fun _ => r_0 _, fun _ => r_0 _, fun _ => r_0 _⟩
section SPEEDT
variable {p : Program} {l : Launch} {e : Env} {R : Room} {s : State} {m : MethodId} {args : Array Value} {below : List Frame} {meth : Method} {c : Code} {H : Heap} {locs : List Loc} {cells slots : Nat} {Q : State → Prop}
variable {y : MethodName} {bytes cc : ByteArray} {maxL nL mc ms index d pc : Nat} {ret : Option FieldType} {own : String} {b : Addr} {As rest st0 : List Value} {ls : Array Slot} {G : va_G} {cy : Nat → ClassId}
variable {ws wc Xw cx pl p1 p2 : va_W} {A : Nat → Prop} {q : vw_C} {fs : List Value} {X : (Nat → Prop) → State → Heap → Prop}
theorem cViQ {post : Int32 → va_W → Prop} (S : CallFix p m c cc nL s args BIG own) (hM : Met l y (.code y bytes maxL ret :: BIG) (Rm d mc ms) (Wr G cy wc H.size (.ref b :: As)) (Wi G post (va_A wc H.size)) mc ms (va_A wc H.size)) (L : LkV own index q.1 y bytes maxL ret As.length) (hN : KN G cy s) (hP : va_P G CL (Xw ++ pl) H) (hD : va_D A (Xw ++ pl)) (hS : va_S A s.heap H locs) (hA : ∀ q, s.heap.size ≤ q → A q) (isC : List Nat) (mk : List Bool) (hC : isC.map (fun i => Xw[i]?) = wc.map some) (hk : okC isC mk = true) (hm : Nat.ble mk.length Xw.length = true) (qr ci : Nat) (he : (Xw ++ pl)[qr]? = some (b, .inr (ci, fs))) (hc : CL[ci]? = some q) (hst : st0 = As.reverse ++ .ref b :: rest) (hR : d + 1 ≤ R.frames ∧ 8 + (maxL + 11) + 60 * d ≤ R.locals) (hsize : ls.size = nL) (hW : (rest.map fun v => v.category).sum ≤ 8) (hdg : decode cc pc = .ok (.invokevirtual index, 3)) (hf : cells + mc ≤ R.cells ∧ slots + ms ≤ R.slots)
    (kk : ∀ (r : Int32) (u : va_W) (H1 : Heap) (locs1 : List Loc), post r u → va_P G CL ((selW mk Xw ++ u) ++ pl) H1 → va_D A ((selW mk Xw ++ u) ++ pl) → va_S A s.heap H1 locs1 → W p l e R s m args below meth c H1 locs1 (cells + mc) (slots + ms) Q (F0 m (pc + 3) ls (.int r :: rest))) : W p l e R s m args below meth c H locs cells slots Q (F0 m pc ls st0) := kWiQ (rV S hM L (preWV hN hP hD isC (tx_app hC) (okC_nd hk) qr ci he hc) hst hR hsize hW hdg hf) hP hD hS hA isC (trueIx 0 mk) hC (tx_app hC) (sel_ok hm) (sel_nd mk 0) (okC_dis hk) kk
theorem cViP {post : Int32 → va_W → Prop} (S : CallFix p m c cc nL s args BIG own) (hM : Met l y (.code y bytes maxL ret :: BIG) (Rm d mc ms) (Wr G cy (cx ++ pl) H.size (.ref b :: As)) (Wi G post (va_A (cx ++ pl) H.size)) mc ms (va_A (cx ++ pl) H.size)) (L : LkV own index q.1 y bytes maxL ret As.length) (hN : KN G cy s) (hP : va_P G CL (Xw ++ pl) H) (hD : va_D A (Xw ++ pl)) (hS : va_S A s.heap H locs) (hA : ∀ q, s.heap.size ≤ q → A q) (isC : List Nat) (mk : List Bool) (hC : isC.map (fun i => Xw[i]?) = cx.map some) (hk : okC isC mk = true) (hm : Nat.ble mk.length Xw.length = true) (qr ci : Nat) (he : (Xw ++ pl)[qr]? = some (b, .inr (ci, fs))) (hc : CL[ci]? = some q) (hst : st0 = As.reverse ++ .ref b :: rest) (hR : d + 1 ≤ R.frames ∧ 8 + (maxL + 11) + 60 * d ≤ R.locals) (hsize : ls.size = nL) (hW : (rest.map fun v => v.category).sum ≤ 8) (hdg : decode cc pc = .ok (.invokevirtual index, 3)) (hf : cells + mc ≤ R.cells ∧ slots + ms ≤ R.slots)
    (kk : ∀ (r : Int32) (u : va_W) (H1 : Heap) (locs1 : List Loc), post r u → va_P G CL (selW mk Xw ++ u) H1 → va_D A (selW mk Xw ++ u) → va_S A s.heap H1 locs1 → W p l e R s m args below meth c H1 locs1 (cells + mc) (slots + ms) Q (F0 m (pc + 3) ls (.int r :: rest))) : W p l e R s m args below meth c H locs cells slots Q (F0 m pc ls st0) := kWiP (rV S hM L (preWVP hN hP hD isC hC (okC_nd hk) qr ci he hc) hst hR hsize hW hdg hf) hP hD hS hA isC (trueIx 0 mk) hC (sel_ok hm) (sel_nd mk 0) (okC_dis hk) kk
theorem cVvQ {post : va_W → Prop} (S : CallFix p m c cc nL s args BIG own) (hM : Met l y (.code y bytes maxL ret :: BIG) (Rm d mc ms) (Wr G cy wc H.size (.ref b :: As)) (Wv G post (va_A wc H.size)) mc ms (va_A wc H.size)) (L : LkV own index q.1 y bytes maxL ret As.length) (hN : KN G cy s) (hP : va_P G CL (Xw ++ pl) H) (hD : va_D A (Xw ++ pl)) (hS : va_S A s.heap H locs) (hA : ∀ q, s.heap.size ≤ q → A q) (isC : List Nat) (mk : List Bool) (hC : isC.map (fun i => Xw[i]?) = wc.map some) (hk : okC isC mk = true) (hm : Nat.ble mk.length Xw.length = true) (qr ci : Nat) (he : (Xw ++ pl)[qr]? = some (b, .inr (ci, fs))) (hc : CL[ci]? = some q) (hst : st0 = As.reverse ++ .ref b :: rest) (hR : d + 1 ≤ R.frames ∧ 8 + (maxL + 11) + 60 * d ≤ R.locals) (hsize : ls.size = nL) (hW : (rest.map fun v => v.category).sum ≤ 8) (hdg : decode cc pc = .ok (.invokevirtual index, 3)) (hf : cells + mc ≤ R.cells ∧ slots + ms ≤ R.slots)
    (kk : ∀ (u : va_W) (H1 : Heap) (locs1 : List Loc), post u → va_P G CL ((selW mk Xw ++ u) ++ pl) H1 → va_D A ((selW mk Xw ++ u) ++ pl) → va_S A s.heap H1 locs1 → W p l e R s m args below meth c H1 locs1 (cells + mc) (slots + ms) Q (F0 m (pc + 3) ls rest)) : W p l e R s m args below meth c H locs cells slots Q (F0 m pc ls st0) := kWvQ (rV S hM L (preWV hN hP hD isC (tx_app hC) (okC_nd hk) qr ci he hc) hst hR hsize hW hdg hf) hP hD hS hA isC (trueIx 0 mk) hC (tx_app hC) (sel_ok hm) (sel_nd mk 0) (okC_dis hk) kk
theorem cVvP {post : va_W → Prop} (S : CallFix p m c cc nL s args BIG own) (hM : Met l y (.code y bytes maxL ret :: BIG) (Rm d mc ms) (Wr G cy (cx ++ pl) H.size (.ref b :: As)) (Wv G post (va_A (cx ++ pl) H.size)) mc ms (va_A (cx ++ pl) H.size)) (L : LkV own index q.1 y bytes maxL ret As.length) (hN : KN G cy s) (hP : va_P G CL (Xw ++ pl) H) (hD : va_D A (Xw ++ pl)) (hS : va_S A s.heap H locs) (hA : ∀ q, s.heap.size ≤ q → A q) (isC : List Nat) (mk : List Bool) (hC : isC.map (fun i => Xw[i]?) = cx.map some) (hk : okC isC mk = true) (hm : Nat.ble mk.length Xw.length = true) (qr ci : Nat) (he : (Xw ++ pl)[qr]? = some (b, .inr (ci, fs))) (hc : CL[ci]? = some q) (hst : st0 = As.reverse ++ .ref b :: rest) (hR : d + 1 ≤ R.frames ∧ 8 + (maxL + 11) + 60 * d ≤ R.locals) (hsize : ls.size = nL) (hW : (rest.map fun v => v.category).sum ≤ 8) (hdg : decode cc pc = .ok (.invokevirtual index, 3)) (hf : cells + mc ≤ R.cells ∧ slots + ms ≤ R.slots)
    (kk : ∀ (u : va_W) (H1 : Heap) (locs1 : List Loc), post u → va_P G CL (selW mk Xw ++ u) H1 → va_D A (selW mk Xw ++ u) → va_S A s.heap H1 locs1 → W p l e R s m args below meth c H1 locs1 (cells + mc) (slots + ms) Q (F0 m (pc + 3) ls rest)) : W p l e R s m args below meth c H locs cells slots Q (F0 m pc ls st0) := kWvP (rV S hM L (preWVP hN hP hD isC hC (okC_nd hk) qr ci he hc) hst hR hsize hW hdg hf) hP hD hS hA isC (trueIx 0 mk) hC (sel_ok hm) (sel_nd mk 0) (okC_dis hk) kk
theorem cVqP {post : Nat → va_W → Prop} (S : CallFix p m c cc nL s args BIG own) (hM : Met l y (.code y bytes maxL ret :: BIG) (Rm d mc ms) (Wr G cy (cx ++ pl) H.size (.ref b :: As)) (Wq G post (va_A (cx ++ pl) H.size)) mc ms (va_A (cx ++ pl) H.size)) (L : LkV own index q.1 y bytes maxL ret As.length) (hN : KN G cy s) (hP : va_P G CL (Xw ++ pl) H) (hD : va_D A (Xw ++ pl)) (hS : va_S A s.heap H locs) (hA : ∀ q, s.heap.size ≤ q → A q) (isC : List Nat) (mk : List Bool) (hC : isC.map (fun i => Xw[i]?) = cx.map some) (hk : okC isC mk = true) (hm : Nat.ble mk.length Xw.length = true) (qr ci : Nat) (he : (Xw ++ pl)[qr]? = some (b, .inr (ci, fs))) (hc : CL[ci]? = some q) (hst : st0 = As.reverse ++ .ref b :: rest) (hR : d + 1 ≤ R.frames ∧ 8 + (maxL + 11) + 60 * d ≤ R.locals) (hsize : ls.size = nL) (hW : (rest.map fun v => v.category).sum ≤ 8) (hdg : decode cc pc = .ok (.invokevirtual index, 3)) (hf : cells + mc ≤ R.cells ∧ slots + ms ≤ R.slots)
    (kk : ∀ (r : Nat) (u : va_W) (H1 : Heap) (locs1 : List Loc), post r u → va_P G CL (selW mk Xw ++ u) H1 → va_D A (selW mk Xw ++ u) → va_S A s.heap H1 locs1 → W p l e R s m args below meth c H1 locs1 (cells + mc) (slots + ms) Q (F0 m (pc + 3) ls (.ref r :: rest))) : W p l e R s m args below meth c H locs cells slots Q (F0 m pc ls st0) := kWqP (rV S hM L (preWVP hN hP hD isC hC (okC_nd hk) qr ci he hc) hst hR hsize hW hdg hf) hP hD hS hA isC (trueIx 0 mk) hC (sel_ok hm) (sel_nd mk 0) (okC_dis hk) kk
theorem cVXiQ {post : Int32 → va_W → Prop} (S : CallFix p m c cc nL s args BIG own) (hM : Met l y (.code y bytes maxL ret :: BIG) (Rm d mc ms) (WrX G cy X wc H.size (.ref b :: As)) (Wi G post (va_A wc H.size)) mc ms (va_A wc H.size)) (L : LkV own index q.1 y bytes maxL ret As.length) (hN : KN G cy s) (hP : va_P G CL (Xw ++ pl) H) (hD : va_D A (Xw ++ pl)) (hS : va_S A s.heap H locs) (hA : ∀ q, s.heap.size ≤ q → A q) (isC : List Nat) (mk : List Bool) (hC : isC.map (fun i => Xw[i]?) = wc.map some) (hk : okC isC mk = true) (hm : Nat.ble mk.length Xw.length = true) (qr ci : Nat) (he : (Xw ++ pl)[qr]? = some (b, .inr (ci, fs))) (hc : CL[ci]? = some q) (ok : XOK X) (hX : X A s s.heap) (hst : st0 = As.reverse ++ .ref b :: rest) (hR : d + 1 ≤ R.frames ∧ 8 + (maxL + 11) + 60 * d ≤ R.locals) (hsize : ls.size = nL) (hW : (rest.map fun v => v.category).sum ≤ 8) (hdg : decode cc pc = .ok (.invokevirtual index, 3)) (hf : cells + mc ≤ R.cells ∧ slots + ms ≤ R.slots)
    (kk : ∀ (r : Int32) (u : va_W) (H1 : Heap) (locs1 : List Loc), post r u → va_P G CL ((selW mk Xw ++ u) ++ pl) H1 → va_D A ((selW mk Xw ++ u) ++ pl) → va_S A s.heap H1 locs1 → W p l e R s m args below meth c H1 locs1 (cells + mc) (slots + ms) Q (F0 m (pc + 3) ls (.int r :: rest))) : W p l e R s m args below meth c H locs cells slots Q (F0 m pc ls st0) := kWiQ (rV S hM L (preWVX hN hP hD isC (tx_app hC) (okC_nd hk) qr ci he hc ok hX hS hA) hst hR hsize hW hdg hf) hP hD hS hA isC (trueIx 0 mk) hC (tx_app hC) (sel_ok hm) (sel_nd mk 0) (okC_dis hk) kk
theorem cIvQ {post : va_W → Prop} (S : CallFix p m c cc nL s args BIG own) (hM : Met l y (.code y bytes maxL none :: BIG) (Rm d mc ms) (Wr G cy wc H.size (.ref b :: As)) (Wv G post (va_A wc H.size)) mc ms (va_A wc H.size)) (L : LkI own index y bytes maxL As.length) (hN : KN G cy s) (hP : va_P G CL (Xw ++ pl) H) (hD : va_D A (Xw ++ pl)) (hS : va_S A s.heap H locs) (hA : ∀ q, s.heap.size ≤ q → A q) (isC : List Nat) (mk : List Bool) (hC : isC.map (fun i => Xw[i]?) = wc.map some) (hk : okC isC mk = true) (hm : Nat.ble mk.length Xw.length = true) (hst : st0 = As.reverse ++ .ref b :: rest) (hR : d + 1 ≤ R.frames ∧ 8 + (maxL + 11) + 60 * d ≤ R.locals) (hsize : ls.size = nL) (hW : (rest.map fun v => v.category).sum ≤ 8) (hdg : decode cc pc = .ok (.invokespecial index, 3)) (hf : cells + mc ≤ R.cells ∧ slots + ms ≤ R.slots)
    (kk : ∀ (u : va_W) (H1 : Heap) (locs1 : List Loc), post u → va_P G CL ((selW mk Xw ++ u) ++ pl) H1 → va_D A ((selW mk Xw ++ u) ++ pl) → va_S A s.heap H1 locs1 → W p l e R s m args below meth c H1 locs1 (cells + mc) (slots + ms) Q (F0 m (pc + 3) ls rest)) : W p l e R s m args below meth c H locs cells slots Q (F0 m pc ls st0) := kWvQ (rI S hM L (preWS hN hP hD isC (tx_app hC) (okC_nd hk)) hst hR hsize hW hdg hf) hP hD hS hA isC (trueIx 0 mk) hC (tx_app hC) (sel_ok hm) (sel_nd mk 0) (okC_dis hk) kk
end SPEEDT
end
