theorem dX4_become_0 : decode cX4_become 0 = .ok (.aload_n 0, 1) := by decide +kernel
theorem dX4_become_1 : decode cX4_become 1 = .ok (.aload_n 1, 1) := by decide +kernel
theorem dX4_become_2 : decode cX4_become 2 = .ok (.getfield 40, 3) := by decide +kernel
theorem dX4_become_5 : decode cX4_become 5 = .ok (.putfield 40, 3) := by decide +kernel
theorem dX4_become_8 : decode cX4_become 8 = .ok (.aload_n 0, 1) := by decide +kernel
theorem dX4_become_9 : decode cX4_become 9 = .ok (.aload_n 1, 1) := by decide +kernel
theorem dX4_become_10 : decode cX4_become 10 = .ok (.getfield 43, 3) := by decide +kernel
theorem dX4_become_13 : decode cX4_become 13 = .ok (.putfield 43, 3) := by decide +kernel
theorem dX4_become_16 : decode cX4_become 16 = .ok (.aload_n 0, 1) := by decide +kernel
theorem dX4_become_17 : decode cX4_become 17 = .ok (.aload_n 1, 1) := by decide +kernel
theorem dX4_become_18 : decode cX4_become 18 = .ok (.getfield 46, 3) := by decide +kernel
theorem dX4_become_21 : decode cX4_become 21 = .ok (.putfield 46, 3) := by decide +kernel
theorem dX4_become_24 : decode cX4_become 24 = .ok (.aload_n 0, 1) := by decide +kernel
theorem dX4_become_25 : decode cX4_become 25 = .ok (.aload_n 1, 1) := by decide +kernel
theorem dX4_become_26 : decode cX4_become 26 = .ok (.getfield 49, 3) := by decide +kernel
theorem dX4_become_29 : decode cX4_become 29 = .ok (.putfield 49, 3) := by decide +kernel
theorem dX4_become_32 : decode cX4_become 32 = .ok (.aload_n 0, 1) := by decide +kernel
theorem dX4_become_33 : decode cX4_become 33 = .ok (.aload_n 1, 1) := by decide +kernel
theorem dX4_become_34 : decode cX4_become 34 = .ok (.getfield 9, 3) := by decide +kernel
theorem dX4_become_37 : decode cX4_become 37 = .ok (.putfield 9, 3) := by decide +kernel
theorem dX4_become_40 : decode cX4_become 40 = .ok (.aload_n 1, 1) := by decide +kernel
theorem dX4_become_41 : decode cX4_become 41 = .ok (.getfield 15, 3) := by decide +kernel
theorem dX4_become_44 : decode cX4_become 44 = .ok (.iconst 0, 1) := by decide +kernel
theorem dX4_become_45 : decode cX4_become 45 = .ok (.aload_n 0, 1) := by decide +kernel
theorem dX4_become_46 : decode cX4_become 46 = .ok (.getfield 15, 3) := by decide +kernel
theorem dX4_become_49 : decode cX4_become 49 = .ok (.iconst 0, 1) := by decide +kernel
theorem dX4_become_50 : decode cX4_become 50 = .ok (.bipush 8, 2) := by decide +kernel
theorem dX4_become_52 : decode cX4_become 52 = .ok (.invokestatic 52, 3) := by decide +kernel
theorem dX4_become_55 : decode cX4_become 55 = .ok (.aload_n 1, 1) := by decide +kernel
theorem dX4_become_56 : decode cX4_become 56 = .ok (.getfield 19, 3) := by decide +kernel
theorem dX4_become_59 : decode cX4_become 59 = .ok (.iconst 0, 1) := by decide +kernel
theorem dX4_become_60 : decode cX4_become 60 = .ok (.aload_n 0, 1) := by decide +kernel
theorem dX4_become_61 : decode cX4_become 61 = .ok (.getfield 19, 3) := by decide +kernel
theorem dX4_become_64 : decode cX4_become 64 = .ok (.iconst 0, 1) := by decide +kernel
theorem dX4_become_65 : decode cX4_become 65 = .ok (.bipush 8, 2) := by decide +kernel
theorem dX4_become_67 : decode cX4_become 67 = .ok (.invokestatic 52, 3) := by decide +kernel
theorem dX4_become_70 : decode cX4_become 70 = .ok (.aload_n 1, 1) := by decide +kernel
theorem dX4_become_71 : decode cX4_become 71 = .ok (.getfield 22, 3) := by decide +kernel
theorem dX4_become_74 : decode cX4_become 74 = .ok (.iconst 0, 1) := by decide +kernel
theorem dX4_become_75 : decode cX4_become 75 = .ok (.aload_n 0, 1) := by decide +kernel
theorem dX4_become_76 : decode cX4_become 76 = .ok (.getfield 22, 3) := by decide +kernel
theorem dX4_become_79 : decode cX4_become 79 = .ok (.iconst 0, 1) := by decide +kernel
theorem dX4_become_80 : decode cX4_become 80 = .ok (.bipush 8, 2) := by decide +kernel
theorem dX4_become_82 : decode cX4_become 82 = .ok (.invokestatic 52, 3) := by decide +kernel
theorem dX4_become_85 : decode cX4_become 85 = .ok (.aload_n 1, 1) := by decide +kernel
theorem dX4_become_86 : decode cX4_become 86 = .ok (.getfield 25, 3) := by decide +kernel
theorem dX4_become_89 : decode cX4_become 89 = .ok (.iconst 0, 1) := by decide +kernel
theorem dX4_become_90 : decode cX4_become 90 = .ok (.aload_n 0, 1) := by decide +kernel
theorem dX4_become_91 : decode cX4_become 91 = .ok (.getfield 25, 3) := by decide +kernel
theorem dX4_become_94 : decode cX4_become 94 = .ok (.iconst 0, 1) := by decide +kernel
theorem dX4_become_95 : decode cX4_become 95 = .ok (.bipush 8, 2) := by decide +kernel
theorem dX4_become_97 : decode cX4_become 97 = .ok (.invokestatic 52, 3) := by decide +kernel
theorem dX4_become_100 : decode cX4_become 100 = .ok (.aload_n 1, 1) := by decide +kernel
theorem dX4_become_101 : decode cX4_become 101 = .ok (.getfield 28, 3) := by decide +kernel
theorem dX4_become_104 : decode cX4_become 104 = .ok (.iconst 0, 1) := by decide +kernel
theorem dX4_become_105 : decode cX4_become 105 = .ok (.aload_n 0, 1) := by decide +kernel
theorem dX4_become_106 : decode cX4_become 106 = .ok (.getfield 28, 3) := by decide +kernel
theorem dX4_become_109 : decode cX4_become 109 = .ok (.iconst 0, 1) := by decide +kernel
theorem dX4_become_110 : decode cX4_become 110 = .ok (.bipush 8, 2) := by decide +kernel
theorem dX4_become_112 : decode cX4_become 112 = .ok (.invokestatic 52, 3) := by decide +kernel
theorem dX4_become_115 : decode cX4_become 115 = .ok (.aload_n 1, 1) := by decide +kernel
theorem dX4_become_116 : decode cX4_become 116 = .ok (.getfield 31, 3) := by decide +kernel
theorem dX4_become_119 : decode cX4_become 119 = .ok (.iconst 0, 1) := by decide +kernel
theorem dX4_become_120 : decode cX4_become 120 = .ok (.aload_n 0, 1) := by decide +kernel
theorem dX4_become_121 : decode cX4_become 121 = .ok (.getfield 31, 3) := by decide +kernel
theorem dX4_become_124 : decode cX4_become 124 = .ok (.iconst 0, 1) := by decide +kernel
theorem dX4_become_125 : decode cX4_become 125 = .ok (.bipush 8, 2) := by decide +kernel
theorem dX4_become_127 : decode cX4_become 127 = .ok (.invokestatic 52, 3) := by decide +kernel
theorem dX4_become_130 : decode cX4_become 130 = .ok (.aload_n 1, 1) := by decide +kernel
theorem dX4_become_131 : decode cX4_become 131 = .ok (.getfield 34, 3) := by decide +kernel
theorem dX4_become_134 : decode cX4_become 134 = .ok (.iconst 0, 1) := by decide +kernel
theorem dX4_become_135 : decode cX4_become 135 = .ok (.aload_n 0, 1) := by decide +kernel
theorem dX4_become_136 : decode cX4_become 136 = .ok (.getfield 34, 3) := by decide +kernel
theorem dX4_become_139 : decode cX4_become 139 = .ok (.iconst 0, 1) := by decide +kernel
theorem dX4_become_140 : decode cX4_become 140 = .ok (.bipush 8, 2) := by decide +kernel
theorem dX4_become_142 : decode cX4_become 142 = .ok (.invokestatic 52, 3) := by decide +kernel
theorem dX4_become_145 : decode cX4_become 145 = .ok (.aload_n 1, 1) := by decide +kernel
theorem dX4_become_146 : decode cX4_become 146 = .ok (.getfield 37, 3) := by decide +kernel
theorem dX4_become_149 : decode cX4_become 149 = .ok (.iconst 0, 1) := by decide +kernel
theorem dX4_become_150 : decode cX4_become 150 = .ok (.aload_n 0, 1) := by decide +kernel
theorem dX4_become_151 : decode cX4_become 151 = .ok (.getfield 37, 3) := by decide +kernel
theorem dX4_become_154 : decode cX4_become 154 = .ok (.iconst 0, 1) := by decide +kernel
theorem dX4_become_155 : decode cX4_become 155 = .ok (.bipush 64, 2) := by decide +kernel
theorem dX4_become_157 : decode cX4_become 157 = .ok (.invokestatic 52, 3) := by decide +kernel
theorem dX4_become_160 : decode cX4_become 160 = .ok (.return_, 1) := by decide +kernel
theorem dX4_drawDeaths_0 : decode cX4_drawDeaths 0 = .ok (.iconst 0, 1) := by decide +kernel
theorem dX4_drawDeaths_1 : decode cX4_drawDeaths 1 = .ok (.istore_n 1, 1) := by decide +kernel
theorem dX4_drawDeaths_2 : decode cX4_drawDeaths 2 = .ok (.iload_n 1, 1) := by decide +kernel
theorem dX4_drawDeaths_3 : decode cX4_drawDeaths 3 = .ok (.aload_n 0, 1) := by decide +kernel
theorem dX4_drawDeaths_4 : decode cX4_drawDeaths 4 = .ok (.getfield 43, 3) := by decide +kernel
theorem dX4_drawDeaths_7 : decode cX4_drawDeaths 7 = .ok (.if_icmp .ge 45, 3) := by decide +kernel
theorem dX4_drawDeaths_10 : decode cX4_drawDeaths 10 = .ok (.aload_n 0, 1) := by decide +kernel
theorem dX4_drawDeaths_11 : decode cX4_drawDeaths 11 = .ok (.getfield 49, 3) := by decide +kernel
theorem dX4_drawDeaths_14 : decode cX4_drawDeaths 14 = .ok (.iload_n 1, 1) := by decide +kernel
theorem dX4_drawDeaths_15 : decode cX4_drawDeaths 15 = .ok (.invokestatic 62, 3) := by decide +kernel
theorem dX4_drawDeaths_18 : decode cX4_drawDeaths 18 = .ok (.ifCond .ne 28, 3) := by decide +kernel
theorem dX4_drawDeaths_21 : decode cX4_drawDeaths 21 = .ok (.aload_n 0, 1) := by decide +kernel
theorem dX4_drawDeaths_22 : decode cX4_drawDeaths 22 = .ok (.invokevirtual 120, 3) := by decide +kernel
theorem dX4_drawDeaths_25 : decode cX4_drawDeaths 25 = .ok (.aload_n 0, 1) := by decide +kernel
theorem dX4_drawDeaths_26 : decode cX4_drawDeaths 26 = .ok (.getfield 25, 3) := by decide +kernel
theorem dX4_drawDeaths_29 : decode cX4_drawDeaths 29 = .ok (.iload_n 1, 1) := by decide +kernel
theorem dX4_drawDeaths_30 : decode cX4_drawDeaths 30 = .ok (.iaload, 1) := by decide +kernel
theorem dX4_drawDeaths_31 : decode cX4_drawDeaths 31 = .ok (.if_icmp .ge 15, 3) := by decide +kernel
theorem dX4_drawDeaths_34 : decode cX4_drawDeaths 34 = .ok (.aload_n 0, 1) := by decide +kernel
theorem dX4_drawDeaths_35 : decode cX4_drawDeaths 35 = .ok (.dup, 1) := by decide +kernel
theorem dX4_drawDeaths_36 : decode cX4_drawDeaths 36 = .ok (.getfield 49, 3) := by decide +kernel
theorem dX4_drawDeaths_39 : decode cX4_drawDeaths 39 = .ok (.iconst 1, 1) := by decide +kernel
theorem dX4_drawDeaths_40 : decode cX4_drawDeaths 40 = .ok (.iload_n 1, 1) := by decide +kernel
theorem dX4_drawDeaths_41 : decode cX4_drawDeaths 41 = .ok (.ishl, 1) := by decide +kernel
theorem dX4_drawDeaths_42 : decode cX4_drawDeaths 42 = .ok (.ior, 1) := by decide +kernel
theorem dX4_drawDeaths_43 : decode cX4_drawDeaths 43 = .ok (.putfield 49, 3) := by decide +kernel
theorem dX4_drawDeaths_46 : decode cX4_drawDeaths 46 = .ok (.iinc 1 1, 3) := by decide +kernel
theorem dX4_drawDeaths_49 : decode cX4_drawDeaths 49 = .ok (.goto (-47), 3) := by decide +kernel
theorem dX4_drawDeaths_52 : decode cX4_drawDeaths 52 = .ok (.return_, 1) := by decide +kernel
theorem dX4_endYear_0 : decode cX4_endYear 0 = .ok (.aload_n 0, 1) := by decide +kernel
theorem dX4_endYear_1 : decode cX4_endYear 1 = .ok (.invokevirtual 78, 3) := by decide +kernel
theorem dX4_endYear_4 : decode cX4_endYear 4 = .ok (.istore_n 1, 1) := by decide +kernel
theorem dX4_endYear_5 : decode cX4_endYear 5 = .ok (.iconst 0, 1) := by decide +kernel
theorem dX4_endYear_6 : decode cX4_endYear 6 = .ok (.istore_n 2, 1) := by decide +kernel
theorem dX4_endYear_7 : decode cX4_endYear 7 = .ok (.iload_n 2, 1) := by decide +kernel
theorem dX4_endYear_8 : decode cX4_endYear 8 = .ok (.aload_n 0, 1) := by decide +kernel
theorem dX4_endYear_9 : decode cX4_endYear 9 = .ok (.getfield 43, 3) := by decide +kernel
theorem dX4_endYear_12 : decode cX4_endYear 12 = .ok (.if_icmp .ge 55, 3) := by decide +kernel
theorem dX4_endYear_15 : decode cX4_endYear 15 = .ok (.iload_n 1, 1) := by decide +kernel
theorem dX4_endYear_16 : decode cX4_endYear 16 = .ok (.iload_n 2, 1) := by decide +kernel
theorem dX4_endYear_17 : decode cX4_endYear 17 = .ok (.invokestatic 62, 3) := by decide +kernel
theorem dX4_endYear_20 : decode cX4_endYear 20 = .ok (.ifCond .eq 41, 3) := by decide +kernel
theorem dX4_endYear_23 : decode cX4_endYear 23 = .ok (.aload_n 0, 1) := by decide +kernel
theorem dX4_endYear_24 : decode cX4_endYear 24 = .ok (.getfield 25, 3) := by decide +kernel
theorem dX4_endYear_27 : decode cX4_endYear 27 = .ok (.iload_n 2, 1) := by decide +kernel
theorem dX4_endYear_28 : decode cX4_endYear 28 = .ok (.dup2, 1) := by decide +kernel
theorem dX4_endYear_29 : decode cX4_endYear 29 = .ok (.iaload, 1) := by decide +kernel
theorem dX4_endYear_30 : decode cX4_endYear 30 = .ok (.iconst 1, 1) := by decide +kernel
theorem dX4_endYear_31 : decode cX4_endYear 31 = .ok (.iadd, 1) := by decide +kernel
theorem dX4_endYear_32 : decode cX4_endYear 32 = .ok (.iastore, 1) := by decide +kernel
theorem dX4_endYear_33 : decode cX4_endYear 33 = .ok (.aload_n 0, 1) := by decide +kernel
theorem dX4_endYear_34 : decode cX4_endYear 34 = .ok (.getfield 25, 3) := by decide +kernel
theorem dX4_endYear_37 : decode cX4_endYear 37 = .ok (.iload_n 2, 1) := by decide +kernel
theorem dX4_endYear_38 : decode cX4_endYear 38 = .ok (.iaload, 1) := by decide +kernel
theorem dX4_endYear_39 : decode cX4_endYear 39 = .ok (.bipush 9, 2) := by decide +kernel
theorem dX4_endYear_41 : decode cX4_endYear 41 = .ok (.if_icmp .le 15, 3) := by decide +kernel
theorem dX4_endYear_44 : decode cX4_endYear 44 = .ok (.aload_n 0, 1) := by decide +kernel
theorem dX4_endYear_45 : decode cX4_endYear 45 = .ok (.dup, 1) := by decide +kernel
theorem dX4_endYear_46 : decode cX4_endYear 46 = .ok (.getfield 49, 3) := by decide +kernel
theorem dX4_endYear_49 : decode cX4_endYear 49 = .ok (.iconst 1, 1) := by decide +kernel
theorem dX4_endYear_50 : decode cX4_endYear 50 = .ok (.iload_n 2, 1) := by decide +kernel
theorem dX4_endYear_51 : decode cX4_endYear 51 = .ok (.ishl, 1) := by decide +kernel
theorem dX4_endYear_52 : decode cX4_endYear 52 = .ok (.ior, 1) := by decide +kernel
theorem dX4_endYear_53 : decode cX4_endYear 53 = .ok (.putfield 49, 3) := by decide +kernel
theorem dX4_endYear_56 : decode cX4_endYear 56 = .ok (.aload_n 0, 1) := by decide +kernel
theorem dX4_endYear_57 : decode cX4_endYear 57 = .ok (.iload_n 2, 1) := by decide +kernel
theorem dX4_endYear_58 : decode cX4_endYear 58 = .ok (.invokevirtual 111, 3) := by decide +kernel
theorem dX4_endYear_61 : decode cX4_endYear 61 = .ok (.iinc 2 1, 3) := by decide +kernel
theorem dX4_endYear_64 : decode cX4_endYear 64 = .ok (.goto (-57), 3) := by decide +kernel
theorem dX4_endYear_67 : decode cX4_endYear 67 = .ok (.iload_n 1, 1) := by decide +kernel
theorem dX4_endYear_68 : decode cX4_endYear 68 = .ok (.aload_n 0, 1) := by decide +kernel
theorem dX4_endYear_69 : decode cX4_endYear 69 = .ok (.getfield 49, 3) := by decide +kernel
theorem dX4_endYear_72 : decode cX4_endYear 72 = .ok (.iand, 1) := by decide +kernel
theorem dX4_endYear_73 : decode cX4_endYear 73 = .ok (.invokestatic 115, 3) := by decide +kernel
theorem dX4_endYear_76 : decode cX4_endYear 76 = .ok (.ireturn, 1) := by decide +kernel
theorem dX4_hearFrom_0 : decode cX4_hearFrom 0 = .ok (.aload_n 0, 1) := by decide +kernel
theorem dX4_hearFrom_1 : decode cX4_hearFrom 1 = .ok (.iload_n 1, 1) := by decide +kernel
theorem dX4_hearFrom_2 : decode cX4_hearFrom 2 = .ok (.iload_n 2, 1) := by decide +kernel
theorem dX4_hearFrom_3 : decode cX4_hearFrom 3 = .ok (.invokevirtual 66, 3) := by decide +kernel
theorem dX4_hearFrom_6 : decode cX4_hearFrom 6 = .ok (.iconst 2, 1) := by decide +kernel
theorem dX4_hearFrom_7 : decode cX4_hearFrom 7 = .ok (.idiv, 1) := by decide +kernel
theorem dX4_hearFrom_8 : decode cX4_hearFrom 8 = .ok (.istore 4, 2) := by decide +kernel
theorem dX4_hearFrom_10 : decode cX4_hearFrom 10 = .ok (.iload_n 3, 1) := by decide +kernel
theorem dX4_hearFrom_11 : decode cX4_hearFrom 11 = .ok (.aload_n 0, 1) := by decide +kernel
theorem dX4_hearFrom_12 : decode cX4_hearFrom 12 = .ok (.invokevirtual 78, 3) := by decide +kernel
theorem dX4_hearFrom_15 : decode cX4_hearFrom 15 = .ok (.iand, 1) := by decide +kernel
theorem dX4_hearFrom_16 : decode cX4_hearFrom 16 = .ok (.iconst 1, 1) := by decide +kernel
theorem dX4_hearFrom_17 : decode cX4_hearFrom 17 = .ok (.iload_n 1, 1) := by decide +kernel
theorem dX4_hearFrom_18 : decode cX4_hearFrom 18 = .ok (.ishl, 1) := by decide +kernel
theorem dX4_hearFrom_19 : decode cX4_hearFrom 19 = .ok (.iconst (-1), 1) := by decide +kernel
theorem dX4_hearFrom_20 : decode cX4_hearFrom 20 = .ok (.ixor, 1) := by decide +kernel
theorem dX4_hearFrom_21 : decode cX4_hearFrom 21 = .ok (.iand, 1) := by decide +kernel
theorem dX4_hearFrom_22 : decode cX4_hearFrom 22 = .ok (.istore 5, 2) := by decide +kernel
theorem dX4_hearFrom_24 : decode cX4_hearFrom 24 = .ok (.iconst 0, 1) := by decide +kernel
theorem dX4_hearFrom_25 : decode cX4_hearFrom 25 = .ok (.istore 6, 2) := by decide +kernel
theorem dX4_hearFrom_27 : decode cX4_hearFrom 27 = .ok (.iconst 0, 1) := by decide +kernel
theorem dX4_hearFrom_28 : decode cX4_hearFrom 28 = .ok (.istore 7, 2) := by decide +kernel
theorem dX4_hearFrom_30 : decode cX4_hearFrom 30 = .ok (.iload 7, 2) := by decide +kernel
theorem dX4_hearFrom_32 : decode cX4_hearFrom 32 = .ok (.aload_n 0, 1) := by decide +kernel
theorem dX4_hearFrom_33 : decode cX4_hearFrom 33 = .ok (.getfield 43, 3) := by decide +kernel
theorem dX4_hearFrom_36 : decode cX4_hearFrom 36 = .ok (.if_icmp .ge 57, 3) := by decide +kernel
theorem dX4_hearFrom_39 : decode cX4_hearFrom 39 = .ok (.iload 4, 2) := by decide +kernel
theorem dX4_hearFrom_41 : decode cX4_hearFrom 41 = .ok (.aload_n 0, 1) := by decide +kernel
theorem dX4_hearFrom_42 : decode cX4_hearFrom 42 = .ok (.iload 7, 2) := by decide +kernel
theorem dX4_hearFrom_44 : decode cX4_hearFrom 44 = .ok (.iload_n 2, 1) := by decide +kernel
theorem dX4_hearFrom_45 : decode cX4_hearFrom 45 = .ok (.invokevirtual 85, 3) := by decide +kernel
theorem dX4_hearFrom_48 : decode cX4_hearFrom 48 = .ok (.invokestatic 88, 3) := by decide +kernel
theorem dX4_hearFrom_51 : decode cX4_hearFrom 51 = .ok (.istore 8, 2) := by decide +kernel
theorem dX4_hearFrom_53 : decode cX4_hearFrom 53 = .ok (.iload 5, 2) := by decide +kernel
theorem dX4_hearFrom_55 : decode cX4_hearFrom 55 = .ok (.iload 7, 2) := by decide +kernel
theorem dX4_hearFrom_57 : decode cX4_hearFrom 57 = .ok (.invokestatic 62, 3) := by decide +kernel
theorem dX4_hearFrom_60 : decode cX4_hearFrom 60 = .ok (.ifCond .eq 27, 3) := by decide +kernel
theorem dX4_hearFrom_63 : decode cX4_hearFrom 63 = .ok (.iload 8, 2) := by decide +kernel
theorem dX4_hearFrom_65 : decode cX4_hearFrom 65 = .ok (.aload_n 0, 1) := by decide +kernel
theorem dX4_hearFrom_66 : decode cX4_hearFrom 66 = .ok (.iload 7, 2) := by decide +kernel
theorem dX4_hearFrom_68 : decode cX4_hearFrom 68 = .ok (.iload_n 2, 1) := by decide +kernel
theorem dX4_hearFrom_69 : decode cX4_hearFrom 69 = .ok (.invokevirtual 66, 3) := by decide +kernel
theorem dX4_hearFrom_72 : decode cX4_hearFrom 72 = .ok (.if_icmp .le 15, 3) := by decide +kernel
theorem dX4_hearFrom_75 : decode cX4_hearFrom 75 = .ok (.aload_n 0, 1) := by decide +kernel
theorem dX4_hearFrom_76 : decode cX4_hearFrom 76 = .ok (.iload 7, 2) := by decide +kernel
theorem dX4_hearFrom_78 : decode cX4_hearFrom 78 = .ok (.iload_n 2, 1) := by decide +kernel
theorem dX4_hearFrom_79 : decode cX4_hearFrom 79 = .ok (.iload 8, 2) := by decide +kernel
theorem dX4_hearFrom_81 : decode cX4_hearFrom 81 = .ok (.invokevirtual 94, 3) := by decide +kernel
theorem dX4_hearFrom_84 : decode cX4_hearFrom 84 = .ok (.iinc 6 1, 3) := by decide +kernel
theorem dX4_hearFrom_87 : decode cX4_hearFrom 87 = .ok (.iinc 7 1, 3) := by decide +kernel
theorem dX4_hearFrom_90 : decode cX4_hearFrom 90 = .ok (.goto (-60), 3) := by decide +kernel
theorem dX4_hearFrom_93 : decode cX4_hearFrom 93 = .ok (.iload 6, 2) := by decide +kernel
theorem dX4_hearFrom_95 : decode cX4_hearFrom 95 = .ok (.ireturn, 1) := by decide +kernel
set_option maxHeartbeats 4000000 in
set_option maxRecDepth 100000 in
theorem c_X4_become (l : Launch) (G : va_G) (cy : Nat → ClassId) (sz : Nat) (qk : Nat) (tB : TA) (qkw : Nat) (qkn : Nat) (qkg : Nat) (qka : Nat) (qkr : Nat) (qkm : Nat) (qkt : Nat) (qks : Nat) (qt : Nat) (tA : TA) (qtw : Nat) (qtn : Nat) (qtg : Nat) (qta : Nat) (qtr : Nat) (qtm : Nat) (qtt : Nat) (qts : Nat)   : MW l yX4_become cX4_become 2 none 2 0 0 G cy [zzO qk 3 [.int (nI (T_nb tB)), .int (nI (T_np tB)), .int (wb (T_wh tB)), .int (wb (T_gn tB)), .int (T_sd tB), .ref qkw, .ref qkn, .ref qkg, .ref qka, .ref qkr, .ref qkm, .ref qkt, .ref qks], zzI cy qkw 8 (T_wo tB), zzI cy qkn 8 (T_ne tB), zzI cy qkg 8 (T_go tB), zzI cy qka 8 (T_ag tB), zzI cy qkr 8 (T_re tB), zzI cy qkm 8 (T_me tB), zzI cy qkt 8 (T_te tB), zzI cy qks 64 (shF (T_kn tB)), zzO qt 3 [.int (nI (T_nb tA)), .int (nI (T_np tA)), .int (wb (T_wh tA)), .int (wb (T_gn tA)), .int (T_sd tA), .ref qtw, .ref qtn, .ref qtg, .ref qta, .ref qtr, .ref qtm, .ref qtt, .ref qts], zzI cy qtw 8 (T_wo tA), zzI cy qtn 8 (T_ne tA), zzI cy qtg 8 (T_go tA), zzI cy qta 8 (T_ag tA), zzI cy qtr 8 (T_re tA), zzI cy qtm 8 (T_me tA), zzI cy qtt 8 (T_te tA), zzI cy qts 64 (shF (T_kn tA))] sz [.ref qk, .ref qt] (Wv G (fun u => u = [zzO qk 3 [.int (nI (T_nb tA)), .int (nI (T_np tA)), .int (wb (T_wh tA)), .int (wb (T_gn tA)), .int (T_sd tA), .ref qkw, .ref qkn, .ref qkg, .ref qka, .ref qkr, .ref qkm, .ref qkt, .ref qks], zzI cy qkw 8 (T_wo tA), zzI cy qkn 8 (T_ne tA), zzI cy qkg 8 (T_go tA), zzI cy qka 8 (T_ag tA), zzI cy qkr 8 (T_re tA), zzI cy qkm 8 (T_me tA), zzI cy qkt 8 (T_te tA), zzI cy qks 64 (shF (T_kn tA)), zzO qt 3 [.int (nI (T_nb tA)), .int (nI (T_np tA)), .int (wb (T_wh tA)), .int (wb (T_gn tA)), .int (T_sd tA), .ref qtw, .ref qtn, .ref qtg, .ref qta, .ref qtr, .ref qtm, .ref qtt, .ref qts], zzI cy qtw 8 (T_wo tA), zzI cy qtn 8 (T_ne tA), zzI cy qtg 8 (T_go tA), zzI cy qta 8 (T_ag tA), zzI cy qtr 8 (T_re tA), zzI cy qtm 8 (T_me tA), zzI cy qtt 8 (T_te tA), zzI cy qts 64 (shF (T_kn tA))])) := by
  refine enW RX4 (by decide) rfl (Nat.le_of_ble_eq_true rfl) (fun p e s m below meth c ls A hx hb hml hown hts hr hlocks hP hN hl hin hD hA hS => ?_)
  have hin : meth.name = _ := hin
  have hK := hN.1
  replace hl : lv_has ls 2 [(0, .ref qk), (1, .ref qt)] := hl
  refine lv_aload_n hx hb dX4_become_0 rfl (lv_at hl 0 rfl) ?_
  refine lv_aload_n hx hb dX4_become_1 rfl (lv_at hl 1 rfl) ?_
  refine va_get (D := G) (ci := 3) (v := .int (nI (T_nb tA))) (C := RX4) (T := TX4) (N := 13) hx hb hts iX_X4 hown hK hP 9 rfl rfl 0 (by decide) (hts _ m_t29) (fun _ h9 => h9) rfl dX4_become_2 ?_
  refine va_put (D := G) (ci := 3) (v := .int (nI (T_nb tA))) (ty := .int) (C := RX4) (T := TX4) (N := 13) hx hb hts iX_X4 tyX4 tyX4_ok nmX4 hown hK hP hD hS 0 rfl rfl 0 (by decide) (hts _ m_t29) (fun _ h9 => h9) rfl (by decide +kernel) rfl rfl (Nat.le_of_ble_eq_true rfl) dX4_become_5 (fun H locs => ?_)
  clear hP hD hS
  intro hP hD hS
  have hPD := pd_as [zzO qk 3 [.int (nI (T_nb tA)), .int (nI (T_np tB)), .int (wb (T_wh tB)), .int (wb (T_gn tB)), .int (T_sd tB), .ref qkw, .ref qkn, .ref qkg, .ref qka, .ref qkr, .ref qkm, .ref qkt, .ref qks], zzI cy qkw 8 (T_wo tB), zzI cy qkn 8 (T_ne tB), zzI cy qkg 8 (T_go tB), zzI cy qka 8 (T_ag tB), zzI cy qkr 8 (T_re tB), zzI cy qkm 8 (T_me tB), zzI cy qkt 8 (T_te tB), zzI cy qks 64 (shF (T_kn tB)), zzO qt 3 [.int (nI (T_nb tA)), .int (nI (T_np tA)), .int (wb (T_wh tA)), .int (wb (T_gn tA)), .int (T_sd tA), .ref qtw, .ref qtn, .ref qtg, .ref qta, .ref qtr, .ref qtm, .ref qtt, .ref qts], zzI cy qtw 8 (T_wo tA), zzI cy qtn 8 (T_ne tA), zzI cy qtg 8 (T_go tA), zzI cy qta 8 (T_ag tA), zzI cy qtr 8 (T_re tA), zzI cy qtm 8 (T_me tA), zzI cy qtt 8 (T_te tA), zzI cy qts 64 (shF (T_kn tA))] hP hD rfl
  clear hP hD
  obtain ⟨hP, hD⟩ := hPD
  refine lv_aload_n hx hb dX4_become_8 rfl (lv_at hl 0 rfl) ?_
  refine lv_aload_n hx hb dX4_become_9 rfl (lv_at hl 1 rfl) ?_
  refine va_get (D := G) (ci := 3) (v := .int (nI (T_np tA))) (C := RX4) (T := TX4) (N := 13) hx hb hts iX_X4 hown hK hP 9 rfl rfl 1 (by decide) (hts _ m_t34) (fun _ h9 => h9) rfl dX4_become_10 ?_
  refine va_put (D := G) (ci := 3) (v := .int (nI (T_np tA))) (ty := .int) (C := RX4) (T := TX4) (N := 13) hx hb hts iX_X4 tyX4 tyX4_ok nmX4 hown hK hP hD hS 0 rfl rfl 1 (by decide) (hts _ m_t34) (fun _ h9 => h9) rfl (by decide +kernel) rfl rfl (Nat.le_of_ble_eq_true rfl) dX4_become_13 (fun H locs => ?_)
  clear hP hD hS
  intro hP hD hS
  have hPD := pd_as [zzO qk 3 [.int (nI (T_nb tA)), .int (nI (T_np tA)), .int (wb (T_wh tB)), .int (wb (T_gn tB)), .int (T_sd tB), .ref qkw, .ref qkn, .ref qkg, .ref qka, .ref qkr, .ref qkm, .ref qkt, .ref qks], zzI cy qkw 8 (T_wo tB), zzI cy qkn 8 (T_ne tB), zzI cy qkg 8 (T_go tB), zzI cy qka 8 (T_ag tB), zzI cy qkr 8 (T_re tB), zzI cy qkm 8 (T_me tB), zzI cy qkt 8 (T_te tB), zzI cy qks 64 (shF (T_kn tB)), zzO qt 3 [.int (nI (T_nb tA)), .int (nI (T_np tA)), .int (wb (T_wh tA)), .int (wb (T_gn tA)), .int (T_sd tA), .ref qtw, .ref qtn, .ref qtg, .ref qta, .ref qtr, .ref qtm, .ref qtt, .ref qts], zzI cy qtw 8 (T_wo tA), zzI cy qtn 8 (T_ne tA), zzI cy qtg 8 (T_go tA), zzI cy qta 8 (T_ag tA), zzI cy qtr 8 (T_re tA), zzI cy qtm 8 (T_me tA), zzI cy qtt 8 (T_te tA), zzI cy qts 64 (shF (T_kn tA))] hP hD rfl
  clear hP hD
  obtain ⟨hP, hD⟩ := hPD
  refine lv_aload_n hx hb dX4_become_16 rfl (lv_at hl 0 rfl) ?_
  refine lv_aload_n hx hb dX4_become_17 rfl (lv_at hl 1 rfl) ?_
  refine va_get (D := G) (ci := 3) (v := .int (wb (T_wh tA))) (C := RX4) (T := TX4) (N := 13) hx hb hts iX_X4 hown hK hP 9 rfl rfl 2 (by decide) (hts _ m_t39) (fun _ h9 => h9) rfl dX4_become_18 ?_
  refine va_put (D := G) (ci := 3) (v := .int (wb (T_wh tA))) (ty := .int) (C := RX4) (T := TX4) (N := 13) hx hb hts iX_X4 tyX4 tyX4_ok nmX4 hown hK hP hD hS 0 rfl rfl 2 (by decide) (hts _ m_t39) (fun _ h9 => h9) rfl (by decide +kernel) rfl rfl (Nat.le_of_ble_eq_true rfl) dX4_become_21 (fun H locs => ?_)
  clear hP hD hS
  intro hP hD hS
  have hPD := pd_as [zzO qk 3 [.int (nI (T_nb tA)), .int (nI (T_np tA)), .int (wb (T_wh tA)), .int (wb (T_gn tB)), .int (T_sd tB), .ref qkw, .ref qkn, .ref qkg, .ref qka, .ref qkr, .ref qkm, .ref qkt, .ref qks], zzI cy qkw 8 (T_wo tB), zzI cy qkn 8 (T_ne tB), zzI cy qkg 8 (T_go tB), zzI cy qka 8 (T_ag tB), zzI cy qkr 8 (T_re tB), zzI cy qkm 8 (T_me tB), zzI cy qkt 8 (T_te tB), zzI cy qks 64 (shF (T_kn tB)), zzO qt 3 [.int (nI (T_nb tA)), .int (nI (T_np tA)), .int (wb (T_wh tA)), .int (wb (T_gn tA)), .int (T_sd tA), .ref qtw, .ref qtn, .ref qtg, .ref qta, .ref qtr, .ref qtm, .ref qtt, .ref qts], zzI cy qtw 8 (T_wo tA), zzI cy qtn 8 (T_ne tA), zzI cy qtg 8 (T_go tA), zzI cy qta 8 (T_ag tA), zzI cy qtr 8 (T_re tA), zzI cy qtm 8 (T_me tA), zzI cy qtt 8 (T_te tA), zzI cy qts 64 (shF (T_kn tA))] hP hD rfl
  clear hP hD
  obtain ⟨hP, hD⟩ := hPD
  refine lv_aload_n hx hb dX4_become_24 rfl (lv_at hl 0 rfl) ?_
  refine lv_aload_n hx hb dX4_become_25 rfl (lv_at hl 1 rfl) ?_
  refine va_get (D := G) (ci := 3) (v := .int (wb (T_gn tA))) (C := RX4) (T := TX4) (N := 13) hx hb hts iX_X4 hown hK hP 9 rfl rfl 3 (by decide) (hts _ m_t43) (fun _ h9 => h9) rfl dX4_become_26 ?_
  refine va_put (D := G) (ci := 3) (v := .int (wb (T_gn tA))) (ty := .int) (C := RX4) (T := TX4) (N := 13) hx hb hts iX_X4 tyX4 tyX4_ok nmX4 hown hK hP hD hS 0 rfl rfl 3 (by decide) (hts _ m_t43) (fun _ h9 => h9) rfl (by decide +kernel) rfl rfl (Nat.le_of_ble_eq_true rfl) dX4_become_29 (fun H locs => ?_)
  clear hP hD hS
  intro hP hD hS
  have hPD := pd_as [zzO qk 3 [.int (nI (T_nb tA)), .int (nI (T_np tA)), .int (wb (T_wh tA)), .int (wb (T_gn tA)), .int (T_sd tB), .ref qkw, .ref qkn, .ref qkg, .ref qka, .ref qkr, .ref qkm, .ref qkt, .ref qks], zzI cy qkw 8 (T_wo tB), zzI cy qkn 8 (T_ne tB), zzI cy qkg 8 (T_go tB), zzI cy qka 8 (T_ag tB), zzI cy qkr 8 (T_re tB), zzI cy qkm 8 (T_me tB), zzI cy qkt 8 (T_te tB), zzI cy qks 64 (shF (T_kn tB)), zzO qt 3 [.int (nI (T_nb tA)), .int (nI (T_np tA)), .int (wb (T_wh tA)), .int (wb (T_gn tA)), .int (T_sd tA), .ref qtw, .ref qtn, .ref qtg, .ref qta, .ref qtr, .ref qtm, .ref qtt, .ref qts], zzI cy qtw 8 (T_wo tA), zzI cy qtn 8 (T_ne tA), zzI cy qtg 8 (T_go tA), zzI cy qta 8 (T_ag tA), zzI cy qtr 8 (T_re tA), zzI cy qtm 8 (T_me tA), zzI cy qtt 8 (T_te tA), zzI cy qts 64 (shF (T_kn tA))] hP hD rfl
  clear hP hD
  obtain ⟨hP, hD⟩ := hPD
  refine lv_aload_n hx hb dX4_become_32 rfl (lv_at hl 0 rfl) ?_
  refine lv_aload_n hx hb dX4_become_33 rfl (lv_at hl 1 rfl) ?_
  refine va_get (D := G) (ci := 3) (v := .int (T_sd tA)) (C := RX4) (T := TX4) (N := 13) hx hb hts iX_X4 hown hK hP 9 rfl rfl 4 (by decide) (hts _ m_t46) (fun _ h9 => h9) rfl dX4_become_34 ?_
  refine va_put (D := G) (ci := 3) (v := .int (T_sd tA)) (ty := .int) (C := RX4) (T := TX4) (N := 13) hx hb hts iX_X4 tyX4 tyX4_ok nmX4 hown hK hP hD hS 0 rfl rfl 4 (by decide) (hts _ m_t46) (fun _ h9 => h9) rfl (by decide +kernel) rfl rfl (Nat.le_of_ble_eq_true rfl) dX4_become_37 (fun H locs => ?_)
  clear hP hD hS
  intro hP hD hS
  have hPD := pd_as [zzO qk 3 [.int (nI (T_nb tA)), .int (nI (T_np tA)), .int (wb (T_wh tA)), .int (wb (T_gn tA)), .int (T_sd tA), .ref qkw, .ref qkn, .ref qkg, .ref qka, .ref qkr, .ref qkm, .ref qkt, .ref qks], zzI cy qkw 8 (T_wo tB), zzI cy qkn 8 (T_ne tB), zzI cy qkg 8 (T_go tB), zzI cy qka 8 (T_ag tB), zzI cy qkr 8 (T_re tB), zzI cy qkm 8 (T_me tB), zzI cy qkt 8 (T_te tB), zzI cy qks 64 (shF (T_kn tB)), zzO qt 3 [.int (nI (T_nb tA)), .int (nI (T_np tA)), .int (wb (T_wh tA)), .int (wb (T_gn tA)), .int (T_sd tA), .ref qtw, .ref qtn, .ref qtg, .ref qta, .ref qtr, .ref qtm, .ref qtt, .ref qts], zzI cy qtw 8 (T_wo tA), zzI cy qtn 8 (T_ne tA), zzI cy qtg 8 (T_go tA), zzI cy qta 8 (T_ag tA), zzI cy qtr 8 (T_re tA), zzI cy qtm 8 (T_me tA), zzI cy qtt 8 (T_te tA), zzI cy qts 64 (shF (T_kn tA))] hP hD rfl
  clear hP hD
  obtain ⟨hP, hD⟩ := hPD
  refine lv_aload_n hx hb dX4_become_40 rfl (lv_at hl 1 rfl) ?_
  refine va_get (D := G) (ci := 3) (v := .ref qtw) (C := RX4) (T := TX4) (N := 13) hx hb hts iX_X4 hown hK hP 9 rfl rfl 5 (by decide) (hts _ m_t48) (fun _ h9 => h9) rfl dX4_become_41 ?_
  refine lv_iconst (v := 0) hx hb dX4_become_44 (by decide) ?_
  refine lv_aload_n hx hb dX4_become_45 rfl (lv_at hl 0 rfl) ?_
  refine va_get (D := G) (ci := 3) (v := .ref qkw) (C := RX4) (T := TX4) (N := 13) hx hb hts iX_X4 hown hK hP 0 rfl rfl 5 (by decide) (hts _ m_t48) (fun _ h9 => h9) rfl dX4_become_46 ?_
  refine lv_iconst (v := 0) hx hb dX4_become_49 (by decide) ?_
  refine lv_bipush (v := 8) hx hb dX4_become_50 (by decide) ?_
  refine cpAll hx hb (hml.trans hl.1.symm) hown (hts _ m_t310) (hts _ m_nat) (hts _ m_t263) (hts _ m_t7) hK hP hD hS 10 1 8 rfl rfl (by decide) (by decide) (Nat.le_of_ble_eq_true rfl) (Nat.le_of_ble_eq_true rfl) dX4_become_52 (fun H locs => ?_)
  clear hP hD hS
  intro hP hD hS
  have hPD := pd_as [zzO qk 3 [.int (nI (T_nb tA)), .int (nI (T_np tA)), .int (wb (T_wh tA)), .int (wb (T_gn tA)), .int (T_sd tA), .ref qkw, .ref qkn, .ref qkg, .ref qka, .ref qkr, .ref qkm, .ref qkt, .ref qks], zzI cy qkw 8 (T_wo tA), zzI cy qkn 8 (T_ne tB), zzI cy qkg 8 (T_go tB), zzI cy qka 8 (T_ag tB), zzI cy qkr 8 (T_re tB), zzI cy qkm 8 (T_me tB), zzI cy qkt 8 (T_te tB), zzI cy qks 64 (shF (T_kn tB)), zzO qt 3 [.int (nI (T_nb tA)), .int (nI (T_np tA)), .int (wb (T_wh tA)), .int (wb (T_gn tA)), .int (T_sd tA), .ref qtw, .ref qtn, .ref qtg, .ref qta, .ref qtr, .ref qtm, .ref qtt, .ref qts], zzI cy qtw 8 (T_wo tA), zzI cy qtn 8 (T_ne tA), zzI cy qtg 8 (T_go tA), zzI cy qta 8 (T_ag tA), zzI cy qtr 8 (T_re tA), zzI cy qtm 8 (T_me tA), zzI cy qtt 8 (T_te tA), zzI cy qts 64 (shF (T_kn tA))] hP hD rfl
  clear hP hD
  obtain ⟨hP, hD⟩ := hPD
  refine lv_aload_n hx hb dX4_become_55 rfl (lv_at hl 1 rfl) ?_
  refine va_get (D := G) (ci := 3) (v := .ref qtn) (C := RX4) (T := TX4) (N := 13) hx hb hts iX_X4 hown hK hP 9 rfl rfl 6 (by decide) (hts _ m_t50) (fun _ h9 => h9) rfl dX4_become_56 ?_
  refine lv_iconst (v := 0) hx hb dX4_become_59 (by decide) ?_
  refine lv_aload_n hx hb dX4_become_60 rfl (lv_at hl 0 rfl) ?_
  refine va_get (D := G) (ci := 3) (v := .ref qkn) (C := RX4) (T := TX4) (N := 13) hx hb hts iX_X4 hown hK hP 0 rfl rfl 6 (by decide) (hts _ m_t50) (fun _ h9 => h9) rfl dX4_become_61 ?_
  refine lv_iconst (v := 0) hx hb dX4_become_64 (by decide) ?_
  refine lv_bipush (v := 8) hx hb dX4_become_65 (by decide) ?_
  refine cpAll hx hb (hml.trans hl.1.symm) hown (hts _ m_t310) (hts _ m_nat) (hts _ m_t263) (hts _ m_t7) hK hP hD hS 11 2 8 rfl rfl (by decide) (by decide) (Nat.le_of_ble_eq_true rfl) (Nat.le_of_ble_eq_true rfl) dX4_become_67 (fun H locs => ?_)
  clear hP hD hS
  intro hP hD hS
  have hPD := pd_as [zzO qk 3 [.int (nI (T_nb tA)), .int (nI (T_np tA)), .int (wb (T_wh tA)), .int (wb (T_gn tA)), .int (T_sd tA), .ref qkw, .ref qkn, .ref qkg, .ref qka, .ref qkr, .ref qkm, .ref qkt, .ref qks], zzI cy qkw 8 (T_wo tA), zzI cy qkn 8 (T_ne tA), zzI cy qkg 8 (T_go tB), zzI cy qka 8 (T_ag tB), zzI cy qkr 8 (T_re tB), zzI cy qkm 8 (T_me tB), zzI cy qkt 8 (T_te tB), zzI cy qks 64 (shF (T_kn tB)), zzO qt 3 [.int (nI (T_nb tA)), .int (nI (T_np tA)), .int (wb (T_wh tA)), .int (wb (T_gn tA)), .int (T_sd tA), .ref qtw, .ref qtn, .ref qtg, .ref qta, .ref qtr, .ref qtm, .ref qtt, .ref qts], zzI cy qtw 8 (T_wo tA), zzI cy qtn 8 (T_ne tA), zzI cy qtg 8 (T_go tA), zzI cy qta 8 (T_ag tA), zzI cy qtr 8 (T_re tA), zzI cy qtm 8 (T_me tA), zzI cy qtt 8 (T_te tA), zzI cy qts 64 (shF (T_kn tA))] hP hD rfl
  clear hP hD
  obtain ⟨hP, hD⟩ := hPD
  refine lv_aload_n hx hb dX4_become_70 rfl (lv_at hl 1 rfl) ?_
  refine va_get (D := G) (ci := 3) (v := .ref qtg) (C := RX4) (T := TX4) (N := 13) hx hb hts iX_X4 hown hK hP 9 rfl rfl 7 (by decide) (hts _ m_t53) (fun _ h9 => h9) rfl dX4_become_71 ?_
  refine lv_iconst (v := 0) hx hb dX4_become_74 (by decide) ?_
  refine lv_aload_n hx hb dX4_become_75 rfl (lv_at hl 0 rfl) ?_
  refine va_get (D := G) (ci := 3) (v := .ref qkg) (C := RX4) (T := TX4) (N := 13) hx hb hts iX_X4 hown hK hP 0 rfl rfl 7 (by decide) (hts _ m_t53) (fun _ h9 => h9) rfl dX4_become_76 ?_
  refine lv_iconst (v := 0) hx hb dX4_become_79 (by decide) ?_
  refine lv_bipush (v := 8) hx hb dX4_become_80 (by decide) ?_
  refine cpAll hx hb (hml.trans hl.1.symm) hown (hts _ m_t310) (hts _ m_nat) (hts _ m_t263) (hts _ m_t7) hK hP hD hS 12 3 8 rfl rfl (by decide) (by decide) (Nat.le_of_ble_eq_true rfl) (Nat.le_of_ble_eq_true rfl) dX4_become_82 (fun H locs => ?_)
  clear hP hD hS
  intro hP hD hS
  have hPD := pd_as [zzO qk 3 [.int (nI (T_nb tA)), .int (nI (T_np tA)), .int (wb (T_wh tA)), .int (wb (T_gn tA)), .int (T_sd tA), .ref qkw, .ref qkn, .ref qkg, .ref qka, .ref qkr, .ref qkm, .ref qkt, .ref qks], zzI cy qkw 8 (T_wo tA), zzI cy qkn 8 (T_ne tA), zzI cy qkg 8 (T_go tA), zzI cy qka 8 (T_ag tB), zzI cy qkr 8 (T_re tB), zzI cy qkm 8 (T_me tB), zzI cy qkt 8 (T_te tB), zzI cy qks 64 (shF (T_kn tB)), zzO qt 3 [.int (nI (T_nb tA)), .int (nI (T_np tA)), .int (wb (T_wh tA)), .int (wb (T_gn tA)), .int (T_sd tA), .ref qtw, .ref qtn, .ref qtg, .ref qta, .ref qtr, .ref qtm, .ref qtt, .ref qts], zzI cy qtw 8 (T_wo tA), zzI cy qtn 8 (T_ne tA), zzI cy qtg 8 (T_go tA), zzI cy qta 8 (T_ag tA), zzI cy qtr 8 (T_re tA), zzI cy qtm 8 (T_me tA), zzI cy qtt 8 (T_te tA), zzI cy qts 64 (shF (T_kn tA))] hP hD rfl
  clear hP hD
  obtain ⟨hP, hD⟩ := hPD
  refine lv_aload_n hx hb dX4_become_85 rfl (lv_at hl 1 rfl) ?_
  refine va_get (D := G) (ci := 3) (v := .ref qta) (C := RX4) (T := TX4) (N := 13) hx hb hts iX_X4 hown hK hP 9 rfl rfl 8 (by decide) (hts _ m_t56) (fun _ h9 => h9) rfl dX4_become_86 ?_
  refine lv_iconst (v := 0) hx hb dX4_become_89 (by decide) ?_
  refine lv_aload_n hx hb dX4_become_90 rfl (lv_at hl 0 rfl) ?_
  refine va_get (D := G) (ci := 3) (v := .ref qka) (C := RX4) (T := TX4) (N := 13) hx hb hts iX_X4 hown hK hP 0 rfl rfl 8 (by decide) (hts _ m_t56) (fun _ h9 => h9) rfl dX4_become_91 ?_
  refine lv_iconst (v := 0) hx hb dX4_become_94 (by decide) ?_
  refine lv_bipush (v := 8) hx hb dX4_become_95 (by decide) ?_
  refine cpAll hx hb (hml.trans hl.1.symm) hown (hts _ m_t310) (hts _ m_nat) (hts _ m_t263) (hts _ m_t7) hK hP hD hS 13 4 8 rfl rfl (by decide) (by decide) (Nat.le_of_ble_eq_true rfl) (Nat.le_of_ble_eq_true rfl) dX4_become_97 (fun H locs => ?_)
  clear hP hD hS
  intro hP hD hS
  have hPD := pd_as [zzO qk 3 [.int (nI (T_nb tA)), .int (nI (T_np tA)), .int (wb (T_wh tA)), .int (wb (T_gn tA)), .int (T_sd tA), .ref qkw, .ref qkn, .ref qkg, .ref qka, .ref qkr, .ref qkm, .ref qkt, .ref qks], zzI cy qkw 8 (T_wo tA), zzI cy qkn 8 (T_ne tA), zzI cy qkg 8 (T_go tA), zzI cy qka 8 (T_ag tA), zzI cy qkr 8 (T_re tB), zzI cy qkm 8 (T_me tB), zzI cy qkt 8 (T_te tB), zzI cy qks 64 (shF (T_kn tB)), zzO qt 3 [.int (nI (T_nb tA)), .int (nI (T_np tA)), .int (wb (T_wh tA)), .int (wb (T_gn tA)), .int (T_sd tA), .ref qtw, .ref qtn, .ref qtg, .ref qta, .ref qtr, .ref qtm, .ref qtt, .ref qts], zzI cy qtw 8 (T_wo tA), zzI cy qtn 8 (T_ne tA), zzI cy qtg 8 (T_go tA), zzI cy qta 8 (T_ag tA), zzI cy qtr 8 (T_re tA), zzI cy qtm 8 (T_me tA), zzI cy qtt 8 (T_te tA), zzI cy qts 64 (shF (T_kn tA))] hP hD rfl
  clear hP hD
  obtain ⟨hP, hD⟩ := hPD
  refine lv_aload_n hx hb dX4_become_100 rfl (lv_at hl 1 rfl) ?_
  refine va_get (D := G) (ci := 3) (v := .ref qtr) (C := RX4) (T := TX4) (N := 13) hx hb hts iX_X4 hown hK hP 9 rfl rfl 9 (by decide) (hts _ m_t58) (fun _ h9 => h9) rfl dX4_become_101 ?_
  refine lv_iconst (v := 0) hx hb dX4_become_104 (by decide) ?_
  refine lv_aload_n hx hb dX4_become_105 rfl (lv_at hl 0 rfl) ?_
  refine va_get (D := G) (ci := 3) (v := .ref qkr) (C := RX4) (T := TX4) (N := 13) hx hb hts iX_X4 hown hK hP 0 rfl rfl 9 (by decide) (hts _ m_t58) (fun _ h9 => h9) rfl dX4_become_106 ?_
  refine lv_iconst (v := 0) hx hb dX4_become_109 (by decide) ?_
  refine lv_bipush (v := 8) hx hb dX4_become_110 (by decide) ?_
  refine cpAll hx hb (hml.trans hl.1.symm) hown (hts _ m_t310) (hts _ m_nat) (hts _ m_t263) (hts _ m_t7) hK hP hD hS 14 5 8 rfl rfl (by decide) (by decide) (Nat.le_of_ble_eq_true rfl) (Nat.le_of_ble_eq_true rfl) dX4_become_112 (fun H locs => ?_)
  clear hP hD hS
  intro hP hD hS
  have hPD := pd_as [zzO qk 3 [.int (nI (T_nb tA)), .int (nI (T_np tA)), .int (wb (T_wh tA)), .int (wb (T_gn tA)), .int (T_sd tA), .ref qkw, .ref qkn, .ref qkg, .ref qka, .ref qkr, .ref qkm, .ref qkt, .ref qks], zzI cy qkw 8 (T_wo tA), zzI cy qkn 8 (T_ne tA), zzI cy qkg 8 (T_go tA), zzI cy qka 8 (T_ag tA), zzI cy qkr 8 (T_re tA), zzI cy qkm 8 (T_me tB), zzI cy qkt 8 (T_te tB), zzI cy qks 64 (shF (T_kn tB)), zzO qt 3 [.int (nI (T_nb tA)), .int (nI (T_np tA)), .int (wb (T_wh tA)), .int (wb (T_gn tA)), .int (T_sd tA), .ref qtw, .ref qtn, .ref qtg, .ref qta, .ref qtr, .ref qtm, .ref qtt, .ref qts], zzI cy qtw 8 (T_wo tA), zzI cy qtn 8 (T_ne tA), zzI cy qtg 8 (T_go tA), zzI cy qta 8 (T_ag tA), zzI cy qtr 8 (T_re tA), zzI cy qtm 8 (T_me tA), zzI cy qtt 8 (T_te tA), zzI cy qts 64 (shF (T_kn tA))] hP hD rfl
  clear hP hD
  obtain ⟨hP, hD⟩ := hPD
  refine lv_aload_n hx hb dX4_become_115 rfl (lv_at hl 1 rfl) ?_
  refine va_get (D := G) (ci := 3) (v := .ref qtm) (C := RX4) (T := TX4) (N := 13) hx hb hts iX_X4 hown hK hP 9 rfl rfl 10 (by decide) (hts _ m_t60) (fun _ h9 => h9) rfl dX4_become_116 ?_
  refine lv_iconst (v := 0) hx hb dX4_become_119 (by decide) ?_
  refine lv_aload_n hx hb dX4_become_120 rfl (lv_at hl 0 rfl) ?_
  refine va_get (D := G) (ci := 3) (v := .ref qkm) (C := RX4) (T := TX4) (N := 13) hx hb hts iX_X4 hown hK hP 0 rfl rfl 10 (by decide) (hts _ m_t60) (fun _ h9 => h9) rfl dX4_become_121 ?_
  refine lv_iconst (v := 0) hx hb dX4_become_124 (by decide) ?_
  refine lv_bipush (v := 8) hx hb dX4_become_125 (by decide) ?_
  refine cpAll hx hb (hml.trans hl.1.symm) hown (hts _ m_t310) (hts _ m_nat) (hts _ m_t263) (hts _ m_t7) hK hP hD hS 15 6 8 rfl rfl (by decide) (by decide) (Nat.le_of_ble_eq_true rfl) (Nat.le_of_ble_eq_true rfl) dX4_become_127 (fun H locs => ?_)
  clear hP hD hS
  intro hP hD hS
  have hPD := pd_as [zzO qk 3 [.int (nI (T_nb tA)), .int (nI (T_np tA)), .int (wb (T_wh tA)), .int (wb (T_gn tA)), .int (T_sd tA), .ref qkw, .ref qkn, .ref qkg, .ref qka, .ref qkr, .ref qkm, .ref qkt, .ref qks], zzI cy qkw 8 (T_wo tA), zzI cy qkn 8 (T_ne tA), zzI cy qkg 8 (T_go tA), zzI cy qka 8 (T_ag tA), zzI cy qkr 8 (T_re tA), zzI cy qkm 8 (T_me tA), zzI cy qkt 8 (T_te tB), zzI cy qks 64 (shF (T_kn tB)), zzO qt 3 [.int (nI (T_nb tA)), .int (nI (T_np tA)), .int (wb (T_wh tA)), .int (wb (T_gn tA)), .int (T_sd tA), .ref qtw, .ref qtn, .ref qtg, .ref qta, .ref qtr, .ref qtm, .ref qtt, .ref qts], zzI cy qtw 8 (T_wo tA), zzI cy qtn 8 (T_ne tA), zzI cy qtg 8 (T_go tA), zzI cy qta 8 (T_ag tA), zzI cy qtr 8 (T_re tA), zzI cy qtm 8 (T_me tA), zzI cy qtt 8 (T_te tA), zzI cy qts 64 (shF (T_kn tA))] hP hD rfl
  clear hP hD
  obtain ⟨hP, hD⟩ := hPD
  refine lv_aload_n hx hb dX4_become_130 rfl (lv_at hl 1 rfl) ?_
  refine va_get (D := G) (ci := 3) (v := .ref qtt) (C := RX4) (T := TX4) (N := 13) hx hb hts iX_X4 hown hK hP 9 rfl rfl 11 (by decide) (hts _ m_t62) (fun _ h9 => h9) rfl dX4_become_131 ?_
  refine lv_iconst (v := 0) hx hb dX4_become_134 (by decide) ?_
  refine lv_aload_n hx hb dX4_become_135 rfl (lv_at hl 0 rfl) ?_
  refine va_get (D := G) (ci := 3) (v := .ref qkt) (C := RX4) (T := TX4) (N := 13) hx hb hts iX_X4 hown hK hP 0 rfl rfl 11 (by decide) (hts _ m_t62) (fun _ h9 => h9) rfl dX4_become_136 ?_
  refine lv_iconst (v := 0) hx hb dX4_become_139 (by decide) ?_
  refine lv_bipush (v := 8) hx hb dX4_become_140 (by decide) ?_
  refine cpAll hx hb (hml.trans hl.1.symm) hown (hts _ m_t310) (hts _ m_nat) (hts _ m_t263) (hts _ m_t7) hK hP hD hS 16 7 8 rfl rfl (by decide) (by decide) (Nat.le_of_ble_eq_true rfl) (Nat.le_of_ble_eq_true rfl) dX4_become_142 (fun H locs => ?_)
  clear hP hD hS
  intro hP hD hS
  have hPD := pd_as [zzO qk 3 [.int (nI (T_nb tA)), .int (nI (T_np tA)), .int (wb (T_wh tA)), .int (wb (T_gn tA)), .int (T_sd tA), .ref qkw, .ref qkn, .ref qkg, .ref qka, .ref qkr, .ref qkm, .ref qkt, .ref qks], zzI cy qkw 8 (T_wo tA), zzI cy qkn 8 (T_ne tA), zzI cy qkg 8 (T_go tA), zzI cy qka 8 (T_ag tA), zzI cy qkr 8 (T_re tA), zzI cy qkm 8 (T_me tA), zzI cy qkt 8 (T_te tA), zzI cy qks 64 (shF (T_kn tB)), zzO qt 3 [.int (nI (T_nb tA)), .int (nI (T_np tA)), .int (wb (T_wh tA)), .int (wb (T_gn tA)), .int (T_sd tA), .ref qtw, .ref qtn, .ref qtg, .ref qta, .ref qtr, .ref qtm, .ref qtt, .ref qts], zzI cy qtw 8 (T_wo tA), zzI cy qtn 8 (T_ne tA), zzI cy qtg 8 (T_go tA), zzI cy qta 8 (T_ag tA), zzI cy qtr 8 (T_re tA), zzI cy qtm 8 (T_me tA), zzI cy qtt 8 (T_te tA), zzI cy qts 64 (shF (T_kn tA))] hP hD rfl
  clear hP hD
  obtain ⟨hP, hD⟩ := hPD
  refine lv_aload_n hx hb dX4_become_145 rfl (lv_at hl 1 rfl) ?_
  refine va_get (D := G) (ci := 3) (v := .ref qts) (C := RX4) (T := TX4) (N := 13) hx hb hts iX_X4 hown hK hP 9 rfl rfl 12 (by decide) (hts _ m_t64) (fun _ h9 => h9) rfl dX4_become_146 ?_
  refine lv_iconst (v := 0) hx hb dX4_become_149 (by decide) ?_
  refine lv_aload_n hx hb dX4_become_150 rfl (lv_at hl 0 rfl) ?_
  refine va_get (D := G) (ci := 3) (v := .ref qks) (C := RX4) (T := TX4) (N := 13) hx hb hts iX_X4 hown hK hP 0 rfl rfl 12 (by decide) (hts _ m_t64) (fun _ h9 => h9) rfl dX4_become_151 ?_
  refine lv_iconst (v := 0) hx hb dX4_become_154 (by decide) ?_
  refine lv_bipush (v := 64) hx hb dX4_become_155 (by decide) ?_
  refine cpAll hx hb (hml.trans hl.1.symm) hown (hts _ m_t310) (hts _ m_nat) (hts _ m_t263) (hts _ m_t7) hK hP hD hS 17 8 64 rfl rfl (by decide) (by decide) (Nat.le_of_ble_eq_true rfl) (Nat.le_of_ble_eq_true rfl) dX4_become_157 (fun H locs => ?_)
  clear hP hD hS
  intro hP hD hS
  have hPD := pd_as [zzO qk 3 [.int (nI (T_nb tA)), .int (nI (T_np tA)), .int (wb (T_wh tA)), .int (wb (T_gn tA)), .int (T_sd tA), .ref qkw, .ref qkn, .ref qkg, .ref qka, .ref qkr, .ref qkm, .ref qkt, .ref qks], zzI cy qkw 8 (T_wo tA), zzI cy qkn 8 (T_ne tA), zzI cy qkg 8 (T_go tA), zzI cy qka 8 (T_ag tA), zzI cy qkr 8 (T_re tA), zzI cy qkm 8 (T_me tA), zzI cy qkt 8 (T_te tA), zzI cy qks 64 (shF (T_kn tA)), zzO qt 3 [.int (nI (T_nb tA)), .int (nI (T_np tA)), .int (wb (T_wh tA)), .int (wb (T_gn tA)), .int (T_sd tA), .ref qtw, .ref qtn, .ref qtg, .ref qta, .ref qtr, .ref qtm, .ref qtt, .ref qts], zzI cy qtw 8 (T_wo tA), zzI cy qtn 8 (T_ne tA), zzI cy qtg 8 (T_go tA), zzI cy qta 8 (T_ag tA), zzI cy qtr 8 (T_re tA), zzI cy qtm 8 (T_me tA), zzI cy qtt 8 (T_te tA), zzI cy qts 64 (shF (T_kn tA))] hP hD rfl
  clear hP hD
  obtain ⟨hP, hD⟩ := hPD
  exact endV (u := [zzO qk 3 [.int (nI (T_nb tA)), .int (nI (T_np tA)), .int (wb (T_wh tA)), .int (wb (T_gn tA)), .int (T_sd tA), .ref qkw, .ref qkn, .ref qkg, .ref qka, .ref qkr, .ref qkm, .ref qkt, .ref qks], zzI cy qkw 8 (T_wo tA), zzI cy qkn 8 (T_ne tA), zzI cy qkg 8 (T_go tA), zzI cy qka 8 (T_ag tA), zzI cy qkr 8 (T_re tA), zzI cy qkm 8 (T_me tA), zzI cy qkt 8 (T_te tA), zzI cy qks 64 (shF (T_kn tA)), zzO qt 3 [.int (nI (T_nb tA)), .int (nI (T_np tA)), .int (wb (T_wh tA)), .int (wb (T_gn tA)), .int (T_sd tA), .ref qtw, .ref qtn, .ref qtg, .ref qta, .ref qtr, .ref qtm, .ref qtt, .ref qts], zzI cy qtw 8 (T_wo tA), zzI cy qtn 8 (T_ne tA), zzI cy qtg 8 (T_go tA), zzI cy qta 8 (T_ag tA), zzI cy qtr 8 (T_re tA), zzI cy qtm 8 (T_me tA), zzI cy qtt 8 (T_te tA), zzI cy qts 64 (shF (T_kn tA))]) hx hb hr hlocks (hP.sub [0, 1, 2, 3, 4, 5, 6, 7, 8, 9, 10, 11, 12, 13, 14, 15, 16, 17] rfl) (hD.sub [0, 1, 2, 3, 4, 5, 6, 7, 8, 9, 10, 11, 12, 13, 14, 15, 16, 17] (by decide +kernel) rfl) hS rfl dX4_become_160
set_option maxHeartbeats 4000000 in
set_option maxRecDepth 100000 in
theorem c_X4_endYear (l : Launch) (G : va_G) (cy : Nat → ClassId) (sz : Nat) (qt : Nat) (tA : TA) (qtw : Nat) (qtn : Nat) (qtg : Nat) (qta : Nat) (qtr : Nat) (qtm : Nat) (qtt : Nat) (qts : Nat)  (hB : T_nb tA ≤ 8) (hPp : T_np tA ≤ 8) : MW l yX4_endYear cX4_endYear 3 (some .int) 4 0 0 G cy [zzO qt 3 [.int (nI (T_nb tA)), .int (nI (T_np tA)), .int (wb (T_wh tA)), .int (wb (T_gn tA)), .int (T_sd tA), .ref qtw, .ref qtn, .ref qtg, .ref qta, .ref qtr, .ref qtm, .ref qtt, .ref qts], zzI cy qtw 8 (T_wo tA), zzI cy qtn 8 (T_ne tA), zzI cy qtg 8 (T_go tA), zzI cy qta 8 (T_ag tA), zzI cy qtr 8 (T_re tA), zzI cy qtm 8 (T_me tA), zzI cy qtt 8 (T_te tA), zzI cy qts 64 (shF (T_kn tA))] sz [.ref qt] (Wi G (fun r u => u = [zzO qt 3 [.int (nI (T_nb (zey tA))), .int (nI (T_np (zey tA))), .int (wb (T_wh (zey tA))), .int (wb (T_gn (zey tA))), .int (T_sd (zey tA)), .ref qtw, .ref qtn, .ref qtg, .ref qta, .ref qtr, .ref qtm, .ref qtt, .ref qts], zzI cy qtw 8 (T_wo (zey tA)), zzI cy qtn 8 (T_ne (zey tA)), zzI cy qtg 8 (T_go (zey tA)), zzI cy qta 8 (T_ag (zey tA)), zzI cy qtr 8 (T_re (zey tA)), zzI cy qtm 8 (T_me (zey tA)), zzI cy qtt 8 (T_te (zey tA)), zzI cy qts 64 (shF (T_kn (zey tA)))] ∧ ((r = (zbc (zthere tA &&& wb (T_gn (zey tA)))))))) := by
  refine enW RX4 (by decide) rfl (Nat.le_of_ble_eq_true rfl) (fun p e s m below meth c ls A hx hb hml hown hts hr hlocks hP hN hl hin hD hA hS => ?_)
  have hin : meth.name = _ := hin
  have hK := hN.1
  replace hl : lv_has ls 3 [(0, .ref qt)] := hl
  refine lv_aload_n hx hb dX4_endYear_0 rfl (lv_at hl 0 rfl) ?_
  refine kRi (rV (As := []) (rest := []) (b := qt) ⟨hx, hb, hml, hown, hts⟩ (c_X4_setThere l G cy qt tA qtw qtn qtg qta qtr qtm qtt qts hPp) L_X4_78 (preRV (q := (RX4, TX4, 13)) hN hP [0] rfl 0 3 rfl rfl) rfl ⟨Nat.le_of_ble_eq_true rfl, Nat.le_of_ble_eq_true rfl⟩ hl.1 (Nat.le_of_ble_eq_true rfl) dX4_endYear_1 ⟨Nat.le_of_ble_eq_true rfl, Nat.le_of_ble_eq_true rfl⟩) (fun r_1 h_2 => ?_)
  subst h_2
  refine lv_istore_n (lv' := [(1, .int (zthere tA)), (0, .ref qt)]) hx hb dX4_endYear_4 rfl hl (by decide) rfl (fun ls => ?_)
  clear hl
  intro hl
  refine lv_iconst (v := 0) hx hb dX4_endYear_5 (by decide) ?_
  refine lv_istore_n (lv' := [(2, .int 0), (1, .int (zthere tA)), (0, .ref qt)]) hx hb dX4_endYear_6 rfl hl (by decide) rfl (fun ls => ?_)
  clear hl
  intro hl
  have lp_3 : ∀ (n_4 : Nat) (j_6 : Nat) (tJ_7 : TA), 8 - j_6 < n_4 → j_6 ≤ T_np tA → tJ_7 = eyF (zthere tA) tA j_6 → ∀ (H : Heap) (locs : List Loc) (ls : Array Slot), va_P G CL [zzO qt 3 [.int (nI (T_nb tJ_7)), .int (nI (T_np tJ_7)), .int (wb (T_wh tJ_7)), .int (wb (T_gn tJ_7)), .int (T_sd tJ_7), .ref qtw, .ref qtn, .ref qtg, .ref qta, .ref qtr, .ref qtm, .ref qtt, .ref qts], zzI cy qtw 8 (T_wo tJ_7), zzI cy qtn 8 (T_ne tJ_7), zzI cy qtg 8 (T_go tJ_7), zzI cy qta 8 (T_ag tJ_7), zzI cy qtr 8 (T_re tJ_7), zzI cy qtm 8 (T_me tJ_7), zzI cy qtt 8 (T_te tJ_7), zzI cy qts 64 (shF (T_kn tJ_7))] H → va_D A [zzO qt 3 [.int (nI (T_nb tJ_7)), .int (nI (T_np tJ_7)), .int (wb (T_wh tJ_7)), .int (wb (T_gn tJ_7)), .int (T_sd tJ_7), .ref qtw, .ref qtn, .ref qtg, .ref qta, .ref qtr, .ref qtm, .ref qtt, .ref qts], zzI cy qtw 8 (T_wo tJ_7), zzI cy qtn 8 (T_ne tJ_7), zzI cy qtg 8 (T_go tJ_7), zzI cy qta 8 (T_ag tJ_7), zzI cy qtr 8 (T_re tJ_7), zzI cy qtm 8 (T_me tJ_7), zzI cy qtt 8 (T_te tJ_7), zzI cy qts 64 (shF (T_kn tJ_7))] → va_S A s.heap H locs → lv_has ls 3 [(2, .int (nI j_6)), (1, .int (zthere tA)), (0, .ref qt)] → W p l e (Rm 4 0 0) s m (List.toArray (α := Value) [.ref qt]) below meth c H locs 0 0 (MQ below ((Wi G (fun r u => u = [zzO qt 3 [.int (nI (T_nb (zey tA))), .int (nI (T_np (zey tA))), .int (wb (T_wh (zey tA))), .int (wb (T_gn (zey tA))), .int (T_sd (zey tA)), .ref qtw, .ref qtn, .ref qtg, .ref qta, .ref qtr, .ref qtm, .ref qtt, .ref qts], zzI cy qtw 8 (T_wo (zey tA)), zzI cy qtn 8 (T_ne (zey tA)), zzI cy qtg 8 (T_go (zey tA)), zzI cy qta 8 (T_ag (zey tA)), zzI cy qtr 8 (T_re (zey tA)), zzI cy qtm 8 (T_me (zey tA)), zzI cy qtt 8 (T_te (zey tA)), zzI cy qts 64 (shF (T_kn (zey tA)))] ∧ ((r = (zbc (zthere tA &&& wb (T_gn (zey tA)))))))) A) (List.toArray (α := Value) [.ref qt]) s 0 0 A) (F0 m 7 ls []) := by
    intro n_4
    induction n_4 with
    | zero => intro j_6 tJ_7 hm9; exact absurd hm9 (Nat.not_lt_zero _)
    | succ n_4 ih_5 =>
      intro j_6 tJ_7 hm_10 hj_8 htJ_9 H locs ls hP hD hS hl
      refine lv_iload_n hx hb dX4_endYear_7 rfl (lv_at hl 0 rfl) ?_
      refine lv_aload_n hx hb dX4_endYear_8 rfl (lv_at hl 2 rfl) ?_
      refine va_get (D := G) (ci := 3) (v := .int (nI (T_np tJ_7))) (C := RX4) (T := TX4) (N := 13) hx hb hts iX_X4 hown hK hP 0 rfl rfl 1 (by decide) (hts _ m_t34) (fun _ h9 => h9) rfl dX4_endYear_9 ?_
      refine lv_icmp_ge (tgt := 67) hx hb dX4_endYear_12 (by decide) (fun c_11 => ?_) (fun c_11 => ?_)
      · have hlt_12e : T_np tJ_7 = T_np tA := by rw [htJ_9]; exact (ey_nb _ _ _).2
        have hlt_12 : j_6 = T_np tA := Nat.le_antisymm (by omega) (by rw [hlt_12e] at c_11; exact lp_ge rfl rfl (by omega) (by omega) c_11)
        have e9_13 : tJ_7 = zey tA := by rw [htJ_9, hlt_12]; rfl
        subst e9_13
        refine lv_iload_n hx hb dX4_endYear_67 rfl (lv_at hl 1 rfl) ?_
        refine lv_aload_n hx hb dX4_endYear_68 rfl (lv_at hl 2 rfl) ?_
        refine va_get (D := G) (ci := 3) (v := .int (wb (T_gn (zey tA)))) (C := RX4) (T := TX4) (N := 13) hx hb hts iX_X4 hown hK hP 0 rfl rfl 3 (by decide) (hts _ m_t43) (fun _ h9 => h9) rfl dX4_endYear_69 ?_
        refine lv_iand hx hb dX4_endYear_72 ?_
        refine kRi (rS (As := [.int ((zthere tA) &&& (wb (T_gn (zey tA))))]) (rest := []) ⟨hx, hb, hml, hown, hts⟩ (c_J6_bitCount l G cy ((zthere tA) &&& (wb (T_gn (zey tA))))) L_X4_115 (preRS hN hP [] rfl) rfl ⟨Nat.le_of_ble_eq_true rfl, Nat.le_of_ble_eq_true rfl⟩ hl.1 (Nat.le_of_ble_eq_true rfl) dX4_endYear_73 ⟨Nat.le_of_ble_eq_true rfl, Nat.le_of_ble_eq_true rfl⟩) (fun r_14 h_15 => ?_)
        subst h_15
        exact endW (u := [zzO qt 3 [.int (nI (T_nb (zey tA))), .int (nI (T_np (zey tA))), .int (wb (T_wh (zey tA))), .int (wb (T_gn (zey tA))), .int (T_sd (zey tA)), .ref qtw, .ref qtn, .ref qtg, .ref qta, .ref qtr, .ref qtm, .ref qtt, .ref qts], zzI cy qtw 8 (T_wo (zey tA)), zzI cy qtn 8 (T_ne (zey tA)), zzI cy qtg 8 (T_go (zey tA)), zzI cy qta 8 (T_ag (zey tA)), zzI cy qtr 8 (T_re (zey tA)), zzI cy qtm 8 (T_me (zey tA)), zzI cy qtt 8 (T_te (zey tA)), zzI cy qts 64 (shF (T_kn (zey tA)))]) hx hb hr hlocks rfl (hP.sub [0, 1, 2, 3, 4, 5, 6, 7, 8] rfl) (hD.sub [0, 1, 2, 3, 4, 5, 6, 7, 8] (by decide +kernel) rfl) hS ⟨rfl, (by simp [hB, hPp, c_11])⟩ dX4_endYear_76
      · have hlt_16e : T_np tJ_7 = T_np tA := by rw [htJ_9]; exact (ey_nb _ _ _).2
        have hlt_16 : j_6 < T_np tA := by rw [hlt_16e] at c_11; exact lp_lt rfl rfl (by omega) (by omega) c_11
        refine lv_iload_n hx hb dX4_endYear_15 rfl (lv_at hl 1 rfl) ?_
        refine lv_iload_n hx hb dX4_endYear_16 rfl (lv_at hl 0 rfl) ?_
        refine kRi (rSN (As := [.int (zthere tA), .int (nI j_6)]) (rest := []) ⟨hx, hb, hml, hown, hts⟩ hN (c_X5_has l G cy (zthere tA) j_6) L_X4_62 (preRS hN hP [] rfl) rfl ⟨Nat.le_of_ble_eq_true rfl, Nat.le_of_ble_eq_true rfl⟩ hl.1 (Nat.le_of_ble_eq_true rfl) dX4_endYear_17 ⟨Nat.le_of_ble_eq_true rfl, Nat.le_of_ble_eq_true rfl⟩) (fun r_17 h_18 => ?_)
        rcases h_18 with ⟨rfl, h_19⟩ | ⟨rfl, h_19⟩
        · refine lv_if_eq (tgt := 61) hx hb dX4_endYear_20 (by decide) (fun h9 => absurd h9 (by decide)) (fun _ => ?_)
          refine lv_aload_n hx hb dX4_endYear_23 rfl (lv_at hl 2 rfl) ?_
          refine va_get (D := G) (ci := 3) (v := .ref qta) (C := RX4) (T := TX4) (N := 13) hx hb hts iX_X4 hown hK hP 0 rfl rfl 8 (by decide) (hts _ m_t56) (fun _ h9 => h9) rfl dX4_endYear_24 ?_
          refine lv_iload_n hx hb dX4_endYear_27 rfl (lv_at hl 0 rfl) ?_
          refine lv_dup2_11 hx hb dX4_endYear_28 rfl rfl ?_
          refine va_iald hx hb hK hP 4 0 rfl rfl (in8 (by omega)) dX4_endYear_29 ?_
          refine lv_seti (v := (T_ag tJ_7) j_6) (congrArg (T_ag tJ_7) (cl8 (by omega))) ?_
          refine lv_iconst (v := 1) hx hb dX4_endYear_30 (by decide) ?_
          refine lv_iadd hx hb dX4_endYear_31 ?_
          refine va_iast hx hb hK hP hD hS 4 0 rfl rfl (in8 (by omega)) dX4_endYear_32 (fun H locs => ?_)
          clear hP hD hS
          intro hP hD hS
          rw [cl8 (k := j_6) (by omega)] at hP hD
          have hPD := pd_as [zzO qt 3 [.int (nI (T_nb tJ_7)), .int (nI (T_np tJ_7)), .int (wb (T_wh tJ_7)), .int (wb (T_gn tJ_7)), .int (T_sd tJ_7), .ref qtw, .ref qtn, .ref qtg, .ref qta, .ref qtr, .ref qtm, .ref qtt, .ref qts], zzI cy qtw 8 (T_wo tJ_7), zzI cy qtn 8 (T_ne tJ_7), zzI cy qtg 8 (T_go tJ_7), zzI cy qta 8 (upd (T_ag tJ_7) j_6 (((T_ag tJ_7) j_6) + 1)), zzI cy qtr 8 (T_re tJ_7), zzI cy qtm 8 (T_me tJ_7), zzI cy qtt 8 (T_te tJ_7), zzI cy qts 64 (shF (T_kn tJ_7))] hP hD rfl
          clear hP hD
          obtain ⟨hP, hD⟩ := hPD
          refine lv_aload_n hx hb dX4_endYear_33 rfl (lv_at hl 2 rfl) ?_
          refine va_get (D := G) (ci := 3) (v := .ref qta) (C := RX4) (T := TX4) (N := 13) hx hb hts iX_X4 hown hK hP 0 rfl rfl 8 (by decide) (hts _ m_t56) (fun _ h9 => h9) rfl dX4_endYear_34 ?_
          refine lv_iload_n hx hb dX4_endYear_37 rfl (lv_at hl 0 rfl) ?_
          refine va_iald hx hb hK hP 4 0 rfl rfl (in8 (by omega)) dX4_endYear_38 ?_
          refine lv_seti (v := ((T_ag tJ_7) j_6) + 1) ((congrArg (upd (T_ag tJ_7) j_6 (((T_ag tJ_7) j_6) + 1)) (cl8 (by omega))).trans pk_us) ?_
          refine lv_bipush (v := 9) hx hb dX4_endYear_39 (by decide) ?_
          refine lv_icmp_le (tgt := 56) hx hb dX4_endYear_41 (by decide) (fun c_21 => ?_) (fun c_21 => ?_)
          · have hPD := pd_as [zzO qt 3 [.int (nI (T_nb (T_setgn (T_setag tJ_7 (upd (T_ag tJ_7) j_6 (T_ag tJ_7 j_6 + 1))) (T_gn tJ_7)))), .int (nI (T_np (T_setgn (T_setag tJ_7 (upd (T_ag tJ_7) j_6 (T_ag tJ_7 j_6 + 1))) (T_gn tJ_7)))), .int (wb (T_wh (T_setgn (T_setag tJ_7 (upd (T_ag tJ_7) j_6 (T_ag tJ_7 j_6 + 1))) (T_gn tJ_7)))), .int (wb (T_gn (T_setgn (T_setag tJ_7 (upd (T_ag tJ_7) j_6 (T_ag tJ_7 j_6 + 1))) (T_gn tJ_7)))), .int (T_sd (T_setgn (T_setag tJ_7 (upd (T_ag tJ_7) j_6 (T_ag tJ_7 j_6 + 1))) (T_gn tJ_7))), .ref qtw, .ref qtn, .ref qtg, .ref qta, .ref qtr, .ref qtm, .ref qtt, .ref qts], zzI cy qtw 8 (T_wo (T_setgn (T_setag tJ_7 (upd (T_ag tJ_7) j_6 (T_ag tJ_7 j_6 + 1))) (T_gn tJ_7))), zzI cy qtn 8 (T_ne (T_setgn (T_setag tJ_7 (upd (T_ag tJ_7) j_6 (T_ag tJ_7 j_6 + 1))) (T_gn tJ_7))), zzI cy qtg 8 (T_go (T_setgn (T_setag tJ_7 (upd (T_ag tJ_7) j_6 (T_ag tJ_7 j_6 + 1))) (T_gn tJ_7))), zzI cy qta 8 (T_ag (T_setgn (T_setag tJ_7 (upd (T_ag tJ_7) j_6 (T_ag tJ_7 j_6 + 1))) (T_gn tJ_7))), zzI cy qtr 8 (T_re (T_setgn (T_setag tJ_7 (upd (T_ag tJ_7) j_6 (T_ag tJ_7 j_6 + 1))) (T_gn tJ_7))), zzI cy qtm 8 (T_me (T_setgn (T_setag tJ_7 (upd (T_ag tJ_7) j_6 (T_ag tJ_7 j_6 + 1))) (T_gn tJ_7))), zzI cy qtt 8 (T_te (T_setgn (T_setag tJ_7 (upd (T_ag tJ_7) j_6 (T_ag tJ_7 j_6 + 1))) (T_gn tJ_7))), zzI cy qts 64 (shF (T_kn (T_setgn (T_setag tJ_7 (upd (T_ag tJ_7) j_6 (T_ag tJ_7 j_6 + 1))) (T_gn tJ_7))))] hP hD rfl
            clear hP hD
            obtain ⟨hP, hD⟩ := hPD
            refine lv_aload_n hx hb dX4_endYear_56 rfl (lv_at hl 2 rfl) ?_
            refine lv_iload_n hx hb dX4_endYear_57 rfl (lv_at hl 0 rfl) ?_
            refine cVv (As := [.int (nI j_6)]) (rest := []) (b := qt) (q := (RX4, TX4, 13)) ⟨hx, hb, hml, hown, hts⟩ (c_X4_forget l G cy (H).size qt (T_setgn (T_setag tJ_7 (upd (T_ag tJ_7) j_6 (T_ag tJ_7 j_6 + 1))) (T_gn tJ_7)) qtw qtn qtg qta qtr qtm qtt qts j_6 (by omega) (by have := (ey_nb (zthere tA) tA j_6).1; rw [← htJ_9] at this; show T_nb tJ_7 ≤ 8; omega)) L_X4_111 hN hP hD hS hA [0, 1, 2, 3, 4, 5, 6, 7, 8] [false, false, false, false, false, false, false, false, false] rfl (by decide +kernel) rfl 0 3 rfl rfl rfl ⟨Nat.le_of_ble_eq_true rfl, Nat.le_of_ble_eq_true rfl⟩ hl.1 (Nat.le_of_ble_eq_true rfl) dX4_endYear_58 ⟨Nat.le_of_ble_eq_true rfl, Nat.le_of_ble_eq_true rfl⟩ (fun u_24 H locs h_23 => ?_)
            clear hP hD hS
            intro hP hD hS
            subst h_23
            have hPD := pd_as [zzO qt 3 [.int (nI (T_nb (fgT (T_setgn (T_setag tJ_7 (upd (T_ag tJ_7) j_6 (T_ag tJ_7 j_6 + 1))) (T_gn tJ_7)) j_6))), .int (nI (T_np (fgT (T_setgn (T_setag tJ_7 (upd (T_ag tJ_7) j_6 (T_ag tJ_7 j_6 + 1))) (T_gn tJ_7)) j_6))), .int (wb (T_wh (fgT (T_setgn (T_setag tJ_7 (upd (T_ag tJ_7) j_6 (T_ag tJ_7 j_6 + 1))) (T_gn tJ_7)) j_6))), .int (wb (T_gn (fgT (T_setgn (T_setag tJ_7 (upd (T_ag tJ_7) j_6 (T_ag tJ_7 j_6 + 1))) (T_gn tJ_7)) j_6))), .int (T_sd (fgT (T_setgn (T_setag tJ_7 (upd (T_ag tJ_7) j_6 (T_ag tJ_7 j_6 + 1))) (T_gn tJ_7)) j_6)), .ref qtw, .ref qtn, .ref qtg, .ref qta, .ref qtr, .ref qtm, .ref qtt, .ref qts], zzI cy qtw 8 (T_wo (fgT (T_setgn (T_setag tJ_7 (upd (T_ag tJ_7) j_6 (T_ag tJ_7 j_6 + 1))) (T_gn tJ_7)) j_6)), zzI cy qtn 8 (T_ne (fgT (T_setgn (T_setag tJ_7 (upd (T_ag tJ_7) j_6 (T_ag tJ_7 j_6 + 1))) (T_gn tJ_7)) j_6)), zzI cy qtg 8 (T_go (fgT (T_setgn (T_setag tJ_7 (upd (T_ag tJ_7) j_6 (T_ag tJ_7 j_6 + 1))) (T_gn tJ_7)) j_6)), zzI cy qta 8 (T_ag (fgT (T_setgn (T_setag tJ_7 (upd (T_ag tJ_7) j_6 (T_ag tJ_7 j_6 + 1))) (T_gn tJ_7)) j_6)), zzI cy qtr 8 (T_re (fgT (T_setgn (T_setag tJ_7 (upd (T_ag tJ_7) j_6 (T_ag tJ_7 j_6 + 1))) (T_gn tJ_7)) j_6)), zzI cy qtm 8 (T_me (fgT (T_setgn (T_setag tJ_7 (upd (T_ag tJ_7) j_6 (T_ag tJ_7 j_6 + 1))) (T_gn tJ_7)) j_6)), zzI cy qtt 8 (T_te (fgT (T_setgn (T_setag tJ_7 (upd (T_ag tJ_7) j_6 (T_ag tJ_7 j_6 + 1))) (T_gn tJ_7)) j_6)), zzI cy qts 64 (shF (T_kn (fgT (T_setgn (T_setag tJ_7 (upd (T_ag tJ_7) j_6 (T_ag tJ_7 j_6 + 1))) (T_gn tJ_7)) j_6)))] hP hD rfl
            clear hP hD
            obtain ⟨hP, hD⟩ := hPD
            refine lv_iinc (v := nI (j_6 + 1)) (lv' := [(2, .int (nI (j_6 + 1))), (1, .int (zthere tA)), (0, .ref qt)]) hx hb dX4_endYear_61 hl (k := 0) rfl (nI_1 _) (by decide) rfl (fun ls => ?_)
            clear hl
            intro hl
            refine lv_goto (tgt := 7) hx hb dX4_endYear_64 (by decide) ?_
            exact ih_5 (j_6 + 1) (fgT (T_setgn (T_setag tJ_7 (upd (T_ag tJ_7) j_6 (T_ag tJ_7 j_6 + 1))) (T_gn tJ_7)) j_6) (by omega) (by omega) (by rw [ey_on h_19, ← htJ_9, eyS, if_neg (Int32.not_lt.mpr c_21)]) _ _ _ hP hD hS (lv_sub hl [0, 1, 2] rfl)
          · refine lv_aload_n hx hb dX4_endYear_44 rfl (lv_at hl 2 rfl) ?_
            refine lv_dup hx hb dX4_endYear_45 rfl ?_
            refine va_get (D := G) (ci := 3) (v := .int (wb (T_gn tJ_7))) (C := RX4) (T := TX4) (N := 13) hx hb hts iX_X4 hown hK hP 0 rfl rfl 3 (by decide) (hts _ m_t43) (fun _ h9 => h9) rfl dX4_endYear_46 ?_
            refine lv_iconst (v := 1) hx hb dX4_endYear_49 (by decide) ?_
            refine lv_iload_n hx hb dX4_endYear_50 rfl (lv_at hl 0 rfl) ?_
            refine lv_ishl hx hb dX4_endYear_51 ?_
            refine lv_ior hx hb dX4_endYear_52 ?_
            refine lv_seti (v := wb (updB (T_gn tJ_7) j_6 true)) (wb_on _ (by omega)) ?_
            refine va_put (D := G) (ci := 3) (v := .int (wb (updB (T_gn tJ_7) j_6 true))) (ty := .int) (C := RX4) (T := TX4) (N := 13) hx hb hts iX_X4 tyX4 tyX4_ok nmX4 hown hK hP hD hS 0 rfl rfl 3 (by decide) (hts _ m_t43) (fun _ h9 => h9) rfl (by decide +kernel) rfl rfl (Nat.le_of_ble_eq_true rfl) dX4_endYear_53 (fun H locs => ?_)
            clear hP hD hS
            intro hP hD hS
            have hPD := pd_as [zzO qt 3 [.int (nI (T_nb tJ_7)), .int (nI (T_np tJ_7)), .int (wb (T_wh tJ_7)), .int (wb (updB (T_gn tJ_7) j_6 true)), .int (T_sd tJ_7), .ref qtw, .ref qtn, .ref qtg, .ref qta, .ref qtr, .ref qtm, .ref qtt, .ref qts], zzI cy qtw 8 (T_wo tJ_7), zzI cy qtn 8 (T_ne tJ_7), zzI cy qtg 8 (T_go tJ_7), zzI cy qta 8 (upd (T_ag tJ_7) j_6 (((T_ag tJ_7) j_6) + 1)), zzI cy qtr 8 (T_re tJ_7), zzI cy qtm 8 (T_me tJ_7), zzI cy qtt 8 (T_te tJ_7), zzI cy qts 64 (shF (T_kn tJ_7))] hP hD rfl
            clear hP hD
            obtain ⟨hP, hD⟩ := hPD
            have hPD := pd_as [zzO qt 3 [.int (nI (T_nb (T_setgn (T_setag tJ_7 (upd (T_ag tJ_7) j_6 (T_ag tJ_7 j_6 + 1))) (updB (T_gn tJ_7) j_6 true)))), .int (nI (T_np (T_setgn (T_setag tJ_7 (upd (T_ag tJ_7) j_6 (T_ag tJ_7 j_6 + 1))) (updB (T_gn tJ_7) j_6 true)))), .int (wb (T_wh (T_setgn (T_setag tJ_7 (upd (T_ag tJ_7) j_6 (T_ag tJ_7 j_6 + 1))) (updB (T_gn tJ_7) j_6 true)))), .int (wb (T_gn (T_setgn (T_setag tJ_7 (upd (T_ag tJ_7) j_6 (T_ag tJ_7 j_6 + 1))) (updB (T_gn tJ_7) j_6 true)))), .int (T_sd (T_setgn (T_setag tJ_7 (upd (T_ag tJ_7) j_6 (T_ag tJ_7 j_6 + 1))) (updB (T_gn tJ_7) j_6 true))), .ref qtw, .ref qtn, .ref qtg, .ref qta, .ref qtr, .ref qtm, .ref qtt, .ref qts], zzI cy qtw 8 (T_wo (T_setgn (T_setag tJ_7 (upd (T_ag tJ_7) j_6 (T_ag tJ_7 j_6 + 1))) (updB (T_gn tJ_7) j_6 true))), zzI cy qtn 8 (T_ne (T_setgn (T_setag tJ_7 (upd (T_ag tJ_7) j_6 (T_ag tJ_7 j_6 + 1))) (updB (T_gn tJ_7) j_6 true))), zzI cy qtg 8 (T_go (T_setgn (T_setag tJ_7 (upd (T_ag tJ_7) j_6 (T_ag tJ_7 j_6 + 1))) (updB (T_gn tJ_7) j_6 true))), zzI cy qta 8 (T_ag (T_setgn (T_setag tJ_7 (upd (T_ag tJ_7) j_6 (T_ag tJ_7 j_6 + 1))) (updB (T_gn tJ_7) j_6 true))), zzI cy qtr 8 (T_re (T_setgn (T_setag tJ_7 (upd (T_ag tJ_7) j_6 (T_ag tJ_7 j_6 + 1))) (updB (T_gn tJ_7) j_6 true))), zzI cy qtm 8 (T_me (T_setgn (T_setag tJ_7 (upd (T_ag tJ_7) j_6 (T_ag tJ_7 j_6 + 1))) (updB (T_gn tJ_7) j_6 true))), zzI cy qtt 8 (T_te (T_setgn (T_setag tJ_7 (upd (T_ag tJ_7) j_6 (T_ag tJ_7 j_6 + 1))) (updB (T_gn tJ_7) j_6 true))), zzI cy qts 64 (shF (T_kn (T_setgn (T_setag tJ_7 (upd (T_ag tJ_7) j_6 (T_ag tJ_7 j_6 + 1))) (updB (T_gn tJ_7) j_6 true))))] hP hD rfl
            clear hP hD
            obtain ⟨hP, hD⟩ := hPD
            refine lv_aload_n hx hb dX4_endYear_56 rfl (lv_at hl 2 rfl) ?_
            refine lv_iload_n hx hb dX4_endYear_57 rfl (lv_at hl 0 rfl) ?_
            refine cVv (As := [.int (nI j_6)]) (rest := []) (b := qt) (q := (RX4, TX4, 13)) ⟨hx, hb, hml, hown, hts⟩ (c_X4_forget l G cy (H).size qt (T_setgn (T_setag tJ_7 (upd (T_ag tJ_7) j_6 (T_ag tJ_7 j_6 + 1))) (updB (T_gn tJ_7) j_6 true)) qtw qtn qtg qta qtr qtm qtt qts j_6 (by omega) (by have := (ey_nb (zthere tA) tA j_6).1; rw [← htJ_9] at this; show T_nb tJ_7 ≤ 8; omega)) L_X4_111 hN hP hD hS hA [0, 1, 2, 3, 4, 5, 6, 7, 8] [false, false, false, false, false, false, false, false, false] rfl (by decide +kernel) rfl 0 3 rfl rfl rfl ⟨Nat.le_of_ble_eq_true rfl, Nat.le_of_ble_eq_true rfl⟩ hl.1 (Nat.le_of_ble_eq_true rfl) dX4_endYear_58 ⟨Nat.le_of_ble_eq_true rfl, Nat.le_of_ble_eq_true rfl⟩ (fun u_27 H locs h_26 => ?_)
            clear hP hD hS
            intro hP hD hS
            subst h_26
            have hPD := pd_as [zzO qt 3 [.int (nI (T_nb (fgT (T_setgn (T_setag tJ_7 (upd (T_ag tJ_7) j_6 (T_ag tJ_7 j_6 + 1))) (updB (T_gn tJ_7) j_6 true)) j_6))), .int (nI (T_np (fgT (T_setgn (T_setag tJ_7 (upd (T_ag tJ_7) j_6 (T_ag tJ_7 j_6 + 1))) (updB (T_gn tJ_7) j_6 true)) j_6))), .int (wb (T_wh (fgT (T_setgn (T_setag tJ_7 (upd (T_ag tJ_7) j_6 (T_ag tJ_7 j_6 + 1))) (updB (T_gn tJ_7) j_6 true)) j_6))), .int (wb (T_gn (fgT (T_setgn (T_setag tJ_7 (upd (T_ag tJ_7) j_6 (T_ag tJ_7 j_6 + 1))) (updB (T_gn tJ_7) j_6 true)) j_6))), .int (T_sd (fgT (T_setgn (T_setag tJ_7 (upd (T_ag tJ_7) j_6 (T_ag tJ_7 j_6 + 1))) (updB (T_gn tJ_7) j_6 true)) j_6)), .ref qtw, .ref qtn, .ref qtg, .ref qta, .ref qtr, .ref qtm, .ref qtt, .ref qts], zzI cy qtw 8 (T_wo (fgT (T_setgn (T_setag tJ_7 (upd (T_ag tJ_7) j_6 (T_ag tJ_7 j_6 + 1))) (updB (T_gn tJ_7) j_6 true)) j_6)), zzI cy qtn 8 (T_ne (fgT (T_setgn (T_setag tJ_7 (upd (T_ag tJ_7) j_6 (T_ag tJ_7 j_6 + 1))) (updB (T_gn tJ_7) j_6 true)) j_6)), zzI cy qtg 8 (T_go (fgT (T_setgn (T_setag tJ_7 (upd (T_ag tJ_7) j_6 (T_ag tJ_7 j_6 + 1))) (updB (T_gn tJ_7) j_6 true)) j_6)), zzI cy qta 8 (T_ag (fgT (T_setgn (T_setag tJ_7 (upd (T_ag tJ_7) j_6 (T_ag tJ_7 j_6 + 1))) (updB (T_gn tJ_7) j_6 true)) j_6)), zzI cy qtr 8 (T_re (fgT (T_setgn (T_setag tJ_7 (upd (T_ag tJ_7) j_6 (T_ag tJ_7 j_6 + 1))) (updB (T_gn tJ_7) j_6 true)) j_6)), zzI cy qtm 8 (T_me (fgT (T_setgn (T_setag tJ_7 (upd (T_ag tJ_7) j_6 (T_ag tJ_7 j_6 + 1))) (updB (T_gn tJ_7) j_6 true)) j_6)), zzI cy qtt 8 (T_te (fgT (T_setgn (T_setag tJ_7 (upd (T_ag tJ_7) j_6 (T_ag tJ_7 j_6 + 1))) (updB (T_gn tJ_7) j_6 true)) j_6)), zzI cy qts 64 (shF (T_kn (fgT (T_setgn (T_setag tJ_7 (upd (T_ag tJ_7) j_6 (T_ag tJ_7 j_6 + 1))) (updB (T_gn tJ_7) j_6 true)) j_6)))] hP hD rfl
            clear hP hD
            obtain ⟨hP, hD⟩ := hPD
            refine lv_iinc (v := nI (j_6 + 1)) (lv' := [(2, .int (nI (j_6 + 1))), (1, .int (zthere tA)), (0, .ref qt)]) hx hb dX4_endYear_61 hl (k := 0) rfl (nI_1 _) (by decide) rfl (fun ls => ?_)
            clear hl
            intro hl
            refine lv_goto (tgt := 7) hx hb dX4_endYear_64 (by decide) ?_
            exact ih_5 (j_6 + 1) (fgT (T_setgn (T_setag tJ_7 (upd (T_ag tJ_7) j_6 (T_ag tJ_7 j_6 + 1))) (updB (T_gn tJ_7) j_6 true)) j_6) (by omega) (by omega) (by rw [ey_on h_19, ← htJ_9, eyS, if_pos (Int32.not_le.mp c_21)]) _ _ _ hP hD hS (lv_sub hl [0, 1, 2] rfl)
        · refine lv_if_eq (tgt := 61) hx hb dX4_endYear_20 (by decide) (fun _ => ?_) (fun h9 => absurd (by decide) h9)
          refine lv_iinc (v := nI (j_6 + 1)) (lv' := [(2, .int (nI (j_6 + 1))), (1, .int (zthere tA)), (0, .ref qt)]) hx hb dX4_endYear_61 hl (k := 0) rfl (nI_1 _) (by decide) rfl (fun ls => ?_)
          clear hl
          intro hl
          refine lv_goto (tgt := 7) hx hb dX4_endYear_64 (by decide) ?_
          exact ih_5 (j_6 + 1) tJ_7 (by omega) (by omega) (by rw [ey_no h_19]; exact htJ_9) _ _ _ hP hD hS (lv_sub hl [0, 1, 2] rfl)
  exact lp_3 ((8 - 0) + 1) 0 tA (Nat.lt_succ_self _) (Nat.zero_le _) rfl _ _ ls hP hD hS (lv_sub hl [0, 1, 2] rfl)
set_option maxHeartbeats 4000000 in
set_option maxRecDepth 100000 in
theorem c_X4_drawDeaths (l : Launch) (G : va_G) (cy : Nat → ClassId) (sz : Nat) (qt : Nat) (tA : TA) (qtw : Nat) (qtn : Nat) (qtg : Nat) (qta : Nat) (qtr : Nat) (qtm : Nat) (qtt : Nat) (qts : Nat)  (hPp : T_np tA ≤ 8) : MW l yX4_drawDeaths cX4_drawDeaths 2 none 2 0 0 G cy [zzO qt 3 [.int (nI (T_nb tA)), .int (nI (T_np tA)), .int (wb (T_wh tA)), .int (wb (T_gn tA)), .int (T_sd tA), .ref qtw, .ref qtn, .ref qtg, .ref qta, .ref qtr, .ref qtm, .ref qtt, .ref qts], zzI cy qtw 8 (T_wo tA), zzI cy qtn 8 (T_ne tA), zzI cy qtg 8 (T_go tA), zzI cy qta 8 (T_ag tA), zzI cy qtr 8 (T_re tA), zzI cy qtm 8 (T_me tA), zzI cy qtt 8 (T_te tA), zzI cy qts 64 (shF (T_kn tA))] sz [.ref qt] (Wv G (fun u => u = [zzO qt 3 [.int (nI (T_nb (zdd tA))), .int (nI (T_np (zdd tA))), .int (wb (T_wh (zdd tA))), .int (wb (T_gn (zdd tA))), .int (T_sd (zdd tA)), .ref qtw, .ref qtn, .ref qtg, .ref qta, .ref qtr, .ref qtm, .ref qtt, .ref qts], zzI cy qtw 8 (T_wo (zdd tA)), zzI cy qtn 8 (T_ne (zdd tA)), zzI cy qtg 8 (T_go (zdd tA)), zzI cy qta 8 (T_ag (zdd tA)), zzI cy qtr 8 (T_re (zdd tA)), zzI cy qtm 8 (T_me (zdd tA)), zzI cy qtt 8 (T_te (zdd tA)), zzI cy qts 64 (shF (T_kn (zdd tA)))])) := by
  refine enW RX4 (by decide) rfl (Nat.le_of_ble_eq_true rfl) (fun p e s m below meth c ls A hx hb hml hown hts hr hlocks hP hN hl hin hD hA hS => ?_)
  have hin : meth.name = _ := hin
  have hK := hN.1
  replace hl : lv_has ls 2 [(0, .ref qt)] := hl
  refine lv_iconst (v := 0) hx hb dX4_drawDeaths_0 (by decide) ?_
  refine lv_istore_n (lv' := [(1, .int 0), (0, .ref qt)]) hx hb dX4_drawDeaths_1 rfl hl (by decide) rfl (fun ls => ?_)
  clear hl
  intro hl
  have lp_1 : ∀ (n_2 : Nat) (j_4 : Nat) (tJ_5 : TA), 8 - j_4 < n_2 → j_4 ≤ T_np tA → tJ_5 = ddF tA j_4 → ∀ (H : Heap) (locs : List Loc) (ls : Array Slot), va_P G CL [zzO qt 3 [.int (nI (T_nb tJ_5)), .int (nI (T_np tJ_5)), .int (wb (T_wh tJ_5)), .int (wb (T_gn tJ_5)), .int (T_sd tJ_5), .ref qtw, .ref qtn, .ref qtg, .ref qta, .ref qtr, .ref qtm, .ref qtt, .ref qts], zzI cy qtw 8 (T_wo tJ_5), zzI cy qtn 8 (T_ne tJ_5), zzI cy qtg 8 (T_go tJ_5), zzI cy qta 8 (T_ag tJ_5), zzI cy qtr 8 (T_re tJ_5), zzI cy qtm 8 (T_me tJ_5), zzI cy qtt 8 (T_te tJ_5), zzI cy qts 64 (shF (T_kn tJ_5))] H → va_D A [zzO qt 3 [.int (nI (T_nb tJ_5)), .int (nI (T_np tJ_5)), .int (wb (T_wh tJ_5)), .int (wb (T_gn tJ_5)), .int (T_sd tJ_5), .ref qtw, .ref qtn, .ref qtg, .ref qta, .ref qtr, .ref qtm, .ref qtt, .ref qts], zzI cy qtw 8 (T_wo tJ_5), zzI cy qtn 8 (T_ne tJ_5), zzI cy qtg 8 (T_go tJ_5), zzI cy qta 8 (T_ag tJ_5), zzI cy qtr 8 (T_re tJ_5), zzI cy qtm 8 (T_me tJ_5), zzI cy qtt 8 (T_te tJ_5), zzI cy qts 64 (shF (T_kn tJ_5))] → va_S A s.heap H locs → lv_has ls 2 [(1, .int (nI j_4)), (0, .ref qt)] → W p l e (Rm 2 0 0) s m (List.toArray (α := Value) [.ref qt]) below meth c H locs 0 0 (MQ below ((Wv G (fun u => u = [zzO qt 3 [.int (nI (T_nb (zdd tA))), .int (nI (T_np (zdd tA))), .int (wb (T_wh (zdd tA))), .int (wb (T_gn (zdd tA))), .int (T_sd (zdd tA)), .ref qtw, .ref qtn, .ref qtg, .ref qta, .ref qtr, .ref qtm, .ref qtt, .ref qts], zzI cy qtw 8 (T_wo (zdd tA)), zzI cy qtn 8 (T_ne (zdd tA)), zzI cy qtg 8 (T_go (zdd tA)), zzI cy qta 8 (T_ag (zdd tA)), zzI cy qtr 8 (T_re (zdd tA)), zzI cy qtm 8 (T_me (zdd tA)), zzI cy qtt 8 (T_te (zdd tA)), zzI cy qts 64 (shF (T_kn (zdd tA)))])) A) (List.toArray (α := Value) [.ref qt]) s 0 0 A) (F0 m 2 ls []) := by
    intro n_2
    induction n_2 with
    | zero => intro j_4 tJ_5 hm9; exact absurd hm9 (Nat.not_lt_zero _)
    | succ n_2 ih_3 =>
      intro j_4 tJ_5 hm_8 hj_6 htJ_7 H locs ls hP hD hS hl
      refine lv_iload_n hx hb dX4_drawDeaths_2 rfl (lv_at hl 0 rfl) ?_
      refine lv_aload_n hx hb dX4_drawDeaths_3 rfl (lv_at hl 1 rfl) ?_
      refine va_get (D := G) (ci := 3) (v := .int (nI (T_np tJ_5))) (C := RX4) (T := TX4) (N := 13) hx hb hts iX_X4 hown hK hP 0 rfl rfl 1 (by decide) (hts _ m_t34) (fun _ h9 => h9) rfl dX4_drawDeaths_4 ?_
      refine lv_icmp_ge (tgt := 52) hx hb dX4_drawDeaths_7 (by decide) (fun c_9 => ?_) (fun c_9 => ?_)
      · have hlt_10e : T_np tJ_5 = T_np tA := by rw [htJ_7]; exact (dd_nb _ _).2
        have hlt_10 : j_4 = T_np tA := Nat.le_antisymm (by omega) (by rw [hlt_10e] at c_9; exact lp_ge rfl rfl (by omega) (by omega) c_9)
        have e9_11 : tJ_5 = zdd tA := by rw [htJ_7, hlt_10]; rfl
        subst e9_11
        exact endV (u := [zzO qt 3 [.int (nI (T_nb (zdd tA))), .int (nI (T_np (zdd tA))), .int (wb (T_wh (zdd tA))), .int (wb (T_gn (zdd tA))), .int (T_sd (zdd tA)), .ref qtw, .ref qtn, .ref qtg, .ref qta, .ref qtr, .ref qtm, .ref qtt, .ref qts], zzI cy qtw 8 (T_wo (zdd tA)), zzI cy qtn 8 (T_ne (zdd tA)), zzI cy qtg 8 (T_go (zdd tA)), zzI cy qta 8 (T_ag (zdd tA)), zzI cy qtr 8 (T_re (zdd tA)), zzI cy qtm 8 (T_me (zdd tA)), zzI cy qtt 8 (T_te (zdd tA)), zzI cy qts 64 (shF (T_kn (zdd tA)))]) hx hb hr hlocks (hP.sub [0, 1, 2, 3, 4, 5, 6, 7, 8] rfl) (hD.sub [0, 1, 2, 3, 4, 5, 6, 7, 8] (by decide +kernel) rfl) hS rfl dX4_drawDeaths_52
      · have hlt_12e : T_np tJ_5 = T_np tA := by rw [htJ_7]; exact (dd_nb _ _).2
        have hlt_12 : j_4 < T_np tA := by rw [hlt_12e] at c_9; exact lp_lt rfl rfl (by omega) (by omega) c_9
        refine lv_aload_n hx hb dX4_drawDeaths_10 rfl (lv_at hl 1 rfl) ?_
        refine va_get (D := G) (ci := 3) (v := .int (wb (T_gn tJ_5))) (C := RX4) (T := TX4) (N := 13) hx hb hts iX_X4 hown hK hP 0 rfl rfl 3 (by decide) (hts _ m_t43) (fun _ h9 => h9) rfl dX4_drawDeaths_11 ?_
        refine lv_iload_n hx hb dX4_drawDeaths_14 rfl (lv_at hl 0 rfl) ?_
        refine kRi (rSN (As := [.int (wb (T_gn tJ_5)), .int (nI j_4)]) (rest := []) ⟨hx, hb, hml, hown, hts⟩ hN (c_X5_has l G cy (wb (T_gn tJ_5)) j_4) L_X4_62 (preRS hN hP [] rfl) rfl ⟨Nat.le_of_ble_eq_true rfl, Nat.le_of_ble_eq_true rfl⟩ hl.1 (Nat.le_of_ble_eq_true rfl) dX4_drawDeaths_15 ⟨Nat.le_of_ble_eq_true rfl, Nat.le_of_ble_eq_true rfl⟩) (fun r_13 h_14 => ?_)
        rcases h_14 with ⟨rfl, h_15⟩ | ⟨rfl, h_15⟩
        · rw [bit_wb _ (by omega)] at h_15
          refine lv_if_ne (tgt := 46) hx hb dX4_drawDeaths_18 (by decide) (fun _ => ?_) (fun h9 => absurd h9 (by decide))
          refine lv_iinc (v := nI (j_4 + 1)) (lv' := [(1, .int (nI (j_4 + 1))), (0, .ref qt)]) hx hb dX4_drawDeaths_46 hl (k := 0) rfl (nI_1 _) (by decide) rfl (fun ls => ?_)
          clear hl
          intro hl
          refine lv_goto (tgt := 2) hx hb dX4_drawDeaths_49 (by decide) ?_
          exact ih_3 (j_4 + 1) tJ_5 (by omega) (by omega) (by rw [dd_g (htJ_7 ▸ h_15)]; exact htJ_7) _ _ _ hP hD hS (lv_sub hl [0, 1] rfl)
        · rw [bit_wb _ (by omega)] at h_15
          refine lv_if_ne (tgt := 46) hx hb dX4_drawDeaths_18 (by decide) (fun h9 => absurd (by decide) h9) (fun _ => ?_)
          refine lv_aload_n hx hb dX4_drawDeaths_21 rfl (lv_at hl 1 rfl) ?_
          refine cVi (As := []) (rest := []) (b := qt) (q := (RX4, TX4, 13)) ⟨hx, hb, hml, hown, hts⟩ (c_X4_drawBelow20 l G cy (H).size qt tJ_5 qtw qtn qtg qta qtr qtm qtt qts) L_X4_120 hN hP hD hS hA [0, 1, 2, 3, 4, 5, 6, 7, 8] [false, false, false, false, false, false, false, false, false] rfl (by decide +kernel) rfl 0 3 rfl rfl rfl ⟨Nat.le_of_ble_eq_true rfl, Nat.le_of_ble_eq_true rfl⟩ hl.1 (Nat.le_of_ble_eq_true rfl) dX4_drawDeaths_22 ⟨Nat.le_of_ble_eq_true rfl, Nat.le_of_ble_eq_true rfl⟩ (fun r_18 u_20 H locs h_19 => ?_)
          clear hP hD hS
          intro hP hD hS
          obtain ⟨rfl, h_19⟩ := h_19
          have hPD := pd_as [zzO qt 3 [.int (nI (T_nb (T_setsd tJ_5 (ltS (T_sd tJ_5))))), .int (nI (T_np (T_setsd tJ_5 (ltS (T_sd tJ_5))))), .int (wb (T_wh (T_setsd tJ_5 (ltS (T_sd tJ_5))))), .int (wb (T_gn (T_setsd tJ_5 (ltS (T_sd tJ_5))))), .int (T_sd (T_setsd tJ_5 (ltS (T_sd tJ_5)))), .ref qtw, .ref qtn, .ref qtg, .ref qta, .ref qtr, .ref qtm, .ref qtt, .ref qts], zzI cy qtw 8 (T_wo (T_setsd tJ_5 (ltS (T_sd tJ_5)))), zzI cy qtn 8 (T_ne (T_setsd tJ_5 (ltS (T_sd tJ_5)))), zzI cy qtg 8 (T_go (T_setsd tJ_5 (ltS (T_sd tJ_5)))), zzI cy qta 8 (T_ag (T_setsd tJ_5 (ltS (T_sd tJ_5)))), zzI cy qtr 8 (T_re (T_setsd tJ_5 (ltS (T_sd tJ_5)))), zzI cy qtm 8 (T_me (T_setsd tJ_5 (ltS (T_sd tJ_5)))), zzI cy qtt 8 (T_te (T_setsd tJ_5 (ltS (T_sd tJ_5)))), zzI cy qts 64 (shF (T_kn (T_setsd tJ_5 (ltS (T_sd tJ_5)))))] hP hD rfl
          clear hP hD
          obtain ⟨hP, hD⟩ := hPD
          subst h_19
          refine lv_aload_n hx hb dX4_drawDeaths_25 rfl (lv_at hl 1 rfl) ?_
          refine va_get (D := G) (ci := 3) (v := .ref qta) (C := RX4) (T := TX4) (N := 13) hx hb hts iX_X4 hown hK hP 0 rfl rfl 8 (by decide) (hts _ m_t56) (fun _ h9 => h9) rfl dX4_drawDeaths_26 ?_
          refine lv_iload_n hx hb dX4_drawDeaths_29 rfl (lv_at hl 0 rfl) ?_
          refine va_iald hx hb hK hP 4 0 rfl rfl (in8 (by omega)) dX4_drawDeaths_30 ?_
          refine lv_seti (v := (T_ag (T_setsd tJ_5 (ltS (T_sd tJ_5)))) j_4) (congrArg (T_ag (T_setsd tJ_5 (ltS (T_sd tJ_5)))) (cl8 (by omega))) ?_
          refine lv_icmp_ge (tgt := 46) hx hb dX4_drawDeaths_31 (by decide) (fun c_21 => ?_) (fun c_21 => ?_)
          · refine lv_iinc (v := nI (j_4 + 1)) (lv' := [(1, .int (nI (j_4 + 1))), (0, .ref qt)]) hx hb dX4_drawDeaths_46 hl (k := 0) rfl (nI_1 _) (by decide) rfl (fun ls => ?_)
            clear hl
            intro hl
            refine lv_goto (tgt := 2) hx hb dX4_drawDeaths_49 (by decide) ?_
            exact ih_3 (j_4 + 1) (T_setsd tJ_5 (ltS (T_sd tJ_5))) (by omega) (by omega) (by rw [dd_live (htJ_7 ▸ h_15) (htJ_7 ▸ Int32.not_lt.mpr c_21), ← htJ_7]) _ _ _ hP hD hS (lv_sub hl [0, 1] rfl)
          · refine lv_aload_n hx hb dX4_drawDeaths_34 rfl (lv_at hl 1 rfl) ?_
            refine lv_dup hx hb dX4_drawDeaths_35 rfl ?_
            refine va_get (D := G) (ci := 3) (v := .int (wb (T_gn (T_setsd tJ_5 (ltS (T_sd tJ_5)))))) (C := RX4) (T := TX4) (N := 13) hx hb hts iX_X4 hown hK hP 0 rfl rfl 3 (by decide) (hts _ m_t43) (fun _ h9 => h9) rfl dX4_drawDeaths_36 ?_
            refine lv_iconst (v := 1) hx hb dX4_drawDeaths_39 (by decide) ?_
            refine lv_iload_n hx hb dX4_drawDeaths_40 rfl (lv_at hl 0 rfl) ?_
            refine lv_ishl hx hb dX4_drawDeaths_41 ?_
            refine lv_ior hx hb dX4_drawDeaths_42 ?_
            refine lv_seti (v := wb (updB (T_gn tJ_5) j_4 true)) (wb_on _ (by omega)) ?_
            refine va_put (D := G) (ci := 3) (v := .int (wb (updB (T_gn tJ_5) j_4 true))) (ty := .int) (C := RX4) (T := TX4) (N := 13) hx hb hts iX_X4 tyX4 tyX4_ok nmX4 hown hK hP hD hS 0 rfl rfl 3 (by decide) (hts _ m_t43) (fun _ h9 => h9) rfl (by decide +kernel) rfl rfl (Nat.le_of_ble_eq_true rfl) dX4_drawDeaths_43 (fun H locs => ?_)
            clear hP hD hS
            intro hP hD hS
            have hPD := pd_as [zzO qt 3 [.int (nI (T_nb (T_setsd tJ_5 (ltS (T_sd tJ_5))))), .int (nI (T_np (T_setsd tJ_5 (ltS (T_sd tJ_5))))), .int (wb (T_wh (T_setsd tJ_5 (ltS (T_sd tJ_5))))), .int (wb (updB (T_gn tJ_5) j_4 true)), .int (T_sd (T_setsd tJ_5 (ltS (T_sd tJ_5)))), .ref qtw, .ref qtn, .ref qtg, .ref qta, .ref qtr, .ref qtm, .ref qtt, .ref qts], zzI cy qtw 8 (T_wo (T_setsd tJ_5 (ltS (T_sd tJ_5)))), zzI cy qtn 8 (T_ne (T_setsd tJ_5 (ltS (T_sd tJ_5)))), zzI cy qtg 8 (T_go (T_setsd tJ_5 (ltS (T_sd tJ_5)))), zzI cy qta 8 (T_ag (T_setsd tJ_5 (ltS (T_sd tJ_5)))), zzI cy qtr 8 (T_re (T_setsd tJ_5 (ltS (T_sd tJ_5)))), zzI cy qtm 8 (T_me (T_setsd tJ_5 (ltS (T_sd tJ_5)))), zzI cy qtt 8 (T_te (T_setsd tJ_5 (ltS (T_sd tJ_5)))), zzI cy qts 64 (shF (T_kn (T_setsd tJ_5 (ltS (T_sd tJ_5)))))] hP hD rfl
            clear hP hD
            obtain ⟨hP, hD⟩ := hPD
            have hPD := pd_as [zzO qt 3 [.int (nI (T_nb (T_setgn (T_setsd tJ_5 (ltS (T_sd tJ_5))) (updB (T_gn tJ_5) j_4 true)))), .int (nI (T_np (T_setgn (T_setsd tJ_5 (ltS (T_sd tJ_5))) (updB (T_gn tJ_5) j_4 true)))), .int (wb (T_wh (T_setgn (T_setsd tJ_5 (ltS (T_sd tJ_5))) (updB (T_gn tJ_5) j_4 true)))), .int (wb (T_gn (T_setgn (T_setsd tJ_5 (ltS (T_sd tJ_5))) (updB (T_gn tJ_5) j_4 true)))), .int (T_sd (T_setgn (T_setsd tJ_5 (ltS (T_sd tJ_5))) (updB (T_gn tJ_5) j_4 true))), .ref qtw, .ref qtn, .ref qtg, .ref qta, .ref qtr, .ref qtm, .ref qtt, .ref qts], zzI cy qtw 8 (T_wo (T_setgn (T_setsd tJ_5 (ltS (T_sd tJ_5))) (updB (T_gn tJ_5) j_4 true))), zzI cy qtn 8 (T_ne (T_setgn (T_setsd tJ_5 (ltS (T_sd tJ_5))) (updB (T_gn tJ_5) j_4 true))), zzI cy qtg 8 (T_go (T_setgn (T_setsd tJ_5 (ltS (T_sd tJ_5))) (updB (T_gn tJ_5) j_4 true))), zzI cy qta 8 (T_ag (T_setgn (T_setsd tJ_5 (ltS (T_sd tJ_5))) (updB (T_gn tJ_5) j_4 true))), zzI cy qtr 8 (T_re (T_setgn (T_setsd tJ_5 (ltS (T_sd tJ_5))) (updB (T_gn tJ_5) j_4 true))), zzI cy qtm 8 (T_me (T_setgn (T_setsd tJ_5 (ltS (T_sd tJ_5))) (updB (T_gn tJ_5) j_4 true))), zzI cy qtt 8 (T_te (T_setgn (T_setsd tJ_5 (ltS (T_sd tJ_5))) (updB (T_gn tJ_5) j_4 true))), zzI cy qts 64 (shF (T_kn (T_setgn (T_setsd tJ_5 (ltS (T_sd tJ_5))) (updB (T_gn tJ_5) j_4 true))))] hP hD rfl
            clear hP hD
            obtain ⟨hP, hD⟩ := hPD
            refine lv_iinc (v := nI (j_4 + 1)) (lv' := [(1, .int (nI (j_4 + 1))), (0, .ref qt)]) hx hb dX4_drawDeaths_46 hl (k := 0) rfl (nI_1 _) (by decide) rfl (fun ls => ?_)
            clear hl
            intro hl
            refine lv_goto (tgt := 2) hx hb dX4_drawDeaths_49 (by decide) ?_
            exact ih_3 (j_4 + 1) (T_setgn (T_setsd tJ_5 (ltS (T_sd tJ_5))) (updB (T_gn tJ_5) j_4 true)) (by omega) (by omega) (by rw [dd_die (htJ_7 ▸ h_15) (htJ_7 ▸ Int32.not_le.mp c_21), ← htJ_7]) _ _ _ hP hD hS (lv_sub hl [0, 1] rfl)
  exact lp_1 ((8 - 0) + 1) 0 tA (Nat.lt_succ_self _) (Nat.zero_le _) rfl _ _ ls hP hD hS (lv_sub hl [0, 1] rfl)
set_option maxHeartbeats 4000000 in
set_option maxRecDepth 100000 in
theorem c_X4_hearFrom (l : Launch) (G : va_G) (cy : Nat → ClassId) (sz : Nat) (qt : Nat) (tA : TA) (qtw : Nat) (qtn : Nat) (qtg : Nat) (qta : Nat) (qtr : Nat) (qtm : Nat) (qtt : Nat) (qts : Nat) (kI : Nat) (kB : Nat) (iO : Int32)  (hI : kI < 8) (hJ : kB < 8) (hPp : T_np tA ≤ 8) : MW l yX4_hearFrom cX4_hearFrom 9 (some .int) 3 0 0 G cy [zzO qt 3 [.int (nI (T_nb tA)), .int (nI (T_np tA)), .int (wb (T_wh tA)), .int (wb (T_gn tA)), .int (T_sd tA), .ref qtw, .ref qtn, .ref qtg, .ref qta, .ref qtr, .ref qtm, .ref qtt, .ref qts], zzI cy qtw 8 (T_wo tA), zzI cy qtn 8 (T_ne tA), zzI cy qtg 8 (T_go tA), zzI cy qta 8 (T_ag tA), zzI cy qtr 8 (T_re tA), zzI cy qtm 8 (T_me tA), zzI cy qtt 8 (T_te tA), zzI cy qts 64 (shF (T_kn tA))] sz [.ref qt, .int (nI kI), .int (nI kB), .int iO] (Wi G (fun r u => u = [zzO qt 3 [.int (nI (T_nb ((zhf tA kI kB iO).1))), .int (nI (T_np ((zhf tA kI kB iO).1))), .int (wb (T_wh ((zhf tA kI kB iO).1))), .int (wb (T_gn ((zhf tA kI kB iO).1))), .int (T_sd ((zhf tA kI kB iO).1)), .ref qtw, .ref qtn, .ref qtg, .ref qta, .ref qtr, .ref qtm, .ref qtt, .ref qts], zzI cy qtw 8 (T_wo ((zhf tA kI kB iO).1)), zzI cy qtn 8 (T_ne ((zhf tA kI kB iO).1)), zzI cy qtg 8 (T_go ((zhf tA kI kB iO).1)), zzI cy qta 8 (T_ag ((zhf tA kI kB iO).1)), zzI cy qtr 8 (T_re ((zhf tA kI kB iO).1)), zzI cy qtm 8 (T_me ((zhf tA kI kB iO).1)), zzI cy qtt 8 (T_te ((zhf tA kI kB iO).1)), zzI cy qts 64 (shF (T_kn ((zhf tA kI kB iO).1)))] ∧ ((r = ((zhf tA kI kB iO).2))))) := by
  refine enW RX4 (by decide) rfl (Nat.le_of_ble_eq_true rfl) (fun p e s m below meth c ls A hx hb hml hown hts hr hlocks hP hN hl hin hD hA hS => ?_)
  have hin : meth.name = _ := hin
  have hK := hN.1
  replace hl : lv_has ls 9 [(0, .ref qt), (1, .int (nI kI)), (2, .int (nI kB)), (3, .int iO)] := hl
  refine lv_aload_n hx hb dX4_hearFrom_0 rfl (lv_at hl 0 rfl) ?_
  refine lv_iload_n hx hb dX4_hearFrom_1 rfl (lv_at hl 1 rfl) ?_
  refine lv_iload_n hx hb dX4_hearFrom_2 rfl (lv_at hl 2 rfl) ?_
  refine kRi (rV (As := [.int (nI kI), .int (nI kB)]) (rest := []) (b := qt) ⟨hx, hb, hml, hown, hts⟩ (c_X4_knows l G cy qt tA qtw qtn qtg qta qtr qtm qtt qts kI kB hI hJ) L_X4_66 (preRV (q := (RX4, TX4, 13)) hN hP [0, 8] rfl 0 3 rfl rfl) rfl ⟨Nat.le_of_ble_eq_true rfl, Nat.le_of_ble_eq_true rfl⟩ hl.1 (Nat.le_of_ble_eq_true rfl) dX4_hearFrom_3 ⟨Nat.le_of_ble_eq_true rfl, Nat.le_of_ble_eq_true rfl⟩) (fun r_1 h_2 => ?_)
  subst h_2
  refine lv_iconst (v := 2) hx hb dX4_hearFrom_6 (by decide) ?_
  refine lv_idiv hx hb dX4_hearFrom_7 (by decide) ?_
  refine lv_istore (lv' := [(4, .int ((T_kn tA kI kB) / 2)), (0, .ref qt), (1, .int (nI kI)), (2, .int (nI kB)), (3, .int iO)]) hx hb dX4_hearFrom_8 hl (by decide) rfl (fun ls => ?_)
  clear hl
  intro hl
  refine lv_iload_n hx hb dX4_hearFrom_10 rfl (lv_at hl 4 rfl) ?_
  refine lv_aload_n hx hb dX4_hearFrom_11 rfl (lv_at hl 1 rfl) ?_
  refine kRi (rV (As := []) (rest := [.int iO]) (b := qt) ⟨hx, hb, hml, hown, hts⟩ (c_X4_setThere l G cy qt tA qtw qtn qtg qta qtr qtm qtt qts hPp) L_X4_78 (preRV (q := (RX4, TX4, 13)) hN hP [0] rfl 0 3 rfl rfl) rfl ⟨Nat.le_of_ble_eq_true rfl, Nat.le_of_ble_eq_true rfl⟩ hl.1 (Nat.le_of_ble_eq_true rfl) dX4_hearFrom_12 ⟨Nat.le_of_ble_eq_true rfl, Nat.le_of_ble_eq_true rfl⟩) (fun r_3 h_4 => ?_)
  subst h_4
  refine lv_iand hx hb dX4_hearFrom_15 ?_
  refine lv_iconst (v := 1) hx hb dX4_hearFrom_16 (by decide) ?_
  refine lv_iload_n hx hb dX4_hearFrom_17 rfl (lv_at hl 2 rfl) ?_
  refine lv_ishl hx hb dX4_hearFrom_18 ?_
  refine lv_iconst (v := (-1)) hx hb dX4_hearFrom_19 (by decide) ?_
  refine lv_ixor hx hb dX4_hearFrom_20 ?_
  refine lv_iand hx hb dX4_hearFrom_21 ?_
  refine lv_istore (lv' := [(5, .int ((iO &&& (zthere tA)) &&& ((1 <<< ((nI kI) &&& 31)) ^^^ (-1)))), (4, .int ((T_kn tA kI kB) / 2)), (0, .ref qt), (1, .int (nI kI)), (2, .int (nI kB)), (3, .int iO)]) hx hb dX4_hearFrom_22 hl (by decide) rfl (fun ls => ?_)
  clear hl
  intro hl
  refine lv_iconst (v := 0) hx hb dX4_hearFrom_24 (by decide) ?_
  refine lv_istore (lv' := [(6, .int 0), (5, .int ((iO &&& (zthere tA)) &&& ((1 <<< ((nI kI) &&& 31)) ^^^ (-1)))), (4, .int ((T_kn tA kI kB) / 2)), (0, .ref qt), (1, .int (nI kI)), (2, .int (nI kB)), (3, .int iO)]) hx hb dX4_hearFrom_25 hl (by decide) rfl (fun ls => ?_)
  clear hl
  intro hl
  refine lv_iconst (v := 0) hx hb dX4_hearFrom_27 (by decide) ?_
  refine lv_istore (lv' := [(7, .int 0), (6, .int 0), (5, .int ((iO &&& (zthere tA)) &&& ((1 <<< ((nI kI) &&& 31)) ^^^ (-1)))), (4, .int ((T_kn tA kI kB) / 2)), (0, .ref qt), (1, .int (nI kI)), (2, .int (nI kB)), (3, .int iO)]) hx hb dX4_hearFrom_28 hl (by decide) rfl (fun ls => ?_)
  clear hl
  intro hl
  have lp_5 : ∀ (n_6 : Nat) (j_8 : Nat) (tJ_9 : TA) (xC_10 : Int32), 8 - j_8 < n_6 → j_8 ≤ T_np tA → tJ_9 = (hfF tA (T_kn tA kI kB / 2) ((iO &&& zthere tA) &&& ((1 <<< (nI kI &&& 31)) ^^^ (-1))) kB j_8).1 → xC_10 = (hfF tA (T_kn tA kI kB / 2) ((iO &&& zthere tA) &&& ((1 <<< (nI kI &&& 31)) ^^^ (-1))) kB j_8).2 → ∀ (H : Heap) (locs : List Loc) (ls : Array Slot), va_P G CL [zzO qt 3 [.int (nI (T_nb tJ_9)), .int (nI (T_np tJ_9)), .int (wb (T_wh tJ_9)), .int (wb (T_gn tJ_9)), .int (T_sd tJ_9), .ref qtw, .ref qtn, .ref qtg, .ref qta, .ref qtr, .ref qtm, .ref qtt, .ref qts], zzI cy qtw 8 (T_wo tJ_9), zzI cy qtn 8 (T_ne tJ_9), zzI cy qtg 8 (T_go tJ_9), zzI cy qta 8 (T_ag tJ_9), zzI cy qtr 8 (T_re tJ_9), zzI cy qtm 8 (T_me tJ_9), zzI cy qtt 8 (T_te tJ_9), zzI cy qts 64 (shF (T_kn tJ_9))] H → va_D A [zzO qt 3 [.int (nI (T_nb tJ_9)), .int (nI (T_np tJ_9)), .int (wb (T_wh tJ_9)), .int (wb (T_gn tJ_9)), .int (T_sd tJ_9), .ref qtw, .ref qtn, .ref qtg, .ref qta, .ref qtr, .ref qtm, .ref qtt, .ref qts], zzI cy qtw 8 (T_wo tJ_9), zzI cy qtn 8 (T_ne tJ_9), zzI cy qtg 8 (T_go tJ_9), zzI cy qta 8 (T_ag tJ_9), zzI cy qtr 8 (T_re tJ_9), zzI cy qtm 8 (T_me tJ_9), zzI cy qtt 8 (T_te tJ_9), zzI cy qts 64 (shF (T_kn tJ_9))] → va_S A s.heap H locs → lv_has ls 9 [(7, .int (nI j_8)), (6, .int xC_10), (5, .int ((iO &&& (zthere tA)) &&& ((1 <<< ((nI kI) &&& 31)) ^^^ (-1)))), (4, .int ((T_kn tA kI kB) / 2)), (0, .ref qt), (1, .int (nI kI)), (2, .int (nI kB)), (3, .int iO)] → W p l e (Rm 3 0 0) s m (List.toArray (α := Value) [.ref qt, .int (nI kI), .int (nI kB), .int iO]) below meth c H locs 0 0 (MQ below ((Wi G (fun r u => u = [zzO qt 3 [.int (nI (T_nb ((zhf tA kI kB iO).1))), .int (nI (T_np ((zhf tA kI kB iO).1))), .int (wb (T_wh ((zhf tA kI kB iO).1))), .int (wb (T_gn ((zhf tA kI kB iO).1))), .int (T_sd ((zhf tA kI kB iO).1)), .ref qtw, .ref qtn, .ref qtg, .ref qta, .ref qtr, .ref qtm, .ref qtt, .ref qts], zzI cy qtw 8 (T_wo ((zhf tA kI kB iO).1)), zzI cy qtn 8 (T_ne ((zhf tA kI kB iO).1)), zzI cy qtg 8 (T_go ((zhf tA kI kB iO).1)), zzI cy qta 8 (T_ag ((zhf tA kI kB iO).1)), zzI cy qtr 8 (T_re ((zhf tA kI kB iO).1)), zzI cy qtm 8 (T_me ((zhf tA kI kB iO).1)), zzI cy qtt 8 (T_te ((zhf tA kI kB iO).1)), zzI cy qts 64 (shF (T_kn ((zhf tA kI kB iO).1)))] ∧ ((r = ((zhf tA kI kB iO).2))))) A) (List.toArray (α := Value) [.ref qt, .int (nI kI), .int (nI kB), .int iO]) s 0 0 A) (F0 m 30 ls []) := by
    intro n_6
    induction n_6 with
    | zero => intro j_8 tJ_9 xC_10 hm9; exact absurd hm9 (Nat.not_lt_zero _)
    | succ n_6 ih_7 =>
      intro j_8 tJ_9 xC_10 hm_14 hj_11 htJ_12 hxC_13 H locs ls hP hD hS hl
      refine lv_iload hx hb dX4_hearFrom_30 (lv_at hl 0 rfl) ?_
      refine lv_aload_n hx hb dX4_hearFrom_32 rfl (lv_at hl 4 rfl) ?_
      refine va_get (D := G) (ci := 3) (v := .int (nI (T_np tJ_9))) (C := RX4) (T := TX4) (N := 13) hx hb hts iX_X4 hown hK hP 0 rfl rfl 1 (by decide) (hts _ m_t34) (fun _ h9 => h9) rfl dX4_hearFrom_33 ?_
      refine lv_icmp_ge (tgt := 93) hx hb dX4_hearFrom_36 (by decide) (fun c_15 => ?_) (fun c_15 => ?_)
      · have hlt_16e : T_np tJ_9 = T_np tA := by rw [htJ_12]; exact (hf_nb _ _ _ _ _).2
        have hlt_16 : j_8 = T_np tA := Nat.le_antisymm (by omega) (by rw [hlt_16e] at c_15; exact lp_ge rfl rfl (by omega) (by omega) c_15)
        have e9_17 : tJ_9 = (zhf tA kI kB iO).1 := by rw [htJ_12, hlt_16]; rfl
        subst e9_17
        refine lv_iload hx hb dX4_hearFrom_93 (lv_at hl 1 rfl) ?_
        exact endW (u := [zzO qt 3 [.int (nI (T_nb ((zhf tA kI kB iO).1))), .int (nI (T_np ((zhf tA kI kB iO).1))), .int (wb (T_wh ((zhf tA kI kB iO).1))), .int (wb (T_gn ((zhf tA kI kB iO).1))), .int (T_sd ((zhf tA kI kB iO).1)), .ref qtw, .ref qtn, .ref qtg, .ref qta, .ref qtr, .ref qtm, .ref qtt, .ref qts], zzI cy qtw 8 (T_wo ((zhf tA kI kB iO).1)), zzI cy qtn 8 (T_ne ((zhf tA kI kB iO).1)), zzI cy qtg 8 (T_go ((zhf tA kI kB iO).1)), zzI cy qta 8 (T_ag ((zhf tA kI kB iO).1)), zzI cy qtr 8 (T_re ((zhf tA kI kB iO).1)), zzI cy qtm 8 (T_me ((zhf tA kI kB iO).1)), zzI cy qtt 8 (T_te ((zhf tA kI kB iO).1)), zzI cy qts 64 (shF (T_kn ((zhf tA kI kB iO).1)))]) hx hb hr hlocks rfl (hP.sub [0, 1, 2, 3, 4, 5, 6, 7, 8] rfl) (hD.sub [0, 1, 2, 3, 4, 5, 6, 7, 8] (by decide +kernel) rfl) hS ⟨rfl, (by rw [hxC_13, hlt_16]; rfl)⟩ dX4_hearFrom_95
      · have hlt_18e : T_np tJ_9 = T_np tA := by rw [htJ_12]; exact (hf_nb _ _ _ _ _).2
        have hlt_18 : j_8 < T_np tA := by rw [hlt_18e] at c_15; exact lp_lt rfl rfl (by omega) (by omega) c_15
        refine lv_iload hx hb dX4_hearFrom_39 (lv_at hl 3 rfl) ?_
        refine lv_aload_n hx hb dX4_hearFrom_41 rfl (lv_at hl 4 rfl) ?_
        refine lv_iload hx hb dX4_hearFrom_42 (lv_at hl 0 rfl) ?_
        refine lv_iload_n hx hb dX4_hearFrom_44 rfl (lv_at hl 6 rfl) ?_
        refine kRi (rV (As := [.int (nI j_8), .int (nI kB)]) (rest := [.int ((T_kn tA kI kB) / 2)]) (b := qt) ⟨hx, hb, hml, hown, hts⟩ (c_X4_groundOf l G cy qt tJ_9 qtw qtn qtg qta qtr qtm qtt qts j_8 kB (by omega) hJ) L_X4_85 (preRV (q := (RX4, TX4, 13)) hN hP [0, 2, 8] rfl 0 3 rfl rfl) rfl ⟨Nat.le_of_ble_eq_true rfl, Nat.le_of_ble_eq_true rfl⟩ hl.1 (Nat.le_of_ble_eq_true rfl) dX4_hearFrom_45 ⟨Nat.le_of_ble_eq_true rfl, Nat.le_of_ble_eq_true rfl⟩) (fun r_19 h_20 => ?_)
        subst h_20
        refine kRi (rS (As := [.int ((T_kn tA kI kB) / 2), .int (zgd tJ_9 j_8 kB)]) (rest := []) ⟨hx, hb, hml, hown, hts⟩ (c_X4_grasped l G cy ((T_kn tA kI kB) / 2) (zgd tJ_9 j_8 kB)) L_X4_88 (preRS hN hP [] rfl) rfl ⟨Nat.le_of_ble_eq_true rfl, Nat.le_of_ble_eq_true rfl⟩ hl.1 (Nat.le_of_ble_eq_true rfl) dX4_hearFrom_48 ⟨Nat.le_of_ble_eq_true rfl, Nat.le_of_ble_eq_true rfl⟩) (fun r_21 h_22 => ?_)
        subst h_22
        refine lv_istore (lv' := [(8, .int (zgr ((T_kn tA kI kB) / 2) (zgd tJ_9 j_8 kB))), (7, .int (nI j_8)), (6, .int xC_10), (5, .int ((iO &&& (zthere tA)) &&& ((1 <<< ((nI kI) &&& 31)) ^^^ (-1)))), (4, .int ((T_kn tA kI kB) / 2)), (0, .ref qt), (1, .int (nI kI)), (2, .int (nI kB)), (3, .int iO)]) hx hb dX4_hearFrom_51 hl (by decide) rfl (fun ls => ?_)
        clear hl
        intro hl
        refine lv_iload hx hb dX4_hearFrom_53 (lv_at hl 3 rfl) ?_
        refine lv_iload hx hb dX4_hearFrom_55 (lv_at hl 1 rfl) ?_
        refine kRi (rSN (As := [.int ((iO &&& (zthere tA)) &&& ((1 <<< ((nI kI) &&& 31)) ^^^ (-1))), .int (nI j_8)]) (rest := []) ⟨hx, hb, hml, hown, hts⟩ hN (c_X5_has l G cy ((iO &&& (zthere tA)) &&& ((1 <<< ((nI kI) &&& 31)) ^^^ (-1))) j_8) L_X4_62 (preRS hN hP [] rfl) rfl ⟨Nat.le_of_ble_eq_true rfl, Nat.le_of_ble_eq_true rfl⟩ hl.1 (Nat.le_of_ble_eq_true rfl) dX4_hearFrom_57 ⟨Nat.le_of_ble_eq_true rfl, Nat.le_of_ble_eq_true rfl⟩) (fun r_23 h_24 => ?_)
        rcases h_24 with ⟨rfl, h_25⟩ | ⟨rfl, h_25⟩
        · refine lv_if_eq (tgt := 87) hx hb dX4_hearFrom_60 (by decide) (fun h9 => absurd h9 (by decide)) (fun _ => ?_)
          refine lv_iload hx hb dX4_hearFrom_63 (lv_at hl 0 rfl) ?_
          refine lv_aload_n hx hb dX4_hearFrom_65 rfl (lv_at hl 5 rfl) ?_
          refine lv_iload hx hb dX4_hearFrom_66 (lv_at hl 1 rfl) ?_
          refine lv_iload_n hx hb dX4_hearFrom_68 rfl (lv_at hl 7 rfl) ?_
          refine kRi (rV (As := [.int (nI j_8), .int (nI kB)]) (rest := [.int (zgr ((T_kn tA kI kB) / 2) (zgd tJ_9 j_8 kB))]) (b := qt) ⟨hx, hb, hml, hown, hts⟩ (c_X4_knows l G cy qt tJ_9 qtw qtn qtg qta qtr qtm qtt qts j_8 kB (by omega) hJ) L_X4_66 (preRV (q := (RX4, TX4, 13)) hN hP [0, 8] rfl 0 3 rfl rfl) rfl ⟨Nat.le_of_ble_eq_true rfl, Nat.le_of_ble_eq_true rfl⟩ hl.1 (Nat.le_of_ble_eq_true rfl) dX4_hearFrom_69 ⟨Nat.le_of_ble_eq_true rfl, Nat.le_of_ble_eq_true rfl⟩) (fun r_27 h_28 => ?_)
          subst h_28
          refine lv_icmp_le (tgt := 87) hx hb dX4_hearFrom_72 (by decide) (fun c_29 => ?_) (fun c_29 => ?_)
          · refine lv_iinc (v := nI (j_8 + 1)) (lv' := [(7, .int (nI (j_8 + 1))), (8, .int (zgr ((T_kn tA kI kB) / 2) (zgd tJ_9 j_8 kB))), (6, .int xC_10), (5, .int ((iO &&& (zthere tA)) &&& ((1 <<< ((nI kI) &&& 31)) ^^^ (-1)))), (4, .int ((T_kn tA kI kB) / 2)), (0, .ref qt), (1, .int (nI kI)), (2, .int (nI kB)), (3, .int iO)]) hx hb dX4_hearFrom_87 hl (k := 1) rfl (nI_1 _) (by decide) rfl (fun ls => ?_)
            clear hl
            intro hl
            refine lv_goto (tgt := 30) hx hb dX4_hearFrom_90 (by decide) ?_
            exact ih_7 (j_8 + 1) tJ_9 xC_10 (by omega) (by omega) (by rw [hf_no2 (htJ_12 ▸ Int32.not_lt.mpr c_29)]; exact htJ_12) (by rw [hf_no2 (htJ_12 ▸ Int32.not_lt.mpr c_29)]; exact hxC_13) _ _ _ hP hD hS (lv_sub hl [0, 2, 3, 4, 5, 6, 7, 8] rfl)
          · refine lv_aload_n hx hb dX4_hearFrom_75 rfl (lv_at hl 5 rfl) ?_
            refine lv_iload hx hb dX4_hearFrom_76 (lv_at hl 1 rfl) ?_
            refine lv_iload_n hx hb dX4_hearFrom_78 rfl (lv_at hl 7 rfl) ?_
            refine lv_iload hx hb dX4_hearFrom_79 (lv_at hl 0 rfl) ?_
            refine cVv (As := [.int (nI j_8), .int (nI kB), .int (zgr ((T_kn tA kI kB) / 2) (zgd tJ_9 j_8 kB))]) (rest := []) (b := qt) (q := (RX4, TX4, 13)) ⟨hx, hb, hml, hown, hts⟩ (c_X4_learn l G cy (H).size qt tJ_9 qtw qtn qtg qta qtr qtm qtt qts j_8 kB (zgr ((T_kn tA kI kB) / 2) (zgd tJ_9 j_8 kB)) (by omega) hJ) L_X4_94 hN hP hD hS hA [0, 8] [false, true, true, true, true, true, true, true, false] rfl (by decide +kernel) rfl 0 3 rfl rfl rfl ⟨Nat.le_of_ble_eq_true rfl, Nat.le_of_ble_eq_true rfl⟩ hl.1 (Nat.le_of_ble_eq_true rfl) dX4_hearFrom_81 ⟨Nat.le_of_ble_eq_true rfl, Nat.le_of_ble_eq_true rfl⟩ (fun u_32 H locs h_31 => ?_)
            clear hP hD hS
            intro hP hD hS
            subst h_31
            have hPD := pd_as [zzI cy qtw 8 (T_wo (T_setkn tJ_9 (updM (T_kn tJ_9) j_8 kB (zgr ((T_kn tA kI kB) / 2) (zgd tJ_9 j_8 kB))))), zzI cy qtn 8 (T_ne (T_setkn tJ_9 (updM (T_kn tJ_9) j_8 kB (zgr ((T_kn tA kI kB) / 2) (zgd tJ_9 j_8 kB))))), zzI cy qtg 8 (T_go (T_setkn tJ_9 (updM (T_kn tJ_9) j_8 kB (zgr ((T_kn tA kI kB) / 2) (zgd tJ_9 j_8 kB))))), zzI cy qta 8 (T_ag (T_setkn tJ_9 (updM (T_kn tJ_9) j_8 kB (zgr ((T_kn tA kI kB) / 2) (zgd tJ_9 j_8 kB))))), zzI cy qtr 8 (T_re (T_setkn tJ_9 (updM (T_kn tJ_9) j_8 kB (zgr ((T_kn tA kI kB) / 2) (zgd tJ_9 j_8 kB))))), zzI cy qtm 8 (T_me (T_setkn tJ_9 (updM (T_kn tJ_9) j_8 kB (zgr ((T_kn tA kI kB) / 2) (zgd tJ_9 j_8 kB))))), zzI cy qtt 8 (T_te (T_setkn tJ_9 (updM (T_kn tJ_9) j_8 kB (zgr ((T_kn tA kI kB) / 2) (zgd tJ_9 j_8 kB))))), zzO qt 3 [.int (nI (T_nb (T_setkn tJ_9 (updM (T_kn tJ_9) j_8 kB (zgr ((T_kn tA kI kB) / 2) (zgd tJ_9 j_8 kB)))))), .int (nI (T_np (T_setkn tJ_9 (updM (T_kn tJ_9) j_8 kB (zgr ((T_kn tA kI kB) / 2) (zgd tJ_9 j_8 kB)))))), .int (wb (T_wh (T_setkn tJ_9 (updM (T_kn tJ_9) j_8 kB (zgr ((T_kn tA kI kB) / 2) (zgd tJ_9 j_8 kB)))))), .int (wb (T_gn (T_setkn tJ_9 (updM (T_kn tJ_9) j_8 kB (zgr ((T_kn tA kI kB) / 2) (zgd tJ_9 j_8 kB)))))), .int (T_sd (T_setkn tJ_9 (updM (T_kn tJ_9) j_8 kB (zgr ((T_kn tA kI kB) / 2) (zgd tJ_9 j_8 kB))))), .ref qtw, .ref qtn, .ref qtg, .ref qta, .ref qtr, .ref qtm, .ref qtt, .ref qts], zzI cy qts 64 (shF (T_kn (T_setkn tJ_9 (updM (T_kn tJ_9) j_8 kB (zgr ((T_kn tA kI kB) / 2) (zgd tJ_9 j_8 kB))))))] hP hD rfl
            clear hP hD
            obtain ⟨hP, hD⟩ := hPD
            refine lv_iinc (v := xC_10 + 1) (lv' := [(6, .int (xC_10 + 1)), (8, .int (zgr ((T_kn tA kI kB) / 2) (zgd tJ_9 j_8 kB))), (7, .int (nI j_8)), (5, .int ((iO &&& (zthere tA)) &&& ((1 <<< ((nI kI) &&& 31)) ^^^ (-1)))), (4, .int ((T_kn tA kI kB) / 2)), (0, .ref qt), (1, .int (nI kI)), (2, .int (nI kB)), (3, .int iO)]) hx hb dX4_hearFrom_84 hl (k := 2) rfl (rfl) (by decide) rfl (fun ls => ?_)
            clear hl
            intro hl
            refine lv_iinc (v := nI (j_8 + 1)) (lv' := [(7, .int (nI (j_8 + 1))), (6, .int (xC_10 + 1)), (8, .int (zgr ((T_kn tA kI kB) / 2) (zgd tJ_9 j_8 kB))), (5, .int ((iO &&& (zthere tA)) &&& ((1 <<< ((nI kI) &&& 31)) ^^^ (-1)))), (4, .int ((T_kn tA kI kB) / 2)), (0, .ref qt), (1, .int (nI kI)), (2, .int (nI kB)), (3, .int iO)]) hx hb dX4_hearFrom_87 hl (k := 2) rfl (nI_1 _) (by decide) rfl (fun ls => ?_)
            clear hl
            intro hl
            refine lv_goto (tgt := 30) hx hb dX4_hearFrom_90 (by decide) ?_
            exact ih_7 (j_8 + 1) (T_setkn tJ_9 (updM (T_kn tJ_9) j_8 kB (zgr ((T_kn tA kI kB) / 2) (zgd tJ_9 j_8 kB)))) (xC_10 + 1) (by omega) (by omega) (by rw [hf_on h_25 (htJ_12 ▸ Int32.not_le.mp c_29), ← htJ_12]) (by rw [hf_on h_25 (htJ_12 ▸ Int32.not_le.mp c_29), ← hxC_13]) _ _ _ (hP.sub [7, 0, 1, 2, 3, 4, 5, 6, 8] rfl) (hD.sub [7, 0, 1, 2, 3, 4, 5, 6, 8] (by decide +kernel) rfl) hS (lv_sub hl [0, 1, 3, 4, 5, 6, 7, 8] rfl)
        · refine lv_if_eq (tgt := 87) hx hb dX4_hearFrom_60 (by decide) (fun _ => ?_) (fun h9 => absurd (by decide) h9)
          refine lv_iinc (v := nI (j_8 + 1)) (lv' := [(7, .int (nI (j_8 + 1))), (8, .int (zgr ((T_kn tA kI kB) / 2) (zgd tJ_9 j_8 kB))), (6, .int xC_10), (5, .int ((iO &&& (zthere tA)) &&& ((1 <<< ((nI kI) &&& 31)) ^^^ (-1)))), (4, .int ((T_kn tA kI kB) / 2)), (0, .ref qt), (1, .int (nI kI)), (2, .int (nI kB)), (3, .int iO)]) hx hb dX4_hearFrom_87 hl (k := 1) rfl (nI_1 _) (by decide) rfl (fun ls => ?_)
          clear hl
          intro hl
          refine lv_goto (tgt := 30) hx hb dX4_hearFrom_90 (by decide) ?_
          exact ih_7 (j_8 + 1) tJ_9 xC_10 (by omega) (by omega) (by rw [hf_no1 h_25]; exact htJ_12) (by rw [hf_no1 h_25]; exact hxC_13) _ _ _ hP hD hS (lv_sub hl [0, 2, 3, 4, 5, 6, 7, 8] rfl)
  exact lp_5 ((8 - 0) + 1) 0 tA 0 (Nat.lt_succ_self _) (Nat.zero_le _) rfl rfl _ _ ls hP hD hS (lv_sub hl [0, 1, 2, 3, 4, 5, 6, 7] rfl)
