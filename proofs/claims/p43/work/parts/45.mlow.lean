theorem dX6_add_0 : decode cX6_add 0 = .ok (.lload_n 1, 1) := by decide +kernel
theorem dX6_add_1 : decode cX6_add 1 = .ok (.lconst 0, 1) := by decide +kernel
theorem dX6_add_2 : decode cX6_add 2 = .ok (.ldc2_w 130, 3) := by decide +kernel
theorem dX6_add_5 : decode cX6_add 5 = .ok (.invokestatic 74, 3) := by decide +kernel
theorem dX6_add_8 : decode cX6_add 8 = .ok (.ifCond .eq 38, 3) := by decide +kernel
theorem dX6_add_11 : decode cX6_add 11 = .ok (.lload_n 3, 1) := by decide +kernel
theorem dX6_add_12 : decode cX6_add 12 = .ok (.lconst 0, 1) := by decide +kernel
theorem dX6_add_13 : decode cX6_add 13 = .ok (.ldc2_w 132, 3) := by decide +kernel
theorem dX6_add_16 : decode cX6_add 16 = .ok (.invokestatic 74, 3) := by decide +kernel
theorem dX6_add_19 : decode cX6_add 19 = .ok (.ifCond .eq 27, 3) := by decide +kernel
theorem dX6_add_22 : decode cX6_add 22 = .ok (.lload 5, 2) := by decide +kernel
theorem dX6_add_24 : decode cX6_add 24 = .ok (.lconst 0, 1) := by decide +kernel
theorem dX6_add_25 : decode cX6_add 25 = .ok (.ldc2_w 132, 3) := by decide +kernel
theorem dX6_add_28 : decode cX6_add 28 = .ok (.invokestatic 74, 3) := by decide +kernel
theorem dX6_add_31 : decode cX6_add 31 = .ok (.ifCond .eq 15, 3) := by decide +kernel
theorem dX6_add_34 : decode cX6_add 34 = .ok (.lload 7, 2) := by decide +kernel
theorem dX6_add_36 : decode cX6_add 36 = .ok (.lconst 0, 1) := by decide +kernel
theorem dX6_add_37 : decode cX6_add 37 = .ok (.ldc2_w 132, 3) := by decide +kernel
theorem dX6_add_40 : decode cX6_add 40 = .ok (.invokestatic 74, 3) := by decide +kernel
theorem dX6_add_43 : decode cX6_add 43 = .ok (.ifCond .ne 6, 3) := by decide +kernel
theorem dX6_add_46 : decode cX6_add 46 = .ok (.bipush (-2), 2) := by decide +kernel
theorem dX6_add_48 : decode cX6_add 48 = .ok (.ireturn, 1) := by decide +kernel
theorem dX6_add_49 : decode cX6_add 49 = .ok (.aload_n 0, 1) := by decide +kernel
theorem dX6_add_50 : decode cX6_add 50 = .ok (.getfield 78, 3) := by decide +kernel
theorem dX6_add_53 : decode cX6_add 53 = .ok (.bipush 8, 2) := by decide +kernel
theorem dX6_add_55 : decode cX6_add 55 = .ok (.if_icmp .ne 6, 3) := by decide +kernel
theorem dX6_add_58 : decode cX6_add 58 = .ok (.bipush (-6), 2) := by decide +kernel
theorem dX6_add_60 : decode cX6_add 60 = .ok (.ireturn, 1) := by decide +kernel
theorem dX6_add_61 : decode cX6_add 61 = .ok (.aload_n 0, 1) := by decide +kernel
theorem dX6_add_62 : decode cX6_add 62 = .ok (.invokevirtual 134, 3) := by decide +kernel
theorem dX6_add_65 : decode cX6_add 65 = .ok (.aload_n 0, 1) := by decide +kernel
theorem dX6_add_66 : decode cX6_add 66 = .ok (.getfield 45, 3) := by decide +kernel
theorem dX6_add_69 : decode cX6_add 69 = .ok (.aload_n 0, 1) := by decide +kernel
theorem dX6_add_70 : decode cX6_add 70 = .ok (.getfield 78, 3) := by decide +kernel
theorem dX6_add_73 : decode cX6_add 73 = .ok (.aaload, 1) := by decide +kernel
theorem dX6_add_74 : decode cX6_add 74 = .ok (.iconst 0, 1) := by decide +kernel
theorem dX6_add_75 : decode cX6_add 75 = .ok (.lload_n 1, 1) := by decide +kernel
theorem dX6_add_76 : decode cX6_add 76 = .ok (.l2i, 1) := by decide +kernel
theorem dX6_add_77 : decode cX6_add 77 = .ok (.iastore, 1) := by decide +kernel
theorem dX6_add_78 : decode cX6_add 78 = .ok (.aload_n 0, 1) := by decide +kernel
theorem dX6_add_79 : decode cX6_add 79 = .ok (.getfield 45, 3) := by decide +kernel
theorem dX6_add_82 : decode cX6_add 82 = .ok (.aload_n 0, 1) := by decide +kernel
theorem dX6_add_83 : decode cX6_add 83 = .ok (.getfield 78, 3) := by decide +kernel
theorem dX6_add_86 : decode cX6_add 86 = .ok (.aaload, 1) := by decide +kernel
theorem dX6_add_87 : decode cX6_add 87 = .ok (.iconst 1, 1) := by decide +kernel
theorem dX6_add_88 : decode cX6_add 88 = .ok (.lload_n 3, 1) := by decide +kernel
theorem dX6_add_89 : decode cX6_add 89 = .ok (.l2i, 1) := by decide +kernel
theorem dX6_add_90 : decode cX6_add 90 = .ok (.iastore, 1) := by decide +kernel
theorem dX6_add_91 : decode cX6_add 91 = .ok (.aload_n 0, 1) := by decide +kernel
theorem dX6_add_92 : decode cX6_add 92 = .ok (.getfield 45, 3) := by decide +kernel
theorem dX6_add_95 : decode cX6_add 95 = .ok (.aload_n 0, 1) := by decide +kernel
theorem dX6_add_96 : decode cX6_add 96 = .ok (.getfield 78, 3) := by decide +kernel
theorem dX6_add_99 : decode cX6_add 99 = .ok (.aaload, 1) := by decide +kernel
theorem dX6_add_100 : decode cX6_add 100 = .ok (.iconst 2, 1) := by decide +kernel
theorem dX6_add_101 : decode cX6_add 101 = .ok (.lload 5, 2) := by decide +kernel
theorem dX6_add_103 : decode cX6_add 103 = .ok (.l2i, 1) := by decide +kernel
theorem dX6_add_104 : decode cX6_add 104 = .ok (.iastore, 1) := by decide +kernel
theorem dX6_add_105 : decode cX6_add 105 = .ok (.aload_n 0, 1) := by decide +kernel
theorem dX6_add_106 : decode cX6_add 106 = .ok (.getfield 45, 3) := by decide +kernel
theorem dX6_add_109 : decode cX6_add 109 = .ok (.aload_n 0, 1) := by decide +kernel
theorem dX6_add_110 : decode cX6_add 110 = .ok (.getfield 78, 3) := by decide +kernel
theorem dX6_add_113 : decode cX6_add 113 = .ok (.aaload, 1) := by decide +kernel
theorem dX6_add_114 : decode cX6_add 114 = .ok (.iconst 3, 1) := by decide +kernel
theorem dX6_add_115 : decode cX6_add 115 = .ok (.lload 7, 2) := by decide +kernel
theorem dX6_add_117 : decode cX6_add 117 = .ok (.l2i, 1) := by decide +kernel
theorem dX6_add_118 : decode cX6_add 118 = .ok (.iastore, 1) := by decide +kernel
theorem dX6_add_119 : decode cX6_add 119 = .ok (.aload_n 0, 1) := by decide +kernel
theorem dX6_add_120 : decode cX6_add 120 = .ok (.dup, 1) := by decide +kernel
theorem dX6_add_121 : decode cX6_add 121 = .ok (.getfield 78, 3) := by decide +kernel
theorem dX6_add_124 : decode cX6_add 124 = .ok (.dup_x1, 1) := by decide +kernel
theorem dX6_add_125 : decode cX6_add 125 = .ok (.iconst 1, 1) := by decide +kernel
theorem dX6_add_126 : decode cX6_add 126 = .ok (.iadd, 1) := by decide +kernel
theorem dX6_add_127 : decode cX6_add 127 = .ok (.putfield 78, 3) := by decide +kernel
theorem dX6_add_130 : decode cX6_add 130 = .ok (.ireturn, 1) := by decide +kernel
theorem dX6_fit_0 : decode cX6_fit 0 = .ok (.iload_n 0, 1) := by decide +kernel
theorem dX6_fit_1 : decode cX6_fit 1 = .ok (.tableswitch 47 0 3 #[31, 36, 41, 45], 31) := by decide +kernel
theorem dX6_fit_32 : decode cX6_fit 32 = .ok (.lload_n 1, 1) := by decide +kernel
theorem dX6_fit_33 : decode cX6_fit 33 = .ok (.l2i, 1) := by decide +kernel
theorem dX6_fit_34 : decode cX6_fit 34 = .ok (.i2b, 1) := by decide +kernel
theorem dX6_fit_35 : decode cX6_fit 35 = .ok (.i2l, 1) := by decide +kernel
theorem dX6_fit_36 : decode cX6_fit 36 = .ok (.lreturn, 1) := by decide +kernel
theorem dX6_fit_37 : decode cX6_fit 37 = .ok (.lload_n 1, 1) := by decide +kernel
theorem dX6_fit_38 : decode cX6_fit 38 = .ok (.l2i, 1) := by decide +kernel
theorem dX6_fit_39 : decode cX6_fit 39 = .ok (.i2s, 1) := by decide +kernel
theorem dX6_fit_40 : decode cX6_fit 40 = .ok (.i2l, 1) := by decide +kernel
theorem dX6_fit_41 : decode cX6_fit 41 = .ok (.lreturn, 1) := by decide +kernel
theorem dX6_fit_42 : decode cX6_fit 42 = .ok (.lload_n 1, 1) := by decide +kernel
theorem dX6_fit_43 : decode cX6_fit 43 = .ok (.l2i, 1) := by decide +kernel
theorem dX6_fit_44 : decode cX6_fit 44 = .ok (.i2l, 1) := by decide +kernel
theorem dX6_fit_45 : decode cX6_fit 45 = .ok (.lreturn, 1) := by decide +kernel
theorem dX6_fit_46 : decode cX6_fit 46 = .ok (.lload_n 1, 1) := by decide +kernel
theorem dX6_fit_47 : decode cX6_fit 47 = .ok (.lreturn, 1) := by decide +kernel
theorem dX6_fit_48 : decode cX6_fit 48 = .ok (.lload_n 1, 1) := by decide +kernel
theorem dX6_fit_49 : decode cX6_fit 49 = .ok (.lconst 0, 1) := by decide +kernel
theorem dX6_fit_50 : decode cX6_fit 50 = .ok (.lcmp, 1) := by decide +kernel
theorem dX6_fit_51 : decode cX6_fit 51 = .ok (.ifCond .eq 7, 3) := by decide +kernel
theorem dX6_fit_54 : decode cX6_fit 54 = .ok (.lconst 1, 1) := by decide +kernel
theorem dX6_fit_55 : decode cX6_fit 55 = .ok (.goto 4, 3) := by decide +kernel
theorem dX6_fit_58 : decode cX6_fit 58 = .ok (.lconst 0, 1) := by decide +kernel
theorem dX6_fit_59 : decode cX6_fit 59 = .ok (.lreturn, 1) := by decide +kernel
theorem dX6_isUnder_0 : decode cX6_isUnder 0 = .ok (.iload_n 1, 1) := by decide +kernel
theorem dX6_isUnder_1 : decode cX6_isUnder 1 = .ok (.ifCond .eq 28, 3) := by decide +kernel
theorem dX6_isUnder_4 : decode cX6_isUnder 4 = .ok (.iload_n 0, 1) := by decide +kernel
theorem dX6_isUnder_5 : decode cX6_isUnder 5 = .ok (.iload_n 1, 1) := by decide +kernel
theorem dX6_isUnder_6 : decode cX6_isUnder 6 = .ok (.if_icmp .eq 23, 3) := by decide +kernel
theorem dX6_isUnder_9 : decode cX6_isUnder 9 = .ok (.iload_n 1, 1) := by decide +kernel
theorem dX6_isUnder_10 : decode cX6_isUnder 10 = .ok (.iconst 1, 1) := by decide +kernel
theorem dX6_isUnder_11 : decode cX6_isUnder 11 = .ok (.if_icmp .ne 8, 3) := by decide +kernel
theorem dX6_isUnder_14 : decode cX6_isUnder 14 = .ok (.iload_n 0, 1) := by decide +kernel
theorem dX6_isUnder_15 : decode cX6_isUnder 15 = .ok (.iconst 3, 1) := by decide +kernel
theorem dX6_isUnder_16 : decode cX6_isUnder 16 = .ok (.if_icmp .le 13, 3) := by decide +kernel
theorem dX6_isUnder_19 : decode cX6_isUnder 19 = .ok (.iload_n 1, 1) := by decide +kernel
theorem dX6_isUnder_20 : decode cX6_isUnder 20 = .ok (.iconst 4, 1) := by decide +kernel
theorem dX6_isUnder_21 : decode cX6_isUnder 21 = .ok (.if_icmp .ne 12, 3) := by decide +kernel
theorem dX6_isUnder_24 : decode cX6_isUnder 24 = .ok (.iload_n 0, 1) := by decide +kernel
theorem dX6_isUnder_25 : decode cX6_isUnder 25 = .ok (.iconst 4, 1) := by decide +kernel
theorem dX6_isUnder_26 : decode cX6_isUnder 26 = .ok (.if_icmp .lt 7, 3) := by decide +kernel
theorem dX6_isUnder_29 : decode cX6_isUnder 29 = .ok (.iconst 1, 1) := by decide +kernel
theorem dX6_isUnder_30 : decode cX6_isUnder 30 = .ok (.goto 4, 3) := by decide +kernel
theorem dX6_isUnder_33 : decode cX6_isUnder 33 = .ok (.iconst 0, 1) := by decide +kernel
theorem dX6_isUnder_34 : decode cX6_isUnder 34 = .ok (.ireturn, 1) := by decide +kernel
theorem dX6_newBook_0 : decode cX6_newBook 0 = .ok (.aload_n 0, 1) := by decide +kernel
theorem dX6_newBook_1 : decode cX6_newBook 1 = .ok (.getfield 42, 3) := by decide +kernel
theorem dX6_newBook_4 : decode cX6_newBook 4 = .ok (.aload_n 0, 1) := by decide +kernel
theorem dX6_newBook_5 : decode cX6_newBook 5 = .ok (.getfield 71, 3) := by decide +kernel
theorem dX6_newBook_8 : decode cX6_newBook 8 = .ok (.aaload, 1) := by decide +kernel
theorem dX6_newBook_9 : decode cX6_newBook 9 = .ok (.iconst 0, 1) := by decide +kernel
theorem dX6_newBook_10 : decode cX6_newBook 10 = .ok (.iload_n 1, 1) := by decide +kernel
theorem dX6_newBook_11 : decode cX6_newBook 11 = .ok (.iastore, 1) := by decide +kernel
theorem dX6_newBook_12 : decode cX6_newBook 12 = .ok (.aload_n 0, 1) := by decide +kernel
theorem dX6_newBook_13 : decode cX6_newBook 13 = .ok (.getfield 42, 3) := by decide +kernel
theorem dX6_newBook_16 : decode cX6_newBook 16 = .ok (.aload_n 0, 1) := by decide +kernel
theorem dX6_newBook_17 : decode cX6_newBook 17 = .ok (.getfield 71, 3) := by decide +kernel
theorem dX6_newBook_20 : decode cX6_newBook 20 = .ok (.aaload, 1) := by decide +kernel
theorem dX6_newBook_21 : decode cX6_newBook 21 = .ok (.iconst 1, 1) := by decide +kernel
theorem dX6_newBook_22 : decode cX6_newBook 22 = .ok (.iconst 0, 1) := by decide +kernel
theorem dX6_newBook_23 : decode cX6_newBook 23 = .ok (.iastore, 1) := by decide +kernel
theorem dX6_newBook_24 : decode cX6_newBook 24 = .ok (.aload_n 0, 1) := by decide +kernel
theorem dX6_newBook_25 : decode cX6_newBook 25 = .ok (.getfield 42, 3) := by decide +kernel
theorem dX6_newBook_28 : decode cX6_newBook 28 = .ok (.aload_n 0, 1) := by decide +kernel
theorem dX6_newBook_29 : decode cX6_newBook 29 = .ok (.getfield 71, 3) := by decide +kernel
theorem dX6_newBook_32 : decode cX6_newBook 32 = .ok (.aaload, 1) := by decide +kernel
theorem dX6_newBook_33 : decode cX6_newBook 33 = .ok (.iconst 2, 1) := by decide +kernel
theorem dX6_newBook_34 : decode cX6_newBook 34 = .ok (.sipush 1000, 3) := by decide +kernel
theorem dX6_newBook_37 : decode cX6_newBook 37 = .ok (.iastore, 1) := by decide +kernel
theorem dX6_newBook_38 : decode cX6_newBook 38 = .ok (.aload_n 0, 1) := by decide +kernel
theorem dX6_newBook_39 : decode cX6_newBook 39 = .ok (.getfield 42, 3) := by decide +kernel
theorem dX6_newBook_42 : decode cX6_newBook 42 = .ok (.aload_n 0, 1) := by decide +kernel
theorem dX6_newBook_43 : decode cX6_newBook 43 = .ok (.getfield 71, 3) := by decide +kernel
theorem dX6_newBook_46 : decode cX6_newBook 46 = .ok (.aaload, 1) := by decide +kernel
theorem dX6_newBook_47 : decode cX6_newBook 47 = .ok (.iconst 3, 1) := by decide +kernel
theorem dX6_newBook_48 : decode cX6_newBook 48 = .ok (.iconst 0, 1) := by decide +kernel
theorem dX6_newBook_49 : decode cX6_newBook 49 = .ok (.iastore, 1) := by decide +kernel
theorem dX6_newBook_50 : decode cX6_newBook 50 = .ok (.iconst 0, 1) := by decide +kernel
theorem dX6_newBook_51 : decode cX6_newBook 51 = .ok (.istore_n 2, 1) := by decide +kernel
theorem dX6_newBook_52 : decode cX6_newBook 52 = .ok (.iload_n 2, 1) := by decide +kernel
theorem dX6_newBook_53 : decode cX6_newBook 53 = .ok (.bipush 8, 2) := by decide +kernel
theorem dX6_newBook_55 : decode cX6_newBook 55 = .ok (.if_icmp .ge 21, 3) := by decide +kernel
theorem dX6_newBook_58 : decode cX6_newBook 58 = .ok (.aload_n 0, 1) := by decide +kernel
theorem dX6_newBook_59 : decode cX6_newBook 59 = .ok (.getfield 48, 3) := by decide +kernel
theorem dX6_newBook_62 : decode cX6_newBook 62 = .ok (.iload_n 2, 1) := by decide +kernel
theorem dX6_newBook_63 : decode cX6_newBook 63 = .ok (.aaload, 1) := by decide +kernel
theorem dX6_newBook_64 : decode cX6_newBook 64 = .ok (.aload_n 0, 1) := by decide +kernel
theorem dX6_newBook_65 : decode cX6_newBook 65 = .ok (.getfield 71, 3) := by decide +kernel
theorem dX6_newBook_68 : decode cX6_newBook 68 = .ok (.iconst 0, 1) := by decide +kernel
theorem dX6_newBook_69 : decode cX6_newBook 69 = .ok (.iastore, 1) := by decide +kernel
theorem dX6_newBook_70 : decode cX6_newBook 70 = .ok (.iinc 2 1, 3) := by decide +kernel
theorem dX6_newBook_73 : decode cX6_newBook 73 = .ok (.goto (-21), 3) := by decide +kernel
theorem dX6_newBook_76 : decode cX6_newBook 76 = .ok (.return_, 1) := by decide +kernel
theorem dX6_newOne_0 : decode cX6_newOne 0 = .ok (.aload_n 0, 1) := by decide +kernel
theorem dX6_newOne_1 : decode cX6_newOne 1 = .ok (.getfield 45, 3) := by decide +kernel
theorem dX6_newOne_4 : decode cX6_newOne 4 = .ok (.aload_n 0, 1) := by decide +kernel
theorem dX6_newOne_5 : decode cX6_newOne 5 = .ok (.getfield 78, 3) := by decide +kernel
theorem dX6_newOne_8 : decode cX6_newOne 8 = .ok (.aaload, 1) := by decide +kernel
theorem dX6_newOne_9 : decode cX6_newOne 9 = .ok (.iconst 1, 1) := by decide +kernel
theorem dX6_newOne_10 : decode cX6_newOne 10 = .ok (.iconst 5, 1) := by decide +kernel
theorem dX6_newOne_11 : decode cX6_newOne 11 = .ok (.iastore, 1) := by decide +kernel
theorem dX6_newOne_12 : decode cX6_newOne 12 = .ok (.aload_n 0, 1) := by decide +kernel
theorem dX6_newOne_13 : decode cX6_newOne 13 = .ok (.getfield 45, 3) := by decide +kernel
theorem dX6_newOne_16 : decode cX6_newOne 16 = .ok (.aload_n 0, 1) := by decide +kernel
theorem dX6_newOne_17 : decode cX6_newOne 17 = .ok (.getfield 78, 3) := by decide +kernel
theorem dX6_newOne_20 : decode cX6_newOne 20 = .ok (.aaload, 1) := by decide +kernel
theorem dX6_newOne_21 : decode cX6_newOne 21 = .ok (.iconst 2, 1) := by decide +kernel
theorem dX6_newOne_22 : decode cX6_newOne 22 = .ok (.iconst 5, 1) := by decide +kernel
theorem dX6_newOne_23 : decode cX6_newOne 23 = .ok (.iastore, 1) := by decide +kernel
theorem dX6_newOne_24 : decode cX6_newOne 24 = .ok (.aload_n 0, 1) := by decide +kernel
theorem dX6_newOne_25 : decode cX6_newOne 25 = .ok (.getfield 45, 3) := by decide +kernel
theorem dX6_newOne_28 : decode cX6_newOne 28 = .ok (.aload_n 0, 1) := by decide +kernel
theorem dX6_newOne_29 : decode cX6_newOne 29 = .ok (.getfield 78, 3) := by decide +kernel
theorem dX6_newOne_32 : decode cX6_newOne 32 = .ok (.aaload, 1) := by decide +kernel
theorem dX6_newOne_33 : decode cX6_newOne 33 = .ok (.iconst 3, 1) := by decide +kernel
theorem dX6_newOne_34 : decode cX6_newOne 34 = .ok (.iconst 5, 1) := by decide +kernel
theorem dX6_newOne_35 : decode cX6_newOne 35 = .ok (.iastore, 1) := by decide +kernel
theorem dX6_newOne_36 : decode cX6_newOne 36 = .ok (.aload_n 0, 1) := by decide +kernel
theorem dX6_newOne_37 : decode cX6_newOne 37 = .ok (.getfield 45, 3) := by decide +kernel
theorem dX6_newOne_40 : decode cX6_newOne 40 = .ok (.aload_n 0, 1) := by decide +kernel
theorem dX6_newOne_41 : decode cX6_newOne 41 = .ok (.getfield 78, 3) := by decide +kernel
theorem dX6_newOne_44 : decode cX6_newOne 44 = .ok (.aaload, 1) := by decide +kernel
theorem dX6_newOne_45 : decode cX6_newOne 45 = .ok (.iconst 4, 1) := by decide +kernel
theorem dX6_newOne_46 : decode cX6_newOne 46 = .ok (.iconst 0, 1) := by decide +kernel
theorem dX6_newOne_47 : decode cX6_newOne 47 = .ok (.iastore, 1) := by decide +kernel
theorem dX6_newOne_48 : decode cX6_newOne 48 = .ok (.iconst 0, 1) := by decide +kernel
theorem dX6_newOne_49 : decode cX6_newOne 49 = .ok (.istore_n 1, 1) := by decide +kernel
theorem dX6_newOne_50 : decode cX6_newOne 50 = .ok (.iload_n 1, 1) := by decide +kernel
theorem dX6_newOne_51 : decode cX6_newOne 51 = .ok (.bipush 8, 2) := by decide +kernel
theorem dX6_newOne_53 : decode cX6_newOne 53 = .ok (.if_icmp .ge 21, 3) := by decide +kernel
theorem dX6_newOne_56 : decode cX6_newOne 56 = .ok (.aload_n 0, 1) := by decide +kernel
theorem dX6_newOne_57 : decode cX6_newOne 57 = .ok (.getfield 48, 3) := by decide +kernel
theorem dX6_newOne_60 : decode cX6_newOne 60 = .ok (.aload_n 0, 1) := by decide +kernel
theorem dX6_newOne_61 : decode cX6_newOne 61 = .ok (.getfield 78, 3) := by decide +kernel
theorem dX6_newOne_64 : decode cX6_newOne 64 = .ok (.aaload, 1) := by decide +kernel
theorem dX6_newOne_65 : decode cX6_newOne 65 = .ok (.iload_n 1, 1) := by decide +kernel
theorem dX6_newOne_66 : decode cX6_newOne 66 = .ok (.iconst 0, 1) := by decide +kernel
theorem dX6_newOne_67 : decode cX6_newOne 67 = .ok (.iastore, 1) := by decide +kernel
theorem dX6_newOne_68 : decode cX6_newOne 68 = .ok (.iinc 1 1, 3) := by decide +kernel
theorem dX6_newOne_71 : decode cX6_newOne 71 = .ok (.goto (-21), 3) := by decide +kernel
theorem dX6_newOne_74 : decode cX6_newOne 74 = .ok (.return_, 1) := by decide +kernel
theorem dX6_noReading_0 : decode cX6_noReading 0 = .ok (.aload_n 0, 1) := by decide +kernel
theorem dX6_noReading_1 : decode cX6_noReading 1 = .ok (.iload_n 1, 1) := by decide +kernel
theorem dX6_noReading_2 : decode cX6_noReading 2 = .ok (.i2l, 1) := by decide +kernel
theorem dX6_noReading_3 : decode cX6_noReading 3 = .ok (.invokevirtual 236, 3) := by decide +kernel
theorem dX6_noReading_6 : decode cX6_noReading 6 = .ok (.ifCond .eq 12, 3) := by decide +kernel
theorem dX6_noReading_9 : decode cX6_noReading 9 = .ok (.aload_n 0, 1) := by decide +kernel
theorem dX6_noReading_10 : decode cX6_noReading 10 = .ok (.iload_n 2, 1) := by decide +kernel
theorem dX6_noReading_11 : decode cX6_noReading 11 = .ok (.i2l, 1) := by decide +kernel
theorem dX6_noReading_12 : decode cX6_noReading 12 = .ok (.invokevirtual 229, 3) := by decide +kernel
theorem dX6_noReading_15 : decode cX6_noReading 15 = .ok (.ifCond .ne 10, 3) := by decide +kernel
theorem dX6_noReading_18 : decode cX6_noReading 18 = .ok (.aload_n 0, 1) := by decide +kernel
theorem dX6_noReading_19 : decode cX6_noReading 19 = .ok (.bipush (-2), 2) := by decide +kernel
theorem dX6_noReading_21 : decode cX6_noReading 21 = .ok (.invokevirtual 91, 3) := by decide +kernel
theorem dX6_noReading_24 : decode cX6_noReading 24 = .ok (.ireturn, 1) := by decide +kernel
theorem dX6_noReading_25 : decode cX6_noReading 25 = .ok (.aload_n 0, 1) := by decide +kernel
theorem dX6_noReading_26 : decode cX6_noReading 26 = .ok (.iload_n 2, 1) := by decide +kernel
theorem dX6_noReading_27 : decode cX6_noReading 27 = .ok (.invokevirtual 248, 3) := by decide +kernel
theorem dX6_noReading_30 : decode cX6_noReading 30 = .ok (.ifCond .ne 11, 3) := by decide +kernel
theorem dX6_noReading_33 : decode cX6_noReading 33 = .ok (.aload_n 0, 1) := by decide +kernel
theorem dX6_noReading_34 : decode cX6_noReading 34 = .ok (.iload_n 1, 1) := by decide +kernel
theorem dX6_noReading_35 : decode cX6_noReading 35 = .ok (.invokevirtual 81, 3) := by decide +kernel
theorem dX6_noReading_38 : decode cX6_noReading 38 = .ok (.ifCond .ne 12, 3) := by decide +kernel
theorem dX6_noReading_41 : decode cX6_noReading 41 = .ok (.aload_n 0, 1) := by decide +kernel
theorem dX6_noReading_42 : decode cX6_noReading 42 = .ok (.bipush (-5), 2) := by decide +kernel
theorem dX6_noReading_44 : decode cX6_noReading 44 = .ok (.invokevirtual 91, 3) := by decide +kernel
theorem dX6_noReading_47 : decode cX6_noReading 47 = .ok (.goto 4, 3) := by decide +kernel
theorem dX6_noReading_50 : decode cX6_noReading 50 = .ok (.iconst 0, 1) := by decide +kernel
theorem dX6_noReading_51 : decode cX6_noReading 51 = .ok (.ireturn, 1) := by decide +kernel
theorem dX6_noRow_0 : decode cX6_noRow 0 = .ok (.iload_n 1, 1) := by decide +kernel
theorem dX6_noRow_1 : decode cX6_noRow 1 = .ok (.i2l, 1) := by decide +kernel
theorem dX6_noRow_2 : decode cX6_noRow 2 = .ok (.lconst 0, 1) := by decide +kernel
theorem dX6_noRow_3 : decode cX6_noRow 3 = .ok (.ldc2_w 85, 3) := by decide +kernel
theorem dX6_noRow_6 : decode cX6_noRow 6 = .ok (.invokestatic 74, 3) := by decide +kernel
theorem dX6_noRow_9 : decode cX6_noRow 9 = .ok (.ifCond .ne 10, 3) := by decide +kernel
theorem dX6_noRow_12 : decode cX6_noRow 12 = .ok (.aload_n 0, 1) := by decide +kernel
theorem dX6_noRow_13 : decode cX6_noRow 13 = .ok (.bipush (-2), 2) := by decide +kernel
theorem dX6_noRow_15 : decode cX6_noRow 15 = .ok (.invokevirtual 91, 3) := by decide +kernel
theorem dX6_noRow_18 : decode cX6_noRow 18 = .ok (.ireturn, 1) := by decide +kernel
theorem dX6_noRow_19 : decode cX6_noRow 19 = .ok (.aload_n 0, 1) := by decide +kernel
theorem dX6_noRow_20 : decode cX6_noRow 20 = .ok (.getfield 7, 3) := by decide +kernel
theorem dX6_noRow_23 : decode cX6_noRow 23 = .ok (.iload_n 1, 1) := by decide +kernel
theorem dX6_noRow_24 : decode cX6_noRow 24 = .ok (.iaload, 1) := by decide +kernel
theorem dX6_noRow_25 : decode cX6_noRow 25 = .ok (.iconst 2, 1) := by decide +kernel
theorem dX6_noRow_26 : decode cX6_noRow 26 = .ok (.if_icmp .ne 10, 3) := by decide +kernel
theorem dX6_noRow_29 : decode cX6_noRow 29 = .ok (.aload_n 0, 1) := by decide +kernel
theorem dX6_noRow_30 : decode cX6_noRow 30 = .ok (.bipush (-3), 2) := by decide +kernel
theorem dX6_noRow_32 : decode cX6_noRow 32 = .ok (.invokevirtual 91, 3) := by decide +kernel
theorem dX6_noRow_35 : decode cX6_noRow 35 = .ok (.ireturn, 1) := by decide +kernel
theorem dX6_noRow_36 : decode cX6_noRow 36 = .ok (.aload_n 0, 1) := by decide +kernel
theorem dX6_noRow_37 : decode cX6_noRow 37 = .ok (.getfield 7, 3) := by decide +kernel
theorem dX6_noRow_40 : decode cX6_noRow 40 = .ok (.iload_n 1, 1) := by decide +kernel
theorem dX6_noRow_41 : decode cX6_noRow 41 = .ok (.iaload, 1) := by decide +kernel
theorem dX6_noRow_42 : decode cX6_noRow 42 = .ok (.ifCond .ne 12, 3) := by decide +kernel
theorem dX6_noRow_45 : decode cX6_noRow 45 = .ok (.aload_n 0, 1) := by decide +kernel
theorem dX6_noRow_46 : decode cX6_noRow 46 = .ok (.bipush (-4), 2) := by decide +kernel
theorem dX6_noRow_48 : decode cX6_noRow 48 = .ok (.invokevirtual 91, 3) := by decide +kernel
theorem dX6_noRow_51 : decode cX6_noRow 51 = .ok (.goto 4, 3) := by decide +kernel
theorem dX6_noRow_54 : decode cX6_noRow 54 = .ok (.iconst 0, 1) := by decide +kernel
theorem dX6_noRow_55 : decode cX6_noRow 55 = .ok (.ireturn, 1) := by decide +kernel
theorem dX6_noRule_0 : decode cX6_noRule 0 = .ok (.iload_n 1, 1) := by decide +kernel
theorem dX6_noRule_1 : decode cX6_noRule 1 = .ok (.i2l, 1) := by decide +kernel
theorem dX6_noRule_2 : decode cX6_noRule 2 = .ok (.lconst 0, 1) := by decide +kernel
theorem dX6_noRule_3 : decode cX6_noRule 3 = .ok (.ldc2_w 85, 3) := by decide +kernel
theorem dX6_noRule_6 : decode cX6_noRule 6 = .ok (.invokestatic 74, 3) := by decide +kernel
theorem dX6_noRule_9 : decode cX6_noRule 9 = .ok (.ifCond .ne 10, 3) := by decide +kernel
theorem dX6_noRule_12 : decode cX6_noRule 12 = .ok (.aload_n 0, 1) := by decide +kernel
theorem dX6_noRule_13 : decode cX6_noRule 13 = .ok (.bipush (-2), 2) := by decide +kernel
theorem dX6_noRule_15 : decode cX6_noRule 15 = .ok (.invokevirtual 91, 3) := by decide +kernel
theorem dX6_noRule_18 : decode cX6_noRule 18 = .ok (.ireturn, 1) := by decide +kernel
theorem dX6_noRule_19 : decode cX6_noRule 19 = .ok (.aload_n 0, 1) := by decide +kernel
theorem dX6_noRule_20 : decode cX6_noRule 20 = .ok (.getfield 7, 3) := by decide +kernel
theorem dX6_noRule_23 : decode cX6_noRule 23 = .ok (.iload_n 1, 1) := by decide +kernel
theorem dX6_noRule_24 : decode cX6_noRule 24 = .ok (.iaload, 1) := by decide +kernel
theorem dX6_noRule_25 : decode cX6_noRule 25 = .ok (.iconst 1, 1) := by decide +kernel
theorem dX6_noRule_26 : decode cX6_noRule 26 = .ok (.if_icmp .ne 10, 3) := by decide +kernel
theorem dX6_noRule_29 : decode cX6_noRule 29 = .ok (.aload_n 0, 1) := by decide +kernel
theorem dX6_noRule_30 : decode cX6_noRule 30 = .ok (.bipush (-3), 2) := by decide +kernel
theorem dX6_noRule_32 : decode cX6_noRule 32 = .ok (.invokevirtual 91, 3) := by decide +kernel
theorem dX6_noRule_35 : decode cX6_noRule 35 = .ok (.ireturn, 1) := by decide +kernel
theorem dX6_noRule_36 : decode cX6_noRule 36 = .ok (.aload_n 0, 1) := by decide +kernel
theorem dX6_noRule_37 : decode cX6_noRule 37 = .ok (.getfield 7, 3) := by decide +kernel
theorem dX6_noRule_40 : decode cX6_noRule 40 = .ok (.iload_n 1, 1) := by decide +kernel
theorem dX6_noRule_41 : decode cX6_noRule 41 = .ok (.iaload, 1) := by decide +kernel
theorem dX6_noRule_42 : decode cX6_noRule 42 = .ok (.ifCond .ne 12, 3) := by decide +kernel
theorem dX6_noRule_45 : decode cX6_noRule 45 = .ok (.aload_n 0, 1) := by decide +kernel
theorem dX6_noRule_46 : decode cX6_noRule 46 = .ok (.bipush (-4), 2) := by decide +kernel
theorem dX6_noRule_48 : decode cX6_noRule 48 = .ok (.invokevirtual 91, 3) := by decide +kernel
theorem dX6_noRule_51 : decode cX6_noRule 51 = .ok (.goto 4, 3) := by decide +kernel
theorem dX6_noRule_54 : decode cX6_noRule 54 = .ok (.iconst 0, 1) := by decide +kernel
theorem dX6_noRule_55 : decode cX6_noRule 55 = .ok (.ireturn, 1) := by decide +kernel
/-! newBook, newOne, add -/
def nb0 (t : TA) (a : Int32) : TA := T_mk (T_nb t) (T_np t) (T_sd t) (updB (T_wh t) (T_nb t) false) (T_gn t) (upd (T_wo t) (T_nb t) a) (upd (T_ne t) (T_nb t) 0) (upd (T_go t) (T_nb t) 1000) (T_ag t) (T_re t) (T_me t) (T_te t) (T_kn t)
def nbF (t : TA) : Nat → TA
  | 0 => t
  | j + 1 => T_setkn (nbF t j) (updM (T_kn (nbF t j)) j (T_nb (nbF t j)) 0)
theorem nbF_nb (t : TA) : ∀ j, T_nb (nbF t j) = T_nb t ∧ T_np (nbF t j) = T_np t := by
  intro j
  induction j with
  | zero => exact ⟨rfl, rfl⟩
  | succ j ih => exact ih
def zNB (t : TA) (a : Int32) : TA := nbF (nb0 t a) 8
def no0 (t : TA) : TA := T_mk (T_nb t) (T_np t) (T_sd t) (T_wh t) (updB (T_gn t) (T_np t) false) (T_wo t) (T_ne t) (T_go t) (T_ag t) (upd (T_re t) (T_np t) 5) (upd (T_me t) (T_np t) 5) (upd (T_te t) (T_np t) 5) (T_kn t)
def noF (p : Nat) (t : TA) : Nat → TA
  | 0 => t
  | j + 1 => T_setkn (noF p t j) (updM (T_kn (noF p t j)) p j 0)
theorem noF_nb (p : Nat) (t : TA) : ∀ j, T_nb (noF p t j) = T_nb t ∧ T_np (noF p t j) = T_np t := by
  intro j
  induction j with
  | zero => exact ⟨rfl, rfl⟩
  | succ j ih => exact ih
def zNO (t : TA) : TA := noF (T_np t) (no0 t) 8
theorem nb_NB (t : TA) (a : Int32) : T_nb (zNB t a) = T_nb t := (nbF_nb _ _).1
theorem np_NB (t : TA) (a : Int32) : T_np (zNB t a) = T_np t := (nbF_nb _ _).2
theorem nb_NO (t : TA) : T_nb (zNO t) = T_nb t := (noF_nb _ _ _).1
theorem np_NO (t : TA) : T_np (zNO t) = T_np t := (noF_nb _ _ _).2
theorem TI_mk {nb np : Nat} {sd : Int32} {wh gn : Nat → Bool} {wo ne go ag re me te : Nat → Int32} {kn : Nat → Nat → Int32} (h : nb ≤ 8 ∧ np ≤ 8) (h1 : ∀ p b, R0 1000 (kn p b)) (h2 : ∀ b, R0 1000 (go b)) (h3 : ∀ p, R0 10 (re p)) (h4 : ∀ p, R0 10 (me p)) (h5 : ∀ p, R0 10 (te p)) : TI (T_mk nb np sd wh gn wo ne go ag re me te kn) := ⟨h, h1, h2, h3, h4, h5⟩
def zADD (t : TA) (a b c d : Int64) : TA := T_mk (T_nb (zNO t)) (T_np (zNO t) + 1) (T_sd (zNO t)) (T_wh (zNO t)) (T_gn (zNO t)) (T_wo (zNO t)) (T_ne (zNO t)) (T_go (zNO t)) (upd (T_ag (zNO t)) (T_np (zNO t)) a.toInt32) (upd (T_re (zNO t)) (T_np (zNO t)) b.toInt32) (upd (T_me (zNO t)) (T_np (zNO t)) c.toInt32) (upd (T_te (zNO t)) (T_np (zNO t)) d.toInt32) (T_kn (zNO t))
theorem r_iv64 {v : Int64} {b : Int64} (n : Nat) (hn : n < 2 ^ 31) (hb : b.toInt = n) (h : Iv v 0 b) : R0 n v.toInt32 := by
  obtain ⟨h1, h2⟩ := Iv_iff.mp h
  rw [Int64.le_iff_toInt_le] at h1 h2
  have e0 : (0 : Int64).toInt = 0 := by decide
  rw [e0] at h1
  rw [hb] at h2
  refine ⟨v.toInt.toNat, by omega, ?_⟩
  apply Int32.toInt_inj.mp
  rw [nI_toInt (by omega), Int64.toInt_toInt32, Int.bmod_def]
  omega
theorem nI_nn {k : Nat} (hk : k < 2 ^ 31) : ¬ nI k < 0 := nI_pos hk
theorem ne_of8 {n : Nat} (h : n ≤ 8) (c : ¬ nI n = 8) : n < 8 := by
  rcases Nat.lt_or_ge n 8 with q | q
  · exact q
  · exact absurd (by rw [show n = 8 by omega]; rfl) c
def zft (sort : Int32) (v : Int64) : Int64 := if sort = 0 then v.toInt32.toInt8.toInt32.toInt64 else if sort = 1 then v.toInt32.toInt16.toInt32.toInt64 else if sort = 2 then v.toInt32.toInt64 else if sort = 3 then v else (if lg_cmp v 0 = 0 then 0 else 1)
theorem ft_d {x : Int32} (h : x.toInt < 0 ∨ 3 < x.toInt) (v : Int64) : zft x v = (if lg_cmp v 0 = 0 then 0 else 1) := by
  have n : ∀ c : Int32, 0 ≤ c.toInt → c.toInt ≤ 3 → ¬ x = c := fun c h1 h2 e => by subst e; omega
  exact (if_neg (n 0 (by decide) (by decide))).trans ((if_neg (n 1 (by decide) (by decide))).trans ((if_neg (n 2 (by decide) (by decide))).trans (if_neg (n 3 (by decide) (by decide)))))
theorem sw_0_3 (x : Int32) : x = 0 ∨ x = 1 ∨ x = 2 ∨ x = 3 ∨ (x.toInt < 0 ∨ 3 < x.toInt) := by
  rcases sw_0_4 x with e | e | e | e | e | e
  · exact Or.inl e
  · exact Or.inr (Or.inl e)
  · exact Or.inr (Or.inr (Or.inl e))
  · exact Or.inr (Or.inr (Or.inr (Or.inl e)))
  · exact Or.inr (Or.inr (Or.inr (Or.inr (by rw [e]; decide))))
  · exact Or.inr (Or.inr (Or.inr (Or.inr (by omega))))
set_option maxHeartbeats 4000000 in
set_option maxRecDepth 100000 in
theorem c_X6_newBook (l : Launch) (G : va_G) (cy : Nat → ClassId) (sz : Nat) (qm : Nat) (v0 : Value) (v1 : Value) (v2 : Value) (v3 : Value) (v4 : Value) (v5 : Value) (v6 : Value) (v7 : Value) (v8 : Value) (v9 : Value) (tA : TA) (qmB : Nat) (qmO : Nat) (qmK : Nat) (iEn : Int32) (iTk : Int32) (v18 : Value) (v19 : Value) (v20 : Value) (v21 : Value) (v22 : Value) (v23 : Value) (v24 : Value) (v25 : Value) (v26 : Value) (iLv : Int32) (iWs : Int32) (v29 : Value) (v30 : Value) (v31 : Value) (v32 : Value) (v33 : Value) (v34 : Value) (rB : Nat → Nat) (rO : Nat → Nat) (rK : Nat → Nat) (iA : Int32)  (hB : T_nb tA < 8) : MW l yX6_newBook cX6_newBook 3 none 1 0 0 G cy [zzO qm 5 [v0, v1, v2, v3, v4, v5, v6, v7, v8, v9, .int (nI (T_nb tA)), .ref qmB, .int (nI (T_np tA)), .ref qmO, .ref qmK, .int iEn, .int iTk, .int (T_sd tA), v18, v19, v20, v21, v22, v23, v24, v25, v26, .int iLv, .int iWs, v29, v30, v31, v32, v33, v34], zzG cy 3 qmB rB, zzI cy (rB 0) 4 (bkR tA 0), zzI cy (rB 1) 4 (bkR tA 1), zzI cy (rB 2) 4 (bkR tA 2), zzI cy (rB 3) 4 (bkR tA 3), zzI cy (rB 4) 4 (bkR tA 4), zzI cy (rB 5) 4 (bkR tA 5), zzI cy (rB 6) 4 (bkR tA 6), zzI cy (rB 7) 4 (bkR tA 7), zzG cy 3 qmO rO, zzI cy (rO 0) 5 (onR tA 0), zzI cy (rO 1) 5 (onR tA 1), zzI cy (rO 2) 5 (onR tA 2), zzI cy (rO 3) 5 (onR tA 3), zzI cy (rO 4) 5 (onR tA 4), zzI cy (rO 5) 5 (onR tA 5), zzI cy (rO 6) 5 (onR tA 6), zzI cy (rO 7) 5 (onR tA 7), zzG cy 3 qmK rK, zzI cy (rK 0) 8 (T_kn tA 0), zzI cy (rK 1) 8 (T_kn tA 1), zzI cy (rK 2) 8 (T_kn tA 2), zzI cy (rK 3) 8 (T_kn tA 3), zzI cy (rK 4) 8 (T_kn tA 4), zzI cy (rK 5) 8 (T_kn tA 5), zzI cy (rK 6) 8 (T_kn tA 6), zzI cy (rK 7) 8 (T_kn tA 7)] sz [.ref qm, .int iA] (Wv G (fun u => u = [zzO qm 5 [v0, v1, v2, v3, v4, v5, v6, v7, v8, v9, .int (nI (T_nb (zNB tA iA))), .ref qmB, .int (nI (T_np (zNB tA iA))), .ref qmO, .ref qmK, .int iEn, .int iTk, .int (T_sd (zNB tA iA)), v18, v19, v20, v21, v22, v23, v24, v25, v26, .int iLv, .int iWs, v29, v30, v31, v32, v33, v34], zzG cy 3 qmB rB, zzI cy (rB 0) 4 (bkR (zNB tA iA) 0), zzI cy (rB 1) 4 (bkR (zNB tA iA) 1), zzI cy (rB 2) 4 (bkR (zNB tA iA) 2), zzI cy (rB 3) 4 (bkR (zNB tA iA) 3), zzI cy (rB 4) 4 (bkR (zNB tA iA) 4), zzI cy (rB 5) 4 (bkR (zNB tA iA) 5), zzI cy (rB 6) 4 (bkR (zNB tA iA) 6), zzI cy (rB 7) 4 (bkR (zNB tA iA) 7), zzG cy 3 qmO rO, zzI cy (rO 0) 5 (onR (zNB tA iA) 0), zzI cy (rO 1) 5 (onR (zNB tA iA) 1), zzI cy (rO 2) 5 (onR (zNB tA iA) 2), zzI cy (rO 3) 5 (onR (zNB tA iA) 3), zzI cy (rO 4) 5 (onR (zNB tA iA) 4), zzI cy (rO 5) 5 (onR (zNB tA iA) 5), zzI cy (rO 6) 5 (onR (zNB tA iA) 6), zzI cy (rO 7) 5 (onR (zNB tA iA) 7), zzG cy 3 qmK rK, zzI cy (rK 0) 8 (T_kn (zNB tA iA) 0), zzI cy (rK 1) 8 (T_kn (zNB tA iA) 1), zzI cy (rK 2) 8 (T_kn (zNB tA iA) 2), zzI cy (rK 3) 8 (T_kn (zNB tA iA) 3), zzI cy (rK 4) 8 (T_kn (zNB tA iA) 4), zzI cy (rK 5) 8 (T_kn (zNB tA iA) 5), zzI cy (rK 6) 8 (T_kn (zNB tA iA) 6), zzI cy (rK 7) 8 (T_kn (zNB tA iA) 7)])) := by
  refine enW RX6 (by decide) rfl (Nat.le_of_ble_eq_true rfl) (fun p e s m below meth c ls A hx hb hml hown hts hr hlocks hP hN hl hin hD hA hS => ?_)
  have hin : meth.name = _ := hin
  have hK := hN.1
  replace hl : lv_has ls 3 [(0, .ref qm), (1, .int iA)] := hl
  refine lv_aload_n hx hb dX6_newBook_0 rfl (lv_at hl 0 rfl) ?_
  refine va_get (D := G) (ci := 5) (v := .ref qmB) (C := RX6) (T := TX6) (N := 35) hx hb hts iX_X6 hown hK hP 0 rfl rfl 11 (by decide) (hts _ m_t861) (fun _ h9 => h9) rfl dX6_newBook_1 ?_
  refine lv_aload_n hx hb dX6_newBook_4 rfl (lv_at hl 0 rfl) ?_
  refine va_get (D := G) (ci := 5) (v := .int (nI (T_nb tA))) (C := RX6) (T := TX6) (N := 35) hx hb hts iX_X6 hown hK hP 0 rfl rfl 10 (by decide) (hts _ m_t860) (fun _ h9 => h9) rfl dX6_newBook_5 ?_
  refine va_alda hx hb hK hP 1 3 rfl rfl (in8 (by omega)) dX6_newBook_8 ?_
  refine lv_setv (v := .ref (rB (T_nb tA))) (g_ref (by omega)) ?_
  refine lv_iconst (v := 0) hx hb dX6_newBook_9 (by decide) ?_
  refine lv_iload_n hx hb dX6_newBook_10 rfl (lv_at hl 1 rfl) ?_
  refine va_iast hx hb hK hP hD hS (2 + (T_nb tA)) 0 ((sg8 (n0 := 2) (f := (fun j => zzI cy (rB j) 4 (bkR tA j))) rfl rfl rfl rfl rfl rfl rfl rfl) (T_nb tA) (by omega)) rfl (in_c rfl) dX6_newBook_11 (fun H locs => ?_)
  clear hP hD hS
  intro hP hD hS
  have hPD := st8PD (ws' := [zzO qm 5 [v0, v1, v2, v3, v4, v5, v6, v7, v8, v9, .int (nI (T_nb tA)), .ref qmB, .int (nI (T_np tA)), .ref qmO, .ref qmK, .int iEn, .int iTk, .int (T_sd tA), v18, v19, v20, v21, v22, v23, v24, v25, v26, .int iLv, .int iWs, v29, v30, v31, v32, v33, v34], zzG cy 3 qmB rB, zzI cy (rB 0) 4 (bkR (T_mk (T_nb tA) (T_np tA) (T_sd tA) (T_wh tA) (T_gn tA) (upd (T_wo tA) (T_nb tA) iA) (T_ne tA) (T_go tA) (T_ag tA) (T_re tA) (T_me tA) (T_te tA) (T_kn tA)) 0), zzI cy (rB 1) 4 (bkR (T_mk (T_nb tA) (T_np tA) (T_sd tA) (T_wh tA) (T_gn tA) (upd (T_wo tA) (T_nb tA) iA) (T_ne tA) (T_go tA) (T_ag tA) (T_re tA) (T_me tA) (T_te tA) (T_kn tA)) 1), zzI cy (rB 2) 4 (bkR (T_mk (T_nb tA) (T_np tA) (T_sd tA) (T_wh tA) (T_gn tA) (upd (T_wo tA) (T_nb tA) iA) (T_ne tA) (T_go tA) (T_ag tA) (T_re tA) (T_me tA) (T_te tA) (T_kn tA)) 2), zzI cy (rB 3) 4 (bkR (T_mk (T_nb tA) (T_np tA) (T_sd tA) (T_wh tA) (T_gn tA) (upd (T_wo tA) (T_nb tA) iA) (T_ne tA) (T_go tA) (T_ag tA) (T_re tA) (T_me tA) (T_te tA) (T_kn tA)) 3), zzI cy (rB 4) 4 (bkR (T_mk (T_nb tA) (T_np tA) (T_sd tA) (T_wh tA) (T_gn tA) (upd (T_wo tA) (T_nb tA) iA) (T_ne tA) (T_go tA) (T_ag tA) (T_re tA) (T_me tA) (T_te tA) (T_kn tA)) 4), zzI cy (rB 5) 4 (bkR (T_mk (T_nb tA) (T_np tA) (T_sd tA) (T_wh tA) (T_gn tA) (upd (T_wo tA) (T_nb tA) iA) (T_ne tA) (T_go tA) (T_ag tA) (T_re tA) (T_me tA) (T_te tA) (T_kn tA)) 5), zzI cy (rB 6) 4 (bkR (T_mk (T_nb tA) (T_np tA) (T_sd tA) (T_wh tA) (T_gn tA) (upd (T_wo tA) (T_nb tA) iA) (T_ne tA) (T_go tA) (T_ag tA) (T_re tA) (T_me tA) (T_te tA) (T_kn tA)) 6), zzI cy (rB 7) 4 (bkR (T_mk (T_nb tA) (T_np tA) (T_sd tA) (T_wh tA) (T_gn tA) (upd (T_wo tA) (T_nb tA) iA) (T_ne tA) (T_go tA) (T_ag tA) (T_re tA) (T_me tA) (T_te tA) (T_kn tA)) 7), zzG cy 3 qmO rO, zzI cy (rO 0) 5 (onR (T_mk (T_nb tA) (T_np tA) (T_sd tA) (T_wh tA) (T_gn tA) (upd (T_wo tA) (T_nb tA) iA) (T_ne tA) (T_go tA) (T_ag tA) (T_re tA) (T_me tA) (T_te tA) (T_kn tA)) 0), zzI cy (rO 1) 5 (onR (T_mk (T_nb tA) (T_np tA) (T_sd tA) (T_wh tA) (T_gn tA) (upd (T_wo tA) (T_nb tA) iA) (T_ne tA) (T_go tA) (T_ag tA) (T_re tA) (T_me tA) (T_te tA) (T_kn tA)) 1), zzI cy (rO 2) 5 (onR (T_mk (T_nb tA) (T_np tA) (T_sd tA) (T_wh tA) (T_gn tA) (upd (T_wo tA) (T_nb tA) iA) (T_ne tA) (T_go tA) (T_ag tA) (T_re tA) (T_me tA) (T_te tA) (T_kn tA)) 2), zzI cy (rO 3) 5 (onR (T_mk (T_nb tA) (T_np tA) (T_sd tA) (T_wh tA) (T_gn tA) (upd (T_wo tA) (T_nb tA) iA) (T_ne tA) (T_go tA) (T_ag tA) (T_re tA) (T_me tA) (T_te tA) (T_kn tA)) 3), zzI cy (rO 4) 5 (onR (T_mk (T_nb tA) (T_np tA) (T_sd tA) (T_wh tA) (T_gn tA) (upd (T_wo tA) (T_nb tA) iA) (T_ne tA) (T_go tA) (T_ag tA) (T_re tA) (T_me tA) (T_te tA) (T_kn tA)) 4), zzI cy (rO 5) 5 (onR (T_mk (T_nb tA) (T_np tA) (T_sd tA) (T_wh tA) (T_gn tA) (upd (T_wo tA) (T_nb tA) iA) (T_ne tA) (T_go tA) (T_ag tA) (T_re tA) (T_me tA) (T_te tA) (T_kn tA)) 5), zzI cy (rO 6) 5 (onR (T_mk (T_nb tA) (T_np tA) (T_sd tA) (T_wh tA) (T_gn tA) (upd (T_wo tA) (T_nb tA) iA) (T_ne tA) (T_go tA) (T_ag tA) (T_re tA) (T_me tA) (T_te tA) (T_kn tA)) 6), zzI cy (rO 7) 5 (onR (T_mk (T_nb tA) (T_np tA) (T_sd tA) (T_wh tA) (T_gn tA) (upd (T_wo tA) (T_nb tA) iA) (T_ne tA) (T_go tA) (T_ag tA) (T_re tA) (T_me tA) (T_te tA) (T_kn tA)) 7), zzG cy 3 qmK rK, zzI cy (rK 0) 8 (T_kn (T_mk (T_nb tA) (T_np tA) (T_sd tA) (T_wh tA) (T_gn tA) (upd (T_wo tA) (T_nb tA) iA) (T_ne tA) (T_go tA) (T_ag tA) (T_re tA) (T_me tA) (T_te tA) (T_kn tA)) 0), zzI cy (rK 1) 8 (T_kn (T_mk (T_nb tA) (T_np tA) (T_sd tA) (T_wh tA) (T_gn tA) (upd (T_wo tA) (T_nb tA) iA) (T_ne tA) (T_go tA) (T_ag tA) (T_re tA) (T_me tA) (T_te tA) (T_kn tA)) 1), zzI cy (rK 2) 8 (T_kn (T_mk (T_nb tA) (T_np tA) (T_sd tA) (T_wh tA) (T_gn tA) (upd (T_wo tA) (T_nb tA) iA) (T_ne tA) (T_go tA) (T_ag tA) (T_re tA) (T_me tA) (T_te tA) (T_kn tA)) 2), zzI cy (rK 3) 8 (T_kn (T_mk (T_nb tA) (T_np tA) (T_sd tA) (T_wh tA) (T_gn tA) (upd (T_wo tA) (T_nb tA) iA) (T_ne tA) (T_go tA) (T_ag tA) (T_re tA) (T_me tA) (T_te tA) (T_kn tA)) 3), zzI cy (rK 4) 8 (T_kn (T_mk (T_nb tA) (T_np tA) (T_sd tA) (T_wh tA) (T_gn tA) (upd (T_wo tA) (T_nb tA) iA) (T_ne tA) (T_go tA) (T_ag tA) (T_re tA) (T_me tA) (T_te tA) (T_kn tA)) 4), zzI cy (rK 5) 8 (T_kn (T_mk (T_nb tA) (T_np tA) (T_sd tA) (T_wh tA) (T_gn tA) (upd (T_wo tA) (T_nb tA) iA) (T_ne tA) (T_go tA) (T_ag tA) (T_re tA) (T_me tA) (T_te tA) (T_kn tA)) 5), zzI cy (rK 6) 8 (T_kn (T_mk (T_nb tA) (T_np tA) (T_sd tA) (T_wh tA) (T_gn tA) (upd (T_wo tA) (T_nb tA) iA) (T_ne tA) (T_go tA) (T_ag tA) (T_re tA) (T_me tA) (T_te tA) (T_kn tA)) 6), zzI cy (rK 7) 8 (T_kn (T_mk (T_nb tA) (T_np tA) (T_sd tA) (T_wh tA) (T_gn tA) (upd (T_wo tA) (T_nb tA) iA) (T_ne tA) (T_go tA) (T_ag tA) (T_re tA) (T_me tA) (T_te tA) (T_kn tA)) 7)]) (k := (T_nb tA)) (g1 := bkR (T_mk (T_nb tA) (T_np tA) (T_sd tA) (T_wh tA) (T_gn tA) (upd (T_wo tA) (T_nb tA) iA) (T_ne tA) (T_go tA) (T_ag tA) (T_re tA) (T_me tA) (T_te tA) (T_kn tA)) (T_nb tA)) hP hD (sg8 (n0 := 2) (f := (fun j => zzI cy (rB j) 4 (bkR tA j))) rfl rfl rfl rfl rfl rfl rfl rfl) (sg8 (n0 := 2) (f := (fun j => zzI cy (rB j) 4 (bkR (T_mk (T_nb tA) (T_np tA) (T_sd tA) (T_wh tA) (T_gn tA) (upd (T_wo tA) (T_nb tA) iA) (T_ne tA) (T_go tA) (T_ag tA) (T_re tA) (T_me tA) (T_te tA) (T_kn tA)) j))) rfl rfl rfl rfl rfl rfl rfl rfl) rfl rfl (by omega) rfl (fun i _ => (congrFun (bk_u0 tA (T_nb tA) iA) i).symm) (fun j hj => congrArg (zzI cy (rB j) 4) (bk_n0 tA (T_nb tA) iA hj))
  clear hP hD
  obtain ⟨hP, hD⟩ := hPD
  refine lv_aload_n hx hb dX6_newBook_12 rfl (lv_at hl 0 rfl) ?_
  refine va_get (D := G) (ci := 5) (v := .ref qmB) (C := RX6) (T := TX6) (N := 35) hx hb hts iX_X6 hown hK hP 0 rfl rfl 11 (by decide) (hts _ m_t861) (fun _ h9 => h9) rfl dX6_newBook_13 ?_
  refine lv_aload_n hx hb dX6_newBook_16 rfl (lv_at hl 0 rfl) ?_
  refine va_get (D := G) (ci := 5) (v := .int (nI (T_nb tA))) (C := RX6) (T := TX6) (N := 35) hx hb hts iX_X6 hown hK hP 0 rfl rfl 10 (by decide) (hts _ m_t860) (fun _ h9 => h9) rfl dX6_newBook_17 ?_
  refine va_alda hx hb hK hP 1 3 rfl rfl (in8 (by omega)) dX6_newBook_20 ?_
  refine lv_setv (v := .ref (rB (T_nb tA))) (g_ref (by omega)) ?_
  refine lv_iconst (v := 1) hx hb dX6_newBook_21 (by decide) ?_
  refine lv_iconst (v := 0) hx hb dX6_newBook_22 (by decide) ?_
  refine va_iast hx hb hK hP hD hS (2 + (T_nb tA)) 0 ((sg8 (n0 := 2) (f := (fun j => zzI cy (rB j) 4 (bkR (T_mk (T_nb tA) (T_np tA) (T_sd tA) (T_wh tA) (T_gn tA) (upd (T_wo tA) (T_nb tA) iA) (T_ne tA) (T_go tA) (T_ag tA) (T_re tA) (T_me tA) (T_te tA) (T_kn tA)) j))) rfl rfl rfl rfl rfl rfl rfl rfl) (T_nb tA) (by omega)) rfl (in_c rfl) dX6_newBook_23 (fun H locs => ?_)
  clear hP hD hS
  intro hP hD hS
  have hPD := st8PD (ws' := [zzO qm 5 [v0, v1, v2, v3, v4, v5, v6, v7, v8, v9, .int (nI (T_nb tA)), .ref qmB, .int (nI (T_np tA)), .ref qmO, .ref qmK, .int iEn, .int iTk, .int (T_sd tA), v18, v19, v20, v21, v22, v23, v24, v25, v26, .int iLv, .int iWs, v29, v30, v31, v32, v33, v34], zzG cy 3 qmB rB, zzI cy (rB 0) 4 (bkR (T_mk (T_nb tA) (T_np tA) (T_sd tA) (T_wh tA) (T_gn tA) (upd (T_wo tA) (T_nb tA) iA) (upd (T_ne tA) (T_nb tA) 0) (T_go tA) (T_ag tA) (T_re tA) (T_me tA) (T_te tA) (T_kn tA)) 0), zzI cy (rB 1) 4 (bkR (T_mk (T_nb tA) (T_np tA) (T_sd tA) (T_wh tA) (T_gn tA) (upd (T_wo tA) (T_nb tA) iA) (upd (T_ne tA) (T_nb tA) 0) (T_go tA) (T_ag tA) (T_re tA) (T_me tA) (T_te tA) (T_kn tA)) 1), zzI cy (rB 2) 4 (bkR (T_mk (T_nb tA) (T_np tA) (T_sd tA) (T_wh tA) (T_gn tA) (upd (T_wo tA) (T_nb tA) iA) (upd (T_ne tA) (T_nb tA) 0) (T_go tA) (T_ag tA) (T_re tA) (T_me tA) (T_te tA) (T_kn tA)) 2), zzI cy (rB 3) 4 (bkR (T_mk (T_nb tA) (T_np tA) (T_sd tA) (T_wh tA) (T_gn tA) (upd (T_wo tA) (T_nb tA) iA) (upd (T_ne tA) (T_nb tA) 0) (T_go tA) (T_ag tA) (T_re tA) (T_me tA) (T_te tA) (T_kn tA)) 3), zzI cy (rB 4) 4 (bkR (T_mk (T_nb tA) (T_np tA) (T_sd tA) (T_wh tA) (T_gn tA) (upd (T_wo tA) (T_nb tA) iA) (upd (T_ne tA) (T_nb tA) 0) (T_go tA) (T_ag tA) (T_re tA) (T_me tA) (T_te tA) (T_kn tA)) 4), zzI cy (rB 5) 4 (bkR (T_mk (T_nb tA) (T_np tA) (T_sd tA) (T_wh tA) (T_gn tA) (upd (T_wo tA) (T_nb tA) iA) (upd (T_ne tA) (T_nb tA) 0) (T_go tA) (T_ag tA) (T_re tA) (T_me tA) (T_te tA) (T_kn tA)) 5), zzI cy (rB 6) 4 (bkR (T_mk (T_nb tA) (T_np tA) (T_sd tA) (T_wh tA) (T_gn tA) (upd (T_wo tA) (T_nb tA) iA) (upd (T_ne tA) (T_nb tA) 0) (T_go tA) (T_ag tA) (T_re tA) (T_me tA) (T_te tA) (T_kn tA)) 6), zzI cy (rB 7) 4 (bkR (T_mk (T_nb tA) (T_np tA) (T_sd tA) (T_wh tA) (T_gn tA) (upd (T_wo tA) (T_nb tA) iA) (upd (T_ne tA) (T_nb tA) 0) (T_go tA) (T_ag tA) (T_re tA) (T_me tA) (T_te tA) (T_kn tA)) 7), zzG cy 3 qmO rO, zzI cy (rO 0) 5 (onR (T_mk (T_nb tA) (T_np tA) (T_sd tA) (T_wh tA) (T_gn tA) (upd (T_wo tA) (T_nb tA) iA) (upd (T_ne tA) (T_nb tA) 0) (T_go tA) (T_ag tA) (T_re tA) (T_me tA) (T_te tA) (T_kn tA)) 0), zzI cy (rO 1) 5 (onR (T_mk (T_nb tA) (T_np tA) (T_sd tA) (T_wh tA) (T_gn tA) (upd (T_wo tA) (T_nb tA) iA) (upd (T_ne tA) (T_nb tA) 0) (T_go tA) (T_ag tA) (T_re tA) (T_me tA) (T_te tA) (T_kn tA)) 1), zzI cy (rO 2) 5 (onR (T_mk (T_nb tA) (T_np tA) (T_sd tA) (T_wh tA) (T_gn tA) (upd (T_wo tA) (T_nb tA) iA) (upd (T_ne tA) (T_nb tA) 0) (T_go tA) (T_ag tA) (T_re tA) (T_me tA) (T_te tA) (T_kn tA)) 2), zzI cy (rO 3) 5 (onR (T_mk (T_nb tA) (T_np tA) (T_sd tA) (T_wh tA) (T_gn tA) (upd (T_wo tA) (T_nb tA) iA) (upd (T_ne tA) (T_nb tA) 0) (T_go tA) (T_ag tA) (T_re tA) (T_me tA) (T_te tA) (T_kn tA)) 3), zzI cy (rO 4) 5 (onR (T_mk (T_nb tA) (T_np tA) (T_sd tA) (T_wh tA) (T_gn tA) (upd (T_wo tA) (T_nb tA) iA) (upd (T_ne tA) (T_nb tA) 0) (T_go tA) (T_ag tA) (T_re tA) (T_me tA) (T_te tA) (T_kn tA)) 4), zzI cy (rO 5) 5 (onR (T_mk (T_nb tA) (T_np tA) (T_sd tA) (T_wh tA) (T_gn tA) (upd (T_wo tA) (T_nb tA) iA) (upd (T_ne tA) (T_nb tA) 0) (T_go tA) (T_ag tA) (T_re tA) (T_me tA) (T_te tA) (T_kn tA)) 5), zzI cy (rO 6) 5 (onR (T_mk (T_nb tA) (T_np tA) (T_sd tA) (T_wh tA) (T_gn tA) (upd (T_wo tA) (T_nb tA) iA) (upd (T_ne tA) (T_nb tA) 0) (T_go tA) (T_ag tA) (T_re tA) (T_me tA) (T_te tA) (T_kn tA)) 6), zzI cy (rO 7) 5 (onR (T_mk (T_nb tA) (T_np tA) (T_sd tA) (T_wh tA) (T_gn tA) (upd (T_wo tA) (T_nb tA) iA) (upd (T_ne tA) (T_nb tA) 0) (T_go tA) (T_ag tA) (T_re tA) (T_me tA) (T_te tA) (T_kn tA)) 7), zzG cy 3 qmK rK, zzI cy (rK 0) 8 (T_kn (T_mk (T_nb tA) (T_np tA) (T_sd tA) (T_wh tA) (T_gn tA) (upd (T_wo tA) (T_nb tA) iA) (upd (T_ne tA) (T_nb tA) 0) (T_go tA) (T_ag tA) (T_re tA) (T_me tA) (T_te tA) (T_kn tA)) 0), zzI cy (rK 1) 8 (T_kn (T_mk (T_nb tA) (T_np tA) (T_sd tA) (T_wh tA) (T_gn tA) (upd (T_wo tA) (T_nb tA) iA) (upd (T_ne tA) (T_nb tA) 0) (T_go tA) (T_ag tA) (T_re tA) (T_me tA) (T_te tA) (T_kn tA)) 1), zzI cy (rK 2) 8 (T_kn (T_mk (T_nb tA) (T_np tA) (T_sd tA) (T_wh tA) (T_gn tA) (upd (T_wo tA) (T_nb tA) iA) (upd (T_ne tA) (T_nb tA) 0) (T_go tA) (T_ag tA) (T_re tA) (T_me tA) (T_te tA) (T_kn tA)) 2), zzI cy (rK 3) 8 (T_kn (T_mk (T_nb tA) (T_np tA) (T_sd tA) (T_wh tA) (T_gn tA) (upd (T_wo tA) (T_nb tA) iA) (upd (T_ne tA) (T_nb tA) 0) (T_go tA) (T_ag tA) (T_re tA) (T_me tA) (T_te tA) (T_kn tA)) 3), zzI cy (rK 4) 8 (T_kn (T_mk (T_nb tA) (T_np tA) (T_sd tA) (T_wh tA) (T_gn tA) (upd (T_wo tA) (T_nb tA) iA) (upd (T_ne tA) (T_nb tA) 0) (T_go tA) (T_ag tA) (T_re tA) (T_me tA) (T_te tA) (T_kn tA)) 4), zzI cy (rK 5) 8 (T_kn (T_mk (T_nb tA) (T_np tA) (T_sd tA) (T_wh tA) (T_gn tA) (upd (T_wo tA) (T_nb tA) iA) (upd (T_ne tA) (T_nb tA) 0) (T_go tA) (T_ag tA) (T_re tA) (T_me tA) (T_te tA) (T_kn tA)) 5), zzI cy (rK 6) 8 (T_kn (T_mk (T_nb tA) (T_np tA) (T_sd tA) (T_wh tA) (T_gn tA) (upd (T_wo tA) (T_nb tA) iA) (upd (T_ne tA) (T_nb tA) 0) (T_go tA) (T_ag tA) (T_re tA) (T_me tA) (T_te tA) (T_kn tA)) 6), zzI cy (rK 7) 8 (T_kn (T_mk (T_nb tA) (T_np tA) (T_sd tA) (T_wh tA) (T_gn tA) (upd (T_wo tA) (T_nb tA) iA) (upd (T_ne tA) (T_nb tA) 0) (T_go tA) (T_ag tA) (T_re tA) (T_me tA) (T_te tA) (T_kn tA)) 7)]) (k := (T_nb tA)) (g1 := bkR (T_mk (T_nb tA) (T_np tA) (T_sd tA) (T_wh tA) (T_gn tA) (upd (T_wo tA) (T_nb tA) iA) (upd (T_ne tA) (T_nb tA) 0) (T_go tA) (T_ag tA) (T_re tA) (T_me tA) (T_te tA) (T_kn tA)) (T_nb tA)) hP hD (sg8 (n0 := 2) (f := (fun j => zzI cy (rB j) 4 (bkR (T_mk (T_nb tA) (T_np tA) (T_sd tA) (T_wh tA) (T_gn tA) (upd (T_wo tA) (T_nb tA) iA) (T_ne tA) (T_go tA) (T_ag tA) (T_re tA) (T_me tA) (T_te tA) (T_kn tA)) j))) rfl rfl rfl rfl rfl rfl rfl rfl) (sg8 (n0 := 2) (f := (fun j => zzI cy (rB j) 4 (bkR (T_mk (T_nb tA) (T_np tA) (T_sd tA) (T_wh tA) (T_gn tA) (upd (T_wo tA) (T_nb tA) iA) (upd (T_ne tA) (T_nb tA) 0) (T_go tA) (T_ag tA) (T_re tA) (T_me tA) (T_te tA) (T_kn tA)) j))) rfl rfl rfl rfl rfl rfl rfl rfl) rfl rfl (by omega) rfl (fun i _ => (congrFun (bk_u1 (T_mk (T_nb tA) (T_np tA) (T_sd tA) (T_wh tA) (T_gn tA) (upd (T_wo tA) (T_nb tA) iA) (T_ne tA) (T_go tA) (T_ag tA) (T_re tA) (T_me tA) (T_te tA) (T_kn tA)) (T_nb tA) 0) i).symm) (fun j hj => congrArg (zzI cy (rB j) 4) (bk_n1 (T_mk (T_nb tA) (T_np tA) (T_sd tA) (T_wh tA) (T_gn tA) (upd (T_wo tA) (T_nb tA) iA) (T_ne tA) (T_go tA) (T_ag tA) (T_re tA) (T_me tA) (T_te tA) (T_kn tA)) (T_nb tA) 0 hj))
  clear hP hD
  obtain ⟨hP, hD⟩ := hPD
  refine lv_aload_n hx hb dX6_newBook_24 rfl (lv_at hl 0 rfl) ?_
  refine va_get (D := G) (ci := 5) (v := .ref qmB) (C := RX6) (T := TX6) (N := 35) hx hb hts iX_X6 hown hK hP 0 rfl rfl 11 (by decide) (hts _ m_t861) (fun _ h9 => h9) rfl dX6_newBook_25 ?_
  refine lv_aload_n hx hb dX6_newBook_28 rfl (lv_at hl 0 rfl) ?_
  refine va_get (D := G) (ci := 5) (v := .int (nI (T_nb tA))) (C := RX6) (T := TX6) (N := 35) hx hb hts iX_X6 hown hK hP 0 rfl rfl 10 (by decide) (hts _ m_t860) (fun _ h9 => h9) rfl dX6_newBook_29 ?_
  refine va_alda hx hb hK hP 1 3 rfl rfl (in8 (by omega)) dX6_newBook_32 ?_
  refine lv_setv (v := .ref (rB (T_nb tA))) (g_ref (by omega)) ?_
  refine lv_iconst (v := 2) hx hb dX6_newBook_33 (by decide) ?_
  refine lv_sipush (v := 1000) hx hb dX6_newBook_34 (by decide) ?_
  refine va_iast hx hb hK hP hD hS (2 + (T_nb tA)) 0 ((sg8 (n0 := 2) (f := (fun j => zzI cy (rB j) 4 (bkR (T_mk (T_nb tA) (T_np tA) (T_sd tA) (T_wh tA) (T_gn tA) (upd (T_wo tA) (T_nb tA) iA) (upd (T_ne tA) (T_nb tA) 0) (T_go tA) (T_ag tA) (T_re tA) (T_me tA) (T_te tA) (T_kn tA)) j))) rfl rfl rfl rfl rfl rfl rfl rfl) (T_nb tA) (by omega)) rfl (in_c rfl) dX6_newBook_37 (fun H locs => ?_)
  clear hP hD hS
  intro hP hD hS
  have hPD := st8PD (ws' := [zzO qm 5 [v0, v1, v2, v3, v4, v5, v6, v7, v8, v9, .int (nI (T_nb tA)), .ref qmB, .int (nI (T_np tA)), .ref qmO, .ref qmK, .int iEn, .int iTk, .int (T_sd tA), v18, v19, v20, v21, v22, v23, v24, v25, v26, .int iLv, .int iWs, v29, v30, v31, v32, v33, v34], zzG cy 3 qmB rB, zzI cy (rB 0) 4 (bkR (T_mk (T_nb tA) (T_np tA) (T_sd tA) (T_wh tA) (T_gn tA) (upd (T_wo tA) (T_nb tA) iA) (upd (T_ne tA) (T_nb tA) 0) (upd (T_go tA) (T_nb tA) 1000) (T_ag tA) (T_re tA) (T_me tA) (T_te tA) (T_kn tA)) 0), zzI cy (rB 1) 4 (bkR (T_mk (T_nb tA) (T_np tA) (T_sd tA) (T_wh tA) (T_gn tA) (upd (T_wo tA) (T_nb tA) iA) (upd (T_ne tA) (T_nb tA) 0) (upd (T_go tA) (T_nb tA) 1000) (T_ag tA) (T_re tA) (T_me tA) (T_te tA) (T_kn tA)) 1), zzI cy (rB 2) 4 (bkR (T_mk (T_nb tA) (T_np tA) (T_sd tA) (T_wh tA) (T_gn tA) (upd (T_wo tA) (T_nb tA) iA) (upd (T_ne tA) (T_nb tA) 0) (upd (T_go tA) (T_nb tA) 1000) (T_ag tA) (T_re tA) (T_me tA) (T_te tA) (T_kn tA)) 2), zzI cy (rB 3) 4 (bkR (T_mk (T_nb tA) (T_np tA) (T_sd tA) (T_wh tA) (T_gn tA) (upd (T_wo tA) (T_nb tA) iA) (upd (T_ne tA) (T_nb tA) 0) (upd (T_go tA) (T_nb tA) 1000) (T_ag tA) (T_re tA) (T_me tA) (T_te tA) (T_kn tA)) 3), zzI cy (rB 4) 4 (bkR (T_mk (T_nb tA) (T_np tA) (T_sd tA) (T_wh tA) (T_gn tA) (upd (T_wo tA) (T_nb tA) iA) (upd (T_ne tA) (T_nb tA) 0) (upd (T_go tA) (T_nb tA) 1000) (T_ag tA) (T_re tA) (T_me tA) (T_te tA) (T_kn tA)) 4), zzI cy (rB 5) 4 (bkR (T_mk (T_nb tA) (T_np tA) (T_sd tA) (T_wh tA) (T_gn tA) (upd (T_wo tA) (T_nb tA) iA) (upd (T_ne tA) (T_nb tA) 0) (upd (T_go tA) (T_nb tA) 1000) (T_ag tA) (T_re tA) (T_me tA) (T_te tA) (T_kn tA)) 5), zzI cy (rB 6) 4 (bkR (T_mk (T_nb tA) (T_np tA) (T_sd tA) (T_wh tA) (T_gn tA) (upd (T_wo tA) (T_nb tA) iA) (upd (T_ne tA) (T_nb tA) 0) (upd (T_go tA) (T_nb tA) 1000) (T_ag tA) (T_re tA) (T_me tA) (T_te tA) (T_kn tA)) 6), zzI cy (rB 7) 4 (bkR (T_mk (T_nb tA) (T_np tA) (T_sd tA) (T_wh tA) (T_gn tA) (upd (T_wo tA) (T_nb tA) iA) (upd (T_ne tA) (T_nb tA) 0) (upd (T_go tA) (T_nb tA) 1000) (T_ag tA) (T_re tA) (T_me tA) (T_te tA) (T_kn tA)) 7), zzG cy 3 qmO rO, zzI cy (rO 0) 5 (onR (T_mk (T_nb tA) (T_np tA) (T_sd tA) (T_wh tA) (T_gn tA) (upd (T_wo tA) (T_nb tA) iA) (upd (T_ne tA) (T_nb tA) 0) (upd (T_go tA) (T_nb tA) 1000) (T_ag tA) (T_re tA) (T_me tA) (T_te tA) (T_kn tA)) 0), zzI cy (rO 1) 5 (onR (T_mk (T_nb tA) (T_np tA) (T_sd tA) (T_wh tA) (T_gn tA) (upd (T_wo tA) (T_nb tA) iA) (upd (T_ne tA) (T_nb tA) 0) (upd (T_go tA) (T_nb tA) 1000) (T_ag tA) (T_re tA) (T_me tA) (T_te tA) (T_kn tA)) 1), zzI cy (rO 2) 5 (onR (T_mk (T_nb tA) (T_np tA) (T_sd tA) (T_wh tA) (T_gn tA) (upd (T_wo tA) (T_nb tA) iA) (upd (T_ne tA) (T_nb tA) 0) (upd (T_go tA) (T_nb tA) 1000) (T_ag tA) (T_re tA) (T_me tA) (T_te tA) (T_kn tA)) 2), zzI cy (rO 3) 5 (onR (T_mk (T_nb tA) (T_np tA) (T_sd tA) (T_wh tA) (T_gn tA) (upd (T_wo tA) (T_nb tA) iA) (upd (T_ne tA) (T_nb tA) 0) (upd (T_go tA) (T_nb tA) 1000) (T_ag tA) (T_re tA) (T_me tA) (T_te tA) (T_kn tA)) 3), zzI cy (rO 4) 5 (onR (T_mk (T_nb tA) (T_np tA) (T_sd tA) (T_wh tA) (T_gn tA) (upd (T_wo tA) (T_nb tA) iA) (upd (T_ne tA) (T_nb tA) 0) (upd (T_go tA) (T_nb tA) 1000) (T_ag tA) (T_re tA) (T_me tA) (T_te tA) (T_kn tA)) 4), zzI cy (rO 5) 5 (onR (T_mk (T_nb tA) (T_np tA) (T_sd tA) (T_wh tA) (T_gn tA) (upd (T_wo tA) (T_nb tA) iA) (upd (T_ne tA) (T_nb tA) 0) (upd (T_go tA) (T_nb tA) 1000) (T_ag tA) (T_re tA) (T_me tA) (T_te tA) (T_kn tA)) 5), zzI cy (rO 6) 5 (onR (T_mk (T_nb tA) (T_np tA) (T_sd tA) (T_wh tA) (T_gn tA) (upd (T_wo tA) (T_nb tA) iA) (upd (T_ne tA) (T_nb tA) 0) (upd (T_go tA) (T_nb tA) 1000) (T_ag tA) (T_re tA) (T_me tA) (T_te tA) (T_kn tA)) 6), zzI cy (rO 7) 5 (onR (T_mk (T_nb tA) (T_np tA) (T_sd tA) (T_wh tA) (T_gn tA) (upd (T_wo tA) (T_nb tA) iA) (upd (T_ne tA) (T_nb tA) 0) (upd (T_go tA) (T_nb tA) 1000) (T_ag tA) (T_re tA) (T_me tA) (T_te tA) (T_kn tA)) 7), zzG cy 3 qmK rK, zzI cy (rK 0) 8 (T_kn (T_mk (T_nb tA) (T_np tA) (T_sd tA) (T_wh tA) (T_gn tA) (upd (T_wo tA) (T_nb tA) iA) (upd (T_ne tA) (T_nb tA) 0) (upd (T_go tA) (T_nb tA) 1000) (T_ag tA) (T_re tA) (T_me tA) (T_te tA) (T_kn tA)) 0), zzI cy (rK 1) 8 (T_kn (T_mk (T_nb tA) (T_np tA) (T_sd tA) (T_wh tA) (T_gn tA) (upd (T_wo tA) (T_nb tA) iA) (upd (T_ne tA) (T_nb tA) 0) (upd (T_go tA) (T_nb tA) 1000) (T_ag tA) (T_re tA) (T_me tA) (T_te tA) (T_kn tA)) 1), zzI cy (rK 2) 8 (T_kn (T_mk (T_nb tA) (T_np tA) (T_sd tA) (T_wh tA) (T_gn tA) (upd (T_wo tA) (T_nb tA) iA) (upd (T_ne tA) (T_nb tA) 0) (upd (T_go tA) (T_nb tA) 1000) (T_ag tA) (T_re tA) (T_me tA) (T_te tA) (T_kn tA)) 2), zzI cy (rK 3) 8 (T_kn (T_mk (T_nb tA) (T_np tA) (T_sd tA) (T_wh tA) (T_gn tA) (upd (T_wo tA) (T_nb tA) iA) (upd (T_ne tA) (T_nb tA) 0) (upd (T_go tA) (T_nb tA) 1000) (T_ag tA) (T_re tA) (T_me tA) (T_te tA) (T_kn tA)) 3), zzI cy (rK 4) 8 (T_kn (T_mk (T_nb tA) (T_np tA) (T_sd tA) (T_wh tA) (T_gn tA) (upd (T_wo tA) (T_nb tA) iA) (upd (T_ne tA) (T_nb tA) 0) (upd (T_go tA) (T_nb tA) 1000) (T_ag tA) (T_re tA) (T_me tA) (T_te tA) (T_kn tA)) 4), zzI cy (rK 5) 8 (T_kn (T_mk (T_nb tA) (T_np tA) (T_sd tA) (T_wh tA) (T_gn tA) (upd (T_wo tA) (T_nb tA) iA) (upd (T_ne tA) (T_nb tA) 0) (upd (T_go tA) (T_nb tA) 1000) (T_ag tA) (T_re tA) (T_me tA) (T_te tA) (T_kn tA)) 5), zzI cy (rK 6) 8 (T_kn (T_mk (T_nb tA) (T_np tA) (T_sd tA) (T_wh tA) (T_gn tA) (upd (T_wo tA) (T_nb tA) iA) (upd (T_ne tA) (T_nb tA) 0) (upd (T_go tA) (T_nb tA) 1000) (T_ag tA) (T_re tA) (T_me tA) (T_te tA) (T_kn tA)) 6), zzI cy (rK 7) 8 (T_kn (T_mk (T_nb tA) (T_np tA) (T_sd tA) (T_wh tA) (T_gn tA) (upd (T_wo tA) (T_nb tA) iA) (upd (T_ne tA) (T_nb tA) 0) (upd (T_go tA) (T_nb tA) 1000) (T_ag tA) (T_re tA) (T_me tA) (T_te tA) (T_kn tA)) 7)]) (k := (T_nb tA)) (g1 := bkR (T_mk (T_nb tA) (T_np tA) (T_sd tA) (T_wh tA) (T_gn tA) (upd (T_wo tA) (T_nb tA) iA) (upd (T_ne tA) (T_nb tA) 0) (upd (T_go tA) (T_nb tA) 1000) (T_ag tA) (T_re tA) (T_me tA) (T_te tA) (T_kn tA)) (T_nb tA)) hP hD (sg8 (n0 := 2) (f := (fun j => zzI cy (rB j) 4 (bkR (T_mk (T_nb tA) (T_np tA) (T_sd tA) (T_wh tA) (T_gn tA) (upd (T_wo tA) (T_nb tA) iA) (upd (T_ne tA) (T_nb tA) 0) (T_go tA) (T_ag tA) (T_re tA) (T_me tA) (T_te tA) (T_kn tA)) j))) rfl rfl rfl rfl rfl rfl rfl rfl) (sg8 (n0 := 2) (f := (fun j => zzI cy (rB j) 4 (bkR (T_mk (T_nb tA) (T_np tA) (T_sd tA) (T_wh tA) (T_gn tA) (upd (T_wo tA) (T_nb tA) iA) (upd (T_ne tA) (T_nb tA) 0) (upd (T_go tA) (T_nb tA) 1000) (T_ag tA) (T_re tA) (T_me tA) (T_te tA) (T_kn tA)) j))) rfl rfl rfl rfl rfl rfl rfl rfl) rfl rfl (by omega) rfl (fun i _ => (congrFun (bk_u2 (T_mk (T_nb tA) (T_np tA) (T_sd tA) (T_wh tA) (T_gn tA) (upd (T_wo tA) (T_nb tA) iA) (upd (T_ne tA) (T_nb tA) 0) (T_go tA) (T_ag tA) (T_re tA) (T_me tA) (T_te tA) (T_kn tA)) (T_nb tA) 1000) i).symm) (fun j hj => congrArg (zzI cy (rB j) 4) (bk_n2 (T_mk (T_nb tA) (T_np tA) (T_sd tA) (T_wh tA) (T_gn tA) (upd (T_wo tA) (T_nb tA) iA) (upd (T_ne tA) (T_nb tA) 0) (T_go tA) (T_ag tA) (T_re tA) (T_me tA) (T_te tA) (T_kn tA)) (T_nb tA) 1000 hj))
  clear hP hD
  obtain ⟨hP, hD⟩ := hPD
  refine lv_aload_n hx hb dX6_newBook_38 rfl (lv_at hl 0 rfl) ?_
  refine va_get (D := G) (ci := 5) (v := .ref qmB) (C := RX6) (T := TX6) (N := 35) hx hb hts iX_X6 hown hK hP 0 rfl rfl 11 (by decide) (hts _ m_t861) (fun _ h9 => h9) rfl dX6_newBook_39 ?_
  refine lv_aload_n hx hb dX6_newBook_42 rfl (lv_at hl 0 rfl) ?_
  refine va_get (D := G) (ci := 5) (v := .int (nI (T_nb tA))) (C := RX6) (T := TX6) (N := 35) hx hb hts iX_X6 hown hK hP 0 rfl rfl 10 (by decide) (hts _ m_t860) (fun _ h9 => h9) rfl dX6_newBook_43 ?_
  refine va_alda hx hb hK hP 1 3 rfl rfl (in8 (by omega)) dX6_newBook_46 ?_
  refine lv_setv (v := .ref (rB (T_nb tA))) (g_ref (by omega)) ?_
  refine lv_iconst (v := 3) hx hb dX6_newBook_47 (by decide) ?_
  refine lv_iconst (v := 0) hx hb dX6_newBook_48 (by decide) ?_
  refine va_iast hx hb hK hP hD hS (2 + (T_nb tA)) 0 ((sg8 (n0 := 2) (f := (fun j => zzI cy (rB j) 4 (bkR (T_mk (T_nb tA) (T_np tA) (T_sd tA) (T_wh tA) (T_gn tA) (upd (T_wo tA) (T_nb tA) iA) (upd (T_ne tA) (T_nb tA) 0) (upd (T_go tA) (T_nb tA) 1000) (T_ag tA) (T_re tA) (T_me tA) (T_te tA) (T_kn tA)) j))) rfl rfl rfl rfl rfl rfl rfl rfl) (T_nb tA) (by omega)) rfl (in_c rfl) dX6_newBook_49 (fun H locs => ?_)
  clear hP hD hS
  intro hP hD hS
  have hPD := st8PD (ws' := [zzO qm 5 [v0, v1, v2, v3, v4, v5, v6, v7, v8, v9, .int (nI (T_nb tA)), .ref qmB, .int (nI (T_np tA)), .ref qmO, .ref qmK, .int iEn, .int iTk, .int (T_sd tA), v18, v19, v20, v21, v22, v23, v24, v25, v26, .int iLv, .int iWs, v29, v30, v31, v32, v33, v34], zzG cy 3 qmB rB, zzI cy (rB 0) 4 (bkR (T_mk (T_nb tA) (T_np tA) (T_sd tA) (updB (T_wh tA) (T_nb tA) false) (T_gn tA) (upd (T_wo tA) (T_nb tA) iA) (upd (T_ne tA) (T_nb tA) 0) (upd (T_go tA) (T_nb tA) 1000) (T_ag tA) (T_re tA) (T_me tA) (T_te tA) (T_kn tA)) 0), zzI cy (rB 1) 4 (bkR (T_mk (T_nb tA) (T_np tA) (T_sd tA) (updB (T_wh tA) (T_nb tA) false) (T_gn tA) (upd (T_wo tA) (T_nb tA) iA) (upd (T_ne tA) (T_nb tA) 0) (upd (T_go tA) (T_nb tA) 1000) (T_ag tA) (T_re tA) (T_me tA) (T_te tA) (T_kn tA)) 1), zzI cy (rB 2) 4 (bkR (T_mk (T_nb tA) (T_np tA) (T_sd tA) (updB (T_wh tA) (T_nb tA) false) (T_gn tA) (upd (T_wo tA) (T_nb tA) iA) (upd (T_ne tA) (T_nb tA) 0) (upd (T_go tA) (T_nb tA) 1000) (T_ag tA) (T_re tA) (T_me tA) (T_te tA) (T_kn tA)) 2), zzI cy (rB 3) 4 (bkR (T_mk (T_nb tA) (T_np tA) (T_sd tA) (updB (T_wh tA) (T_nb tA) false) (T_gn tA) (upd (T_wo tA) (T_nb tA) iA) (upd (T_ne tA) (T_nb tA) 0) (upd (T_go tA) (T_nb tA) 1000) (T_ag tA) (T_re tA) (T_me tA) (T_te tA) (T_kn tA)) 3), zzI cy (rB 4) 4 (bkR (T_mk (T_nb tA) (T_np tA) (T_sd tA) (updB (T_wh tA) (T_nb tA) false) (T_gn tA) (upd (T_wo tA) (T_nb tA) iA) (upd (T_ne tA) (T_nb tA) 0) (upd (T_go tA) (T_nb tA) 1000) (T_ag tA) (T_re tA) (T_me tA) (T_te tA) (T_kn tA)) 4), zzI cy (rB 5) 4 (bkR (T_mk (T_nb tA) (T_np tA) (T_sd tA) (updB (T_wh tA) (T_nb tA) false) (T_gn tA) (upd (T_wo tA) (T_nb tA) iA) (upd (T_ne tA) (T_nb tA) 0) (upd (T_go tA) (T_nb tA) 1000) (T_ag tA) (T_re tA) (T_me tA) (T_te tA) (T_kn tA)) 5), zzI cy (rB 6) 4 (bkR (T_mk (T_nb tA) (T_np tA) (T_sd tA) (updB (T_wh tA) (T_nb tA) false) (T_gn tA) (upd (T_wo tA) (T_nb tA) iA) (upd (T_ne tA) (T_nb tA) 0) (upd (T_go tA) (T_nb tA) 1000) (T_ag tA) (T_re tA) (T_me tA) (T_te tA) (T_kn tA)) 6), zzI cy (rB 7) 4 (bkR (T_mk (T_nb tA) (T_np tA) (T_sd tA) (updB (T_wh tA) (T_nb tA) false) (T_gn tA) (upd (T_wo tA) (T_nb tA) iA) (upd (T_ne tA) (T_nb tA) 0) (upd (T_go tA) (T_nb tA) 1000) (T_ag tA) (T_re tA) (T_me tA) (T_te tA) (T_kn tA)) 7), zzG cy 3 qmO rO, zzI cy (rO 0) 5 (onR (T_mk (T_nb tA) (T_np tA) (T_sd tA) (updB (T_wh tA) (T_nb tA) false) (T_gn tA) (upd (T_wo tA) (T_nb tA) iA) (upd (T_ne tA) (T_nb tA) 0) (upd (T_go tA) (T_nb tA) 1000) (T_ag tA) (T_re tA) (T_me tA) (T_te tA) (T_kn tA)) 0), zzI cy (rO 1) 5 (onR (T_mk (T_nb tA) (T_np tA) (T_sd tA) (updB (T_wh tA) (T_nb tA) false) (T_gn tA) (upd (T_wo tA) (T_nb tA) iA) (upd (T_ne tA) (T_nb tA) 0) (upd (T_go tA) (T_nb tA) 1000) (T_ag tA) (T_re tA) (T_me tA) (T_te tA) (T_kn tA)) 1), zzI cy (rO 2) 5 (onR (T_mk (T_nb tA) (T_np tA) (T_sd tA) (updB (T_wh tA) (T_nb tA) false) (T_gn tA) (upd (T_wo tA) (T_nb tA) iA) (upd (T_ne tA) (T_nb tA) 0) (upd (T_go tA) (T_nb tA) 1000) (T_ag tA) (T_re tA) (T_me tA) (T_te tA) (T_kn tA)) 2), zzI cy (rO 3) 5 (onR (T_mk (T_nb tA) (T_np tA) (T_sd tA) (updB (T_wh tA) (T_nb tA) false) (T_gn tA) (upd (T_wo tA) (T_nb tA) iA) (upd (T_ne tA) (T_nb tA) 0) (upd (T_go tA) (T_nb tA) 1000) (T_ag tA) (T_re tA) (T_me tA) (T_te tA) (T_kn tA)) 3), zzI cy (rO 4) 5 (onR (T_mk (T_nb tA) (T_np tA) (T_sd tA) (updB (T_wh tA) (T_nb tA) false) (T_gn tA) (upd (T_wo tA) (T_nb tA) iA) (upd (T_ne tA) (T_nb tA) 0) (upd (T_go tA) (T_nb tA) 1000) (T_ag tA) (T_re tA) (T_me tA) (T_te tA) (T_kn tA)) 4), zzI cy (rO 5) 5 (onR (T_mk (T_nb tA) (T_np tA) (T_sd tA) (updB (T_wh tA) (T_nb tA) false) (T_gn tA) (upd (T_wo tA) (T_nb tA) iA) (upd (T_ne tA) (T_nb tA) 0) (upd (T_go tA) (T_nb tA) 1000) (T_ag tA) (T_re tA) (T_me tA) (T_te tA) (T_kn tA)) 5), zzI cy (rO 6) 5 (onR (T_mk (T_nb tA) (T_np tA) (T_sd tA) (updB (T_wh tA) (T_nb tA) false) (T_gn tA) (upd (T_wo tA) (T_nb tA) iA) (upd (T_ne tA) (T_nb tA) 0) (upd (T_go tA) (T_nb tA) 1000) (T_ag tA) (T_re tA) (T_me tA) (T_te tA) (T_kn tA)) 6), zzI cy (rO 7) 5 (onR (T_mk (T_nb tA) (T_np tA) (T_sd tA) (updB (T_wh tA) (T_nb tA) false) (T_gn tA) (upd (T_wo tA) (T_nb tA) iA) (upd (T_ne tA) (T_nb tA) 0) (upd (T_go tA) (T_nb tA) 1000) (T_ag tA) (T_re tA) (T_me tA) (T_te tA) (T_kn tA)) 7), zzG cy 3 qmK rK, zzI cy (rK 0) 8 (T_kn (T_mk (T_nb tA) (T_np tA) (T_sd tA) (updB (T_wh tA) (T_nb tA) false) (T_gn tA) (upd (T_wo tA) (T_nb tA) iA) (upd (T_ne tA) (T_nb tA) 0) (upd (T_go tA) (T_nb tA) 1000) (T_ag tA) (T_re tA) (T_me tA) (T_te tA) (T_kn tA)) 0), zzI cy (rK 1) 8 (T_kn (T_mk (T_nb tA) (T_np tA) (T_sd tA) (updB (T_wh tA) (T_nb tA) false) (T_gn tA) (upd (T_wo tA) (T_nb tA) iA) (upd (T_ne tA) (T_nb tA) 0) (upd (T_go tA) (T_nb tA) 1000) (T_ag tA) (T_re tA) (T_me tA) (T_te tA) (T_kn tA)) 1), zzI cy (rK 2) 8 (T_kn (T_mk (T_nb tA) (T_np tA) (T_sd tA) (updB (T_wh tA) (T_nb tA) false) (T_gn tA) (upd (T_wo tA) (T_nb tA) iA) (upd (T_ne tA) (T_nb tA) 0) (upd (T_go tA) (T_nb tA) 1000) (T_ag tA) (T_re tA) (T_me tA) (T_te tA) (T_kn tA)) 2), zzI cy (rK 3) 8 (T_kn (T_mk (T_nb tA) (T_np tA) (T_sd tA) (updB (T_wh tA) (T_nb tA) false) (T_gn tA) (upd (T_wo tA) (T_nb tA) iA) (upd (T_ne tA) (T_nb tA) 0) (upd (T_go tA) (T_nb tA) 1000) (T_ag tA) (T_re tA) (T_me tA) (T_te tA) (T_kn tA)) 3), zzI cy (rK 4) 8 (T_kn (T_mk (T_nb tA) (T_np tA) (T_sd tA) (updB (T_wh tA) (T_nb tA) false) (T_gn tA) (upd (T_wo tA) (T_nb tA) iA) (upd (T_ne tA) (T_nb tA) 0) (upd (T_go tA) (T_nb tA) 1000) (T_ag tA) (T_re tA) (T_me tA) (T_te tA) (T_kn tA)) 4), zzI cy (rK 5) 8 (T_kn (T_mk (T_nb tA) (T_np tA) (T_sd tA) (updB (T_wh tA) (T_nb tA) false) (T_gn tA) (upd (T_wo tA) (T_nb tA) iA) (upd (T_ne tA) (T_nb tA) 0) (upd (T_go tA) (T_nb tA) 1000) (T_ag tA) (T_re tA) (T_me tA) (T_te tA) (T_kn tA)) 5), zzI cy (rK 6) 8 (T_kn (T_mk (T_nb tA) (T_np tA) (T_sd tA) (updB (T_wh tA) (T_nb tA) false) (T_gn tA) (upd (T_wo tA) (T_nb tA) iA) (upd (T_ne tA) (T_nb tA) 0) (upd (T_go tA) (T_nb tA) 1000) (T_ag tA) (T_re tA) (T_me tA) (T_te tA) (T_kn tA)) 6), zzI cy (rK 7) 8 (T_kn (T_mk (T_nb tA) (T_np tA) (T_sd tA) (updB (T_wh tA) (T_nb tA) false) (T_gn tA) (upd (T_wo tA) (T_nb tA) iA) (upd (T_ne tA) (T_nb tA) 0) (upd (T_go tA) (T_nb tA) 1000) (T_ag tA) (T_re tA) (T_me tA) (T_te tA) (T_kn tA)) 7)]) (k := (T_nb tA)) (g1 := bkR (T_mk (T_nb tA) (T_np tA) (T_sd tA) (updB (T_wh tA) (T_nb tA) false) (T_gn tA) (upd (T_wo tA) (T_nb tA) iA) (upd (T_ne tA) (T_nb tA) 0) (upd (T_go tA) (T_nb tA) 1000) (T_ag tA) (T_re tA) (T_me tA) (T_te tA) (T_kn tA)) (T_nb tA)) hP hD (sg8 (n0 := 2) (f := (fun j => zzI cy (rB j) 4 (bkR (T_mk (T_nb tA) (T_np tA) (T_sd tA) (T_wh tA) (T_gn tA) (upd (T_wo tA) (T_nb tA) iA) (upd (T_ne tA) (T_nb tA) 0) (upd (T_go tA) (T_nb tA) 1000) (T_ag tA) (T_re tA) (T_me tA) (T_te tA) (T_kn tA)) j))) rfl rfl rfl rfl rfl rfl rfl rfl) (sg8 (n0 := 2) (f := (fun j => zzI cy (rB j) 4 (bkR (T_mk (T_nb tA) (T_np tA) (T_sd tA) (updB (T_wh tA) (T_nb tA) false) (T_gn tA) (upd (T_wo tA) (T_nb tA) iA) (upd (T_ne tA) (T_nb tA) 0) (upd (T_go tA) (T_nb tA) 1000) (T_ag tA) (T_re tA) (T_me tA) (T_te tA) (T_kn tA)) j))) rfl rfl rfl rfl rfl rfl rfl rfl) rfl rfl (by omega) rfl (bk_w3 (T_mk (T_nb tA) (T_np tA) (T_sd tA) (T_wh tA) (T_gn tA) (upd (T_wo tA) (T_nb tA) iA) (upd (T_ne tA) (T_nb tA) 0) (upd (T_go tA) (T_nb tA) 1000) (T_ag tA) (T_re tA) (T_me tA) (T_te tA) (T_kn tA)) (T_nb tA) false) (fun j hj => congrArg (zzI cy (rB j) 4) (bk_n3 (T_mk (T_nb tA) (T_np tA) (T_sd tA) (T_wh tA) (T_gn tA) (upd (T_wo tA) (T_nb tA) iA) (upd (T_ne tA) (T_nb tA) 0) (upd (T_go tA) (T_nb tA) 1000) (T_ag tA) (T_re tA) (T_me tA) (T_te tA) (T_kn tA)) (T_nb tA) false hj))
  clear hP hD
  obtain ⟨hP, hD⟩ := hPD
  refine lv_iconst (v := 0) hx hb dX6_newBook_50 (by decide) ?_
  refine lv_istore_n (lv' := [(2, .int 0), (0, .ref qm), (1, .int iA)]) hx hb dX6_newBook_51 rfl hl (by decide) rfl (fun ls => ?_)
  clear hl
  intro hl
  have hPD := pd_as [zzO qm 5 [v0, v1, v2, v3, v4, v5, v6, v7, v8, v9, .int (nI (T_nb (nb0 tA iA))), .ref qmB, .int (nI (T_np (nb0 tA iA))), .ref qmO, .ref qmK, .int iEn, .int iTk, .int (T_sd (nb0 tA iA)), v18, v19, v20, v21, v22, v23, v24, v25, v26, .int iLv, .int iWs, v29, v30, v31, v32, v33, v34], zzG cy 3 qmB rB, zzI cy (rB 0) 4 (bkR (nb0 tA iA) 0), zzI cy (rB 1) 4 (bkR (nb0 tA iA) 1), zzI cy (rB 2) 4 (bkR (nb0 tA iA) 2), zzI cy (rB 3) 4 (bkR (nb0 tA iA) 3), zzI cy (rB 4) 4 (bkR (nb0 tA iA) 4), zzI cy (rB 5) 4 (bkR (nb0 tA iA) 5), zzI cy (rB 6) 4 (bkR (nb0 tA iA) 6), zzI cy (rB 7) 4 (bkR (nb0 tA iA) 7), zzG cy 3 qmO rO, zzI cy (rO 0) 5 (onR (nb0 tA iA) 0), zzI cy (rO 1) 5 (onR (nb0 tA iA) 1), zzI cy (rO 2) 5 (onR (nb0 tA iA) 2), zzI cy (rO 3) 5 (onR (nb0 tA iA) 3), zzI cy (rO 4) 5 (onR (nb0 tA iA) 4), zzI cy (rO 5) 5 (onR (nb0 tA iA) 5), zzI cy (rO 6) 5 (onR (nb0 tA iA) 6), zzI cy (rO 7) 5 (onR (nb0 tA iA) 7), zzG cy 3 qmK rK, zzI cy (rK 0) 8 (T_kn (nb0 tA iA) 0), zzI cy (rK 1) 8 (T_kn (nb0 tA iA) 1), zzI cy (rK 2) 8 (T_kn (nb0 tA iA) 2), zzI cy (rK 3) 8 (T_kn (nb0 tA iA) 3), zzI cy (rK 4) 8 (T_kn (nb0 tA iA) 4), zzI cy (rK 5) 8 (T_kn (nb0 tA iA) 5), zzI cy (rK 6) 8 (T_kn (nb0 tA iA) 6), zzI cy (rK 7) 8 (T_kn (nb0 tA iA) 7)] hP hD rfl
  clear hP hD
  obtain ⟨hP, hD⟩ := hPD
  have lp_1 : ∀ (n_2 : Nat) (j_4 : Nat) (tJ_5 : TA), 8 - j_4 < n_2 → j_4 ≤ 8 → tJ_5 = nbF (nb0 tA iA) j_4 → ∀ (H : Heap) (locs : List Loc) (ls : Array Slot), va_P G CL [zzO qm 5 [v0, v1, v2, v3, v4, v5, v6, v7, v8, v9, .int (nI (T_nb tJ_5)), .ref qmB, .int (nI (T_np tJ_5)), .ref qmO, .ref qmK, .int iEn, .int iTk, .int (T_sd tJ_5), v18, v19, v20, v21, v22, v23, v24, v25, v26, .int iLv, .int iWs, v29, v30, v31, v32, v33, v34], zzG cy 3 qmB rB, zzI cy (rB 0) 4 (bkR tJ_5 0), zzI cy (rB 1) 4 (bkR tJ_5 1), zzI cy (rB 2) 4 (bkR tJ_5 2), zzI cy (rB 3) 4 (bkR tJ_5 3), zzI cy (rB 4) 4 (bkR tJ_5 4), zzI cy (rB 5) 4 (bkR tJ_5 5), zzI cy (rB 6) 4 (bkR tJ_5 6), zzI cy (rB 7) 4 (bkR tJ_5 7), zzG cy 3 qmO rO, zzI cy (rO 0) 5 (onR tJ_5 0), zzI cy (rO 1) 5 (onR tJ_5 1), zzI cy (rO 2) 5 (onR tJ_5 2), zzI cy (rO 3) 5 (onR tJ_5 3), zzI cy (rO 4) 5 (onR tJ_5 4), zzI cy (rO 5) 5 (onR tJ_5 5), zzI cy (rO 6) 5 (onR tJ_5 6), zzI cy (rO 7) 5 (onR tJ_5 7), zzG cy 3 qmK rK, zzI cy (rK 0) 8 (T_kn tJ_5 0), zzI cy (rK 1) 8 (T_kn tJ_5 1), zzI cy (rK 2) 8 (T_kn tJ_5 2), zzI cy (rK 3) 8 (T_kn tJ_5 3), zzI cy (rK 4) 8 (T_kn tJ_5 4), zzI cy (rK 5) 8 (T_kn tJ_5 5), zzI cy (rK 6) 8 (T_kn tJ_5 6), zzI cy (rK 7) 8 (T_kn tJ_5 7)] H → va_D A [zzO qm 5 [v0, v1, v2, v3, v4, v5, v6, v7, v8, v9, .int (nI (T_nb tJ_5)), .ref qmB, .int (nI (T_np tJ_5)), .ref qmO, .ref qmK, .int iEn, .int iTk, .int (T_sd tJ_5), v18, v19, v20, v21, v22, v23, v24, v25, v26, .int iLv, .int iWs, v29, v30, v31, v32, v33, v34], zzG cy 3 qmB rB, zzI cy (rB 0) 4 (bkR tJ_5 0), zzI cy (rB 1) 4 (bkR tJ_5 1), zzI cy (rB 2) 4 (bkR tJ_5 2), zzI cy (rB 3) 4 (bkR tJ_5 3), zzI cy (rB 4) 4 (bkR tJ_5 4), zzI cy (rB 5) 4 (bkR tJ_5 5), zzI cy (rB 6) 4 (bkR tJ_5 6), zzI cy (rB 7) 4 (bkR tJ_5 7), zzG cy 3 qmO rO, zzI cy (rO 0) 5 (onR tJ_5 0), zzI cy (rO 1) 5 (onR tJ_5 1), zzI cy (rO 2) 5 (onR tJ_5 2), zzI cy (rO 3) 5 (onR tJ_5 3), zzI cy (rO 4) 5 (onR tJ_5 4), zzI cy (rO 5) 5 (onR tJ_5 5), zzI cy (rO 6) 5 (onR tJ_5 6), zzI cy (rO 7) 5 (onR tJ_5 7), zzG cy 3 qmK rK, zzI cy (rK 0) 8 (T_kn tJ_5 0), zzI cy (rK 1) 8 (T_kn tJ_5 1), zzI cy (rK 2) 8 (T_kn tJ_5 2), zzI cy (rK 3) 8 (T_kn tJ_5 3), zzI cy (rK 4) 8 (T_kn tJ_5 4), zzI cy (rK 5) 8 (T_kn tJ_5 5), zzI cy (rK 6) 8 (T_kn tJ_5 6), zzI cy (rK 7) 8 (T_kn tJ_5 7)] → va_S A s.heap H locs → lv_has ls 3 [(2, .int (nI j_4)), (0, .ref qm), (1, .int iA)] → W p l e (Rm 1 0 0) s m (List.toArray (α := Value) [.ref qm, .int iA]) below meth c H locs 0 0 (MQ below ((Wv G (fun u => u = [zzO qm 5 [v0, v1, v2, v3, v4, v5, v6, v7, v8, v9, .int (nI (T_nb (zNB tA iA))), .ref qmB, .int (nI (T_np (zNB tA iA))), .ref qmO, .ref qmK, .int iEn, .int iTk, .int (T_sd (zNB tA iA)), v18, v19, v20, v21, v22, v23, v24, v25, v26, .int iLv, .int iWs, v29, v30, v31, v32, v33, v34], zzG cy 3 qmB rB, zzI cy (rB 0) 4 (bkR (zNB tA iA) 0), zzI cy (rB 1) 4 (bkR (zNB tA iA) 1), zzI cy (rB 2) 4 (bkR (zNB tA iA) 2), zzI cy (rB 3) 4 (bkR (zNB tA iA) 3), zzI cy (rB 4) 4 (bkR (zNB tA iA) 4), zzI cy (rB 5) 4 (bkR (zNB tA iA) 5), zzI cy (rB 6) 4 (bkR (zNB tA iA) 6), zzI cy (rB 7) 4 (bkR (zNB tA iA) 7), zzG cy 3 qmO rO, zzI cy (rO 0) 5 (onR (zNB tA iA) 0), zzI cy (rO 1) 5 (onR (zNB tA iA) 1), zzI cy (rO 2) 5 (onR (zNB tA iA) 2), zzI cy (rO 3) 5 (onR (zNB tA iA) 3), zzI cy (rO 4) 5 (onR (zNB tA iA) 4), zzI cy (rO 5) 5 (onR (zNB tA iA) 5), zzI cy (rO 6) 5 (onR (zNB tA iA) 6), zzI cy (rO 7) 5 (onR (zNB tA iA) 7), zzG cy 3 qmK rK, zzI cy (rK 0) 8 (T_kn (zNB tA iA) 0), zzI cy (rK 1) 8 (T_kn (zNB tA iA) 1), zzI cy (rK 2) 8 (T_kn (zNB tA iA) 2), zzI cy (rK 3) 8 (T_kn (zNB tA iA) 3), zzI cy (rK 4) 8 (T_kn (zNB tA iA) 4), zzI cy (rK 5) 8 (T_kn (zNB tA iA) 5), zzI cy (rK 6) 8 (T_kn (zNB tA iA) 6), zzI cy (rK 7) 8 (T_kn (zNB tA iA) 7)])) A) (List.toArray (α := Value) [.ref qm, .int iA]) s 0 0 A) (F0 m 52 ls []) := by
    intro n_2
    induction n_2 with
    | zero => intro j_4 tJ_5 hm9; exact absurd hm9 (Nat.not_lt_zero _)
    | succ n_2 ih_3 =>
      intro j_4 tJ_5 hm_8 hj_6 htJ_7 H locs ls hP hD hS hl
      refine lv_iload_n hx hb dX6_newBook_52 rfl (lv_at hl 0 rfl) ?_
      refine lv_bipush (v := 8) hx hb dX6_newBook_53 (by decide) ?_
      refine lv_icmp_ge (tgt := 76) hx hb dX6_newBook_55 (by decide) (fun c_9 => ?_) (fun c_9 => ?_)
      · have hlt_10e : T_nb tJ_5 = T_nb tA := by rw [htJ_7]; exact (nbF_nb _ _).1
        have hlt_10 : j_4 = 8 := Nat.le_antisymm (by omega) (lp_ge rfl (rfl : (8 : Int32) = nI 8) (by omega) (by omega) c_9)
        have e9_11 : tJ_5 = zNB tA iA := by rw [htJ_7, hlt_10]; rfl
        subst e9_11
        exact endV (u := [zzO qm 5 [v0, v1, v2, v3, v4, v5, v6, v7, v8, v9, .int (nI (T_nb (zNB tA iA))), .ref qmB, .int (nI (T_np (zNB tA iA))), .ref qmO, .ref qmK, .int iEn, .int iTk, .int (T_sd (zNB tA iA)), v18, v19, v20, v21, v22, v23, v24, v25, v26, .int iLv, .int iWs, v29, v30, v31, v32, v33, v34], zzG cy 3 qmB rB, zzI cy (rB 0) 4 (bkR (zNB tA iA) 0), zzI cy (rB 1) 4 (bkR (zNB tA iA) 1), zzI cy (rB 2) 4 (bkR (zNB tA iA) 2), zzI cy (rB 3) 4 (bkR (zNB tA iA) 3), zzI cy (rB 4) 4 (bkR (zNB tA iA) 4), zzI cy (rB 5) 4 (bkR (zNB tA iA) 5), zzI cy (rB 6) 4 (bkR (zNB tA iA) 6), zzI cy (rB 7) 4 (bkR (zNB tA iA) 7), zzG cy 3 qmO rO, zzI cy (rO 0) 5 (onR (zNB tA iA) 0), zzI cy (rO 1) 5 (onR (zNB tA iA) 1), zzI cy (rO 2) 5 (onR (zNB tA iA) 2), zzI cy (rO 3) 5 (onR (zNB tA iA) 3), zzI cy (rO 4) 5 (onR (zNB tA iA) 4), zzI cy (rO 5) 5 (onR (zNB tA iA) 5), zzI cy (rO 6) 5 (onR (zNB tA iA) 6), zzI cy (rO 7) 5 (onR (zNB tA iA) 7), zzG cy 3 qmK rK, zzI cy (rK 0) 8 (T_kn (zNB tA iA) 0), zzI cy (rK 1) 8 (T_kn (zNB tA iA) 1), zzI cy (rK 2) 8 (T_kn (zNB tA iA) 2), zzI cy (rK 3) 8 (T_kn (zNB tA iA) 3), zzI cy (rK 4) 8 (T_kn (zNB tA iA) 4), zzI cy (rK 5) 8 (T_kn (zNB tA iA) 5), zzI cy (rK 6) 8 (T_kn (zNB tA iA) 6), zzI cy (rK 7) 8 (T_kn (zNB tA iA) 7)]) hx hb hr hlocks (hP.sub [0, 1, 2, 3, 4, 5, 6, 7, 8, 9, 10, 11, 12, 13, 14, 15, 16, 17, 18, 19, 20, 21, 22, 23, 24, 25, 26, 27] rfl) (hD.sub [0, 1, 2, 3, 4, 5, 6, 7, 8, 9, 10, 11, 12, 13, 14, 15, 16, 17, 18, 19, 20, 21, 22, 23, 24, 25, 26, 27] (by decide +kernel) rfl) hS rfl dX6_newBook_76
      · have hlt_12e : T_nb tJ_5 = T_nb tA := by rw [htJ_7]; exact (nbF_nb _ _).1
        have hlt_12 : j_4 < 8 := lp_lt rfl (rfl : (8 : Int32) = nI 8) (by omega) (by omega) c_9
        refine lv_aload_n hx hb dX6_newBook_58 rfl (lv_at hl 1 rfl) ?_
        refine va_get (D := G) (ci := 5) (v := .ref qmK) (C := RX6) (T := TX6) (N := 35) hx hb hts iX_X6 hown hK hP 0 rfl rfl 14 (by decide) (hts _ m_t864) (fun _ h9 => h9) rfl dX6_newBook_59 ?_
        refine lv_iload_n hx hb dX6_newBook_62 rfl (lv_at hl 0 rfl) ?_
        refine va_alda hx hb hK hP 19 3 rfl rfl (in8 (by omega)) dX6_newBook_63 ?_
        refine lv_setv (v := .ref (rK j_4)) (g_ref (by omega)) ?_
        refine lv_aload_n hx hb dX6_newBook_64 rfl (lv_at hl 1 rfl) ?_
        refine va_get (D := G) (ci := 5) (v := .int (nI (T_nb tJ_5))) (C := RX6) (T := TX6) (N := 35) hx hb hts iX_X6 hown hK hP 0 rfl rfl 10 (by decide) (hts _ m_t860) (fun _ h9 => h9) rfl dX6_newBook_65 ?_
        refine lv_iconst (v := 0) hx hb dX6_newBook_68 (by decide) ?_
        refine va_iast hx hb hK hP hD hS (20 + j_4) 0 ((sg8 (n0 := 20) (f := (fun j => zzI cy (rK j) 8 (T_kn tJ_5 j))) rfl rfl rfl rfl rfl rfl rfl rfl) j_4 (by omega)) rfl (vp_in_nI (by omega) (by omega)) dX6_newBook_69 (fun H locs => ?_)
        clear hP hD hS
        intro hP hD hS
        rw [nI_clamp (n := (T_nb tJ_5)) (by omega)] at hP hD
        have hPD := st8PD (ws' := [zzO qm 5 [v0, v1, v2, v3, v4, v5, v6, v7, v8, v9, .int (nI (T_nb tJ_5)), .ref qmB, .int (nI (T_np tJ_5)), .ref qmO, .ref qmK, .int iEn, .int iTk, .int (T_sd tJ_5), v18, v19, v20, v21, v22, v23, v24, v25, v26, .int iLv, .int iWs, v29, v30, v31, v32, v33, v34], zzG cy 3 qmB rB, zzI cy (rB 0) 4 (bkR (T_mk (T_nb tJ_5) (T_np tJ_5) (T_sd tJ_5) (T_wh tJ_5) (T_gn tJ_5) (T_wo tJ_5) (T_ne tJ_5) (T_go tJ_5) (T_ag tJ_5) (T_re tJ_5) (T_me tJ_5) (T_te tJ_5) (updM (T_kn tJ_5) j_4 (T_nb tJ_5) 0)) 0), zzI cy (rB 1) 4 (bkR (T_mk (T_nb tJ_5) (T_np tJ_5) (T_sd tJ_5) (T_wh tJ_5) (T_gn tJ_5) (T_wo tJ_5) (T_ne tJ_5) (T_go tJ_5) (T_ag tJ_5) (T_re tJ_5) (T_me tJ_5) (T_te tJ_5) (updM (T_kn tJ_5) j_4 (T_nb tJ_5) 0)) 1), zzI cy (rB 2) 4 (bkR (T_mk (T_nb tJ_5) (T_np tJ_5) (T_sd tJ_5) (T_wh tJ_5) (T_gn tJ_5) (T_wo tJ_5) (T_ne tJ_5) (T_go tJ_5) (T_ag tJ_5) (T_re tJ_5) (T_me tJ_5) (T_te tJ_5) (updM (T_kn tJ_5) j_4 (T_nb tJ_5) 0)) 2), zzI cy (rB 3) 4 (bkR (T_mk (T_nb tJ_5) (T_np tJ_5) (T_sd tJ_5) (T_wh tJ_5) (T_gn tJ_5) (T_wo tJ_5) (T_ne tJ_5) (T_go tJ_5) (T_ag tJ_5) (T_re tJ_5) (T_me tJ_5) (T_te tJ_5) (updM (T_kn tJ_5) j_4 (T_nb tJ_5) 0)) 3), zzI cy (rB 4) 4 (bkR (T_mk (T_nb tJ_5) (T_np tJ_5) (T_sd tJ_5) (T_wh tJ_5) (T_gn tJ_5) (T_wo tJ_5) (T_ne tJ_5) (T_go tJ_5) (T_ag tJ_5) (T_re tJ_5) (T_me tJ_5) (T_te tJ_5) (updM (T_kn tJ_5) j_4 (T_nb tJ_5) 0)) 4), zzI cy (rB 5) 4 (bkR (T_mk (T_nb tJ_5) (T_np tJ_5) (T_sd tJ_5) (T_wh tJ_5) (T_gn tJ_5) (T_wo tJ_5) (T_ne tJ_5) (T_go tJ_5) (T_ag tJ_5) (T_re tJ_5) (T_me tJ_5) (T_te tJ_5) (updM (T_kn tJ_5) j_4 (T_nb tJ_5) 0)) 5), zzI cy (rB 6) 4 (bkR (T_mk (T_nb tJ_5) (T_np tJ_5) (T_sd tJ_5) (T_wh tJ_5) (T_gn tJ_5) (T_wo tJ_5) (T_ne tJ_5) (T_go tJ_5) (T_ag tJ_5) (T_re tJ_5) (T_me tJ_5) (T_te tJ_5) (updM (T_kn tJ_5) j_4 (T_nb tJ_5) 0)) 6), zzI cy (rB 7) 4 (bkR (T_mk (T_nb tJ_5) (T_np tJ_5) (T_sd tJ_5) (T_wh tJ_5) (T_gn tJ_5) (T_wo tJ_5) (T_ne tJ_5) (T_go tJ_5) (T_ag tJ_5) (T_re tJ_5) (T_me tJ_5) (T_te tJ_5) (updM (T_kn tJ_5) j_4 (T_nb tJ_5) 0)) 7), zzG cy 3 qmO rO, zzI cy (rO 0) 5 (onR (T_mk (T_nb tJ_5) (T_np tJ_5) (T_sd tJ_5) (T_wh tJ_5) (T_gn tJ_5) (T_wo tJ_5) (T_ne tJ_5) (T_go tJ_5) (T_ag tJ_5) (T_re tJ_5) (T_me tJ_5) (T_te tJ_5) (updM (T_kn tJ_5) j_4 (T_nb tJ_5) 0)) 0), zzI cy (rO 1) 5 (onR (T_mk (T_nb tJ_5) (T_np tJ_5) (T_sd tJ_5) (T_wh tJ_5) (T_gn tJ_5) (T_wo tJ_5) (T_ne tJ_5) (T_go tJ_5) (T_ag tJ_5) (T_re tJ_5) (T_me tJ_5) (T_te tJ_5) (updM (T_kn tJ_5) j_4 (T_nb tJ_5) 0)) 1), zzI cy (rO 2) 5 (onR (T_mk (T_nb tJ_5) (T_np tJ_5) (T_sd tJ_5) (T_wh tJ_5) (T_gn tJ_5) (T_wo tJ_5) (T_ne tJ_5) (T_go tJ_5) (T_ag tJ_5) (T_re tJ_5) (T_me tJ_5) (T_te tJ_5) (updM (T_kn tJ_5) j_4 (T_nb tJ_5) 0)) 2), zzI cy (rO 3) 5 (onR (T_mk (T_nb tJ_5) (T_np tJ_5) (T_sd tJ_5) (T_wh tJ_5) (T_gn tJ_5) (T_wo tJ_5) (T_ne tJ_5) (T_go tJ_5) (T_ag tJ_5) (T_re tJ_5) (T_me tJ_5) (T_te tJ_5) (updM (T_kn tJ_5) j_4 (T_nb tJ_5) 0)) 3), zzI cy (rO 4) 5 (onR (T_mk (T_nb tJ_5) (T_np tJ_5) (T_sd tJ_5) (T_wh tJ_5) (T_gn tJ_5) (T_wo tJ_5) (T_ne tJ_5) (T_go tJ_5) (T_ag tJ_5) (T_re tJ_5) (T_me tJ_5) (T_te tJ_5) (updM (T_kn tJ_5) j_4 (T_nb tJ_5) 0)) 4), zzI cy (rO 5) 5 (onR (T_mk (T_nb tJ_5) (T_np tJ_5) (T_sd tJ_5) (T_wh tJ_5) (T_gn tJ_5) (T_wo tJ_5) (T_ne tJ_5) (T_go tJ_5) (T_ag tJ_5) (T_re tJ_5) (T_me tJ_5) (T_te tJ_5) (updM (T_kn tJ_5) j_4 (T_nb tJ_5) 0)) 5), zzI cy (rO 6) 5 (onR (T_mk (T_nb tJ_5) (T_np tJ_5) (T_sd tJ_5) (T_wh tJ_5) (T_gn tJ_5) (T_wo tJ_5) (T_ne tJ_5) (T_go tJ_5) (T_ag tJ_5) (T_re tJ_5) (T_me tJ_5) (T_te tJ_5) (updM (T_kn tJ_5) j_4 (T_nb tJ_5) 0)) 6), zzI cy (rO 7) 5 (onR (T_mk (T_nb tJ_5) (T_np tJ_5) (T_sd tJ_5) (T_wh tJ_5) (T_gn tJ_5) (T_wo tJ_5) (T_ne tJ_5) (T_go tJ_5) (T_ag tJ_5) (T_re tJ_5) (T_me tJ_5) (T_te tJ_5) (updM (T_kn tJ_5) j_4 (T_nb tJ_5) 0)) 7), zzG cy 3 qmK rK, zzI cy (rK 0) 8 (T_kn (T_mk (T_nb tJ_5) (T_np tJ_5) (T_sd tJ_5) (T_wh tJ_5) (T_gn tJ_5) (T_wo tJ_5) (T_ne tJ_5) (T_go tJ_5) (T_ag tJ_5) (T_re tJ_5) (T_me tJ_5) (T_te tJ_5) (updM (T_kn tJ_5) j_4 (T_nb tJ_5) 0)) 0), zzI cy (rK 1) 8 (T_kn (T_mk (T_nb tJ_5) (T_np tJ_5) (T_sd tJ_5) (T_wh tJ_5) (T_gn tJ_5) (T_wo tJ_5) (T_ne tJ_5) (T_go tJ_5) (T_ag tJ_5) (T_re tJ_5) (T_me tJ_5) (T_te tJ_5) (updM (T_kn tJ_5) j_4 (T_nb tJ_5) 0)) 1), zzI cy (rK 2) 8 (T_kn (T_mk (T_nb tJ_5) (T_np tJ_5) (T_sd tJ_5) (T_wh tJ_5) (T_gn tJ_5) (T_wo tJ_5) (T_ne tJ_5) (T_go tJ_5) (T_ag tJ_5) (T_re tJ_5) (T_me tJ_5) (T_te tJ_5) (updM (T_kn tJ_5) j_4 (T_nb tJ_5) 0)) 2), zzI cy (rK 3) 8 (T_kn (T_mk (T_nb tJ_5) (T_np tJ_5) (T_sd tJ_5) (T_wh tJ_5) (T_gn tJ_5) (T_wo tJ_5) (T_ne tJ_5) (T_go tJ_5) (T_ag tJ_5) (T_re tJ_5) (T_me tJ_5) (T_te tJ_5) (updM (T_kn tJ_5) j_4 (T_nb tJ_5) 0)) 3), zzI cy (rK 4) 8 (T_kn (T_mk (T_nb tJ_5) (T_np tJ_5) (T_sd tJ_5) (T_wh tJ_5) (T_gn tJ_5) (T_wo tJ_5) (T_ne tJ_5) (T_go tJ_5) (T_ag tJ_5) (T_re tJ_5) (T_me tJ_5) (T_te tJ_5) (updM (T_kn tJ_5) j_4 (T_nb tJ_5) 0)) 4), zzI cy (rK 5) 8 (T_kn (T_mk (T_nb tJ_5) (T_np tJ_5) (T_sd tJ_5) (T_wh tJ_5) (T_gn tJ_5) (T_wo tJ_5) (T_ne tJ_5) (T_go tJ_5) (T_ag tJ_5) (T_re tJ_5) (T_me tJ_5) (T_te tJ_5) (updM (T_kn tJ_5) j_4 (T_nb tJ_5) 0)) 5), zzI cy (rK 6) 8 (T_kn (T_mk (T_nb tJ_5) (T_np tJ_5) (T_sd tJ_5) (T_wh tJ_5) (T_gn tJ_5) (T_wo tJ_5) (T_ne tJ_5) (T_go tJ_5) (T_ag tJ_5) (T_re tJ_5) (T_me tJ_5) (T_te tJ_5) (updM (T_kn tJ_5) j_4 (T_nb tJ_5) 0)) 6), zzI cy (rK 7) 8 (T_kn (T_mk (T_nb tJ_5) (T_np tJ_5) (T_sd tJ_5) (T_wh tJ_5) (T_gn tJ_5) (T_wo tJ_5) (T_ne tJ_5) (T_go tJ_5) (T_ag tJ_5) (T_re tJ_5) (T_me tJ_5) (T_te tJ_5) (updM (T_kn tJ_5) j_4 (T_nb tJ_5) 0)) 7)]) (k := j_4) (g1 := T_kn (T_mk (T_nb tJ_5) (T_np tJ_5) (T_sd tJ_5) (T_wh tJ_5) (T_gn tJ_5) (T_wo tJ_5) (T_ne tJ_5) (T_go tJ_5) (T_ag tJ_5) (T_re tJ_5) (T_me tJ_5) (T_te tJ_5) (updM (T_kn tJ_5) j_4 (T_nb tJ_5) 0)) j_4) hP hD (sg8 (n0 := 20) (f := (fun j => zzI cy (rK j) 8 (T_kn tJ_5 j))) rfl rfl rfl rfl rfl rfl rfl rfl) (sg8 (n0 := 20) (f := (fun j => zzI cy (rK j) 8 (T_kn (T_mk (T_nb tJ_5) (T_np tJ_5) (T_sd tJ_5) (T_wh tJ_5) (T_gn tJ_5) (T_wo tJ_5) (T_ne tJ_5) (T_go tJ_5) (T_ag tJ_5) (T_re tJ_5) (T_me tJ_5) (T_te tJ_5) (updM (T_kn tJ_5) j_4 (T_nb tJ_5) 0)) j))) rfl rfl rfl rfl rfl rfl rfl rfl) rfl rfl (by omega) rfl (fun i _ => (congrFun (kn_u tJ_5 j_4 (T_nb tJ_5) 0) i).symm) (fun j hj => congrArg (zzI cy (rK j) 8) (kn_n tJ_5 j_4 (T_nb tJ_5) 0 hj))
        clear hP hD
        obtain ⟨hP, hD⟩ := hPD
        refine lv_iinc (v := nI (j_4 + 1)) (lv' := [(2, .int (nI (j_4 + 1))), (0, .ref qm), (1, .int iA)]) hx hb dX6_newBook_70 hl (k := 0) rfl (nI_1 _) (by decide) rfl (fun ls => ?_)
        clear hl
        intro hl
        refine lv_goto (tgt := 52) hx hb dX6_newBook_73 (by decide) ?_
        exact ih_3 (j_4 + 1) (T_mk (T_nb tJ_5) (T_np tJ_5) (T_sd tJ_5) (T_wh tJ_5) (T_gn tJ_5) (T_wo tJ_5) (T_ne tJ_5) (T_go tJ_5) (T_ag tJ_5) (T_re tJ_5) (T_me tJ_5) (T_te tJ_5) (updM (T_kn tJ_5) j_4 (T_nb tJ_5) 0)) (by omega) (by omega) (by rw [htJ_7]; rfl) _ _ _ hP hD hS (lv_sub hl [0, 1, 2] rfl)
  exact lp_1 ((8 - 0) + 1) 0 (nb0 tA iA) (Nat.lt_succ_self _) (Nat.zero_le _) rfl _ _ ls hP hD hS (lv_sub hl [0, 1, 2] rfl)
set_option maxHeartbeats 4000000 in
set_option maxRecDepth 100000 in
theorem c_X6_newOne (l : Launch) (G : va_G) (cy : Nat → ClassId) (sz : Nat) (qm : Nat) (v0 : Value) (v1 : Value) (v2 : Value) (v3 : Value) (v4 : Value) (v5 : Value) (v6 : Value) (v7 : Value) (v8 : Value) (v9 : Value) (tA : TA) (qmB : Nat) (qmO : Nat) (qmK : Nat) (iEn : Int32) (iTk : Int32) (v18 : Value) (v19 : Value) (v20 : Value) (v21 : Value) (v22 : Value) (v23 : Value) (v24 : Value) (v25 : Value) (v26 : Value) (iLv : Int32) (iWs : Int32) (v29 : Value) (v30 : Value) (v31 : Value) (v32 : Value) (v33 : Value) (v34 : Value) (rB : Nat → Nat) (rO : Nat → Nat) (rK : Nat → Nat)  (hPp : T_np tA < 8) : MW l yX6_newOne cX6_newOne 2 none 1 0 0 G cy [zzO qm 5 [v0, v1, v2, v3, v4, v5, v6, v7, v8, v9, .int (nI (T_nb tA)), .ref qmB, .int (nI (T_np tA)), .ref qmO, .ref qmK, .int iEn, .int iTk, .int (T_sd tA), v18, v19, v20, v21, v22, v23, v24, v25, v26, .int iLv, .int iWs, v29, v30, v31, v32, v33, v34], zzG cy 3 qmB rB, zzI cy (rB 0) 4 (bkR tA 0), zzI cy (rB 1) 4 (bkR tA 1), zzI cy (rB 2) 4 (bkR tA 2), zzI cy (rB 3) 4 (bkR tA 3), zzI cy (rB 4) 4 (bkR tA 4), zzI cy (rB 5) 4 (bkR tA 5), zzI cy (rB 6) 4 (bkR tA 6), zzI cy (rB 7) 4 (bkR tA 7), zzG cy 3 qmO rO, zzI cy (rO 0) 5 (onR tA 0), zzI cy (rO 1) 5 (onR tA 1), zzI cy (rO 2) 5 (onR tA 2), zzI cy (rO 3) 5 (onR tA 3), zzI cy (rO 4) 5 (onR tA 4), zzI cy (rO 5) 5 (onR tA 5), zzI cy (rO 6) 5 (onR tA 6), zzI cy (rO 7) 5 (onR tA 7), zzG cy 3 qmK rK, zzI cy (rK 0) 8 (T_kn tA 0), zzI cy (rK 1) 8 (T_kn tA 1), zzI cy (rK 2) 8 (T_kn tA 2), zzI cy (rK 3) 8 (T_kn tA 3), zzI cy (rK 4) 8 (T_kn tA 4), zzI cy (rK 5) 8 (T_kn tA 5), zzI cy (rK 6) 8 (T_kn tA 6), zzI cy (rK 7) 8 (T_kn tA 7)] sz [.ref qm] (Wv G (fun u => u = [zzO qm 5 [v0, v1, v2, v3, v4, v5, v6, v7, v8, v9, .int (nI (T_nb (zNO tA))), .ref qmB, .int (nI (T_np (zNO tA))), .ref qmO, .ref qmK, .int iEn, .int iTk, .int (T_sd (zNO tA)), v18, v19, v20, v21, v22, v23, v24, v25, v26, .int iLv, .int iWs, v29, v30, v31, v32, v33, v34], zzG cy 3 qmB rB, zzI cy (rB 0) 4 (bkR (zNO tA) 0), zzI cy (rB 1) 4 (bkR (zNO tA) 1), zzI cy (rB 2) 4 (bkR (zNO tA) 2), zzI cy (rB 3) 4 (bkR (zNO tA) 3), zzI cy (rB 4) 4 (bkR (zNO tA) 4), zzI cy (rB 5) 4 (bkR (zNO tA) 5), zzI cy (rB 6) 4 (bkR (zNO tA) 6), zzI cy (rB 7) 4 (bkR (zNO tA) 7), zzG cy 3 qmO rO, zzI cy (rO 0) 5 (onR (zNO tA) 0), zzI cy (rO 1) 5 (onR (zNO tA) 1), zzI cy (rO 2) 5 (onR (zNO tA) 2), zzI cy (rO 3) 5 (onR (zNO tA) 3), zzI cy (rO 4) 5 (onR (zNO tA) 4), zzI cy (rO 5) 5 (onR (zNO tA) 5), zzI cy (rO 6) 5 (onR (zNO tA) 6), zzI cy (rO 7) 5 (onR (zNO tA) 7), zzG cy 3 qmK rK, zzI cy (rK 0) 8 (T_kn (zNO tA) 0), zzI cy (rK 1) 8 (T_kn (zNO tA) 1), zzI cy (rK 2) 8 (T_kn (zNO tA) 2), zzI cy (rK 3) 8 (T_kn (zNO tA) 3), zzI cy (rK 4) 8 (T_kn (zNO tA) 4), zzI cy (rK 5) 8 (T_kn (zNO tA) 5), zzI cy (rK 6) 8 (T_kn (zNO tA) 6), zzI cy (rK 7) 8 (T_kn (zNO tA) 7)])) := by
  refine enW RX6 (by decide) rfl (Nat.le_of_ble_eq_true rfl) (fun p e s m below meth c ls A hx hb hml hown hts hr hlocks hP hN hl hin hD hA hS => ?_)
  have hin : meth.name = _ := hin
  have hK := hN.1
  replace hl : lv_has ls 2 [(0, .ref qm)] := hl
  refine lv_aload_n hx hb dX6_newOne_0 rfl (lv_at hl 0 rfl) ?_
  refine va_get (D := G) (ci := 5) (v := .ref qmO) (C := RX6) (T := TX6) (N := 35) hx hb hts iX_X6 hown hK hP 0 rfl rfl 13 (by decide) (hts _ m_t863) (fun _ h9 => h9) rfl dX6_newOne_1 ?_
  refine lv_aload_n hx hb dX6_newOne_4 rfl (lv_at hl 0 rfl) ?_
  refine va_get (D := G) (ci := 5) (v := .int (nI (T_np tA))) (C := RX6) (T := TX6) (N := 35) hx hb hts iX_X6 hown hK hP 0 rfl rfl 12 (by decide) (hts _ m_t862) (fun _ h9 => h9) rfl dX6_newOne_5 ?_
  refine va_alda hx hb hK hP 10 3 rfl rfl (in8 (by omega)) dX6_newOne_8 ?_
  refine lv_setv (v := .ref (rO (T_np tA))) (g_ref (by omega)) ?_
  refine lv_iconst (v := 1) hx hb dX6_newOne_9 (by decide) ?_
  refine lv_iconst (v := 5) hx hb dX6_newOne_10 (by decide) ?_
  refine va_iast hx hb hK hP hD hS (11 + (T_np tA)) 0 ((sg8 (n0 := 11) (f := (fun j => zzI cy (rO j) 5 (onR tA j))) rfl rfl rfl rfl rfl rfl rfl rfl) (T_np tA) (by omega)) rfl (in_c rfl) dX6_newOne_11 (fun H locs => ?_)
  clear hP hD hS
  intro hP hD hS
  have hPD := st8PD (ws' := [zzO qm 5 [v0, v1, v2, v3, v4, v5, v6, v7, v8, v9, .int (nI (T_nb (T_setre tA (upd (T_re tA) (T_np tA) 5)))), .ref qmB, .int (nI (T_np (T_setre tA (upd (T_re tA) (T_np tA) 5)))), .ref qmO, .ref qmK, .int iEn, .int iTk, .int (T_sd (T_setre tA (upd (T_re tA) (T_np tA) 5))), v18, v19, v20, v21, v22, v23, v24, v25, v26, .int iLv, .int iWs, v29, v30, v31, v32, v33, v34], zzG cy 3 qmB rB, zzI cy (rB 0) 4 (bkR (T_setre tA (upd (T_re tA) (T_np tA) 5)) 0), zzI cy (rB 1) 4 (bkR (T_setre tA (upd (T_re tA) (T_np tA) 5)) 1), zzI cy (rB 2) 4 (bkR (T_setre tA (upd (T_re tA) (T_np tA) 5)) 2), zzI cy (rB 3) 4 (bkR (T_setre tA (upd (T_re tA) (T_np tA) 5)) 3), zzI cy (rB 4) 4 (bkR (T_setre tA (upd (T_re tA) (T_np tA) 5)) 4), zzI cy (rB 5) 4 (bkR (T_setre tA (upd (T_re tA) (T_np tA) 5)) 5), zzI cy (rB 6) 4 (bkR (T_setre tA (upd (T_re tA) (T_np tA) 5)) 6), zzI cy (rB 7) 4 (bkR (T_setre tA (upd (T_re tA) (T_np tA) 5)) 7), zzG cy 3 qmO rO, zzI cy (rO 0) 5 (onR (T_setre tA (upd (T_re tA) (T_np tA) 5)) 0), zzI cy (rO 1) 5 (onR (T_setre tA (upd (T_re tA) (T_np tA) 5)) 1), zzI cy (rO 2) 5 (onR (T_setre tA (upd (T_re tA) (T_np tA) 5)) 2), zzI cy (rO 3) 5 (onR (T_setre tA (upd (T_re tA) (T_np tA) 5)) 3), zzI cy (rO 4) 5 (onR (T_setre tA (upd (T_re tA) (T_np tA) 5)) 4), zzI cy (rO 5) 5 (onR (T_setre tA (upd (T_re tA) (T_np tA) 5)) 5), zzI cy (rO 6) 5 (onR (T_setre tA (upd (T_re tA) (T_np tA) 5)) 6), zzI cy (rO 7) 5 (onR (T_setre tA (upd (T_re tA) (T_np tA) 5)) 7), zzG cy 3 qmK rK, zzI cy (rK 0) 8 (T_kn (T_setre tA (upd (T_re tA) (T_np tA) 5)) 0), zzI cy (rK 1) 8 (T_kn (T_setre tA (upd (T_re tA) (T_np tA) 5)) 1), zzI cy (rK 2) 8 (T_kn (T_setre tA (upd (T_re tA) (T_np tA) 5)) 2), zzI cy (rK 3) 8 (T_kn (T_setre tA (upd (T_re tA) (T_np tA) 5)) 3), zzI cy (rK 4) 8 (T_kn (T_setre tA (upd (T_re tA) (T_np tA) 5)) 4), zzI cy (rK 5) 8 (T_kn (T_setre tA (upd (T_re tA) (T_np tA) 5)) 5), zzI cy (rK 6) 8 (T_kn (T_setre tA (upd (T_re tA) (T_np tA) 5)) 6), zzI cy (rK 7) 8 (T_kn (T_setre tA (upd (T_re tA) (T_np tA) 5)) 7)]) (k := (T_np tA)) (g1 := onR (T_setre tA (upd (T_re tA) (T_np tA) 5)) (T_np tA)) hP hD (sg8 (n0 := 11) (f := (fun j => zzI cy (rO j) 5 (onR tA j))) rfl rfl rfl rfl rfl rfl rfl rfl) (sg8 (n0 := 11) (f := (fun j => zzI cy (rO j) 5 (onR (T_setre tA (upd (T_re tA) (T_np tA) 5)) j))) rfl rfl rfl rfl rfl rfl rfl rfl) rfl rfl (by omega) rfl (fun i _ => (congrFun (on_u1 tA (T_np tA) 5) i).symm) (fun j hj => congrArg (zzI cy (rO j) 5) (on_n1 tA (T_np tA) 5 hj))
  clear hP hD
  obtain ⟨hP, hD⟩ := hPD
  generalize hq_2 : (T_setre tA (upd (T_re tA) (T_np tA) 5)) = t_1 at hP hD
  have hq_2b : T_nb t_1 = T_nb tA := by rw [← hq_2]
  have hq_2p : T_np t_1 = T_np tA := by rw [← hq_2]
  refine lv_aload_n hx hb dX6_newOne_12 rfl (lv_at hl 0 rfl) ?_
  refine va_get (D := G) (ci := 5) (v := .ref qmO) (C := RX6) (T := TX6) (N := 35) hx hb hts iX_X6 hown hK hP 0 rfl rfl 13 (by decide) (hts _ m_t863) (fun _ h9 => h9) rfl dX6_newOne_13 ?_
  refine lv_aload_n hx hb dX6_newOne_16 rfl (lv_at hl 0 rfl) ?_
  refine va_get (D := G) (ci := 5) (v := .int (nI (T_np t_1))) (C := RX6) (T := TX6) (N := 35) hx hb hts iX_X6 hown hK hP 0 rfl rfl 12 (by decide) (hts _ m_t862) (fun _ h9 => h9) rfl dX6_newOne_17 ?_
  refine va_alda hx hb hK hP 10 3 rfl rfl (in8 (by omega)) dX6_newOne_20 ?_
  refine lv_setv (v := .ref (rO (T_np t_1))) (g_ref (by omega)) ?_
  refine lv_iconst (v := 2) hx hb dX6_newOne_21 (by decide) ?_
  refine lv_iconst (v := 5) hx hb dX6_newOne_22 (by decide) ?_
  refine va_iast hx hb hK hP hD hS (11 + (T_np t_1)) 0 ((sg8 (n0 := 11) (f := (fun j => zzI cy (rO j) 5 (onR t_1 j))) rfl rfl rfl rfl rfl rfl rfl rfl) (T_np t_1) (by omega)) rfl (in_c rfl) dX6_newOne_23 (fun H locs => ?_)
  clear hP hD hS
  intro hP hD hS
  have hPD := st8PD (ws' := [zzO qm 5 [v0, v1, v2, v3, v4, v5, v6, v7, v8, v9, .int (nI (T_nb (T_setme t_1 (upd (T_me t_1) (T_np t_1) 5)))), .ref qmB, .int (nI (T_np (T_setme t_1 (upd (T_me t_1) (T_np t_1) 5)))), .ref qmO, .ref qmK, .int iEn, .int iTk, .int (T_sd (T_setme t_1 (upd (T_me t_1) (T_np t_1) 5))), v18, v19, v20, v21, v22, v23, v24, v25, v26, .int iLv, .int iWs, v29, v30, v31, v32, v33, v34], zzG cy 3 qmB rB, zzI cy (rB 0) 4 (bkR (T_setme t_1 (upd (T_me t_1) (T_np t_1) 5)) 0), zzI cy (rB 1) 4 (bkR (T_setme t_1 (upd (T_me t_1) (T_np t_1) 5)) 1), zzI cy (rB 2) 4 (bkR (T_setme t_1 (upd (T_me t_1) (T_np t_1) 5)) 2), zzI cy (rB 3) 4 (bkR (T_setme t_1 (upd (T_me t_1) (T_np t_1) 5)) 3), zzI cy (rB 4) 4 (bkR (T_setme t_1 (upd (T_me t_1) (T_np t_1) 5)) 4), zzI cy (rB 5) 4 (bkR (T_setme t_1 (upd (T_me t_1) (T_np t_1) 5)) 5), zzI cy (rB 6) 4 (bkR (T_setme t_1 (upd (T_me t_1) (T_np t_1) 5)) 6), zzI cy (rB 7) 4 (bkR (T_setme t_1 (upd (T_me t_1) (T_np t_1) 5)) 7), zzG cy 3 qmO rO, zzI cy (rO 0) 5 (onR (T_setme t_1 (upd (T_me t_1) (T_np t_1) 5)) 0), zzI cy (rO 1) 5 (onR (T_setme t_1 (upd (T_me t_1) (T_np t_1) 5)) 1), zzI cy (rO 2) 5 (onR (T_setme t_1 (upd (T_me t_1) (T_np t_1) 5)) 2), zzI cy (rO 3) 5 (onR (T_setme t_1 (upd (T_me t_1) (T_np t_1) 5)) 3), zzI cy (rO 4) 5 (onR (T_setme t_1 (upd (T_me t_1) (T_np t_1) 5)) 4), zzI cy (rO 5) 5 (onR (T_setme t_1 (upd (T_me t_1) (T_np t_1) 5)) 5), zzI cy (rO 6) 5 (onR (T_setme t_1 (upd (T_me t_1) (T_np t_1) 5)) 6), zzI cy (rO 7) 5 (onR (T_setme t_1 (upd (T_me t_1) (T_np t_1) 5)) 7), zzG cy 3 qmK rK, zzI cy (rK 0) 8 (T_kn (T_setme t_1 (upd (T_me t_1) (T_np t_1) 5)) 0), zzI cy (rK 1) 8 (T_kn (T_setme t_1 (upd (T_me t_1) (T_np t_1) 5)) 1), zzI cy (rK 2) 8 (T_kn (T_setme t_1 (upd (T_me t_1) (T_np t_1) 5)) 2), zzI cy (rK 3) 8 (T_kn (T_setme t_1 (upd (T_me t_1) (T_np t_1) 5)) 3), zzI cy (rK 4) 8 (T_kn (T_setme t_1 (upd (T_me t_1) (T_np t_1) 5)) 4), zzI cy (rK 5) 8 (T_kn (T_setme t_1 (upd (T_me t_1) (T_np t_1) 5)) 5), zzI cy (rK 6) 8 (T_kn (T_setme t_1 (upd (T_me t_1) (T_np t_1) 5)) 6), zzI cy (rK 7) 8 (T_kn (T_setme t_1 (upd (T_me t_1) (T_np t_1) 5)) 7)]) (k := (T_np t_1)) (g1 := onR (T_setme t_1 (upd (T_me t_1) (T_np t_1) 5)) (T_np t_1)) hP hD (sg8 (n0 := 11) (f := (fun j => zzI cy (rO j) 5 (onR t_1 j))) rfl rfl rfl rfl rfl rfl rfl rfl) (sg8 (n0 := 11) (f := (fun j => zzI cy (rO j) 5 (onR (T_setme t_1 (upd (T_me t_1) (T_np t_1) 5)) j))) rfl rfl rfl rfl rfl rfl rfl rfl) rfl rfl (by omega) rfl (fun i _ => (congrFun (on_u2 t_1 (T_np t_1) 5) i).symm) (fun j hj => congrArg (zzI cy (rO j) 5) (on_n2 t_1 (T_np t_1) 5 hj))
  clear hP hD
  obtain ⟨hP, hD⟩ := hPD
  generalize hq_4 : (T_setme t_1 (upd (T_me t_1) (T_np t_1) 5)) = t_3 at hP hD
  have hq_4b : T_nb t_3 = T_nb t_1 := by rw [← hq_4]
  have hq_4p : T_np t_3 = T_np t_1 := by rw [← hq_4]
  refine lv_aload_n hx hb dX6_newOne_24 rfl (lv_at hl 0 rfl) ?_
  refine va_get (D := G) (ci := 5) (v := .ref qmO) (C := RX6) (T := TX6) (N := 35) hx hb hts iX_X6 hown hK hP 0 rfl rfl 13 (by decide) (hts _ m_t863) (fun _ h9 => h9) rfl dX6_newOne_25 ?_
  refine lv_aload_n hx hb dX6_newOne_28 rfl (lv_at hl 0 rfl) ?_
  refine va_get (D := G) (ci := 5) (v := .int (nI (T_np t_3))) (C := RX6) (T := TX6) (N := 35) hx hb hts iX_X6 hown hK hP 0 rfl rfl 12 (by decide) (hts _ m_t862) (fun _ h9 => h9) rfl dX6_newOne_29 ?_
  refine va_alda hx hb hK hP 10 3 rfl rfl (in8 (by omega)) dX6_newOne_32 ?_
  refine lv_setv (v := .ref (rO (T_np t_3))) (g_ref (by omega)) ?_
  refine lv_iconst (v := 3) hx hb dX6_newOne_33 (by decide) ?_
  refine lv_iconst (v := 5) hx hb dX6_newOne_34 (by decide) ?_
  refine va_iast hx hb hK hP hD hS (11 + (T_np t_3)) 0 ((sg8 (n0 := 11) (f := (fun j => zzI cy (rO j) 5 (onR t_3 j))) rfl rfl rfl rfl rfl rfl rfl rfl) (T_np t_3) (by omega)) rfl (in_c rfl) dX6_newOne_35 (fun H locs => ?_)
  clear hP hD hS
  intro hP hD hS
  have hPD := st8PD (ws' := [zzO qm 5 [v0, v1, v2, v3, v4, v5, v6, v7, v8, v9, .int (nI (T_nb (T_sette t_3 (upd (T_te t_3) (T_np t_3) 5)))), .ref qmB, .int (nI (T_np (T_sette t_3 (upd (T_te t_3) (T_np t_3) 5)))), .ref qmO, .ref qmK, .int iEn, .int iTk, .int (T_sd (T_sette t_3 (upd (T_te t_3) (T_np t_3) 5))), v18, v19, v20, v21, v22, v23, v24, v25, v26, .int iLv, .int iWs, v29, v30, v31, v32, v33, v34], zzG cy 3 qmB rB, zzI cy (rB 0) 4 (bkR (T_sette t_3 (upd (T_te t_3) (T_np t_3) 5)) 0), zzI cy (rB 1) 4 (bkR (T_sette t_3 (upd (T_te t_3) (T_np t_3) 5)) 1), zzI cy (rB 2) 4 (bkR (T_sette t_3 (upd (T_te t_3) (T_np t_3) 5)) 2), zzI cy (rB 3) 4 (bkR (T_sette t_3 (upd (T_te t_3) (T_np t_3) 5)) 3), zzI cy (rB 4) 4 (bkR (T_sette t_3 (upd (T_te t_3) (T_np t_3) 5)) 4), zzI cy (rB 5) 4 (bkR (T_sette t_3 (upd (T_te t_3) (T_np t_3) 5)) 5), zzI cy (rB 6) 4 (bkR (T_sette t_3 (upd (T_te t_3) (T_np t_3) 5)) 6), zzI cy (rB 7) 4 (bkR (T_sette t_3 (upd (T_te t_3) (T_np t_3) 5)) 7), zzG cy 3 qmO rO, zzI cy (rO 0) 5 (onR (T_sette t_3 (upd (T_te t_3) (T_np t_3) 5)) 0), zzI cy (rO 1) 5 (onR (T_sette t_3 (upd (T_te t_3) (T_np t_3) 5)) 1), zzI cy (rO 2) 5 (onR (T_sette t_3 (upd (T_te t_3) (T_np t_3) 5)) 2), zzI cy (rO 3) 5 (onR (T_sette t_3 (upd (T_te t_3) (T_np t_3) 5)) 3), zzI cy (rO 4) 5 (onR (T_sette t_3 (upd (T_te t_3) (T_np t_3) 5)) 4), zzI cy (rO 5) 5 (onR (T_sette t_3 (upd (T_te t_3) (T_np t_3) 5)) 5), zzI cy (rO 6) 5 (onR (T_sette t_3 (upd (T_te t_3) (T_np t_3) 5)) 6), zzI cy (rO 7) 5 (onR (T_sette t_3 (upd (T_te t_3) (T_np t_3) 5)) 7), zzG cy 3 qmK rK, zzI cy (rK 0) 8 (T_kn (T_sette t_3 (upd (T_te t_3) (T_np t_3) 5)) 0), zzI cy (rK 1) 8 (T_kn (T_sette t_3 (upd (T_te t_3) (T_np t_3) 5)) 1), zzI cy (rK 2) 8 (T_kn (T_sette t_3 (upd (T_te t_3) (T_np t_3) 5)) 2), zzI cy (rK 3) 8 (T_kn (T_sette t_3 (upd (T_te t_3) (T_np t_3) 5)) 3), zzI cy (rK 4) 8 (T_kn (T_sette t_3 (upd (T_te t_3) (T_np t_3) 5)) 4), zzI cy (rK 5) 8 (T_kn (T_sette t_3 (upd (T_te t_3) (T_np t_3) 5)) 5), zzI cy (rK 6) 8 (T_kn (T_sette t_3 (upd (T_te t_3) (T_np t_3) 5)) 6), zzI cy (rK 7) 8 (T_kn (T_sette t_3 (upd (T_te t_3) (T_np t_3) 5)) 7)]) (k := (T_np t_3)) (g1 := onR (T_sette t_3 (upd (T_te t_3) (T_np t_3) 5)) (T_np t_3)) hP hD (sg8 (n0 := 11) (f := (fun j => zzI cy (rO j) 5 (onR t_3 j))) rfl rfl rfl rfl rfl rfl rfl rfl) (sg8 (n0 := 11) (f := (fun j => zzI cy (rO j) 5 (onR (T_sette t_3 (upd (T_te t_3) (T_np t_3) 5)) j))) rfl rfl rfl rfl rfl rfl rfl rfl) rfl rfl (by omega) rfl (fun i _ => (congrFun (on_u3 t_3 (T_np t_3) 5) i).symm) (fun j hj => congrArg (zzI cy (rO j) 5) (on_n3 t_3 (T_np t_3) 5 hj))
  clear hP hD
  obtain ⟨hP, hD⟩ := hPD
  generalize hq_6 : (T_sette t_3 (upd (T_te t_3) (T_np t_3) 5)) = t_5 at hP hD
  have hq_6b : T_nb t_5 = T_nb t_3 := by rw [← hq_6]
  have hq_6p : T_np t_5 = T_np t_3 := by rw [← hq_6]
  refine lv_aload_n hx hb dX6_newOne_36 rfl (lv_at hl 0 rfl) ?_
  refine va_get (D := G) (ci := 5) (v := .ref qmO) (C := RX6) (T := TX6) (N := 35) hx hb hts iX_X6 hown hK hP 0 rfl rfl 13 (by decide) (hts _ m_t863) (fun _ h9 => h9) rfl dX6_newOne_37 ?_
  refine lv_aload_n hx hb dX6_newOne_40 rfl (lv_at hl 0 rfl) ?_
  refine va_get (D := G) (ci := 5) (v := .int (nI (T_np t_5))) (C := RX6) (T := TX6) (N := 35) hx hb hts iX_X6 hown hK hP 0 rfl rfl 12 (by decide) (hts _ m_t862) (fun _ h9 => h9) rfl dX6_newOne_41 ?_
  refine va_alda hx hb hK hP 10 3 rfl rfl (in8 (by omega)) dX6_newOne_44 ?_
  refine lv_setv (v := .ref (rO (T_np t_5))) (g_ref (by omega)) ?_
  refine lv_iconst (v := 4) hx hb dX6_newOne_45 (by decide) ?_
  refine lv_iconst (v := 0) hx hb dX6_newOne_46 (by decide) ?_
  refine va_iast hx hb hK hP hD hS (11 + (T_np t_5)) 0 ((sg8 (n0 := 11) (f := (fun j => zzI cy (rO j) 5 (onR t_5 j))) rfl rfl rfl rfl rfl rfl rfl rfl) (T_np t_5) (by omega)) rfl (in_c rfl) dX6_newOne_47 (fun H locs => ?_)
  clear hP hD hS
  intro hP hD hS
  have hPD := st8PD (ws' := [zzO qm 5 [v0, v1, v2, v3, v4, v5, v6, v7, v8, v9, .int (nI (T_nb (T_setgn t_5 (updB (T_gn t_5) (T_np t_5) false)))), .ref qmB, .int (nI (T_np (T_setgn t_5 (updB (T_gn t_5) (T_np t_5) false)))), .ref qmO, .ref qmK, .int iEn, .int iTk, .int (T_sd (T_setgn t_5 (updB (T_gn t_5) (T_np t_5) false))), v18, v19, v20, v21, v22, v23, v24, v25, v26, .int iLv, .int iWs, v29, v30, v31, v32, v33, v34], zzG cy 3 qmB rB, zzI cy (rB 0) 4 (bkR (T_setgn t_5 (updB (T_gn t_5) (T_np t_5) false)) 0), zzI cy (rB 1) 4 (bkR (T_setgn t_5 (updB (T_gn t_5) (T_np t_5) false)) 1), zzI cy (rB 2) 4 (bkR (T_setgn t_5 (updB (T_gn t_5) (T_np t_5) false)) 2), zzI cy (rB 3) 4 (bkR (T_setgn t_5 (updB (T_gn t_5) (T_np t_5) false)) 3), zzI cy (rB 4) 4 (bkR (T_setgn t_5 (updB (T_gn t_5) (T_np t_5) false)) 4), zzI cy (rB 5) 4 (bkR (T_setgn t_5 (updB (T_gn t_5) (T_np t_5) false)) 5), zzI cy (rB 6) 4 (bkR (T_setgn t_5 (updB (T_gn t_5) (T_np t_5) false)) 6), zzI cy (rB 7) 4 (bkR (T_setgn t_5 (updB (T_gn t_5) (T_np t_5) false)) 7), zzG cy 3 qmO rO, zzI cy (rO 0) 5 (onR (T_setgn t_5 (updB (T_gn t_5) (T_np t_5) false)) 0), zzI cy (rO 1) 5 (onR (T_setgn t_5 (updB (T_gn t_5) (T_np t_5) false)) 1), zzI cy (rO 2) 5 (onR (T_setgn t_5 (updB (T_gn t_5) (T_np t_5) false)) 2), zzI cy (rO 3) 5 (onR (T_setgn t_5 (updB (T_gn t_5) (T_np t_5) false)) 3), zzI cy (rO 4) 5 (onR (T_setgn t_5 (updB (T_gn t_5) (T_np t_5) false)) 4), zzI cy (rO 5) 5 (onR (T_setgn t_5 (updB (T_gn t_5) (T_np t_5) false)) 5), zzI cy (rO 6) 5 (onR (T_setgn t_5 (updB (T_gn t_5) (T_np t_5) false)) 6), zzI cy (rO 7) 5 (onR (T_setgn t_5 (updB (T_gn t_5) (T_np t_5) false)) 7), zzG cy 3 qmK rK, zzI cy (rK 0) 8 (T_kn (T_setgn t_5 (updB (T_gn t_5) (T_np t_5) false)) 0), zzI cy (rK 1) 8 (T_kn (T_setgn t_5 (updB (T_gn t_5) (T_np t_5) false)) 1), zzI cy (rK 2) 8 (T_kn (T_setgn t_5 (updB (T_gn t_5) (T_np t_5) false)) 2), zzI cy (rK 3) 8 (T_kn (T_setgn t_5 (updB (T_gn t_5) (T_np t_5) false)) 3), zzI cy (rK 4) 8 (T_kn (T_setgn t_5 (updB (T_gn t_5) (T_np t_5) false)) 4), zzI cy (rK 5) 8 (T_kn (T_setgn t_5 (updB (T_gn t_5) (T_np t_5) false)) 5), zzI cy (rK 6) 8 (T_kn (T_setgn t_5 (updB (T_gn t_5) (T_np t_5) false)) 6), zzI cy (rK 7) 8 (T_kn (T_setgn t_5 (updB (T_gn t_5) (T_np t_5) false)) 7)]) (k := (T_np t_5)) (g1 := onR (T_setgn t_5 (updB (T_gn t_5) (T_np t_5) false)) (T_np t_5)) hP hD (sg8 (n0 := 11) (f := (fun j => zzI cy (rO j) 5 (onR t_5 j))) rfl rfl rfl rfl rfl rfl rfl rfl) (sg8 (n0 := 11) (f := (fun j => zzI cy (rO j) 5 (onR (T_setgn t_5 (updB (T_gn t_5) (T_np t_5) false)) j))) rfl rfl rfl rfl rfl rfl rfl rfl) rfl rfl (by omega) rfl (on_w4 t_5 (T_np t_5) false) (fun j hj => congrArg (zzI cy (rO j) 5) (on_n4 t_5 (T_np t_5) false hj))
  clear hP hD
  obtain ⟨hP, hD⟩ := hPD
  generalize hq_8 : (T_setgn t_5 (updB (T_gn t_5) (T_np t_5) false)) = t_7 at hP hD
  have hq_8b : T_nb t_7 = T_nb t_5 := by rw [← hq_8]
  have hq_8p : T_np t_7 = T_np t_5 := by rw [← hq_8]
  refine lv_iconst (v := 0) hx hb dX6_newOne_48 (by decide) ?_
  refine lv_istore_n (lv' := [(1, .int 0), (0, .ref qm)]) hx hb dX6_newOne_49 rfl hl (by decide) rfl (fun ls => ?_)
  clear hl
  intro hl
  have e_9 : t_7 = (no0 tA) := by rw [← hq_8, ← hq_6, ← hq_4, ← hq_2]; rfl
  rw [e_9] at hP hD
  have lp_10 : ∀ (n_11 : Nat) (j_13 : Nat) (tJ_14 : TA), 8 - j_13 < n_11 → j_13 ≤ 8 → tJ_14 = noF (T_np tA) (no0 tA) j_13 → ∀ (H : Heap) (locs : List Loc) (ls : Array Slot), va_P G CL [zzO qm 5 [v0, v1, v2, v3, v4, v5, v6, v7, v8, v9, .int (nI (T_nb tJ_14)), .ref qmB, .int (nI (T_np tJ_14)), .ref qmO, .ref qmK, .int iEn, .int iTk, .int (T_sd tJ_14), v18, v19, v20, v21, v22, v23, v24, v25, v26, .int iLv, .int iWs, v29, v30, v31, v32, v33, v34], zzG cy 3 qmB rB, zzI cy (rB 0) 4 (bkR tJ_14 0), zzI cy (rB 1) 4 (bkR tJ_14 1), zzI cy (rB 2) 4 (bkR tJ_14 2), zzI cy (rB 3) 4 (bkR tJ_14 3), zzI cy (rB 4) 4 (bkR tJ_14 4), zzI cy (rB 5) 4 (bkR tJ_14 5), zzI cy (rB 6) 4 (bkR tJ_14 6), zzI cy (rB 7) 4 (bkR tJ_14 7), zzG cy 3 qmO rO, zzI cy (rO 0) 5 (onR tJ_14 0), zzI cy (rO 1) 5 (onR tJ_14 1), zzI cy (rO 2) 5 (onR tJ_14 2), zzI cy (rO 3) 5 (onR tJ_14 3), zzI cy (rO 4) 5 (onR tJ_14 4), zzI cy (rO 5) 5 (onR tJ_14 5), zzI cy (rO 6) 5 (onR tJ_14 6), zzI cy (rO 7) 5 (onR tJ_14 7), zzG cy 3 qmK rK, zzI cy (rK 0) 8 (T_kn tJ_14 0), zzI cy (rK 1) 8 (T_kn tJ_14 1), zzI cy (rK 2) 8 (T_kn tJ_14 2), zzI cy (rK 3) 8 (T_kn tJ_14 3), zzI cy (rK 4) 8 (T_kn tJ_14 4), zzI cy (rK 5) 8 (T_kn tJ_14 5), zzI cy (rK 6) 8 (T_kn tJ_14 6), zzI cy (rK 7) 8 (T_kn tJ_14 7)] H → va_D A [zzO qm 5 [v0, v1, v2, v3, v4, v5, v6, v7, v8, v9, .int (nI (T_nb tJ_14)), .ref qmB, .int (nI (T_np tJ_14)), .ref qmO, .ref qmK, .int iEn, .int iTk, .int (T_sd tJ_14), v18, v19, v20, v21, v22, v23, v24, v25, v26, .int iLv, .int iWs, v29, v30, v31, v32, v33, v34], zzG cy 3 qmB rB, zzI cy (rB 0) 4 (bkR tJ_14 0), zzI cy (rB 1) 4 (bkR tJ_14 1), zzI cy (rB 2) 4 (bkR tJ_14 2), zzI cy (rB 3) 4 (bkR tJ_14 3), zzI cy (rB 4) 4 (bkR tJ_14 4), zzI cy (rB 5) 4 (bkR tJ_14 5), zzI cy (rB 6) 4 (bkR tJ_14 6), zzI cy (rB 7) 4 (bkR tJ_14 7), zzG cy 3 qmO rO, zzI cy (rO 0) 5 (onR tJ_14 0), zzI cy (rO 1) 5 (onR tJ_14 1), zzI cy (rO 2) 5 (onR tJ_14 2), zzI cy (rO 3) 5 (onR tJ_14 3), zzI cy (rO 4) 5 (onR tJ_14 4), zzI cy (rO 5) 5 (onR tJ_14 5), zzI cy (rO 6) 5 (onR tJ_14 6), zzI cy (rO 7) 5 (onR tJ_14 7), zzG cy 3 qmK rK, zzI cy (rK 0) 8 (T_kn tJ_14 0), zzI cy (rK 1) 8 (T_kn tJ_14 1), zzI cy (rK 2) 8 (T_kn tJ_14 2), zzI cy (rK 3) 8 (T_kn tJ_14 3), zzI cy (rK 4) 8 (T_kn tJ_14 4), zzI cy (rK 5) 8 (T_kn tJ_14 5), zzI cy (rK 6) 8 (T_kn tJ_14 6), zzI cy (rK 7) 8 (T_kn tJ_14 7)] → va_S A s.heap H locs → lv_has ls 2 [(1, .int (nI j_13)), (0, .ref qm)] → W p l e (Rm 1 0 0) s m (List.toArray (α := Value) [.ref qm]) below meth c H locs 0 0 (MQ below ((Wv G (fun u => u = [zzO qm 5 [v0, v1, v2, v3, v4, v5, v6, v7, v8, v9, .int (nI (T_nb (zNO tA))), .ref qmB, .int (nI (T_np (zNO tA))), .ref qmO, .ref qmK, .int iEn, .int iTk, .int (T_sd (zNO tA)), v18, v19, v20, v21, v22, v23, v24, v25, v26, .int iLv, .int iWs, v29, v30, v31, v32, v33, v34], zzG cy 3 qmB rB, zzI cy (rB 0) 4 (bkR (zNO tA) 0), zzI cy (rB 1) 4 (bkR (zNO tA) 1), zzI cy (rB 2) 4 (bkR (zNO tA) 2), zzI cy (rB 3) 4 (bkR (zNO tA) 3), zzI cy (rB 4) 4 (bkR (zNO tA) 4), zzI cy (rB 5) 4 (bkR (zNO tA) 5), zzI cy (rB 6) 4 (bkR (zNO tA) 6), zzI cy (rB 7) 4 (bkR (zNO tA) 7), zzG cy 3 qmO rO, zzI cy (rO 0) 5 (onR (zNO tA) 0), zzI cy (rO 1) 5 (onR (zNO tA) 1), zzI cy (rO 2) 5 (onR (zNO tA) 2), zzI cy (rO 3) 5 (onR (zNO tA) 3), zzI cy (rO 4) 5 (onR (zNO tA) 4), zzI cy (rO 5) 5 (onR (zNO tA) 5), zzI cy (rO 6) 5 (onR (zNO tA) 6), zzI cy (rO 7) 5 (onR (zNO tA) 7), zzG cy 3 qmK rK, zzI cy (rK 0) 8 (T_kn (zNO tA) 0), zzI cy (rK 1) 8 (T_kn (zNO tA) 1), zzI cy (rK 2) 8 (T_kn (zNO tA) 2), zzI cy (rK 3) 8 (T_kn (zNO tA) 3), zzI cy (rK 4) 8 (T_kn (zNO tA) 4), zzI cy (rK 5) 8 (T_kn (zNO tA) 5), zzI cy (rK 6) 8 (T_kn (zNO tA) 6), zzI cy (rK 7) 8 (T_kn (zNO tA) 7)])) A) (List.toArray (α := Value) [.ref qm]) s 0 0 A) (F0 m 50 ls []) := by
    intro n_11
    induction n_11 with
    | zero => intro j_13 tJ_14 hm9; exact absurd hm9 (Nat.not_lt_zero _)
    | succ n_11 ih_12 =>
      intro j_13 tJ_14 hm_17 hj_15 htJ_16 H locs ls hP hD hS hl
      refine lv_iload_n hx hb dX6_newOne_50 rfl (lv_at hl 0 rfl) ?_
      refine lv_bipush (v := 8) hx hb dX6_newOne_51 (by decide) ?_
      refine lv_icmp_ge (tgt := 74) hx hb dX6_newOne_53 (by decide) (fun c_18 => ?_) (fun c_18 => ?_)
      · have hlt_19e : T_np tJ_14 = T_np tA := by rw [htJ_16]; exact (noF_nb _ _ _).2
        have hlt_19 : j_13 = 8 := Nat.le_antisymm (by omega) (lp_ge rfl (rfl : (8 : Int32) = nI 8) (by omega) (by omega) c_18)
        have e9_20 : tJ_14 = zNO tA := by rw [htJ_16, hlt_19]; rfl
        subst e9_20
        exact endV (u := [zzO qm 5 [v0, v1, v2, v3, v4, v5, v6, v7, v8, v9, .int (nI (T_nb (zNO tA))), .ref qmB, .int (nI (T_np (zNO tA))), .ref qmO, .ref qmK, .int iEn, .int iTk, .int (T_sd (zNO tA)), v18, v19, v20, v21, v22, v23, v24, v25, v26, .int iLv, .int iWs, v29, v30, v31, v32, v33, v34], zzG cy 3 qmB rB, zzI cy (rB 0) 4 (bkR (zNO tA) 0), zzI cy (rB 1) 4 (bkR (zNO tA) 1), zzI cy (rB 2) 4 (bkR (zNO tA) 2), zzI cy (rB 3) 4 (bkR (zNO tA) 3), zzI cy (rB 4) 4 (bkR (zNO tA) 4), zzI cy (rB 5) 4 (bkR (zNO tA) 5), zzI cy (rB 6) 4 (bkR (zNO tA) 6), zzI cy (rB 7) 4 (bkR (zNO tA) 7), zzG cy 3 qmO rO, zzI cy (rO 0) 5 (onR (zNO tA) 0), zzI cy (rO 1) 5 (onR (zNO tA) 1), zzI cy (rO 2) 5 (onR (zNO tA) 2), zzI cy (rO 3) 5 (onR (zNO tA) 3), zzI cy (rO 4) 5 (onR (zNO tA) 4), zzI cy (rO 5) 5 (onR (zNO tA) 5), zzI cy (rO 6) 5 (onR (zNO tA) 6), zzI cy (rO 7) 5 (onR (zNO tA) 7), zzG cy 3 qmK rK, zzI cy (rK 0) 8 (T_kn (zNO tA) 0), zzI cy (rK 1) 8 (T_kn (zNO tA) 1), zzI cy (rK 2) 8 (T_kn (zNO tA) 2), zzI cy (rK 3) 8 (T_kn (zNO tA) 3), zzI cy (rK 4) 8 (T_kn (zNO tA) 4), zzI cy (rK 5) 8 (T_kn (zNO tA) 5), zzI cy (rK 6) 8 (T_kn (zNO tA) 6), zzI cy (rK 7) 8 (T_kn (zNO tA) 7)]) hx hb hr hlocks (hP.sub [0, 1, 2, 3, 4, 5, 6, 7, 8, 9, 10, 11, 12, 13, 14, 15, 16, 17, 18, 19, 20, 21, 22, 23, 24, 25, 26, 27] rfl) (hD.sub [0, 1, 2, 3, 4, 5, 6, 7, 8, 9, 10, 11, 12, 13, 14, 15, 16, 17, 18, 19, 20, 21, 22, 23, 24, 25, 26, 27] (by decide +kernel) rfl) hS rfl dX6_newOne_74
      · have hlt_21e : T_np tJ_14 = T_np tA := by rw [htJ_16]; exact (noF_nb _ _ _).2
        have hlt_21 : j_13 < 8 := lp_lt rfl (rfl : (8 : Int32) = nI 8) (by omega) (by omega) c_18
        refine lv_aload_n hx hb dX6_newOne_56 rfl (lv_at hl 1 rfl) ?_
        refine va_get (D := G) (ci := 5) (v := .ref qmK) (C := RX6) (T := TX6) (N := 35) hx hb hts iX_X6 hown hK hP 0 rfl rfl 14 (by decide) (hts _ m_t864) (fun _ h9 => h9) rfl dX6_newOne_57 ?_
        refine lv_aload_n hx hb dX6_newOne_60 rfl (lv_at hl 1 rfl) ?_
        refine va_get (D := G) (ci := 5) (v := .int (nI (T_np tJ_14))) (C := RX6) (T := TX6) (N := 35) hx hb hts iX_X6 hown hK hP 0 rfl rfl 12 (by decide) (hts _ m_t862) (fun _ h9 => h9) rfl dX6_newOne_61 ?_
        refine lv_seti (v := nI (T_np tA)) (congrArg nI hlt_21e) ?_
        refine va_alda hx hb hK hP 19 3 rfl rfl (in8 (by omega)) dX6_newOne_64 ?_
        refine lv_setv (v := .ref (rK (T_np tA))) (g_ref (by omega)) ?_
        refine lv_iload_n hx hb dX6_newOne_65 rfl (lv_at hl 0 rfl) ?_
        refine lv_iconst (v := 0) hx hb dX6_newOne_66 (by decide) ?_
        refine va_iast hx hb hK hP hD hS (20 + (T_np tA)) 0 ((sg8 (n0 := 20) (f := (fun j => zzI cy (rK j) 8 (T_kn tJ_14 j))) rfl rfl rfl rfl rfl rfl rfl rfl) (T_np tA) (by omega)) rfl (vp_in_nI (by omega) (by omega)) dX6_newOne_67 (fun H locs => ?_)
        clear hP hD hS
        intro hP hD hS
        rw [nI_clamp (n := j_13) (by omega)] at hP hD
        have hPD := st8PD (ws' := [zzO qm 5 [v0, v1, v2, v3, v4, v5, v6, v7, v8, v9, .int (nI (T_nb (T_setkn tJ_14 (updM (T_kn tJ_14) (T_np tA) j_13 0)))), .ref qmB, .int (nI (T_np (T_setkn tJ_14 (updM (T_kn tJ_14) (T_np tA) j_13 0)))), .ref qmO, .ref qmK, .int iEn, .int iTk, .int (T_sd (T_setkn tJ_14 (updM (T_kn tJ_14) (T_np tA) j_13 0))), v18, v19, v20, v21, v22, v23, v24, v25, v26, .int iLv, .int iWs, v29, v30, v31, v32, v33, v34], zzG cy 3 qmB rB, zzI cy (rB 0) 4 (bkR (T_setkn tJ_14 (updM (T_kn tJ_14) (T_np tA) j_13 0)) 0), zzI cy (rB 1) 4 (bkR (T_setkn tJ_14 (updM (T_kn tJ_14) (T_np tA) j_13 0)) 1), zzI cy (rB 2) 4 (bkR (T_setkn tJ_14 (updM (T_kn tJ_14) (T_np tA) j_13 0)) 2), zzI cy (rB 3) 4 (bkR (T_setkn tJ_14 (updM (T_kn tJ_14) (T_np tA) j_13 0)) 3), zzI cy (rB 4) 4 (bkR (T_setkn tJ_14 (updM (T_kn tJ_14) (T_np tA) j_13 0)) 4), zzI cy (rB 5) 4 (bkR (T_setkn tJ_14 (updM (T_kn tJ_14) (T_np tA) j_13 0)) 5), zzI cy (rB 6) 4 (bkR (T_setkn tJ_14 (updM (T_kn tJ_14) (T_np tA) j_13 0)) 6), zzI cy (rB 7) 4 (bkR (T_setkn tJ_14 (updM (T_kn tJ_14) (T_np tA) j_13 0)) 7), zzG cy 3 qmO rO, zzI cy (rO 0) 5 (onR (T_setkn tJ_14 (updM (T_kn tJ_14) (T_np tA) j_13 0)) 0), zzI cy (rO 1) 5 (onR (T_setkn tJ_14 (updM (T_kn tJ_14) (T_np tA) j_13 0)) 1), zzI cy (rO 2) 5 (onR (T_setkn tJ_14 (updM (T_kn tJ_14) (T_np tA) j_13 0)) 2), zzI cy (rO 3) 5 (onR (T_setkn tJ_14 (updM (T_kn tJ_14) (T_np tA) j_13 0)) 3), zzI cy (rO 4) 5 (onR (T_setkn tJ_14 (updM (T_kn tJ_14) (T_np tA) j_13 0)) 4), zzI cy (rO 5) 5 (onR (T_setkn tJ_14 (updM (T_kn tJ_14) (T_np tA) j_13 0)) 5), zzI cy (rO 6) 5 (onR (T_setkn tJ_14 (updM (T_kn tJ_14) (T_np tA) j_13 0)) 6), zzI cy (rO 7) 5 (onR (T_setkn tJ_14 (updM (T_kn tJ_14) (T_np tA) j_13 0)) 7), zzG cy 3 qmK rK, zzI cy (rK 0) 8 (T_kn (T_setkn tJ_14 (updM (T_kn tJ_14) (T_np tA) j_13 0)) 0), zzI cy (rK 1) 8 (T_kn (T_setkn tJ_14 (updM (T_kn tJ_14) (T_np tA) j_13 0)) 1), zzI cy (rK 2) 8 (T_kn (T_setkn tJ_14 (updM (T_kn tJ_14) (T_np tA) j_13 0)) 2), zzI cy (rK 3) 8 (T_kn (T_setkn tJ_14 (updM (T_kn tJ_14) (T_np tA) j_13 0)) 3), zzI cy (rK 4) 8 (T_kn (T_setkn tJ_14 (updM (T_kn tJ_14) (T_np tA) j_13 0)) 4), zzI cy (rK 5) 8 (T_kn (T_setkn tJ_14 (updM (T_kn tJ_14) (T_np tA) j_13 0)) 5), zzI cy (rK 6) 8 (T_kn (T_setkn tJ_14 (updM (T_kn tJ_14) (T_np tA) j_13 0)) 6), zzI cy (rK 7) 8 (T_kn (T_setkn tJ_14 (updM (T_kn tJ_14) (T_np tA) j_13 0)) 7)]) (k := (T_np tA)) (g1 := T_kn (T_setkn tJ_14 (updM (T_kn tJ_14) (T_np tA) j_13 0)) (T_np tA)) hP hD (sg8 (n0 := 20) (f := (fun j => zzI cy (rK j) 8 (T_kn tJ_14 j))) rfl rfl rfl rfl rfl rfl rfl rfl) (sg8 (n0 := 20) (f := (fun j => zzI cy (rK j) 8 (T_kn (T_setkn tJ_14 (updM (T_kn tJ_14) (T_np tA) j_13 0)) j))) rfl rfl rfl rfl rfl rfl rfl rfl) rfl rfl (by omega) rfl (fun i _ => (congrFun (kn_u tJ_14 (T_np tA) j_13 0) i).symm) (fun j hj => congrArg (zzI cy (rK j) 8) (kn_n tJ_14 (T_np tA) j_13 0 hj))
        clear hP hD
        obtain ⟨hP, hD⟩ := hPD
        refine lv_iinc (v := nI (j_13 + 1)) (lv' := [(1, .int (nI (j_13 + 1))), (0, .ref qm)]) hx hb dX6_newOne_68 hl (k := 0) rfl (nI_1 _) (by decide) rfl (fun ls => ?_)
        clear hl
        intro hl
        refine lv_goto (tgt := 50) hx hb dX6_newOne_71 (by decide) ?_
        exact ih_12 (j_13 + 1) (T_setkn tJ_14 (updM (T_kn tJ_14) (T_np tA) j_13 0)) (by omega) (by omega) (by rw [htJ_16]; rfl) _ _ _ hP hD hS (lv_sub hl [0, 1] rfl)
  exact lp_10 ((8 - 0) + 1) 0 (no0 tA) (Nat.lt_succ_self _) (Nat.zero_le _) rfl _ _ ls hP hD hS (lv_sub hl [0, 1] rfl)
set_option maxHeartbeats 4000000 in
set_option maxRecDepth 100000 in
theorem c_X6_fit (l : Launch) (G : va_G) (cy : Nat → ClassId) (iA : Int32) (J1 : Int64)   : MR l yX6_fit cX6_fit 3 (some .long) 1 G cy [] [.int iA, .long J1] (vp_Sl (fun r => (r = (zft iA J1)))) := by
  refine enR RX6 (by decide) rfl (Nat.le_of_ble_eq_true rfl) (fun p e s m below meth c ls hx hb hml hown hts hr hlocks hP hN hl => ?_)
  have hK := hN.1
  replace hl : lv_has ls 3 [(0, .int iA), (1, .long J1)] := hl
  refine lv_iload_n hx hb dX6_fit_0 rfl (lv_at hl 0 rfl) ?_
  rcases sw_0_3 iA with rfl | rfl | rfl | rfl | h_1
  · refine lv_tableIn (tgt := 32) (off := 31) hx hb dX6_fit_1 (by decide) (by decide) (by decide) (by decide) ?_
    refine lv_lload_n hx hb dX6_fit_32 rfl (lv_at hl 1 rfl) ?_
    refine lv_l2i (v := J1.toInt32) hx hb dX6_fit_33 rfl ?_
    refine lv_i2b (v := J1.toInt32.toInt8.toInt32) hx hb dX6_fit_34 rfl ?_
    refine lv_i2l (v := J1.toInt32.toInt8.toInt32.toInt64) hx hb dX6_fit_35 rfl ?_
    exact endRl hx hb hr hlocks (by rfl) dX6_fit_36
  · refine lv_tableIn (tgt := 37) (off := 36) hx hb dX6_fit_1 (by decide) (by decide) (by decide) (by decide) ?_
    refine lv_lload_n hx hb dX6_fit_37 rfl (lv_at hl 1 rfl) ?_
    refine lv_l2i (v := J1.toInt32) hx hb dX6_fit_38 rfl ?_
    refine lv_i2s (v := J1.toInt32.toInt16.toInt32) hx hb dX6_fit_39 rfl ?_
    refine lv_i2l (v := J1.toInt32.toInt16.toInt32.toInt64) hx hb dX6_fit_40 rfl ?_
    exact endRl hx hb hr hlocks (by rfl) dX6_fit_41
  · refine lv_tableIn (tgt := 42) (off := 41) hx hb dX6_fit_1 (by decide) (by decide) (by decide) (by decide) ?_
    refine lv_lload_n hx hb dX6_fit_42 rfl (lv_at hl 1 rfl) ?_
    refine lv_l2i (v := J1.toInt32) hx hb dX6_fit_43 rfl ?_
    refine lv_i2l (v := J1.toInt32.toInt64) hx hb dX6_fit_44 rfl ?_
    exact endRl hx hb hr hlocks (by rfl) dX6_fit_45
  · refine lv_tableIn (tgt := 46) (off := 45) hx hb dX6_fit_1 (by decide) (by decide) (by decide) (by decide) ?_
    refine lv_lload_n hx hb dX6_fit_46 rfl (lv_at hl 1 rfl) ?_
    exact endRl hx hb hr hlocks (by rfl) dX6_fit_47
  · refine lv_tableOut (tgt := 48) hx hb dX6_fit_1 h_1 (by decide) ?_
    refine lv_lload_n hx hb dX6_fit_48 rfl (lv_at hl 1 rfl) ?_
    refine lv_lconst (v := 0) hx hb dX6_fit_49 (by decide) ?_
    refine W.lcmp hx hb dX6_fit_50 ?_
    refine lv_if_eq (tgt := 58) hx hb dX6_fit_51 (by decide) (fun c_2 => ?_) (fun c_2 => ?_)
    · refine lv_lconst (v := 0) hx hb dX6_fit_58 (by decide) ?_
      exact endRl hx hb hr hlocks (by rw [ft_d h_1]; exact (if_pos c_2).symm) dX6_fit_59
    · refine lv_lconst (v := 1) hx hb dX6_fit_54 (by decide) ?_
      refine lv_goto (tgt := 59) hx hb dX6_fit_55 (by decide) ?_
      exact endRl hx hb hr hlocks (by rw [ft_d h_1]; exact (if_neg c_2).symm) dX6_fit_59
set_option maxHeartbeats 4000000 in
set_option maxRecDepth 100000 in
theorem c_X6_noRow (l : Launch) (G : va_G) (cy : Nat → ClassId) (sz : Nat) (qm : Nat) (qmh : Nat) (v1 : Value) (v2 : Value) (v3 : Value) (v4 : Value) (v5 : Value) (v6 : Value) (v7 : Value) (v8 : Value) (qmr : Nat) (tA : TA) (qmB : Nat) (qmO : Nat) (qmK : Nat) (iEn : Int32) (iTk : Int32) (v18 : Value) (v19 : Value) (v20 : Value) (v21 : Value) (v22 : Value) (v23 : Value) (v24 : Value) (v25 : Value) (v26 : Value) (iLv : Int32) (iWs : Int32) (v29 : Value) (v30 : Value) (v31 : Value) (v32 : Value) (v33 : Value) (v34 : Value) (fMh : Nat → Int32) (fMr : Nat → Int32) (iA : Int32)   : MW l yX6_noRow cX6_noRow 2 (some .int) 3 0 0 G cy [zzO qm 5 [.ref qmh, v1, v2, v3, v4, v5, v6, v7, v8, .ref qmr, .int (nI (T_nb tA)), .ref qmB, .int (nI (T_np tA)), .ref qmO, .ref qmK, .int iEn, .int iTk, .int (T_sd tA), v18, v19, v20, v21, v22, v23, v24, v25, v26, .int iLv, .int iWs, v29, v30, v31, v32, v33, v34], zzI cy qmh 8 fMh, zzI cy qmr 8 fMr] sz [.ref qm, .int iA] (Wi G (fun r u => ∃ (fX : Nat → Int32), u = [zzO qm 5 [.ref qmh, v1, v2, v3, v4, v5, v6, v7, v8, .ref qmr, .int (nI (T_nb tA)), .ref qmB, .int (nI (T_np tA)), .ref qmO, .ref qmK, .int iEn, .int iTk, .int (T_sd tA), v18, v19, v20, v21, v22, v23, v24, v25, v26, .int iLv, .int iWs, v29, v30, v31, v32, v33, v34], zzI cy qmh 8 fMh, zzI cy qmr 8 fX] ∧ ((r = (-2) ∧ ¬ ∃ k : Nat, k < 8 ∧ iA = nI k) ∨ (r = (-3) ∧ ∃ k : Nat, k < 8 ∧ iA = nI k ∧ fMh k = 2) ∨ (r = (-4) ∧ ∃ k : Nat, k < 8 ∧ iA = nI k ∧ ¬ fMh k = 2 ∧ fMh k = 0) ∨ (r = 0 ∧ ∃ k : Nat, k < 8 ∧ iA = nI k ∧ ¬ fMh k = 2 ∧ ¬ fMh k = 0)))) := by
  refine enW RX6 (by decide) rfl (Nat.le_of_ble_eq_true rfl) (fun p e s m below meth c ls A hx hb hml hown hts hr hlocks hP hN hl hin hD hA hS => ?_)
  have hin : meth.name = _ := hin
  have hK := hN.1
  replace hl : lv_has ls 2 [(0, .ref qm), (1, .int iA)] := hl
  refine lv_iload_n hx hb dX6_noRow_0 rfl (lv_at hl 1 rfl) ?_
  refine lv_i2l (v := iA.toInt64) hx hb dX6_noRow_1 rfl ?_
  refine lv_lconst (v := 0) hx hb dX6_noRow_2 (by decide) ?_
  refine lv_ldc2 hx hb hown (hts _ m_t960) dX6_noRow_3 ?_
  refine kRi (rS (As := [.long iA.toInt64, .long 0, .long 7]) (rest := []) ⟨hx, hb, hml, hown, hts⟩ (c_X6_in l G cy iA.toInt64 0 7) L_X6_74 (preRS hN hP [] rfl) rfl ⟨Nat.le_of_ble_eq_true rfl, Nat.le_of_ble_eq_true rfl⟩ hl.1 (Nat.le_of_ble_eq_true rfl) dX6_noRow_6 ⟨Nat.le_of_ble_eq_true rfl, Nat.le_of_ble_eq_true rfl⟩) (fun r_1 h_2 => ?_)
  rcases h_2 with ⟨rfl, h_3⟩ | ⟨rfl, h_3⟩
  · obtain ⟨k_4, hk_5, hk_6, rfl⟩ := iv_nI 0 7 (by decide) (by decide) h_3
    refine lv_if_ne (tgt := 19) hx hb dX6_noRow_9 (by decide) (fun _ => ?_) (fun h9 => absurd h9 (by decide))
    refine lv_aload_n hx hb dX6_noRow_19 rfl (lv_at hl 0 rfl) ?_
    refine va_get (D := G) (ci := 5) (v := .ref qmh) (C := RX6) (T := TX6) (N := 35) hx hb hts iX_X6 hown hK hP 0 rfl rfl 0 (by decide) (hts _ m_t850) (fun _ h9 => h9) rfl dX6_noRow_20 ?_
    refine lv_iload_n hx hb dX6_noRow_23 rfl (lv_at hl 1 rfl) ?_
    refine va_iald hx hb hK hP 1 0 rfl rfl (in_shelf h_3) dX6_noRow_24 ?_
    refine lv_seti (v := fMh k_4) (congrArg fMh (cl8 (by omega))) ?_
    refine lv_iconst (v := 2) hx hb dX6_noRow_25 (by decide) ?_
    refine lv_icmp_ne (tgt := 36) hx hb dX6_noRow_26 (by decide) (fun c_8 => ?_) (fun c_8 => ?_)
    · refine lv_aload_n hx hb dX6_noRow_36 rfl (lv_at hl 0 rfl) ?_
      refine va_get (D := G) (ci := 5) (v := .ref qmh) (C := RX6) (T := TX6) (N := 35) hx hb hts iX_X6 hown hK hP 0 rfl rfl 0 (by decide) (hts _ m_t850) (fun _ h9 => h9) rfl dX6_noRow_37 ?_
      refine lv_iload_n hx hb dX6_noRow_40 rfl (lv_at hl 1 rfl) ?_
      refine va_iald hx hb hK hP 1 0 rfl rfl (in_shelf h_3) dX6_noRow_41 ?_
      refine lv_seti (v := fMh k_4) (congrArg fMh (cl8 (by omega))) ?_
      refine lv_if_ne (tgt := 54) hx hb dX6_noRow_42 (by decide) (fun c_9 => ?_) (fun c_9 => ?_)
      · refine lv_iconst (v := 0) hx hb dX6_noRow_54 (by decide) ?_
        exact endW (u := [zzO qm 5 [.ref qmh, v1, v2, v3, v4, v5, v6, v7, v8, .ref qmr, .int (nI (T_nb tA)), .ref qmB, .int (nI (T_np tA)), .ref qmO, .ref qmK, .int iEn, .int iTk, .int (T_sd tA), v18, v19, v20, v21, v22, v23, v24, v25, v26, .int iLv, .int iWs, v29, v30, v31, v32, v33, v34], zzI cy qmh 8 fMh, zzI cy qmr 8 fMr]) hx hb hr hlocks rfl (hP.sub [0, 1, 2] rfl) (hD.sub [0, 1, 2] (by decide +kernel) rfl) hS ⟨fMr, rfl, (Or.inr (Or.inr (Or.inr (⟨rfl, ⟨k_4, by omega, rfl, c_8, c_9⟩⟩))))⟩ dX6_noRow_55
      · refine lv_aload_n hx hb dX6_noRow_45 rfl (lv_at hl 0 rfl) ?_
        refine lv_bipush (v := (-4)) hx hb dX6_noRow_46 (by decide) ?_
        refine cVi (As := [.int (-4)]) (rest := []) (b := qm) (q := (RX6, TX6, 35)) ⟨hx, hb, hml, hown, hts⟩ (c_X6_refuse4 l G cy (s.heap).size qm (.ref qmh) v1 v2 v3 v4 v5 v6 v7 v8 qmr tA qmB qmO qmK iEn iTk v18 v19 v20 v21 v22 v23 v24 v25 v26 iLv iWs v29 v30 v31 v32 v33 v34 fMr) L_X6_91 hN hP hD hS hA [0, 2] [false, true, false] rfl (by decide +kernel) rfl 0 5 rfl rfl rfl ⟨Nat.le_of_ble_eq_true rfl, Nat.le_of_ble_eq_true rfl⟩ hl.1 (Nat.le_of_ble_eq_true rfl) dX6_noRow_48 ⟨Nat.le_of_ble_eq_true rfl, Nat.le_of_ble_eq_true rfl⟩ (fun r_10 u_12 H locs h_11 => ?_)
        clear hP hD hS
        intro hP hD hS
        obtain ⟨fX_13, rfl, h_11⟩ := h_11
        have hPD := pd_as [zzI cy qmh 8 fMh, zzO qm 5 [.ref qmh, v1, v2, v3, v4, v5, v6, v7, v8, .ref qmr, .int (nI (T_nb tA)), .ref qmB, .int (nI (T_np tA)), .ref qmO, .ref qmK, .int iEn, .int iTk, .int (T_sd tA), v18, v19, v20, v21, v22, v23, v24, v25, v26, .int iLv, .int iWs, v29, v30, v31, v32, v33, v34], zzI cy qmr 8 fX_13] hP hD rfl
        clear hP hD
        obtain ⟨hP, hD⟩ := hPD
        subst h_11
        refine lv_goto (tgt := 55) hx hb dX6_noRow_51 (by decide) ?_
        exact endW (u := [zzO qm 5 [.ref qmh, v1, v2, v3, v4, v5, v6, v7, v8, .ref qmr, .int (nI (T_nb tA)), .ref qmB, .int (nI (T_np tA)), .ref qmO, .ref qmK, .int iEn, .int iTk, .int (T_sd tA), v18, v19, v20, v21, v22, v23, v24, v25, v26, .int iLv, .int iWs, v29, v30, v31, v32, v33, v34], zzI cy qmh 8 fMh, zzI cy qmr 8 fX_13]) hx hb hr hlocks rfl (hP.sub [1, 0, 2] rfl) (hD.sub [1, 0, 2] (by decide +kernel) rfl) hS ⟨fX_13, rfl, (Or.inr (Or.inr (Or.inl (⟨rfl, ⟨k_4, by omega, rfl, c_8, c_9⟩⟩))))⟩ dX6_noRow_55
    · refine lv_aload_n hx hb dX6_noRow_29 rfl (lv_at hl 0 rfl) ?_
      refine lv_bipush (v := (-3)) hx hb dX6_noRow_30 (by decide) ?_
      refine cVi (As := [.int (-3)]) (rest := []) (b := qm) (q := (RX6, TX6, 35)) ⟨hx, hb, hml, hown, hts⟩ (c_X6_refuse3 l G cy (s.heap).size qm (.ref qmh) v1 v2 v3 v4 v5 v6 v7 v8 qmr tA qmB qmO qmK iEn iTk v18 v19 v20 v21 v22 v23 v24 v25 v26 iLv iWs v29 v30 v31 v32 v33 v34 fMr) L_X6_91 hN hP hD hS hA [0, 2] [false, true, false] rfl (by decide +kernel) rfl 0 5 rfl rfl rfl ⟨Nat.le_of_ble_eq_true rfl, Nat.le_of_ble_eq_true rfl⟩ hl.1 (Nat.le_of_ble_eq_true rfl) dX6_noRow_32 ⟨Nat.le_of_ble_eq_true rfl, Nat.le_of_ble_eq_true rfl⟩ (fun r_14 u_16 H locs h_15 => ?_)
      clear hP hD hS
      intro hP hD hS
      obtain ⟨fX_17, rfl, h_15⟩ := h_15
      have hPD := pd_as [zzI cy qmh 8 fMh, zzO qm 5 [.ref qmh, v1, v2, v3, v4, v5, v6, v7, v8, .ref qmr, .int (nI (T_nb tA)), .ref qmB, .int (nI (T_np tA)), .ref qmO, .ref qmK, .int iEn, .int iTk, .int (T_sd tA), v18, v19, v20, v21, v22, v23, v24, v25, v26, .int iLv, .int iWs, v29, v30, v31, v32, v33, v34], zzI cy qmr 8 fX_17] hP hD rfl
      clear hP hD
      obtain ⟨hP, hD⟩ := hPD
      subst h_15
      exact endW (u := [zzO qm 5 [.ref qmh, v1, v2, v3, v4, v5, v6, v7, v8, .ref qmr, .int (nI (T_nb tA)), .ref qmB, .int (nI (T_np tA)), .ref qmO, .ref qmK, .int iEn, .int iTk, .int (T_sd tA), v18, v19, v20, v21, v22, v23, v24, v25, v26, .int iLv, .int iWs, v29, v30, v31, v32, v33, v34], zzI cy qmh 8 fMh, zzI cy qmr 8 fX_17]) hx hb hr hlocks rfl (hP.sub [1, 0, 2] rfl) (hD.sub [1, 0, 2] (by decide +kernel) rfl) hS ⟨fX_17, rfl, (Or.inr (Or.inl (⟨rfl, ⟨k_4, by omega, rfl, c_8⟩⟩)))⟩ dX6_noRow_35
  · refine lv_if_ne (tgt := 19) hx hb dX6_noRow_9 (by decide) (fun h9 => absurd (by decide) h9) (fun _ => ?_)
    refine lv_aload_n hx hb dX6_noRow_12 rfl (lv_at hl 0 rfl) ?_
    refine lv_bipush (v := (-2)) hx hb dX6_noRow_13 (by decide) ?_
    refine cVi (As := [.int (-2)]) (rest := []) (b := qm) (q := (RX6, TX6, 35)) ⟨hx, hb, hml, hown, hts⟩ (c_X6_refuse2 l G cy (s.heap).size qm (.ref qmh) v1 v2 v3 v4 v5 v6 v7 v8 qmr tA qmB qmO qmK iEn iTk v18 v19 v20 v21 v22 v23 v24 v25 v26 iLv iWs v29 v30 v31 v32 v33 v34 fMr) L_X6_91 hN hP hD hS hA [0, 2] [false, true, false] rfl (by decide +kernel) rfl 0 5 rfl rfl rfl ⟨Nat.le_of_ble_eq_true rfl, Nat.le_of_ble_eq_true rfl⟩ hl.1 (Nat.le_of_ble_eq_true rfl) dX6_noRow_15 ⟨Nat.le_of_ble_eq_true rfl, Nat.le_of_ble_eq_true rfl⟩ (fun r_19 u_21 H locs h_20 => ?_)
    clear hP hD hS
    intro hP hD hS
    obtain ⟨fX_22, rfl, h_20⟩ := h_20
    have hPD := pd_as [zzI cy qmh 8 fMh, zzO qm 5 [.ref qmh, v1, v2, v3, v4, v5, v6, v7, v8, .ref qmr, .int (nI (T_nb tA)), .ref qmB, .int (nI (T_np tA)), .ref qmO, .ref qmK, .int iEn, .int iTk, .int (T_sd tA), v18, v19, v20, v21, v22, v23, v24, v25, v26, .int iLv, .int iWs, v29, v30, v31, v32, v33, v34], zzI cy qmr 8 fX_22] hP hD rfl
    clear hP hD
    obtain ⟨hP, hD⟩ := hPD
    subst h_20
    exact endW (u := [zzO qm 5 [.ref qmh, v1, v2, v3, v4, v5, v6, v7, v8, .ref qmr, .int (nI (T_nb tA)), .ref qmB, .int (nI (T_np tA)), .ref qmO, .ref qmK, .int iEn, .int iTk, .int (T_sd tA), v18, v19, v20, v21, v22, v23, v24, v25, v26, .int iLv, .int iWs, v29, v30, v31, v32, v33, v34], zzI cy qmh 8 fMh, zzI cy qmr 8 fX_22]) hx hb hr hlocks rfl (hP.sub [1, 0, 2] rfl) (hD.sub [1, 0, 2] (by decide +kernel) rfl) hS ⟨fX_22, rfl, (Or.inl (⟨rfl, no_of7 h_3⟩))⟩ dX6_noRow_18
set_option maxHeartbeats 4000000 in
set_option maxRecDepth 100000 in
theorem c_X6_noRule (l : Launch) (G : va_G) (cy : Nat → ClassId) (sz : Nat) (qm : Nat) (qmh : Nat) (v1 : Value) (v2 : Value) (v3 : Value) (v4 : Value) (v5 : Value) (v6 : Value) (v7 : Value) (v8 : Value) (qmr : Nat) (tA : TA) (qmB : Nat) (qmO : Nat) (qmK : Nat) (iEn : Int32) (iTk : Int32) (v18 : Value) (v19 : Value) (v20 : Value) (v21 : Value) (v22 : Value) (v23 : Value) (v24 : Value) (v25 : Value) (v26 : Value) (iLv : Int32) (iWs : Int32) (v29 : Value) (v30 : Value) (v31 : Value) (v32 : Value) (v33 : Value) (v34 : Value) (fMh : Nat → Int32) (fMr : Nat → Int32) (iA : Int32)   : MW l yX6_noRule cX6_noRule 2 (some .int) 3 0 0 G cy [zzO qm 5 [.ref qmh, v1, v2, v3, v4, v5, v6, v7, v8, .ref qmr, .int (nI (T_nb tA)), .ref qmB, .int (nI (T_np tA)), .ref qmO, .ref qmK, .int iEn, .int iTk, .int (T_sd tA), v18, v19, v20, v21, v22, v23, v24, v25, v26, .int iLv, .int iWs, v29, v30, v31, v32, v33, v34], zzI cy qmh 8 fMh, zzI cy qmr 8 fMr] sz [.ref qm, .int iA] (Wi G (fun r u => ∃ (fX : Nat → Int32), u = [zzO qm 5 [.ref qmh, v1, v2, v3, v4, v5, v6, v7, v8, .ref qmr, .int (nI (T_nb tA)), .ref qmB, .int (nI (T_np tA)), .ref qmO, .ref qmK, .int iEn, .int iTk, .int (T_sd tA), v18, v19, v20, v21, v22, v23, v24, v25, v26, .int iLv, .int iWs, v29, v30, v31, v32, v33, v34], zzI cy qmh 8 fMh, zzI cy qmr 8 fX] ∧ ((r = (-2) ∧ ¬ ∃ k : Nat, k < 8 ∧ iA = nI k) ∨ (r = (-3) ∧ ∃ k : Nat, k < 8 ∧ iA = nI k ∧ fMh k = 1) ∨ (r = (-4) ∧ ∃ k : Nat, k < 8 ∧ iA = nI k ∧ ¬ fMh k = 1 ∧ fMh k = 0) ∨ (r = 0 ∧ ∃ k : Nat, k < 8 ∧ iA = nI k ∧ ¬ fMh k = 1 ∧ ¬ fMh k = 0)))) := by
  refine enW RX6 (by decide) rfl (Nat.le_of_ble_eq_true rfl) (fun p e s m below meth c ls A hx hb hml hown hts hr hlocks hP hN hl hin hD hA hS => ?_)
  have hin : meth.name = _ := hin
  have hK := hN.1
  replace hl : lv_has ls 2 [(0, .ref qm), (1, .int iA)] := hl
  refine lv_iload_n hx hb dX6_noRule_0 rfl (lv_at hl 1 rfl) ?_
  refine lv_i2l (v := iA.toInt64) hx hb dX6_noRule_1 rfl ?_
  refine lv_lconst (v := 0) hx hb dX6_noRule_2 (by decide) ?_
  refine lv_ldc2 hx hb hown (hts _ m_t960) dX6_noRule_3 ?_
  refine kRi (rS (As := [.long iA.toInt64, .long 0, .long 7]) (rest := []) ⟨hx, hb, hml, hown, hts⟩ (c_X6_in l G cy iA.toInt64 0 7) L_X6_74 (preRS hN hP [] rfl) rfl ⟨Nat.le_of_ble_eq_true rfl, Nat.le_of_ble_eq_true rfl⟩ hl.1 (Nat.le_of_ble_eq_true rfl) dX6_noRule_6 ⟨Nat.le_of_ble_eq_true rfl, Nat.le_of_ble_eq_true rfl⟩) (fun r_1 h_2 => ?_)
  rcases h_2 with ⟨rfl, h_3⟩ | ⟨rfl, h_3⟩
  · obtain ⟨k_4, hk_5, hk_6, rfl⟩ := iv_nI 0 7 (by decide) (by decide) h_3
    refine lv_if_ne (tgt := 19) hx hb dX6_noRule_9 (by decide) (fun _ => ?_) (fun h9 => absurd h9 (by decide))
    refine lv_aload_n hx hb dX6_noRule_19 rfl (lv_at hl 0 rfl) ?_
    refine va_get (D := G) (ci := 5) (v := .ref qmh) (C := RX6) (T := TX6) (N := 35) hx hb hts iX_X6 hown hK hP 0 rfl rfl 0 (by decide) (hts _ m_t850) (fun _ h9 => h9) rfl dX6_noRule_20 ?_
    refine lv_iload_n hx hb dX6_noRule_23 rfl (lv_at hl 1 rfl) ?_
    refine va_iald hx hb hK hP 1 0 rfl rfl (in_shelf h_3) dX6_noRule_24 ?_
    refine lv_seti (v := fMh k_4) (congrArg fMh (cl8 (by omega))) ?_
    refine lv_iconst (v := 1) hx hb dX6_noRule_25 (by decide) ?_
    refine lv_icmp_ne (tgt := 36) hx hb dX6_noRule_26 (by decide) (fun c_8 => ?_) (fun c_8 => ?_)
    · refine lv_aload_n hx hb dX6_noRule_36 rfl (lv_at hl 0 rfl) ?_
      refine va_get (D := G) (ci := 5) (v := .ref qmh) (C := RX6) (T := TX6) (N := 35) hx hb hts iX_X6 hown hK hP 0 rfl rfl 0 (by decide) (hts _ m_t850) (fun _ h9 => h9) rfl dX6_noRule_37 ?_
      refine lv_iload_n hx hb dX6_noRule_40 rfl (lv_at hl 1 rfl) ?_
      refine va_iald hx hb hK hP 1 0 rfl rfl (in_shelf h_3) dX6_noRule_41 ?_
      refine lv_seti (v := fMh k_4) (congrArg fMh (cl8 (by omega))) ?_
      refine lv_if_ne (tgt := 54) hx hb dX6_noRule_42 (by decide) (fun c_9 => ?_) (fun c_9 => ?_)
      · refine lv_iconst (v := 0) hx hb dX6_noRule_54 (by decide) ?_
        exact endW (u := [zzO qm 5 [.ref qmh, v1, v2, v3, v4, v5, v6, v7, v8, .ref qmr, .int (nI (T_nb tA)), .ref qmB, .int (nI (T_np tA)), .ref qmO, .ref qmK, .int iEn, .int iTk, .int (T_sd tA), v18, v19, v20, v21, v22, v23, v24, v25, v26, .int iLv, .int iWs, v29, v30, v31, v32, v33, v34], zzI cy qmh 8 fMh, zzI cy qmr 8 fMr]) hx hb hr hlocks rfl (hP.sub [0, 1, 2] rfl) (hD.sub [0, 1, 2] (by decide +kernel) rfl) hS ⟨fMr, rfl, (Or.inr (Or.inr (Or.inr (⟨rfl, ⟨k_4, by omega, rfl, c_8, c_9⟩⟩))))⟩ dX6_noRule_55
      · refine lv_aload_n hx hb dX6_noRule_45 rfl (lv_at hl 0 rfl) ?_
        refine lv_bipush (v := (-4)) hx hb dX6_noRule_46 (by decide) ?_
        refine cVi (As := [.int (-4)]) (rest := []) (b := qm) (q := (RX6, TX6, 35)) ⟨hx, hb, hml, hown, hts⟩ (c_X6_refuse4 l G cy (s.heap).size qm (.ref qmh) v1 v2 v3 v4 v5 v6 v7 v8 qmr tA qmB qmO qmK iEn iTk v18 v19 v20 v21 v22 v23 v24 v25 v26 iLv iWs v29 v30 v31 v32 v33 v34 fMr) L_X6_91 hN hP hD hS hA [0, 2] [false, true, false] rfl (by decide +kernel) rfl 0 5 rfl rfl rfl ⟨Nat.le_of_ble_eq_true rfl, Nat.le_of_ble_eq_true rfl⟩ hl.1 (Nat.le_of_ble_eq_true rfl) dX6_noRule_48 ⟨Nat.le_of_ble_eq_true rfl, Nat.le_of_ble_eq_true rfl⟩ (fun r_10 u_12 H locs h_11 => ?_)
        clear hP hD hS
        intro hP hD hS
        obtain ⟨fX_13, rfl, h_11⟩ := h_11
        have hPD := pd_as [zzI cy qmh 8 fMh, zzO qm 5 [.ref qmh, v1, v2, v3, v4, v5, v6, v7, v8, .ref qmr, .int (nI (T_nb tA)), .ref qmB, .int (nI (T_np tA)), .ref qmO, .ref qmK, .int iEn, .int iTk, .int (T_sd tA), v18, v19, v20, v21, v22, v23, v24, v25, v26, .int iLv, .int iWs, v29, v30, v31, v32, v33, v34], zzI cy qmr 8 fX_13] hP hD rfl
        clear hP hD
        obtain ⟨hP, hD⟩ := hPD
        subst h_11
        refine lv_goto (tgt := 55) hx hb dX6_noRule_51 (by decide) ?_
        exact endW (u := [zzO qm 5 [.ref qmh, v1, v2, v3, v4, v5, v6, v7, v8, .ref qmr, .int (nI (T_nb tA)), .ref qmB, .int (nI (T_np tA)), .ref qmO, .ref qmK, .int iEn, .int iTk, .int (T_sd tA), v18, v19, v20, v21, v22, v23, v24, v25, v26, .int iLv, .int iWs, v29, v30, v31, v32, v33, v34], zzI cy qmh 8 fMh, zzI cy qmr 8 fX_13]) hx hb hr hlocks rfl (hP.sub [1, 0, 2] rfl) (hD.sub [1, 0, 2] (by decide +kernel) rfl) hS ⟨fX_13, rfl, (Or.inr (Or.inr (Or.inl (⟨rfl, ⟨k_4, by omega, rfl, c_8, c_9⟩⟩))))⟩ dX6_noRule_55
    · refine lv_aload_n hx hb dX6_noRule_29 rfl (lv_at hl 0 rfl) ?_
      refine lv_bipush (v := (-3)) hx hb dX6_noRule_30 (by decide) ?_
      refine cVi (As := [.int (-3)]) (rest := []) (b := qm) (q := (RX6, TX6, 35)) ⟨hx, hb, hml, hown, hts⟩ (c_X6_refuse3 l G cy (s.heap).size qm (.ref qmh) v1 v2 v3 v4 v5 v6 v7 v8 qmr tA qmB qmO qmK iEn iTk v18 v19 v20 v21 v22 v23 v24 v25 v26 iLv iWs v29 v30 v31 v32 v33 v34 fMr) L_X6_91 hN hP hD hS hA [0, 2] [false, true, false] rfl (by decide +kernel) rfl 0 5 rfl rfl rfl ⟨Nat.le_of_ble_eq_true rfl, Nat.le_of_ble_eq_true rfl⟩ hl.1 (Nat.le_of_ble_eq_true rfl) dX6_noRule_32 ⟨Nat.le_of_ble_eq_true rfl, Nat.le_of_ble_eq_true rfl⟩ (fun r_14 u_16 H locs h_15 => ?_)
      clear hP hD hS
      intro hP hD hS
      obtain ⟨fX_17, rfl, h_15⟩ := h_15
      have hPD := pd_as [zzI cy qmh 8 fMh, zzO qm 5 [.ref qmh, v1, v2, v3, v4, v5, v6, v7, v8, .ref qmr, .int (nI (T_nb tA)), .ref qmB, .int (nI (T_np tA)), .ref qmO, .ref qmK, .int iEn, .int iTk, .int (T_sd tA), v18, v19, v20, v21, v22, v23, v24, v25, v26, .int iLv, .int iWs, v29, v30, v31, v32, v33, v34], zzI cy qmr 8 fX_17] hP hD rfl
      clear hP hD
      obtain ⟨hP, hD⟩ := hPD
      subst h_15
      exact endW (u := [zzO qm 5 [.ref qmh, v1, v2, v3, v4, v5, v6, v7, v8, .ref qmr, .int (nI (T_nb tA)), .ref qmB, .int (nI (T_np tA)), .ref qmO, .ref qmK, .int iEn, .int iTk, .int (T_sd tA), v18, v19, v20, v21, v22, v23, v24, v25, v26, .int iLv, .int iWs, v29, v30, v31, v32, v33, v34], zzI cy qmh 8 fMh, zzI cy qmr 8 fX_17]) hx hb hr hlocks rfl (hP.sub [1, 0, 2] rfl) (hD.sub [1, 0, 2] (by decide +kernel) rfl) hS ⟨fX_17, rfl, (Or.inr (Or.inl (⟨rfl, ⟨k_4, by omega, rfl, c_8⟩⟩)))⟩ dX6_noRule_35
  · refine lv_if_ne (tgt := 19) hx hb dX6_noRule_9 (by decide) (fun h9 => absurd (by decide) h9) (fun _ => ?_)
    refine lv_aload_n hx hb dX6_noRule_12 rfl (lv_at hl 0 rfl) ?_
    refine lv_bipush (v := (-2)) hx hb dX6_noRule_13 (by decide) ?_
    refine cVi (As := [.int (-2)]) (rest := []) (b := qm) (q := (RX6, TX6, 35)) ⟨hx, hb, hml, hown, hts⟩ (c_X6_refuse2 l G cy (s.heap).size qm (.ref qmh) v1 v2 v3 v4 v5 v6 v7 v8 qmr tA qmB qmO qmK iEn iTk v18 v19 v20 v21 v22 v23 v24 v25 v26 iLv iWs v29 v30 v31 v32 v33 v34 fMr) L_X6_91 hN hP hD hS hA [0, 2] [false, true, false] rfl (by decide +kernel) rfl 0 5 rfl rfl rfl ⟨Nat.le_of_ble_eq_true rfl, Nat.le_of_ble_eq_true rfl⟩ hl.1 (Nat.le_of_ble_eq_true rfl) dX6_noRule_15 ⟨Nat.le_of_ble_eq_true rfl, Nat.le_of_ble_eq_true rfl⟩ (fun r_19 u_21 H locs h_20 => ?_)
    clear hP hD hS
    intro hP hD hS
    obtain ⟨fX_22, rfl, h_20⟩ := h_20
    have hPD := pd_as [zzI cy qmh 8 fMh, zzO qm 5 [.ref qmh, v1, v2, v3, v4, v5, v6, v7, v8, .ref qmr, .int (nI (T_nb tA)), .ref qmB, .int (nI (T_np tA)), .ref qmO, .ref qmK, .int iEn, .int iTk, .int (T_sd tA), v18, v19, v20, v21, v22, v23, v24, v25, v26, .int iLv, .int iWs, v29, v30, v31, v32, v33, v34], zzI cy qmr 8 fX_22] hP hD rfl
    clear hP hD
    obtain ⟨hP, hD⟩ := hPD
    subst h_20
    exact endW (u := [zzO qm 5 [.ref qmh, v1, v2, v3, v4, v5, v6, v7, v8, .ref qmr, .int (nI (T_nb tA)), .ref qmB, .int (nI (T_np tA)), .ref qmO, .ref qmK, .int iEn, .int iTk, .int (T_sd tA), v18, v19, v20, v21, v22, v23, v24, v25, v26, .int iLv, .int iWs, v29, v30, v31, v32, v33, v34], zzI cy qmh 8 fMh, zzI cy qmr 8 fX_22]) hx hb hr hlocks rfl (hP.sub [1, 0, 2] rfl) (hD.sub [1, 0, 2] (by decide +kernel) rfl) hS ⟨fX_22, rfl, (Or.inl (⟨rfl, no_of7 h_3⟩))⟩ dX6_noRule_18
set_option maxHeartbeats 4000000 in
set_option maxRecDepth 100000 in
theorem c_X6_isUnder (l : Launch) (G : va_G) (cy : Nat → ClassId) (iK : Int32) (iA : Int32)   : MR l yX6_isUnder cX6_isUnder 2 (some .boolean) 1 G cy [] [.int iK, .int iA] (vp_Si (fun r => (r = 1) ∨ (r = 0))) := by
  refine enR RX6 (by decide) rfl (Nat.le_of_ble_eq_true rfl) (fun p e s m below meth c ls hx hb hml hown hts hr hlocks hP hN hl => ?_)
  have hK := hN.1
  replace hl : lv_has ls 2 [(0, .int iK), (1, .int iA)] := hl
  refine lv_iload_n hx hb dX6_isUnder_0 rfl (lv_at hl 1 rfl) ?_
  refine lv_if_eq (tgt := 29) hx hb dX6_isUnder_1 (by decide) (fun c_1 => ?_) (fun c_1 => ?_)
  · refine lv_iconst (v := 1) hx hb dX6_isUnder_29 (by decide) ?_
    refine lv_goto (tgt := 34) hx hb dX6_isUnder_30 (by decide) ?_
    exact endR hx hb hr hlocks rfl (Or.inl rfl) dX6_isUnder_34
  · refine lv_iload_n hx hb dX6_isUnder_4 rfl (lv_at hl 0 rfl) ?_
    refine lv_iload_n hx hb dX6_isUnder_5 rfl (lv_at hl 1 rfl) ?_
    refine lv_icmp_eq (tgt := 29) hx hb dX6_isUnder_6 (by decide) (fun c_2 => ?_) (fun c_2 => ?_)
    · refine lv_iconst (v := 1) hx hb dX6_isUnder_29 (by decide) ?_
      refine lv_goto (tgt := 34) hx hb dX6_isUnder_30 (by decide) ?_
      exact endR hx hb hr hlocks rfl (Or.inl rfl) dX6_isUnder_34
    · refine lv_iload_n hx hb dX6_isUnder_9 rfl (lv_at hl 1 rfl) ?_
      refine lv_iconst (v := 1) hx hb dX6_isUnder_10 (by decide) ?_
      refine lv_icmp_ne (tgt := 19) hx hb dX6_isUnder_11 (by decide) (fun c_3 => ?_) (fun c_3 => ?_)
      · refine lv_iload_n hx hb dX6_isUnder_19 rfl (lv_at hl 1 rfl) ?_
        refine lv_iconst (v := 4) hx hb dX6_isUnder_20 (by decide) ?_
        refine lv_icmp_ne (tgt := 33) hx hb dX6_isUnder_21 (by decide) (fun c_4 => ?_) (fun c_4 => ?_)
        · refine lv_iconst (v := 0) hx hb dX6_isUnder_33 (by decide) ?_
          exact endR hx hb hr hlocks rfl (Or.inr rfl) dX6_isUnder_34
        · refine lv_iload_n hx hb dX6_isUnder_24 rfl (lv_at hl 0 rfl) ?_
          refine lv_iconst (v := 4) hx hb dX6_isUnder_25 (by decide) ?_
          refine lv_icmp_lt (tgt := 33) hx hb dX6_isUnder_26 (by decide) (fun c_5 => ?_) (fun c_5 => ?_)
          · refine lv_iconst (v := 0) hx hb dX6_isUnder_33 (by decide) ?_
            exact endR hx hb hr hlocks rfl (Or.inr rfl) dX6_isUnder_34
          · refine lv_iconst (v := 1) hx hb dX6_isUnder_29 (by decide) ?_
            refine lv_goto (tgt := 34) hx hb dX6_isUnder_30 (by decide) ?_
            exact endR hx hb hr hlocks rfl (Or.inl rfl) dX6_isUnder_34
      · refine lv_iload_n hx hb dX6_isUnder_14 rfl (lv_at hl 0 rfl) ?_
        refine lv_iconst (v := 3) hx hb dX6_isUnder_15 (by decide) ?_
        refine lv_icmp_le (tgt := 29) hx hb dX6_isUnder_16 (by decide) (fun c_6 => ?_) (fun c_6 => ?_)
        · refine lv_iconst (v := 1) hx hb dX6_isUnder_29 (by decide) ?_
          refine lv_goto (tgt := 34) hx hb dX6_isUnder_30 (by decide) ?_
          exact endR hx hb hr hlocks rfl (Or.inl rfl) dX6_isUnder_34
        · refine lv_iload_n hx hb dX6_isUnder_19 rfl (lv_at hl 1 rfl) ?_
          refine lv_iconst (v := 4) hx hb dX6_isUnder_20 (by decide) ?_
          refine lv_icmp_ne (tgt := 33) hx hb dX6_isUnder_21 (by decide) (fun c_7 => ?_) (fun c_7 => ?_)
          · refine lv_iconst (v := 0) hx hb dX6_isUnder_33 (by decide) ?_
            exact endR hx hb hr hlocks rfl (Or.inr rfl) dX6_isUnder_34
          · refine lv_iload_n hx hb dX6_isUnder_24 rfl (lv_at hl 0 rfl) ?_
            refine lv_iconst (v := 4) hx hb dX6_isUnder_25 (by decide) ?_
            refine lv_icmp_lt (tgt := 33) hx hb dX6_isUnder_26 (by decide) (fun c_8 => ?_) (fun c_8 => ?_)
            · refine lv_iconst (v := 0) hx hb dX6_isUnder_33 (by decide) ?_
              exact endR hx hb hr hlocks rfl (Or.inr rfl) dX6_isUnder_34
            · refine lv_iconst (v := 1) hx hb dX6_isUnder_29 (by decide) ?_
              refine lv_goto (tgt := 34) hx hb dX6_isUnder_30 (by decide) ?_
              exact endR hx hb hr hlocks rfl (Or.inl rfl) dX6_isUnder_34
set_option maxHeartbeats 4000000 in
set_option maxRecDepth 100000 in
theorem c_X6_noReading (l : Launch) (G : va_G) (cy : Nat → ClassId) (sz : Nat) (qm : Nat) (v0 : Value) (v1 : Value) (v2 : Value) (v3 : Value) (v4 : Value) (v5 : Value) (v6 : Value) (v7 : Value) (v8 : Value) (qmr : Nat) (tA : TA) (qmB : Nat) (qmO : Nat) (qmK : Nat) (iEn : Int32) (iTk : Int32) (v18 : Value) (v19 : Value) (v20 : Value) (v21 : Value) (v22 : Value) (v23 : Value) (v24 : Value) (v25 : Value) (v26 : Value) (iLv : Int32) (iWs : Int32) (v29 : Value) (v30 : Value) (v31 : Value) (v32 : Value) (v33 : Value) (v34 : Value) (rB : Nat → Nat) (rO : Nat → Nat) (fMr : Nat → Int32) (iA : Int32) (iB : Int32)  (hB : T_nb tA ≤ 8) (hPp : T_np tA ≤ 8) : MW l yX6_noReading cX6_noReading 3 (some .int) 3 0 0 G cy [zzO qm 5 [v0, v1, v2, v3, v4, v5, v6, v7, v8, .ref qmr, .int (nI (T_nb tA)), .ref qmB, .int (nI (T_np tA)), .ref qmO, .ref qmK, .int iEn, .int iTk, .int (T_sd tA), v18, v19, v20, v21, v22, v23, v24, v25, v26, .int iLv, .int iWs, v29, v30, v31, v32, v33, v34], zzG cy 3 qmB rB, zzI cy (rB 0) 4 (bkR tA 0), zzI cy (rB 1) 4 (bkR tA 1), zzI cy (rB 2) 4 (bkR tA 2), zzI cy (rB 3) 4 (bkR tA 3), zzI cy (rB 4) 4 (bkR tA 4), zzI cy (rB 5) 4 (bkR tA 5), zzI cy (rB 6) 4 (bkR tA 6), zzI cy (rB 7) 4 (bkR tA 7), zzG cy 3 qmO rO, zzI cy (rO 0) 5 (onR tA 0), zzI cy (rO 1) 5 (onR tA 1), zzI cy (rO 2) 5 (onR tA 2), zzI cy (rO 3) 5 (onR tA 3), zzI cy (rO 4) 5 (onR tA 4), zzI cy (rO 5) 5 (onR tA 5), zzI cy (rO 6) 5 (onR tA 6), zzI cy (rO 7) 5 (onR tA 7), zzI cy qmr 8 fMr] sz [.ref qm, .int iA, .int iB] (Wi G (fun r u => ∃ (fX : Nat → Int32), u = [zzO qm 5 [v0, v1, v2, v3, v4, v5, v6, v7, v8, .ref qmr, .int (nI (T_nb tA)), .ref qmB, .int (nI (T_np tA)), .ref qmO, .ref qmK, .int iEn, .int iTk, .int (T_sd tA), v18, v19, v20, v21, v22, v23, v24, v25, v26, .int iLv, .int iWs, v29, v30, v31, v32, v33, v34], zzG cy 3 qmB rB, zzI cy (rB 0) 4 (bkR tA 0), zzI cy (rB 1) 4 (bkR tA 1), zzI cy (rB 2) 4 (bkR tA 2), zzI cy (rB 3) 4 (bkR tA 3), zzI cy (rB 4) 4 (bkR tA 4), zzI cy (rB 5) 4 (bkR tA 5), zzI cy (rB 6) 4 (bkR tA 6), zzI cy (rB 7) 4 (bkR tA 7), zzG cy 3 qmO rO, zzI cy (rO 0) 5 (onR tA 0), zzI cy (rO 1) 5 (onR tA 1), zzI cy (rO 2) 5 (onR tA 2), zzI cy (rO 3) 5 (onR tA 3), zzI cy (rO 4) 5 (onR tA 4), zzI cy (rO 5) 5 (onR tA 5), zzI cy (rO 6) 5 (onR tA 6), zzI cy (rO 7) 5 (onR tA 7), zzI cy qmr 8 fX] ∧ ((r = (-2) ∧ ¬ ((∃ k : Nat, k < T_np tA ∧ iA = nI k) ∧ (∃ k : Nat, k < T_nb tA ∧ iB = nI k))) ∨ (r = (-5) ∧ ∃ k m : Nat, k < T_np tA ∧ m < T_nb tA ∧ iA = nI k ∧ iB = nI m ∧ (T_wh tA m = true ∨ T_gn tA k = true)) ∨ (r = 0 ∧ ∃ k m : Nat, k < T_np tA ∧ m < T_nb tA ∧ iA = nI k ∧ iB = nI m ∧ T_wh tA m = false ∧ T_gn tA k = false)))) := by
  refine enW RX6 (by decide) rfl (Nat.le_of_ble_eq_true rfl) (fun p e s m below meth c ls A hx hb hml hown hts hr hlocks hP hN hl hin hD hA hS => ?_)
  have hin : meth.name = _ := hin
  have hK := hN.1
  replace hl : lv_has ls 3 [(0, .ref qm), (1, .int iA), (2, .int iB)] := hl
  refine lv_aload_n hx hb dX6_noReading_0 rfl (lv_at hl 0 rfl) ?_
  refine lv_iload_n hx hb dX6_noReading_1 rfl (lv_at hl 1 rfl) ?_
  refine lv_i2l (v := iA.toInt64) hx hb dX6_noReading_2 rfl ?_
  refine kRi (rV (As := [.long iA.toInt64]) (rest := []) (b := qm) ⟨hx, hb, hml, hown, hts⟩ (c_X6_isOne l G cy qm v0 v1 v2 v3 v4 v5 v6 v7 v8 (.ref qmr) tA qmB qmO qmK iEn iTk v18 v19 v20 v21 v22 v23 v24 v25 v26 iLv iWs v29 v30 v31 v32 v33 v34 iA hPp) L_X6_236 (preRV (q := (RX6, TX6, 35)) hN hP [0] rfl 0 5 rfl rfl) rfl ⟨Nat.le_of_ble_eq_true rfl, Nat.le_of_ble_eq_true rfl⟩ hl.1 (Nat.le_of_ble_eq_true rfl) dX6_noReading_3 ⟨Nat.le_of_ble_eq_true rfl, Nat.le_of_ble_eq_true rfl⟩) (fun r_1 h_2 => ?_)
  rcases h_2 with ⟨rfl, h_3⟩ | ⟨rfl, h_3⟩
  · obtain ⟨k_4, hk_5, rfl⟩ := h_3
    refine lv_if_eq (tgt := 18) hx hb dX6_noReading_6 (by decide) (fun h9 => absurd h9 (by decide)) (fun _ => ?_)
    refine lv_aload_n hx hb dX6_noReading_9 rfl (lv_at hl 0 rfl) ?_
    refine lv_iload_n hx hb dX6_noReading_10 rfl (lv_at hl 2 rfl) ?_
    refine lv_i2l (v := iB.toInt64) hx hb dX6_noReading_11 rfl ?_
    refine kRi (rV (As := [.long iB.toInt64]) (rest := []) (b := qm) ⟨hx, hb, hml, hown, hts⟩ (c_X6_isBook l G cy qm v0 v1 v2 v3 v4 v5 v6 v7 v8 (.ref qmr) tA qmB qmO qmK iEn iTk v18 v19 v20 v21 v22 v23 v24 v25 v26 iLv iWs v29 v30 v31 v32 v33 v34 iB hB) L_X6_229 (preRV (q := (RX6, TX6, 35)) hN hP [0] rfl 0 5 rfl rfl) rfl ⟨Nat.le_of_ble_eq_true rfl, Nat.le_of_ble_eq_true rfl⟩ hl.1 (Nat.le_of_ble_eq_true rfl) dX6_noReading_12 ⟨Nat.le_of_ble_eq_true rfl, Nat.le_of_ble_eq_true rfl⟩) (fun r_7 h_8 => ?_)
    rcases h_8 with ⟨rfl, h_9⟩ | ⟨rfl, h_9⟩
    · obtain ⟨k_10, hk_11, rfl⟩ := h_9
      refine lv_if_ne (tgt := 25) hx hb dX6_noReading_15 (by decide) (fun _ => ?_) (fun h9 => absurd h9 (by decide))
      refine lv_aload_n hx hb dX6_noReading_25 rfl (lv_at hl 0 rfl) ?_
      refine lv_iload_n hx hb dX6_noReading_26 rfl (lv_at hl 2 rfl) ?_
      refine kRi (rV (As := [.int (nI k_10)]) (rest := []) (b := qm) ⟨hx, hb, hml, hown, hts⟩ (c_X6_isWhite l G cy qm v0 v1 v2 v3 v4 v5 v6 v7 v8 (.ref qmr) tA qmB qmO qmK iEn iTk v18 v19 v20 v21 v22 v23 v24 v25 v26 iLv iWs v29 v30 v31 v32 v33 v34 rB k_10 (by first | omega | (simp only [nb_sr, np_sr, nb_wr, np_wr, nb_rd, np_rd, nb_ch, np_ch, nb_zr, np_zr, nb_za, np_za, nb_ey, np_ey, nb_hf, np_hf, nb_dd, np_dd, nb_so, np_so, nb_skn, np_skn, nb_swh, np_swh, nb_sgn, np_sgn, nb_ssd, np_ssd, nb_sgo, np_sgo, nb_sag, np_sag]; omega))) L_X6_248 (preRV (q := (RX6, TX6, 35)) hN hP [0, 1, 2, 3, 4, 5, 6, 7, 8, 9] rfl 0 5 rfl rfl) rfl ⟨Nat.le_of_ble_eq_true rfl, Nat.le_of_ble_eq_true rfl⟩ hl.1 (Nat.le_of_ble_eq_true rfl) dX6_noReading_27 ⟨Nat.le_of_ble_eq_true rfl, Nat.le_of_ble_eq_true rfl⟩) (fun r_13 h_14 => ?_)
      rcases h_14 with ⟨rfl, h_15⟩ | ⟨rfl, h_15⟩
      · refine lv_if_ne (tgt := 41) hx hb dX6_noReading_30 (by decide) (fun _ => ?_) (fun h9 => absurd h9 (by decide))
        refine lv_aload_n hx hb dX6_noReading_41 rfl (lv_at hl 0 rfl) ?_
        refine lv_bipush (v := (-5)) hx hb dX6_noReading_42 (by decide) ?_
        refine cVi (As := [.int (-5)]) (rest := []) (b := qm) (q := (RX6, TX6, 35)) ⟨hx, hb, hml, hown, hts⟩ (c_X6_refuse5 l G cy (s.heap).size qm v0 v1 v2 v3 v4 v5 v6 v7 v8 qmr tA qmB qmO qmK iEn iTk v18 v19 v20 v21 v22 v23 v24 v25 v26 iLv iWs v29 v30 v31 v32 v33 v34 fMr) L_X6_91 hN hP hD hS hA [0, 19] [false, true, true, true, true, true, true, true, true, true, true, true, true, true, true, true, true, true, true, false] rfl (by decide +kernel) rfl 0 5 rfl rfl rfl ⟨Nat.le_of_ble_eq_true rfl, Nat.le_of_ble_eq_true rfl⟩ hl.1 (Nat.le_of_ble_eq_true rfl) dX6_noReading_44 ⟨Nat.le_of_ble_eq_true rfl, Nat.le_of_ble_eq_true rfl⟩ (fun r_17 u_19 H locs h_18 => ?_)
        clear hP hD hS
        intro hP hD hS
        obtain ⟨fX_20, rfl, h_18⟩ := h_18
        have hPD := pd_as [zzG cy 3 qmB rB, zzI cy (rB 0) 4 (bkR tA 0), zzI cy (rB 1) 4 (bkR tA 1), zzI cy (rB 2) 4 (bkR tA 2), zzI cy (rB 3) 4 (bkR tA 3), zzI cy (rB 4) 4 (bkR tA 4), zzI cy (rB 5) 4 (bkR tA 5), zzI cy (rB 6) 4 (bkR tA 6), zzI cy (rB 7) 4 (bkR tA 7), zzG cy 3 qmO rO, zzI cy (rO 0) 5 (onR tA 0), zzI cy (rO 1) 5 (onR tA 1), zzI cy (rO 2) 5 (onR tA 2), zzI cy (rO 3) 5 (onR tA 3), zzI cy (rO 4) 5 (onR tA 4), zzI cy (rO 5) 5 (onR tA 5), zzI cy (rO 6) 5 (onR tA 6), zzI cy (rO 7) 5 (onR tA 7), zzO qm 5 [v0, v1, v2, v3, v4, v5, v6, v7, v8, .ref qmr, .int (nI (T_nb tA)), .ref qmB, .int (nI (T_np tA)), .ref qmO, .ref qmK, .int iEn, .int iTk, .int (T_sd tA), v18, v19, v20, v21, v22, v23, v24, v25, v26, .int iLv, .int iWs, v29, v30, v31, v32, v33, v34], zzI cy qmr 8 fX_20] hP hD rfl
        clear hP hD
        obtain ⟨hP, hD⟩ := hPD
        subst h_18
        refine lv_goto (tgt := 51) hx hb dX6_noReading_47 (by decide) ?_
        exact endW (u := [zzO qm 5 [v0, v1, v2, v3, v4, v5, v6, v7, v8, .ref qmr, .int (nI (T_nb tA)), .ref qmB, .int (nI (T_np tA)), .ref qmO, .ref qmK, .int iEn, .int iTk, .int (T_sd tA), v18, v19, v20, v21, v22, v23, v24, v25, v26, .int iLv, .int iWs, v29, v30, v31, v32, v33, v34], zzG cy 3 qmB rB, zzI cy (rB 0) 4 (bkR tA 0), zzI cy (rB 1) 4 (bkR tA 1), zzI cy (rB 2) 4 (bkR tA 2), zzI cy (rB 3) 4 (bkR tA 3), zzI cy (rB 4) 4 (bkR tA 4), zzI cy (rB 5) 4 (bkR tA 5), zzI cy (rB 6) 4 (bkR tA 6), zzI cy (rB 7) 4 (bkR tA 7), zzG cy 3 qmO rO, zzI cy (rO 0) 5 (onR tA 0), zzI cy (rO 1) 5 (onR tA 1), zzI cy (rO 2) 5 (onR tA 2), zzI cy (rO 3) 5 (onR tA 3), zzI cy (rO 4) 5 (onR tA 4), zzI cy (rO 5) 5 (onR tA 5), zzI cy (rO 6) 5 (onR tA 6), zzI cy (rO 7) 5 (onR tA 7), zzI cy qmr 8 fX_20]) hx hb hr hlocks rfl (hP.sub [18, 0, 1, 2, 3, 4, 5, 6, 7, 8, 9, 10, 11, 12, 13, 14, 15, 16, 17, 19] rfl) (hD.sub [18, 0, 1, 2, 3, 4, 5, 6, 7, 8, 9, 10, 11, 12, 13, 14, 15, 16, 17, 19] (by decide +kernel) rfl) hS ⟨fX_20, rfl, (Or.inr (Or.inl (⟨rfl, ⟨k_4, k_10, hk_5, hk_11, rfl, rfl, Or.inl h_15⟩⟩)))⟩ dX6_noReading_51
      · refine lv_if_ne (tgt := 41) hx hb dX6_noReading_30 (by decide) (fun h9 => absurd (by decide) h9) (fun _ => ?_)
        refine lv_aload_n hx hb dX6_noReading_33 rfl (lv_at hl 0 rfl) ?_
        refine lv_iload_n hx hb dX6_noReading_34 rfl (lv_at hl 1 rfl) ?_
        refine kRi (rV (As := [.int (nI k_4)]) (rest := []) (b := qm) ⟨hx, hb, hml, hown, hts⟩ (c_X6_isThere l G cy qm v0 v1 v2 v3 v4 v5 v6 v7 v8 (.ref qmr) tA qmB qmO qmK iEn iTk v18 v19 v20 v21 v22 v23 v24 v25 v26 iLv iWs v29 v30 v31 v32 v33 v34 rO k_4 (by first | omega | (simp only [nb_sr, np_sr, nb_wr, np_wr, nb_rd, np_rd, nb_ch, np_ch, nb_zr, np_zr, nb_za, np_za, nb_ey, np_ey, nb_hf, np_hf, nb_dd, np_dd, nb_so, np_so, nb_skn, np_skn, nb_swh, np_swh, nb_sgn, np_sgn, nb_ssd, np_ssd, nb_sgo, np_sgo, nb_sag, np_sag]; omega))) L_X6_81 (preRV (q := (RX6, TX6, 35)) hN hP [0, 10, 11, 12, 13, 14, 15, 16, 17, 18] rfl 0 5 rfl rfl) rfl ⟨Nat.le_of_ble_eq_true rfl, Nat.le_of_ble_eq_true rfl⟩ hl.1 (Nat.le_of_ble_eq_true rfl) dX6_noReading_35 ⟨Nat.le_of_ble_eq_true rfl, Nat.le_of_ble_eq_true rfl⟩) (fun r_22 h_23 => ?_)
        rcases h_23 with ⟨rfl, h_24⟩ | ⟨rfl, h_24⟩
        · refine lv_if_ne (tgt := 50) hx hb dX6_noReading_38 (by decide) (fun _ => ?_) (fun h9 => absurd h9 (by decide))
          refine lv_iconst (v := 0) hx hb dX6_noReading_50 (by decide) ?_
          exact endW (u := [zzO qm 5 [v0, v1, v2, v3, v4, v5, v6, v7, v8, .ref qmr, .int (nI (T_nb tA)), .ref qmB, .int (nI (T_np tA)), .ref qmO, .ref qmK, .int iEn, .int iTk, .int (T_sd tA), v18, v19, v20, v21, v22, v23, v24, v25, v26, .int iLv, .int iWs, v29, v30, v31, v32, v33, v34], zzG cy 3 qmB rB, zzI cy (rB 0) 4 (bkR tA 0), zzI cy (rB 1) 4 (bkR tA 1), zzI cy (rB 2) 4 (bkR tA 2), zzI cy (rB 3) 4 (bkR tA 3), zzI cy (rB 4) 4 (bkR tA 4), zzI cy (rB 5) 4 (bkR tA 5), zzI cy (rB 6) 4 (bkR tA 6), zzI cy (rB 7) 4 (bkR tA 7), zzG cy 3 qmO rO, zzI cy (rO 0) 5 (onR tA 0), zzI cy (rO 1) 5 (onR tA 1), zzI cy (rO 2) 5 (onR tA 2), zzI cy (rO 3) 5 (onR tA 3), zzI cy (rO 4) 5 (onR tA 4), zzI cy (rO 5) 5 (onR tA 5), zzI cy (rO 6) 5 (onR tA 6), zzI cy (rO 7) 5 (onR tA 7), zzI cy qmr 8 fMr]) hx hb hr hlocks rfl (hP.sub [0, 1, 2, 3, 4, 5, 6, 7, 8, 9, 10, 11, 12, 13, 14, 15, 16, 17, 18, 19] rfl) (hD.sub [0, 1, 2, 3, 4, 5, 6, 7, 8, 9, 10, 11, 12, 13, 14, 15, 16, 17, 18, 19] (by decide +kernel) rfl) hS ⟨fMr, rfl, (Or.inr (Or.inr (⟨rfl, ⟨k_4, k_10, hk_5, hk_11, rfl, rfl, h_15, h_24⟩⟩)))⟩ dX6_noReading_51
        · refine lv_if_ne (tgt := 50) hx hb dX6_noReading_38 (by decide) (fun h9 => absurd (by decide) h9) (fun _ => ?_)
          refine lv_aload_n hx hb dX6_noReading_41 rfl (lv_at hl 0 rfl) ?_
          refine lv_bipush (v := (-5)) hx hb dX6_noReading_42 (by decide) ?_
          refine cVi (As := [.int (-5)]) (rest := []) (b := qm) (q := (RX6, TX6, 35)) ⟨hx, hb, hml, hown, hts⟩ (c_X6_refuse5 l G cy (s.heap).size qm v0 v1 v2 v3 v4 v5 v6 v7 v8 qmr tA qmB qmO qmK iEn iTk v18 v19 v20 v21 v22 v23 v24 v25 v26 iLv iWs v29 v30 v31 v32 v33 v34 fMr) L_X6_91 hN hP hD hS hA [0, 19] [false, true, true, true, true, true, true, true, true, true, true, true, true, true, true, true, true, true, true, false] rfl (by decide +kernel) rfl 0 5 rfl rfl rfl ⟨Nat.le_of_ble_eq_true rfl, Nat.le_of_ble_eq_true rfl⟩ hl.1 (Nat.le_of_ble_eq_true rfl) dX6_noReading_44 ⟨Nat.le_of_ble_eq_true rfl, Nat.le_of_ble_eq_true rfl⟩ (fun r_27 u_29 H locs h_28 => ?_)
          clear hP hD hS
          intro hP hD hS
          obtain ⟨fX_30, rfl, h_28⟩ := h_28
          have hPD := pd_as [zzG cy 3 qmB rB, zzI cy (rB 0) 4 (bkR tA 0), zzI cy (rB 1) 4 (bkR tA 1), zzI cy (rB 2) 4 (bkR tA 2), zzI cy (rB 3) 4 (bkR tA 3), zzI cy (rB 4) 4 (bkR tA 4), zzI cy (rB 5) 4 (bkR tA 5), zzI cy (rB 6) 4 (bkR tA 6), zzI cy (rB 7) 4 (bkR tA 7), zzG cy 3 qmO rO, zzI cy (rO 0) 5 (onR tA 0), zzI cy (rO 1) 5 (onR tA 1), zzI cy (rO 2) 5 (onR tA 2), zzI cy (rO 3) 5 (onR tA 3), zzI cy (rO 4) 5 (onR tA 4), zzI cy (rO 5) 5 (onR tA 5), zzI cy (rO 6) 5 (onR tA 6), zzI cy (rO 7) 5 (onR tA 7), zzO qm 5 [v0, v1, v2, v3, v4, v5, v6, v7, v8, .ref qmr, .int (nI (T_nb tA)), .ref qmB, .int (nI (T_np tA)), .ref qmO, .ref qmK, .int iEn, .int iTk, .int (T_sd tA), v18, v19, v20, v21, v22, v23, v24, v25, v26, .int iLv, .int iWs, v29, v30, v31, v32, v33, v34], zzI cy qmr 8 fX_30] hP hD rfl
          clear hP hD
          obtain ⟨hP, hD⟩ := hPD
          subst h_28
          refine lv_goto (tgt := 51) hx hb dX6_noReading_47 (by decide) ?_
          exact endW (u := [zzO qm 5 [v0, v1, v2, v3, v4, v5, v6, v7, v8, .ref qmr, .int (nI (T_nb tA)), .ref qmB, .int (nI (T_np tA)), .ref qmO, .ref qmK, .int iEn, .int iTk, .int (T_sd tA), v18, v19, v20, v21, v22, v23, v24, v25, v26, .int iLv, .int iWs, v29, v30, v31, v32, v33, v34], zzG cy 3 qmB rB, zzI cy (rB 0) 4 (bkR tA 0), zzI cy (rB 1) 4 (bkR tA 1), zzI cy (rB 2) 4 (bkR tA 2), zzI cy (rB 3) 4 (bkR tA 3), zzI cy (rB 4) 4 (bkR tA 4), zzI cy (rB 5) 4 (bkR tA 5), zzI cy (rB 6) 4 (bkR tA 6), zzI cy (rB 7) 4 (bkR tA 7), zzG cy 3 qmO rO, zzI cy (rO 0) 5 (onR tA 0), zzI cy (rO 1) 5 (onR tA 1), zzI cy (rO 2) 5 (onR tA 2), zzI cy (rO 3) 5 (onR tA 3), zzI cy (rO 4) 5 (onR tA 4), zzI cy (rO 5) 5 (onR tA 5), zzI cy (rO 6) 5 (onR tA 6), zzI cy (rO 7) 5 (onR tA 7), zzI cy qmr 8 fX_30]) hx hb hr hlocks rfl (hP.sub [18, 0, 1, 2, 3, 4, 5, 6, 7, 8, 9, 10, 11, 12, 13, 14, 15, 16, 17, 19] rfl) (hD.sub [18, 0, 1, 2, 3, 4, 5, 6, 7, 8, 9, 10, 11, 12, 13, 14, 15, 16, 17, 19] (by decide +kernel) rfl) hS ⟨fX_30, rfl, (Or.inr (Or.inl (⟨rfl, ⟨k_4, k_10, hk_5, hk_11, rfl, rfl, Or.inr h_24⟩⟩)))⟩ dX6_noReading_51
    · refine lv_if_ne (tgt := 25) hx hb dX6_noReading_15 (by decide) (fun h9 => absurd (by decide) h9) (fun _ => ?_)
      refine lv_aload_n hx hb dX6_noReading_18 rfl (lv_at hl 0 rfl) ?_
      refine lv_bipush (v := (-2)) hx hb dX6_noReading_19 (by decide) ?_
      refine cVi (As := [.int (-2)]) (rest := []) (b := qm) (q := (RX6, TX6, 35)) ⟨hx, hb, hml, hown, hts⟩ (c_X6_refuse2 l G cy (s.heap).size qm v0 v1 v2 v3 v4 v5 v6 v7 v8 qmr tA qmB qmO qmK iEn iTk v18 v19 v20 v21 v22 v23 v24 v25 v26 iLv iWs v29 v30 v31 v32 v33 v34 fMr) L_X6_91 hN hP hD hS hA [0, 19] [false, true, true, true, true, true, true, true, true, true, true, true, true, true, true, true, true, true, true, false] rfl (by decide +kernel) rfl 0 5 rfl rfl rfl ⟨Nat.le_of_ble_eq_true rfl, Nat.le_of_ble_eq_true rfl⟩ hl.1 (Nat.le_of_ble_eq_true rfl) dX6_noReading_21 ⟨Nat.le_of_ble_eq_true rfl, Nat.le_of_ble_eq_true rfl⟩ (fun r_32 u_34 H locs h_33 => ?_)
      clear hP hD hS
      intro hP hD hS
      obtain ⟨fX_35, rfl, h_33⟩ := h_33
      have hPD := pd_as [zzG cy 3 qmB rB, zzI cy (rB 0) 4 (bkR tA 0), zzI cy (rB 1) 4 (bkR tA 1), zzI cy (rB 2) 4 (bkR tA 2), zzI cy (rB 3) 4 (bkR tA 3), zzI cy (rB 4) 4 (bkR tA 4), zzI cy (rB 5) 4 (bkR tA 5), zzI cy (rB 6) 4 (bkR tA 6), zzI cy (rB 7) 4 (bkR tA 7), zzG cy 3 qmO rO, zzI cy (rO 0) 5 (onR tA 0), zzI cy (rO 1) 5 (onR tA 1), zzI cy (rO 2) 5 (onR tA 2), zzI cy (rO 3) 5 (onR tA 3), zzI cy (rO 4) 5 (onR tA 4), zzI cy (rO 5) 5 (onR tA 5), zzI cy (rO 6) 5 (onR tA 6), zzI cy (rO 7) 5 (onR tA 7), zzO qm 5 [v0, v1, v2, v3, v4, v5, v6, v7, v8, .ref qmr, .int (nI (T_nb tA)), .ref qmB, .int (nI (T_np tA)), .ref qmO, .ref qmK, .int iEn, .int iTk, .int (T_sd tA), v18, v19, v20, v21, v22, v23, v24, v25, v26, .int iLv, .int iWs, v29, v30, v31, v32, v33, v34], zzI cy qmr 8 fX_35] hP hD rfl
      clear hP hD
      obtain ⟨hP, hD⟩ := hPD
      subst h_33
      exact endW (u := [zzO qm 5 [v0, v1, v2, v3, v4, v5, v6, v7, v8, .ref qmr, .int (nI (T_nb tA)), .ref qmB, .int (nI (T_np tA)), .ref qmO, .ref qmK, .int iEn, .int iTk, .int (T_sd tA), v18, v19, v20, v21, v22, v23, v24, v25, v26, .int iLv, .int iWs, v29, v30, v31, v32, v33, v34], zzG cy 3 qmB rB, zzI cy (rB 0) 4 (bkR tA 0), zzI cy (rB 1) 4 (bkR tA 1), zzI cy (rB 2) 4 (bkR tA 2), zzI cy (rB 3) 4 (bkR tA 3), zzI cy (rB 4) 4 (bkR tA 4), zzI cy (rB 5) 4 (bkR tA 5), zzI cy (rB 6) 4 (bkR tA 6), zzI cy (rB 7) 4 (bkR tA 7), zzG cy 3 qmO rO, zzI cy (rO 0) 5 (onR tA 0), zzI cy (rO 1) 5 (onR tA 1), zzI cy (rO 2) 5 (onR tA 2), zzI cy (rO 3) 5 (onR tA 3), zzI cy (rO 4) 5 (onR tA 4), zzI cy (rO 5) 5 (onR tA 5), zzI cy (rO 6) 5 (onR tA 6), zzI cy (rO 7) 5 (onR tA 7), zzI cy qmr 8 fX_35]) hx hb hr hlocks rfl (hP.sub [18, 0, 1, 2, 3, 4, 5, 6, 7, 8, 9, 10, 11, 12, 13, 14, 15, 16, 17, 19] rfl) (hD.sub [18, 0, 1, 2, 3, 4, 5, 6, 7, 8, 9, 10, 11, 12, 13, 14, 15, 16, 17, 19] (by decide +kernel) rfl) hS ⟨fX_35, rfl, (Or.inl (⟨rfl, (fun q => h_9 q.2)⟩))⟩ dX6_noReading_24
  · refine lv_if_eq (tgt := 18) hx hb dX6_noReading_6 (by decide) (fun _ => ?_) (fun h9 => absurd (by decide) h9)
    refine lv_aload_n hx hb dX6_noReading_18 rfl (lv_at hl 0 rfl) ?_
    refine lv_bipush (v := (-2)) hx hb dX6_noReading_19 (by decide) ?_
    refine cVi (As := [.int (-2)]) (rest := []) (b := qm) (q := (RX6, TX6, 35)) ⟨hx, hb, hml, hown, hts⟩ (c_X6_refuse2 l G cy (s.heap).size qm v0 v1 v2 v3 v4 v5 v6 v7 v8 qmr tA qmB qmO qmK iEn iTk v18 v19 v20 v21 v22 v23 v24 v25 v26 iLv iWs v29 v30 v31 v32 v33 v34 fMr) L_X6_91 hN hP hD hS hA [0, 19] [false, true, true, true, true, true, true, true, true, true, true, true, true, true, true, true, true, true, true, false] rfl (by decide +kernel) rfl 0 5 rfl rfl rfl ⟨Nat.le_of_ble_eq_true rfl, Nat.le_of_ble_eq_true rfl⟩ hl.1 (Nat.le_of_ble_eq_true rfl) dX6_noReading_21 ⟨Nat.le_of_ble_eq_true rfl, Nat.le_of_ble_eq_true rfl⟩ (fun r_37 u_39 H locs h_38 => ?_)
    clear hP hD hS
    intro hP hD hS
    obtain ⟨fX_40, rfl, h_38⟩ := h_38
    have hPD := pd_as [zzG cy 3 qmB rB, zzI cy (rB 0) 4 (bkR tA 0), zzI cy (rB 1) 4 (bkR tA 1), zzI cy (rB 2) 4 (bkR tA 2), zzI cy (rB 3) 4 (bkR tA 3), zzI cy (rB 4) 4 (bkR tA 4), zzI cy (rB 5) 4 (bkR tA 5), zzI cy (rB 6) 4 (bkR tA 6), zzI cy (rB 7) 4 (bkR tA 7), zzG cy 3 qmO rO, zzI cy (rO 0) 5 (onR tA 0), zzI cy (rO 1) 5 (onR tA 1), zzI cy (rO 2) 5 (onR tA 2), zzI cy (rO 3) 5 (onR tA 3), zzI cy (rO 4) 5 (onR tA 4), zzI cy (rO 5) 5 (onR tA 5), zzI cy (rO 6) 5 (onR tA 6), zzI cy (rO 7) 5 (onR tA 7), zzO qm 5 [v0, v1, v2, v3, v4, v5, v6, v7, v8, .ref qmr, .int (nI (T_nb tA)), .ref qmB, .int (nI (T_np tA)), .ref qmO, .ref qmK, .int iEn, .int iTk, .int (T_sd tA), v18, v19, v20, v21, v22, v23, v24, v25, v26, .int iLv, .int iWs, v29, v30, v31, v32, v33, v34], zzI cy qmr 8 fX_40] hP hD rfl
    clear hP hD
    obtain ⟨hP, hD⟩ := hPD
    subst h_38
    exact endW (u := [zzO qm 5 [v0, v1, v2, v3, v4, v5, v6, v7, v8, .ref qmr, .int (nI (T_nb tA)), .ref qmB, .int (nI (T_np tA)), .ref qmO, .ref qmK, .int iEn, .int iTk, .int (T_sd tA), v18, v19, v20, v21, v22, v23, v24, v25, v26, .int iLv, .int iWs, v29, v30, v31, v32, v33, v34], zzG cy 3 qmB rB, zzI cy (rB 0) 4 (bkR tA 0), zzI cy (rB 1) 4 (bkR tA 1), zzI cy (rB 2) 4 (bkR tA 2), zzI cy (rB 3) 4 (bkR tA 3), zzI cy (rB 4) 4 (bkR tA 4), zzI cy (rB 5) 4 (bkR tA 5), zzI cy (rB 6) 4 (bkR tA 6), zzI cy (rB 7) 4 (bkR tA 7), zzG cy 3 qmO rO, zzI cy (rO 0) 5 (onR tA 0), zzI cy (rO 1) 5 (onR tA 1), zzI cy (rO 2) 5 (onR tA 2), zzI cy (rO 3) 5 (onR tA 3), zzI cy (rO 4) 5 (onR tA 4), zzI cy (rO 5) 5 (onR tA 5), zzI cy (rO 6) 5 (onR tA 6), zzI cy (rO 7) 5 (onR tA 7), zzI cy qmr 8 fX_40]) hx hb hr hlocks rfl (hP.sub [18, 0, 1, 2, 3, 4, 5, 6, 7, 8, 9, 10, 11, 12, 13, 14, 15, 16, 17, 19] rfl) (hD.sub [18, 0, 1, 2, 3, 4, 5, 6, 7, 8, 9, 10, 11, 12, 13, 14, 15, 16, 17, 19] (by decide +kernel) rfl) hS ⟨fX_40, rfl, (Or.inl (⟨rfl, (fun q => h_3 q.1)⟩))⟩ dX6_noReading_24
