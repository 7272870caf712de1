theorem dX6_aloud_0 : decode cX6_aloud 0 = .ok (.aload_n 0, 1) := g_42 bX6_aloud rfl
theorem dX6_aloud_1 : decode cX6_aloud 1 = .ok (.iload_n 1, 1) := g_27 bX6_aloud rfl
theorem dX6_aloud_2 : decode cX6_aloud 2 = .ok (.i2l, 1) := g_133 bX6_aloud rfl
theorem dX6_aloud_3 : decode cX6_aloud 3 = .ok (.invokevirtual 236, 3) := g_182 bX6_aloud rfl
theorem dX6_aloud_6 : decode cX6_aloud 6 = .ok (.ifCond .eq 30, 3) := g_153 30 bX6_aloud rfl rfl
theorem dX6_aloud_9 : decode cX6_aloud 9 = .ok (.aload_n 0, 1) := g_42 bX6_aloud rfl
theorem dX6_aloud_10 : decode cX6_aloud 10 = .ok (.iload_n 2, 1) := g_28 bX6_aloud rfl
theorem dX6_aloud_11 : decode cX6_aloud 11 = .ok (.i2l, 1) := g_133 bX6_aloud rfl
theorem dX6_aloud_12 : decode cX6_aloud 12 = .ok (.invokevirtual 229, 3) := g_182 bX6_aloud rfl
theorem dX6_aloud_15 : decode cX6_aloud 15 = .ok (.ifCond .eq 21, 3) := g_153 21 bX6_aloud rfl rfl
theorem dX6_aloud_18 : decode cX6_aloud 18 = .ok (.iload_n 3, 1) := g_29 bX6_aloud rfl
theorem dX6_aloud_19 : decode cX6_aloud 19 = .ok (.i2l, 1) := g_133 bX6_aloud rfl
theorem dX6_aloud_20 : decode cX6_aloud 20 = .ok (.lconst 0, 1) := g_9 bX6_aloud rfl
theorem dX6_aloud_21 : decode cX6_aloud 21 = .ok (.iconst 1, 1) := g_4 bX6_aloud rfl
theorem dX6_aloud_22 : decode cX6_aloud 22 = .ok (.aload_n 0, 1) := g_42 bX6_aloud rfl
theorem dX6_aloud_23 : decode cX6_aloud 23 = .ok (.getfield 78, 3) := g_180 bX6_aloud rfl
theorem dX6_aloud_26 : decode cX6_aloud 26 = .ok (.ishl, 1) := g_120 bX6_aloud rfl
theorem dX6_aloud_27 : decode cX6_aloud 27 = .ok (.iconst 1, 1) := g_4 bX6_aloud rfl
theorem dX6_aloud_28 : decode cX6_aloud 28 = .ok (.isub, 1) := g_100 bX6_aloud rfl
theorem dX6_aloud_29 : decode cX6_aloud 29 = .ok (.i2l, 1) := g_133 bX6_aloud rfl
theorem dX6_aloud_30 : decode cX6_aloud 30 = .ok (.invokestatic 74, 3) := g_184 bX6_aloud rfl
theorem dX6_aloud_33 : decode cX6_aloud 33 = .ok (.ifCond .ne 10, 3) := g_154 10 bX6_aloud rfl rfl
theorem dX6_aloud_36 : decode cX6_aloud 36 = .ok (.aload_n 0, 1) := g_42 bX6_aloud rfl
theorem dX6_aloud_37 : decode cX6_aloud 37 = .ok (.bipush (-2), 2) := g_16 254 bX6_aloud rfl rfl
theorem dX6_aloud_39 : decode cX6_aloud 39 = .ok (.invokevirtual 91, 3) := g_182 bX6_aloud rfl
theorem dX6_aloud_42 : decode cX6_aloud 42 = .ok (.ireturn, 1) := g_172 bX6_aloud rfl
theorem dX6_aloud_43 : decode cX6_aloud 43 = .ok (.aload_n 0, 1) := g_42 bX6_aloud rfl
theorem dX6_aloud_44 : decode cX6_aloud 44 = .ok (.iload_n 1, 1) := g_27 bX6_aloud rfl
theorem dX6_aloud_45 : decode cX6_aloud 45 = .ok (.iload_n 2, 1) := g_28 bX6_aloud rfl
theorem dX6_aloud_46 : decode cX6_aloud 46 = .ok (.invokevirtual 251, 3) := g_182 bX6_aloud rfl
theorem dX6_aloud_49 : decode cX6_aloud 49 = .ok (.istore 4, 2) := g_54 bX6_aloud rfl
theorem dX6_aloud_51 : decode cX6_aloud 51 = .ok (.iload 4, 2) := g_21 bX6_aloud rfl
theorem dX6_aloud_53 : decode cX6_aloud 53 = .ok (.ifCond .eq 8, 3) := g_153 8 bX6_aloud rfl rfl
theorem dX6_aloud_56 : decode cX6_aloud 56 = .ok (.iload 4, 2) := g_21 bX6_aloud rfl
theorem dX6_aloud_58 : decode cX6_aloud 58 = .ok (.goto 10, 3) := g_167 10 bX6_aloud rfl rfl
theorem dX6_aloud_61 : decode cX6_aloud 61 = .ok (.aload_n 0, 1) := g_42 bX6_aloud rfl
theorem dX6_aloud_62 : decode cX6_aloud 62 = .ok (.iload_n 1, 1) := g_27 bX6_aloud rfl
theorem dX6_aloud_63 : decode cX6_aloud 63 = .ok (.iload_n 2, 1) := g_28 bX6_aloud rfl
theorem dX6_aloud_64 : decode cX6_aloud 64 = .ok (.iload_n 3, 1) := g_29 bX6_aloud rfl
theorem dX6_aloud_65 : decode cX6_aloud 65 = .ok (.invokevirtual 260, 3) := g_182 bX6_aloud rfl
theorem dX6_aloud_68 : decode cX6_aloud 68 = .ok (.ireturn, 1) := g_172 bX6_aloud rfl
theorem dX6_alter_0 : decode cX6_alter 0 = .ok (.aload_n 0, 1) := g_42 bX6_alter rfl
theorem dX6_alter_1 : decode cX6_alter 1 = .ok (.iload_n 1, 1) := g_27 bX6_alter rfl
theorem dX6_alter_2 : decode cX6_alter 2 = .ok (.i2l, 1) := g_133 bX6_alter rfl
theorem dX6_alter_3 : decode cX6_alter 3 = .ok (.invokevirtual 236, 3) := g_182 bX6_alter rfl
theorem dX6_alter_6 : decode cX6_alter 6 = .ok (.ifCond .eq 24, 3) := g_153 24 bX6_alter rfl rfl
theorem dX6_alter_9 : decode cX6_alter 9 = .ok (.aload_n 0, 1) := g_42 bX6_alter rfl
theorem dX6_alter_10 : decode cX6_alter 10 = .ok (.iload_n 2, 1) := g_28 bX6_alter rfl
theorem dX6_alter_11 : decode cX6_alter 11 = .ok (.i2l, 1) := g_133 bX6_alter rfl
theorem dX6_alter_12 : decode cX6_alter 12 = .ok (.invokevirtual 229, 3) := g_182 bX6_alter rfl
theorem dX6_alter_15 : decode cX6_alter 15 = .ok (.ifCond .eq 15, 3) := g_153 15 bX6_alter rfl rfl
theorem dX6_alter_18 : decode cX6_alter 18 = .ok (.iload_n 3, 1) := g_29 bX6_alter rfl
theorem dX6_alter_19 : decode cX6_alter 19 = .ok (.i2l, 1) := g_133 bX6_alter rfl
theorem dX6_alter_20 : decode cX6_alter 20 = .ok (.lconst 0, 1) := g_9 bX6_alter rfl
theorem dX6_alter_21 : decode cX6_alter 21 = .ok (.ldc2_w 239, 3) := g_20 bX6_alter rfl
theorem dX6_alter_24 : decode cX6_alter 24 = .ok (.invokestatic 74, 3) := g_184 bX6_alter rfl
theorem dX6_alter_27 : decode cX6_alter 27 = .ok (.ifCond .ne 10, 3) := g_154 10 bX6_alter rfl rfl
theorem dX6_alter_30 : decode cX6_alter 30 = .ok (.aload_n 0, 1) := g_42 bX6_alter rfl
theorem dX6_alter_31 : decode cX6_alter 31 = .ok (.bipush (-2), 2) := g_16 254 bX6_alter rfl rfl
theorem dX6_alter_33 : decode cX6_alter 33 = .ok (.invokevirtual 91, 3) := g_182 bX6_alter rfl
theorem dX6_alter_36 : decode cX6_alter 36 = .ok (.ireturn, 1) := g_172 bX6_alter rfl
theorem dX6_alter_37 : decode cX6_alter 37 = .ok (.aload_n 0, 1) := g_42 bX6_alter rfl
theorem dX6_alter_38 : decode cX6_alter 38 = .ok (.iload_n 1, 1) := g_27 bX6_alter rfl
theorem dX6_alter_39 : decode cX6_alter 39 = .ok (.invokevirtual 81, 3) := g_182 bX6_alter rfl
theorem dX6_alter_42 : decode cX6_alter 42 = .ok (.ifCond .ne 10, 3) := g_154 10 bX6_alter rfl rfl
theorem dX6_alter_45 : decode cX6_alter 45 = .ok (.aload_n 0, 1) := g_42 bX6_alter rfl
theorem dX6_alter_46 : decode cX6_alter 46 = .ok (.bipush (-5), 2) := g_16 251 bX6_alter rfl rfl
theorem dX6_alter_48 : decode cX6_alter 48 = .ok (.invokevirtual 91, 3) := g_182 bX6_alter rfl
theorem dX6_alter_51 : decode cX6_alter 51 = .ok (.ireturn, 1) := g_172 bX6_alter rfl
theorem dX6_alter_52 : decode cX6_alter 52 = .ok (.aload_n 0, 1) := g_42 bX6_alter rfl
theorem dX6_alter_53 : decode cX6_alter 53 = .ok (.getfield 48, 3) := g_180 bX6_alter rfl
theorem dX6_alter_56 : decode cX6_alter 56 = .ok (.iload_n 1, 1) := g_27 bX6_alter rfl
theorem dX6_alter_57 : decode cX6_alter 57 = .ok (.aaload, 1) := g_50 bX6_alter rfl
theorem dX6_alter_58 : decode cX6_alter 58 = .ok (.iload_n 2, 1) := g_28 bX6_alter rfl
theorem dX6_alter_59 : decode cX6_alter 59 = .ok (.iaload, 1) := g_46 bX6_alter rfl
theorem dX6_alter_60 : decode cX6_alter 60 = .ok (.istore 4, 2) := g_54 bX6_alter rfl
theorem dX6_alter_62 : decode cX6_alter 62 = .ok (.aload_n 0, 1) := g_42 bX6_alter rfl
theorem dX6_alter_63 : decode cX6_alter 63 = .ok (.getfield 48, 3) := g_180 bX6_alter rfl
theorem dX6_alter_66 : decode cX6_alter 66 = .ok (.iload_n 1, 1) := g_27 bX6_alter rfl
theorem dX6_alter_67 : decode cX6_alter 67 = .ok (.aaload, 1) := g_50 bX6_alter rfl
theorem dX6_alter_68 : decode cX6_alter 68 = .ok (.iload_n 2, 1) := g_28 bX6_alter rfl
theorem dX6_alter_69 : decode cX6_alter 69 = .ok (.iload_n 3, 1) := g_29 bX6_alter rfl
theorem dX6_alter_70 : decode cX6_alter 70 = .ok (.iastore, 1) := g_79 bX6_alter rfl
theorem dX6_alter_71 : decode cX6_alter 71 = .ok (.iload 4, 2) := g_21 bX6_alter rfl
theorem dX6_alter_73 : decode cX6_alter 73 = .ok (.ireturn, 1) := g_172 bX6_alter rfl
theorem dX6_book_0 : decode cX6_book 0 = .ok (.iload_n 1, 1) := g_27 bX6_book rfl
theorem dX6_book_1 : decode cX6_book 1 = .ok (.i2l, 1) := g_133 bX6_book rfl
theorem dX6_book_2 : decode cX6_book 2 = .ok (.lconst 1, 1) := g_10 bX6_book rfl
theorem dX6_book_3 : decode cX6_book 3 = .ok (.ldc2_w 104, 3) := g_20 bX6_book rfl
theorem dX6_book_6 : decode cX6_book 6 = .ok (.invokestatic 74, 3) := g_184 bX6_book rfl
theorem dX6_book_9 : decode cX6_book 9 = .ok (.ifCond .eq 21, 3) := g_153 21 bX6_book rfl rfl
theorem dX6_book_12 : decode cX6_book 12 = .ok (.iload_n 2, 1) := g_28 bX6_book rfl
theorem dX6_book_13 : decode cX6_book 13 = .ok (.i2l, 1) := g_133 bX6_book rfl
theorem dX6_book_14 : decode cX6_book 14 = .ok (.lconst 0, 1) := g_9 bX6_book rfl
theorem dX6_book_15 : decode cX6_book 15 = .ok (.iconst 1, 1) := g_4 bX6_book rfl
theorem dX6_book_16 : decode cX6_book 16 = .ok (.aload_n 0, 1) := g_42 bX6_book rfl
theorem dX6_book_17 : decode cX6_book 17 = .ok (.getfield 71, 3) := g_180 bX6_book rfl
theorem dX6_book_20 : decode cX6_book 20 = .ok (.ishl, 1) := g_120 bX6_book rfl
theorem dX6_book_21 : decode cX6_book 21 = .ok (.iconst 1, 1) := g_4 bX6_book rfl
theorem dX6_book_22 : decode cX6_book 22 = .ok (.isub, 1) := g_100 bX6_book rfl
theorem dX6_book_23 : decode cX6_book 23 = .ok (.i2l, 1) := g_133 bX6_book rfl
theorem dX6_book_24 : decode cX6_book 24 = .ok (.invokestatic 74, 3) := g_184 bX6_book rfl
theorem dX6_book_27 : decode cX6_book 27 = .ok (.ifCond .ne 10, 3) := g_154 10 bX6_book rfl rfl
theorem dX6_book_30 : decode cX6_book 30 = .ok (.aload_n 0, 1) := g_42 bX6_book rfl
theorem dX6_book_31 : decode cX6_book 31 = .ok (.bipush (-2), 2) := g_16 254 bX6_book rfl rfl
theorem dX6_book_33 : decode cX6_book 33 = .ok (.invokevirtual 91, 3) := g_182 bX6_book rfl
theorem dX6_book_36 : decode cX6_book 36 = .ok (.ireturn, 1) := g_172 bX6_book rfl
theorem dX6_book_37 : decode cX6_book 37 = .ok (.aload_n 0, 1) := g_42 bX6_book rfl
theorem dX6_book_38 : decode cX6_book 38 = .ok (.getfield 71, 3) := g_180 bX6_book rfl
theorem dX6_book_41 : decode cX6_book 41 = .ok (.bipush 8, 2) := g_16 8 bX6_book rfl rfl
theorem dX6_book_43 : decode cX6_book 43 = .ok (.if_icmp .ne 10, 3) := g_160 10 bX6_book rfl rfl
theorem dX6_book_46 : decode cX6_book 46 = .ok (.aload_n 0, 1) := g_42 bX6_book rfl
theorem dX6_book_47 : decode cX6_book 47 = .ok (.bipush (-6), 2) := g_16 250 bX6_book rfl rfl
theorem dX6_book_49 : decode cX6_book 49 = .ok (.invokevirtual 91, 3) := g_182 bX6_book rfl
theorem dX6_book_52 : decode cX6_book 52 = .ok (.ireturn, 1) := g_172 bX6_book rfl
theorem dX6_book_53 : decode cX6_book 53 = .ok (.aload_n 0, 1) := g_42 bX6_book rfl
theorem dX6_book_54 : decode cX6_book 54 = .ok (.iload_n 1, 1) := g_27 bX6_book rfl
theorem dX6_book_55 : decode cX6_book 55 = .ok (.invokevirtual 126, 3) := g_182 bX6_book rfl
theorem dX6_book_58 : decode cX6_book 58 = .ok (.aload_n 0, 1) := g_42 bX6_book rfl
theorem dX6_book_59 : decode cX6_book 59 = .ok (.getfield 42, 3) := g_180 bX6_book rfl
theorem dX6_book_62 : decode cX6_book 62 = .ok (.aload_n 0, 1) := g_42 bX6_book rfl
theorem dX6_book_63 : decode cX6_book 63 = .ok (.getfield 71, 3) := g_180 bX6_book rfl
theorem dX6_book_66 : decode cX6_book 66 = .ok (.aaload, 1) := g_50 bX6_book rfl
theorem dX6_book_67 : decode cX6_book 67 = .ok (.iconst 1, 1) := g_4 bX6_book rfl
theorem dX6_book_68 : decode cX6_book 68 = .ok (.iload_n 2, 1) := g_28 bX6_book rfl
theorem dX6_book_69 : decode cX6_book 69 = .ok (.iastore, 1) := g_79 bX6_book rfl
theorem dX6_book_70 : decode cX6_book 70 = .ok (.aload_n 0, 1) := g_42 bX6_book rfl
theorem dX6_book_71 : decode cX6_book 71 = .ok (.dup, 1) := g_89 bX6_book rfl
theorem dX6_book_72 : decode cX6_book 72 = .ok (.getfield 71, 3) := g_180 bX6_book rfl
theorem dX6_book_75 : decode cX6_book 75 = .ok (.dup_x1, 1) := g_90 bX6_book rfl
theorem dX6_book_76 : decode cX6_book 76 = .ok (.iconst 1, 1) := g_4 bX6_book rfl
theorem dX6_book_77 : decode cX6_book 77 = .ok (.iadd, 1) := g_96 bX6_book rfl
theorem dX6_book_78 : decode cX6_book 78 = .ok (.putfield 71, 3) := g_181 bX6_book rfl
theorem dX6_book_81 : decode cX6_book 81 = .ok (.ireturn, 1) := g_172 bX6_book rfl
theorem dX6_bookOf_0 : decode cX6_bookOf 0 = .ok (.aload_n 0, 1) := g_42 bX6_bookOf rfl
theorem dX6_bookOf_1 : decode cX6_bookOf 1 = .ok (.iload_n 1, 1) := g_27 bX6_bookOf rfl
theorem dX6_bookOf_2 : decode cX6_bookOf 2 = .ok (.i2l, 1) := g_133 bX6_bookOf rfl
theorem dX6_bookOf_3 : decode cX6_bookOf 3 = .ok (.invokevirtual 229, 3) := g_182 bX6_bookOf rfl
theorem dX6_bookOf_6 : decode cX6_bookOf 6 = .ok (.ifCond .eq 15, 3) := g_153 15 bX6_bookOf rfl rfl
theorem dX6_bookOf_9 : decode cX6_bookOf 9 = .ok (.iload_n 2, 1) := g_28 bX6_bookOf rfl
theorem dX6_bookOf_10 : decode cX6_bookOf 10 = .ok (.i2l, 1) := g_133 bX6_bookOf rfl
theorem dX6_bookOf_11 : decode cX6_bookOf 11 = .ok (.lconst 0, 1) := g_9 bX6_bookOf rfl
theorem dX6_bookOf_12 : decode cX6_bookOf 12 = .ok (.ldc2_w 87, 3) := g_20 bX6_bookOf rfl
theorem dX6_bookOf_15 : decode cX6_bookOf 15 = .ok (.invokestatic 74, 3) := g_184 bX6_bookOf rfl
theorem dX6_bookOf_18 : decode cX6_bookOf 18 = .ok (.ifCond .ne 10, 3) := g_154 10 bX6_bookOf rfl rfl
theorem dX6_bookOf_21 : decode cX6_bookOf 21 = .ok (.aload_n 0, 1) := g_42 bX6_bookOf rfl
theorem dX6_bookOf_22 : decode cX6_bookOf 22 = .ok (.bipush (-2), 2) := g_16 254 bX6_bookOf rfl rfl
theorem dX6_bookOf_24 : decode cX6_bookOf 24 = .ok (.invokevirtual 91, 3) := g_182 bX6_bookOf rfl
theorem dX6_bookOf_27 : decode cX6_bookOf 27 = .ok (.ireturn, 1) := g_172 bX6_bookOf rfl
theorem dX6_bookOf_28 : decode cX6_bookOf 28 = .ok (.iload_n 2, 1) := g_28 bX6_bookOf rfl
theorem dX6_bookOf_29 : decode cX6_bookOf 29 = .ok (.iconst 4, 1) := g_7 bX6_bookOf rfl
theorem dX6_bookOf_30 : decode cX6_bookOf 30 = .ok (.if_icmp .ne 19, 3) := g_160 19 bX6_bookOf rfl rfl
theorem dX6_bookOf_33 : decode cX6_bookOf 33 = .ok (.aload_n 0, 1) := g_42 bX6_bookOf rfl
theorem dX6_bookOf_34 : decode cX6_bookOf 34 = .ok (.iload_n 1, 1) := g_27 bX6_bookOf rfl
theorem dX6_bookOf_35 : decode cX6_bookOf 35 = .ok (.iconst 1, 1) := g_4 bX6_bookOf rfl
theorem dX6_bookOf_36 : decode cX6_bookOf 36 = .ok (.aload_n 0, 1) := g_42 bX6_bookOf rfl
theorem dX6_bookOf_37 : decode cX6_bookOf 37 = .ok (.getfield 78, 3) := g_180 bX6_bookOf rfl
theorem dX6_bookOf_40 : decode cX6_bookOf 40 = .ok (.ishl, 1) := g_120 bX6_bookOf rfl
theorem dX6_bookOf_41 : decode cX6_bookOf 41 = .ok (.iconst 1, 1) := g_4 bX6_bookOf rfl
theorem dX6_bookOf_42 : decode cX6_bookOf 42 = .ok (.isub, 1) := g_100 bX6_bookOf rfl
theorem dX6_bookOf_43 : decode cX6_bookOf 43 = .ok (.invokevirtual 233, 3) := g_182 bX6_bookOf rfl
theorem dX6_bookOf_46 : decode cX6_bookOf 46 = .ok (.goto 11, 3) := g_167 11 bX6_bookOf rfl rfl
theorem dX6_bookOf_49 : decode cX6_bookOf 49 = .ok (.aload_n 0, 1) := g_42 bX6_bookOf rfl
theorem dX6_bookOf_50 : decode cX6_bookOf 50 = .ok (.getfield 42, 3) := g_180 bX6_bookOf rfl
theorem dX6_bookOf_53 : decode cX6_bookOf 53 = .ok (.iload_n 1, 1) := g_27 bX6_bookOf rfl
theorem dX6_bookOf_54 : decode cX6_bookOf 54 = .ok (.aaload, 1) := g_50 bX6_bookOf rfl
theorem dX6_bookOf_55 : decode cX6_bookOf 55 = .ok (.iload_n 2, 1) := g_28 bX6_bookOf rfl
theorem dX6_bookOf_56 : decode cX6_bookOf 56 = .ok (.iaload, 1) := g_46 bX6_bookOf rfl
theorem dX6_bookOf_57 : decode cX6_bookOf 57 = .ok (.ireturn, 1) := g_172 bX6_bookOf rfl
theorem dX6_feed_0 : decode cX6_feed 0 = .ok (.iload_n 2, 1) := g_28 bX6_feed rfl
theorem dX6_feed_1 : decode cX6_feed 1 = .ok (.i2l, 1) := g_133 bX6_feed rfl
theorem dX6_feed_2 : decode cX6_feed 2 = .ok (.lconst 1, 1) := g_10 bX6_feed rfl
theorem dX6_feed_3 : decode cX6_feed 3 = .ok (.ldc2_w 87, 3) := g_20 bX6_feed rfl
theorem dX6_feed_6 : decode cX6_feed 6 = .ok (.invokestatic 74, 3) := g_184 bX6_feed rfl
theorem dX6_feed_9 : decode cX6_feed 9 = .ok (.ifCond .ne 10, 3) := g_154 10 bX6_feed rfl rfl
theorem dX6_feed_12 : decode cX6_feed 12 = .ok (.aload_n 0, 1) := g_42 bX6_feed rfl
theorem dX6_feed_13 : decode cX6_feed 13 = .ok (.bipush (-2), 2) := g_16 254 bX6_feed rfl rfl
theorem dX6_feed_15 : decode cX6_feed 15 = .ok (.invokevirtual 91, 3) := g_182 bX6_feed rfl
theorem dX6_feed_18 : decode cX6_feed 18 = .ok (.ireturn, 1) := g_172 bX6_feed rfl
theorem dX6_feed_19 : decode cX6_feed 19 = .ok (.iload_n 2, 1) := g_28 bX6_feed rfl
theorem dX6_feed_20 : decode cX6_feed 20 = .ok (.sipush 250, 3) := g_17 250 bX6_feed rfl rfl
theorem dX6_feed_23 : decode cX6_feed 23 = .ok (.aload_n 0, 1) := g_42 bX6_feed rfl
theorem dX6_feed_24 : decode cX6_feed 24 = .ok (.getfield 141, 3) := g_180 bX6_feed rfl
theorem dX6_feed_27 : decode cX6_feed 27 = .ok (.isub, 1) := g_100 bX6_feed rfl
theorem dX6_feed_28 : decode cX6_feed 28 = .ok (.if_icmp .le 10, 3) := g_164 10 bX6_feed rfl rfl
theorem dX6_feed_31 : decode cX6_feed 31 = .ok (.aload_n 0, 1) := g_42 bX6_feed rfl
theorem dX6_feed_32 : decode cX6_feed 32 = .ok (.bipush (-6), 2) := g_16 250 bX6_feed rfl rfl
theorem dX6_feed_34 : decode cX6_feed 34 = .ok (.invokevirtual 91, 3) := g_182 bX6_feed rfl
theorem dX6_feed_37 : decode cX6_feed 37 = .ok (.ireturn, 1) := g_172 bX6_feed rfl
theorem dX6_feed_38 : decode cX6_feed 38 = .ok (.iload_n 2, 1) := g_28 bX6_feed rfl
theorem dX6_feed_39 : decode cX6_feed 39 = .ok (.iconst 1, 1) := g_4 bX6_feed rfl
theorem dX6_feed_40 : decode cX6_feed 40 = .ok (.isub, 1) := g_100 bX6_feed rfl
theorem dX6_feed_41 : decode cX6_feed 41 = .ok (.istore_n 3, 1) := g_62 bX6_feed rfl
theorem dX6_feed_42 : decode cX6_feed 42 = .ok (.iload_n 3, 1) := g_29 bX6_feed rfl
theorem dX6_feed_43 : decode cX6_feed 43 = .ok (.ifCond .lt 35, 3) := g_155 35 bX6_feed rfl rfl
theorem dX6_feed_46 : decode cX6_feed 46 = .ok (.aload_n 0, 1) := g_42 bX6_feed rfl
theorem dX6_feed_47 : decode cX6_feed 47 = .ok (.getfield 34, 3) := g_180 bX6_feed rfl
theorem dX6_feed_50 : decode cX6_feed 50 = .ok (.aload_n 0, 1) := g_42 bX6_feed rfl
theorem dX6_feed_51 : decode cX6_feed 51 = .ok (.dup, 1) := g_89 bX6_feed rfl
theorem dX6_feed_52 : decode cX6_feed 52 = .ok (.getfield 141, 3) := g_180 bX6_feed rfl
theorem dX6_feed_55 : decode cX6_feed 55 = .ok (.dup_x1, 1) := g_90 bX6_feed rfl
theorem dX6_feed_56 : decode cX6_feed 56 = .ok (.iconst 1, 1) := g_4 bX6_feed rfl
theorem dX6_feed_57 : decode cX6_feed 57 = .ok (.iadd, 1) := g_96 bX6_feed rfl
theorem dX6_feed_58 : decode cX6_feed 58 = .ok (.putfield 141, 3) := g_181 bX6_feed rfl
theorem dX6_feed_61 : decode cX6_feed 61 = .ok (.iload_n 1, 1) := g_27 bX6_feed rfl
theorem dX6_feed_62 : decode cX6_feed 62 = .ok (.bipush 8, 2) := g_16 8 bX6_feed rfl rfl
theorem dX6_feed_64 : decode cX6_feed 64 = .ok (.iload_n 3, 1) := g_29 bX6_feed rfl
theorem dX6_feed_65 : decode cX6_feed 65 = .ok (.imul, 1) := g_104 bX6_feed rfl
theorem dX6_feed_66 : decode cX6_feed 66 = .ok (.ishr, 1) := g_122 bX6_feed rfl
theorem dX6_feed_67 : decode cX6_feed 67 = .ok (.sipush 255, 3) := g_17 255 bX6_feed rfl rfl
theorem dX6_feed_70 : decode cX6_feed 70 = .ok (.iand, 1) := g_126 bX6_feed rfl
theorem dX6_feed_71 : decode cX6_feed 71 = .ok (.iastore, 1) := g_79 bX6_feed rfl
theorem dX6_feed_72 : decode cX6_feed 72 = .ok (.iinc 3 (-1), 3) := g_132 255 bX6_feed rfl rfl
theorem dX6_feed_75 : decode cX6_feed 75 = .ok (.goto (-33), 3) := g_167 65503 bX6_feed rfl rfl
theorem dX6_feed_78 : decode cX6_feed 78 = .ok (.aload_n 0, 1) := g_42 bX6_feed rfl
theorem dX6_feed_79 : decode cX6_feed 79 = .ok (.getfield 141, 3) := g_180 bX6_feed rfl
theorem dX6_feed_82 : decode cX6_feed 82 = .ok (.ireturn, 1) := g_172 bX6_feed rfl
theorem dX6_ground_0 : decode cX6_ground 0 = .ok (.aload_n 0, 1) := g_42 bX6_ground rfl
theorem dX6_ground_1 : decode cX6_ground 1 = .ok (.iload_n 1, 1) := g_27 bX6_ground rfl
theorem dX6_ground_2 : decode cX6_ground 2 = .ok (.i2l, 1) := g_133 bX6_ground rfl
theorem dX6_ground_3 : decode cX6_ground 3 = .ok (.invokevirtual 236, 3) := g_182 bX6_ground rfl
theorem dX6_ground_6 : decode cX6_ground 6 = .ok (.ifCond .eq 21, 3) := g_153 21 bX6_ground rfl rfl
theorem dX6_ground_9 : decode cX6_ground 9 = .ok (.aload_n 0, 1) := g_42 bX6_ground rfl
theorem dX6_ground_10 : decode cX6_ground 10 = .ok (.iload_n 2, 1) := g_28 bX6_ground rfl
theorem dX6_ground_11 : decode cX6_ground 11 = .ok (.i2l, 1) := g_133 bX6_ground rfl
theorem dX6_ground_12 : decode cX6_ground 12 = .ok (.invokevirtual 229, 3) := g_182 bX6_ground rfl
theorem dX6_ground_15 : decode cX6_ground 15 = .ok (.ifCond .eq 12, 3) := g_153 12 bX6_ground rfl rfl
theorem dX6_ground_18 : decode cX6_ground 18 = .ok (.aload_n 0, 1) := g_42 bX6_ground rfl
theorem dX6_ground_19 : decode cX6_ground 19 = .ok (.iload_n 1, 1) := g_27 bX6_ground rfl
theorem dX6_ground_20 : decode cX6_ground 20 = .ok (.iload_n 2, 1) := g_28 bX6_ground rfl
theorem dX6_ground_21 : decode cX6_ground 21 = .ok (.invokevirtual 241, 3) := g_182 bX6_ground rfl
theorem dX6_ground_24 : decode cX6_ground 24 = .ok (.goto 9, 3) := g_167 9 bX6_ground rfl rfl
theorem dX6_ground_27 : decode cX6_ground 27 = .ok (.aload_n 0, 1) := g_42 bX6_ground rfl
theorem dX6_ground_28 : decode cX6_ground 28 = .ok (.bipush (-2), 2) := g_16 254 bX6_ground rfl rfl
theorem dX6_ground_30 : decode cX6_ground 30 = .ok (.invokevirtual 91, 3) := g_182 bX6_ground rfl
theorem dX6_ground_33 : decode cX6_ground 33 = .ok (.ireturn, 1) := g_172 bX6_ground rfl
theorem dX6_known_0 : decode cX6_known 0 = .ok (.aload_n 0, 1) := g_42 bX6_known rfl
theorem dX6_known_1 : decode cX6_known 1 = .ok (.iload_n 1, 1) := g_27 bX6_known rfl
theorem dX6_known_2 : decode cX6_known 2 = .ok (.i2l, 1) := g_133 bX6_known rfl
theorem dX6_known_3 : decode cX6_known 3 = .ok (.invokevirtual 236, 3) := g_182 bX6_known rfl
theorem dX6_known_6 : decode cX6_known 6 = .ok (.ifCond .eq 23, 3) := g_153 23 bX6_known rfl rfl
theorem dX6_known_9 : decode cX6_known 9 = .ok (.aload_n 0, 1) := g_42 bX6_known rfl
theorem dX6_known_10 : decode cX6_known 10 = .ok (.iload_n 2, 1) := g_28 bX6_known rfl
theorem dX6_known_11 : decode cX6_known 11 = .ok (.i2l, 1) := g_133 bX6_known rfl
theorem dX6_known_12 : decode cX6_known 12 = .ok (.invokevirtual 229, 3) := g_182 bX6_known rfl
theorem dX6_known_15 : decode cX6_known 15 = .ok (.ifCond .eq 14, 3) := g_153 14 bX6_known rfl rfl
theorem dX6_known_18 : decode cX6_known 18 = .ok (.aload_n 0, 1) := g_42 bX6_known rfl
theorem dX6_known_19 : decode cX6_known 19 = .ok (.getfield 48, 3) := g_180 bX6_known rfl
theorem dX6_known_22 : decode cX6_known 22 = .ok (.iload_n 1, 1) := g_27 bX6_known rfl
theorem dX6_known_23 : decode cX6_known 23 = .ok (.aaload, 1) := g_50 bX6_known rfl
theorem dX6_known_24 : decode cX6_known 24 = .ok (.iload_n 2, 1) := g_28 bX6_known rfl
theorem dX6_known_25 : decode cX6_known 25 = .ok (.iaload, 1) := g_46 bX6_known rfl
theorem dX6_known_26 : decode cX6_known 26 = .ok (.goto 9, 3) := g_167 9 bX6_known rfl rfl
theorem dX6_known_29 : decode cX6_known 29 = .ok (.aload_n 0, 1) := g_42 bX6_known rfl
theorem dX6_known_30 : decode cX6_known 30 = .ok (.bipush (-2), 2) := g_16 254 bX6_known rfl rfl
theorem dX6_known_32 : decode cX6_known 32 = .ok (.invokevirtual 91, 3) := g_182 bX6_known rfl
theorem dX6_known_35 : decode cX6_known 35 = .ok (.ireturn, 1) := g_172 bX6_known rfl
theorem dX6_needs_0 : decode cX6_needs 0 = .ok (.aload_n 0, 1) := g_42 bX6_needs rfl
theorem dX6_needs_1 : decode cX6_needs 1 = .ok (.iload_n 1, 1) := g_27 bX6_needs rfl
theorem dX6_needs_2 : decode cX6_needs 2 = .ok (.i2l, 1) := g_133 bX6_needs rfl
theorem dX6_needs_3 : decode cX6_needs 3 = .ok (.invokevirtual 229, 3) := g_182 bX6_needs rfl
theorem dX6_needs_6 : decode cX6_needs 6 = .ok (.ifCond .ne 10, 3) := g_154 10 bX6_needs rfl rfl
theorem dX6_needs_9 : decode cX6_needs 9 = .ok (.aload_n 0, 1) := g_42 bX6_needs rfl
theorem dX6_needs_10 : decode cX6_needs 10 = .ok (.bipush (-2), 2) := g_16 254 bX6_needs rfl rfl
theorem dX6_needs_12 : decode cX6_needs 12 = .ok (.invokevirtual 91, 3) := g_182 bX6_needs rfl
theorem dX6_needs_15 : decode cX6_needs 15 = .ok (.ireturn, 1) := g_172 bX6_needs rfl
theorem dX6_needs_16 : decode cX6_needs 16 = .ok (.iconst 0, 1) := g_3 bX6_needs rfl
theorem dX6_needs_17 : decode cX6_needs 17 = .ok (.istore_n 3, 1) := g_62 bX6_needs rfl
theorem dX6_needs_18 : decode cX6_needs 18 = .ok (.iload_n 2, 1) := g_28 bX6_needs rfl
theorem dX6_needs_19 : decode cX6_needs 19 = .ok (.ifCond .eq 54, 3) := g_153 54 bX6_needs rfl rfl
theorem dX6_needs_22 : decode cX6_needs 22 = .ok (.iload_n 1, 1) := g_27 bX6_needs rfl
theorem dX6_needs_23 : decode cX6_needs 23 = .ok (.iconst 1, 1) := g_4 bX6_needs rfl
theorem dX6_needs_24 : decode cX6_needs 24 = .ok (.iadd, 1) := g_96 bX6_needs rfl
theorem dX6_needs_25 : decode cX6_needs 25 = .ok (.istore 4, 2) := g_54 bX6_needs rfl
theorem dX6_needs_27 : decode cX6_needs 27 = .ok (.iload 4, 2) := g_21 bX6_needs rfl
theorem dX6_needs_29 : decode cX6_needs 29 = .ok (.aload_n 0, 1) := g_42 bX6_needs rfl
theorem dX6_needs_30 : decode cX6_needs 30 = .ok (.getfield 71, 3) := g_180 bX6_needs rfl
theorem dX6_needs_33 : decode cX6_needs 33 = .ok (.if_icmp .ge 38, 3) := g_162 38 bX6_needs rfl rfl
theorem dX6_needs_36 : decode cX6_needs 36 = .ok (.iload_n 3, 1) := g_29 bX6_needs rfl
theorem dX6_needs_37 : decode cX6_needs 37 = .ok (.aload_n 0, 1) := g_42 bX6_needs rfl
theorem dX6_needs_38 : decode cX6_needs 38 = .ok (.getfield 42, 3) := g_180 bX6_needs rfl
theorem dX6_needs_41 : decode cX6_needs 41 = .ok (.iload 4, 2) := g_21 bX6_needs rfl
theorem dX6_needs_43 : decode cX6_needs 43 = .ok (.aaload, 1) := g_50 bX6_needs rfl
theorem dX6_needs_44 : decode cX6_needs 44 = .ok (.iconst 1, 1) := g_4 bX6_needs rfl
theorem dX6_needs_45 : decode cX6_needs 45 = .ok (.iaload, 1) := g_46 bX6_needs rfl
theorem dX6_needs_46 : decode cX6_needs 46 = .ok (.iload_n 3, 1) := g_29 bX6_needs rfl
theorem dX6_needs_47 : decode cX6_needs 47 = .ok (.iconst 1, 1) := g_4 bX6_needs rfl
theorem dX6_needs_48 : decode cX6_needs 48 = .ok (.iload_n 1, 1) := g_27 bX6_needs rfl
theorem dX6_needs_49 : decode cX6_needs 49 = .ok (.ishl, 1) := g_120 bX6_needs rfl
theorem dX6_needs_50 : decode cX6_needs 50 = .ok (.ior, 1) := g_128 bX6_needs rfl
theorem dX6_needs_51 : decode cX6_needs 51 = .ok (.iand, 1) := g_126 bX6_needs rfl
theorem dX6_needs_52 : decode cX6_needs 52 = .ok (.ifCond .eq 10, 3) := g_153 10 bX6_needs rfl rfl
theorem dX6_needs_55 : decode cX6_needs 55 = .ok (.iconst 1, 1) := g_4 bX6_needs rfl
theorem dX6_needs_56 : decode cX6_needs 56 = .ok (.iload 4, 2) := g_21 bX6_needs rfl
theorem dX6_needs_58 : decode cX6_needs 58 = .ok (.ishl, 1) := g_120 bX6_needs rfl
theorem dX6_needs_59 : decode cX6_needs 59 = .ok (.goto 4, 3) := g_167 4 bX6_needs rfl rfl
theorem dX6_needs_62 : decode cX6_needs 62 = .ok (.iconst 0, 1) := g_3 bX6_needs rfl
theorem dX6_needs_63 : decode cX6_needs 63 = .ok (.ior, 1) := g_128 bX6_needs rfl
theorem dX6_needs_64 : decode cX6_needs 64 = .ok (.istore_n 3, 1) := g_62 bX6_needs rfl
theorem dX6_needs_65 : decode cX6_needs 65 = .ok (.iinc 4 1, 3) := g_132 1 bX6_needs rfl rfl
theorem dX6_needs_68 : decode cX6_needs 68 = .ok (.goto (-41), 3) := g_167 65495 bX6_needs rfl rfl
theorem dX6_needs_71 : decode cX6_needs 71 = .ok (.iload_n 3, 1) := g_29 bX6_needs rfl
theorem dX6_needs_72 : decode cX6_needs 72 = .ok (.ireturn, 1) := g_172 bX6_needs rfl
theorem dX6_needs_73 : decode cX6_needs 73 = .ok (.aload_n 0, 1) := g_42 bX6_needs rfl
theorem dX6_needs_74 : decode cX6_needs 74 = .ok (.getfield 42, 3) := g_180 bX6_needs rfl
theorem dX6_needs_77 : decode cX6_needs 77 = .ok (.iload_n 1, 1) := g_27 bX6_needs rfl
theorem dX6_needs_78 : decode cX6_needs 78 = .ok (.aaload, 1) := g_50 bX6_needs rfl
theorem dX6_needs_79 : decode cX6_needs 79 = .ok (.iconst 1, 1) := g_4 bX6_needs rfl
theorem dX6_needs_80 : decode cX6_needs 80 = .ok (.iaload, 1) := g_46 bX6_needs rfl
theorem dX6_needs_81 : decode cX6_needs 81 = .ok (.istore_n 3, 1) := g_62 bX6_needs rfl
theorem dX6_needs_82 : decode cX6_needs 82 = .ok (.iload_n 1, 1) := g_27 bX6_needs rfl
theorem dX6_needs_83 : decode cX6_needs 83 = .ok (.iconst 1, 1) := g_4 bX6_needs rfl
theorem dX6_needs_84 : decode cX6_needs 84 = .ok (.isub, 1) := g_100 bX6_needs rfl
theorem dX6_needs_85 : decode cX6_needs 85 = .ok (.istore 4, 2) := g_54 bX6_needs rfl
theorem dX6_needs_87 : decode cX6_needs 87 = .ok (.iload 4, 2) := g_21 bX6_needs rfl
theorem dX6_needs_89 : decode cX6_needs 89 = .ok (.ifCond .lt 34, 3) := g_155 34 bX6_needs rfl rfl
theorem dX6_needs_92 : decode cX6_needs 92 = .ok (.iload_n 3, 1) := g_29 bX6_needs rfl
theorem dX6_needs_93 : decode cX6_needs 93 = .ok (.iload_n 3, 1) := g_29 bX6_needs rfl
theorem dX6_needs_94 : decode cX6_needs 94 = .ok (.iload 4, 2) := g_21 bX6_needs rfl
theorem dX6_needs_96 : decode cX6_needs 96 = .ok (.ishr, 1) := g_122 bX6_needs rfl
theorem dX6_needs_97 : decode cX6_needs 97 = .ok (.iconst 1, 1) := g_4 bX6_needs rfl
theorem dX6_needs_98 : decode cX6_needs 98 = .ok (.iand, 1) := g_126 bX6_needs rfl
theorem dX6_needs_99 : decode cX6_needs 99 = .ok (.ifCond .eq 15, 3) := g_153 15 bX6_needs rfl rfl
theorem dX6_needs_102 : decode cX6_needs 102 = .ok (.aload_n 0, 1) := g_42 bX6_needs rfl
theorem dX6_needs_103 : decode cX6_needs 103 = .ok (.getfield 42, 3) := g_180 bX6_needs rfl
theorem dX6_needs_106 : decode cX6_needs 106 = .ok (.iload 4, 2) := g_21 bX6_needs rfl
theorem dX6_needs_108 : decode cX6_needs 108 = .ok (.aaload, 1) := g_50 bX6_needs rfl
theorem dX6_needs_109 : decode cX6_needs 109 = .ok (.iconst 1, 1) := g_4 bX6_needs rfl
theorem dX6_needs_110 : decode cX6_needs 110 = .ok (.iaload, 1) := g_46 bX6_needs rfl
theorem dX6_needs_111 : decode cX6_needs 111 = .ok (.goto 4, 3) := g_167 4 bX6_needs rfl rfl
theorem dX6_needs_114 : decode cX6_needs 114 = .ok (.iconst 0, 1) := g_3 bX6_needs rfl
theorem dX6_needs_115 : decode cX6_needs 115 = .ok (.ior, 1) := g_128 bX6_needs rfl
theorem dX6_needs_116 : decode cX6_needs 116 = .ok (.istore_n 3, 1) := g_62 bX6_needs rfl
theorem dX6_needs_117 : decode cX6_needs 117 = .ok (.iinc 4 (-1), 3) := g_132 255 bX6_needs rfl rfl
theorem dX6_needs_120 : decode cX6_needs 120 = .ok (.goto (-33), 3) := g_167 65503 bX6_needs rfl rfl
theorem dX6_needs_123 : decode cX6_needs 123 = .ok (.iload_n 3, 1) := g_29 bX6_needs rfl
theorem dX6_needs_124 : decode cX6_needs 124 = .ok (.ireturn, 1) := g_172 bX6_needs rfl
theorem dX6_one_0 : decode cX6_one 0 = .ok (.aload_n 0, 1) := g_42 bX6_one rfl
theorem dX6_one_1 : decode cX6_one 1 = .ok (.iload_n 1, 1) := g_27 bX6_one rfl
theorem dX6_one_2 : decode cX6_one 2 = .ok (.i2l, 1) := g_133 bX6_one rfl
theorem dX6_one_3 : decode cX6_one 3 = .ok (.iload_n 2, 1) := g_28 bX6_one rfl
theorem dX6_one_4 : decode cX6_one 4 = .ok (.i2l, 1) := g_133 bX6_one rfl
theorem dX6_one_5 : decode cX6_one 5 = .ok (.iload_n 3, 1) := g_29 bX6_one rfl
theorem dX6_one_6 : decode cX6_one 6 = .ok (.i2l, 1) := g_133 bX6_one rfl
theorem dX6_one_7 : decode cX6_one 7 = .ok (.iload 4, 2) := g_21 bX6_one rfl
theorem dX6_one_9 : decode cX6_one 9 = .ok (.i2l, 1) := g_133 bX6_one rfl
theorem dX6_one_10 : decode cX6_one 10 = .ok (.invokevirtual 137, 3) := g_182 bX6_one rfl
theorem dX6_one_13 : decode cX6_one 13 = .ok (.istore 5, 2) := g_54 bX6_one rfl
theorem dX6_one_15 : decode cX6_one 15 = .ok (.iload 5, 2) := g_21 bX6_one rfl
theorem dX6_one_17 : decode cX6_one 17 = .ok (.ifCond .ge 12, 3) := g_156 12 bX6_one rfl rfl
theorem dX6_one_20 : decode cX6_one 20 = .ok (.aload_n 0, 1) := g_42 bX6_one rfl
theorem dX6_one_21 : decode cX6_one 21 = .ok (.iload 5, 2) := g_21 bX6_one rfl
theorem dX6_one_23 : decode cX6_one 23 = .ok (.invokevirtual 91, 3) := g_182 bX6_one rfl
theorem dX6_one_26 : decode cX6_one 26 = .ok (.goto 5, 3) := g_167 5 bX6_one rfl rfl
theorem dX6_one_29 : decode cX6_one 29 = .ok (.iload 5, 2) := g_21 bX6_one rfl
theorem dX6_one_31 : decode cX6_one 31 = .ok (.ireturn, 1) := g_172 bX6_one rfl
theorem dX6_oneOf_0 : decode cX6_oneOf 0 = .ok (.aload_n 0, 1) := g_42 bX6_oneOf rfl
theorem dX6_oneOf_1 : decode cX6_oneOf 1 = .ok (.iload_n 1, 1) := g_27 bX6_oneOf rfl
theorem dX6_oneOf_2 : decode cX6_oneOf 2 = .ok (.i2l, 1) := g_133 bX6_oneOf rfl
theorem dX6_oneOf_3 : decode cX6_oneOf 3 = .ok (.invokevirtual 236, 3) := g_182 bX6_oneOf rfl
theorem dX6_oneOf_6 : decode cX6_oneOf 6 = .ok (.ifCond .eq 26, 3) := g_153 26 bX6_oneOf rfl rfl
theorem dX6_oneOf_9 : decode cX6_oneOf 9 = .ok (.iload_n 2, 1) := g_28 bX6_oneOf rfl
theorem dX6_oneOf_10 : decode cX6_oneOf 10 = .ok (.i2l, 1) := g_133 bX6_oneOf rfl
theorem dX6_oneOf_11 : decode cX6_oneOf 11 = .ok (.lconst 0, 1) := g_9 bX6_oneOf rfl
theorem dX6_oneOf_12 : decode cX6_oneOf 12 = .ok (.ldc2_w 87, 3) := g_20 bX6_oneOf rfl
theorem dX6_oneOf_15 : decode cX6_oneOf 15 = .ok (.invokestatic 74, 3) := g_184 bX6_oneOf rfl
theorem dX6_oneOf_18 : decode cX6_oneOf 18 = .ok (.ifCond .eq 14, 3) := g_153 14 bX6_oneOf rfl rfl
theorem dX6_oneOf_21 : decode cX6_oneOf 21 = .ok (.aload_n 0, 1) := g_42 bX6_oneOf rfl
theorem dX6_oneOf_22 : decode cX6_oneOf 22 = .ok (.getfield 45, 3) := g_180 bX6_oneOf rfl
theorem dX6_oneOf_25 : decode cX6_oneOf 25 = .ok (.iload_n 1, 1) := g_27 bX6_oneOf rfl
theorem dX6_oneOf_26 : decode cX6_oneOf 26 = .ok (.aaload, 1) := g_50 bX6_oneOf rfl
theorem dX6_oneOf_27 : decode cX6_oneOf 27 = .ok (.iload_n 2, 1) := g_28 bX6_oneOf rfl
theorem dX6_oneOf_28 : decode cX6_oneOf 28 = .ok (.iaload, 1) := g_46 bX6_oneOf rfl
theorem dX6_oneOf_29 : decode cX6_oneOf 29 = .ok (.goto 9, 3) := g_167 9 bX6_oneOf rfl rfl
theorem dX6_oneOf_32 : decode cX6_oneOf 32 = .ok (.aload_n 0, 1) := g_42 bX6_oneOf rfl
theorem dX6_oneOf_33 : decode cX6_oneOf 33 = .ok (.bipush (-2), 2) := g_16 254 bX6_oneOf rfl rfl
theorem dX6_oneOf_35 : decode cX6_oneOf 35 = .ok (.invokevirtual 91, 3) := g_182 bX6_oneOf rfl
theorem dX6_oneOf_38 : decode cX6_oneOf 38 = .ok (.ireturn, 1) := g_172 bX6_oneOf rfl
theorem dX6_ones_0 : decode cX6_ones 0 = .ok (.aload_n 0, 1) := g_42 bX6_ones rfl
theorem dX6_ones_1 : decode cX6_ones 1 = .ok (.iload_n 1, 1) := g_27 bX6_ones rfl
theorem dX6_ones_2 : decode cX6_ones 2 = .ok (.invokevirtual 95, 3) := g_182 bX6_ones rfl
theorem dX6_ones_5 : decode cX6_ones 5 = .ok (.istore_n 3, 1) := g_62 bX6_ones rfl
theorem dX6_ones_6 : decode cX6_ones 6 = .ok (.iload_n 3, 1) := g_29 bX6_ones rfl
theorem dX6_ones_7 : decode cX6_ones 7 = .ok (.ifCond .eq 5, 3) := g_153 5 bX6_ones rfl rfl
theorem dX6_ones_10 : decode cX6_ones 10 = .ok (.iload_n 3, 1) := g_29 bX6_ones rfl
theorem dX6_ones_11 : decode cX6_ones 11 = .ok (.ireturn, 1) := g_172 bX6_ones rfl
theorem dX6_ones_12 : decode cX6_ones 12 = .ok (.iload_n 2, 1) := g_28 bX6_ones rfl
theorem dX6_ones_13 : decode cX6_ones 13 = .ok (.ifCond .lt 19, 3) := g_155 19 bX6_ones rfl rfl
theorem dX6_ones_16 : decode cX6_ones 16 = .ok (.iload_n 2, 1) := g_28 bX6_ones rfl
theorem dX6_ones_17 : decode cX6_ones 17 = .ok (.iconst 4, 1) := g_7 bX6_ones rfl
theorem dX6_ones_18 : decode cX6_ones 18 = .ok (.irem, 1) := g_112 bX6_ones rfl
theorem dX6_ones_19 : decode cX6_ones 19 = .ok (.ifCond .ne 13, 3) := g_154 13 bX6_ones rfl rfl
theorem dX6_ones_22 : decode cX6_ones 22 = .ok (.iload_n 2, 1) := g_28 bX6_ones rfl
theorem dX6_ones_23 : decode cX6_ones 23 = .ok (.aload_n 0, 1) := g_42 bX6_ones rfl
theorem dX6_ones_24 : decode cX6_ones 24 = .ok (.getfield 16, 3) := g_180 bX6_ones rfl
theorem dX6_ones_27 : decode cX6_ones 27 = .ok (.iload_n 1, 1) := g_27 bX6_ones rfl
theorem dX6_ones_28 : decode cX6_ones 28 = .ok (.iaload, 1) := g_46 bX6_ones rfl
theorem dX6_ones_29 : decode cX6_ones 29 = .ok (.if_icmp .le 10, 3) := g_164 10 bX6_ones rfl rfl
theorem dX6_ones_32 : decode cX6_ones 32 = .ok (.aload_n 0, 1) := g_42 bX6_ones rfl
theorem dX6_ones_33 : decode cX6_ones 33 = .ok (.bipush (-2), 2) := g_16 254 bX6_ones rfl rfl
theorem dX6_ones_35 : decode cX6_ones 35 = .ok (.invokevirtual 91, 3) := g_182 bX6_ones rfl
theorem dX6_ones_38 : decode cX6_ones 38 = .ok (.ireturn, 1) := g_172 bX6_ones rfl
theorem dX6_ones_39 : decode cX6_ones 39 = .ok (.iconst 0, 1) := g_3 bX6_ones rfl
theorem dX6_ones_40 : decode cX6_ones 40 = .ok (.istore 4, 2) := g_54 bX6_ones rfl
theorem dX6_ones_42 : decode cX6_ones 42 = .ok (.iconst 0, 1) := g_3 bX6_ones rfl
theorem dX6_ones_43 : decode cX6_ones 43 = .ok (.istore 5, 2) := g_54 bX6_ones rfl
theorem dX6_ones_45 : decode cX6_ones 45 = .ok (.iload 5, 2) := g_21 bX6_ones rfl
theorem dX6_ones_47 : decode cX6_ones 47 = .ok (.iload_n 2, 1) := g_28 bX6_ones rfl
theorem dX6_ones_48 : decode cX6_ones 48 = .ok (.if_icmp .ge 64, 3) := g_162 64 bX6_ones rfl rfl
theorem dX6_ones_51 : decode cX6_ones 51 = .ok (.aload_n 0, 1) := g_42 bX6_ones rfl
theorem dX6_ones_52 : decode cX6_ones 52 = .ok (.aload_n 0, 1) := g_42 bX6_ones rfl
theorem dX6_ones_53 : decode cX6_ones 53 = .ok (.getfield 21, 3) := g_180 bX6_ones rfl
theorem dX6_ones_56 : decode cX6_ones 56 = .ok (.iload_n 1, 1) := g_27 bX6_ones rfl
theorem dX6_ones_57 : decode cX6_ones 57 = .ok (.aaload, 1) := g_50 bX6_ones rfl
theorem dX6_ones_58 : decode cX6_ones 58 = .ok (.iload 5, 2) := g_21 bX6_ones rfl
theorem dX6_ones_60 : decode cX6_ones 60 = .ok (.laload, 1) := g_47 bX6_ones rfl
theorem dX6_ones_61 : decode cX6_ones 61 = .ok (.aload_n 0, 1) := g_42 bX6_ones rfl
theorem dX6_ones_62 : decode cX6_ones 62 = .ok (.getfield 21, 3) := g_180 bX6_ones rfl
theorem dX6_ones_65 : decode cX6_ones 65 = .ok (.iload_n 1, 1) := g_27 bX6_ones rfl
theorem dX6_ones_66 : decode cX6_ones 66 = .ok (.aaload, 1) := g_50 bX6_ones rfl
theorem dX6_ones_67 : decode cX6_ones 67 = .ok (.iload 5, 2) := g_21 bX6_ones rfl
theorem dX6_ones_69 : decode cX6_ones 69 = .ok (.iconst 1, 1) := g_4 bX6_ones rfl
theorem dX6_ones_70 : decode cX6_ones 70 = .ok (.iadd, 1) := g_96 bX6_ones rfl
theorem dX6_ones_71 : decode cX6_ones 71 = .ok (.laload, 1) := g_47 bX6_ones rfl
theorem dX6_ones_72 : decode cX6_ones 72 = .ok (.aload_n 0, 1) := g_42 bX6_ones rfl
theorem dX6_ones_73 : decode cX6_ones 73 = .ok (.getfield 21, 3) := g_180 bX6_ones rfl
theorem dX6_ones_76 : decode cX6_ones 76 = .ok (.iload_n 1, 1) := g_27 bX6_ones rfl
theorem dX6_ones_77 : decode cX6_ones 77 = .ok (.aaload, 1) := g_50 bX6_ones rfl
theorem dX6_ones_78 : decode cX6_ones 78 = .ok (.iload 5, 2) := g_21 bX6_ones rfl
theorem dX6_ones_80 : decode cX6_ones 80 = .ok (.iconst 2, 1) := g_5 bX6_ones rfl
theorem dX6_ones_81 : decode cX6_ones 81 = .ok (.iadd, 1) := g_96 bX6_ones rfl
theorem dX6_ones_82 : decode cX6_ones 82 = .ok (.laload, 1) := g_47 bX6_ones rfl
theorem dX6_ones_83 : decode cX6_ones 83 = .ok (.aload_n 0, 1) := g_42 bX6_ones rfl
theorem dX6_ones_84 : decode cX6_ones 84 = .ok (.getfield 21, 3) := g_180 bX6_ones rfl
theorem dX6_ones_87 : decode cX6_ones 87 = .ok (.iload_n 1, 1) := g_27 bX6_ones rfl
theorem dX6_ones_88 : decode cX6_ones 88 = .ok (.aaload, 1) := g_50 bX6_ones rfl
theorem dX6_ones_89 : decode cX6_ones 89 = .ok (.iload 5, 2) := g_21 bX6_ones rfl
theorem dX6_ones_91 : decode cX6_ones 91 = .ok (.iconst 3, 1) := g_6 bX6_ones rfl
theorem dX6_ones_92 : decode cX6_ones 92 = .ok (.iadd, 1) := g_96 bX6_ones rfl
theorem dX6_ones_93 : decode cX6_ones 93 = .ok (.laload, 1) := g_47 bX6_ones rfl
theorem dX6_ones_94 : decode cX6_ones 94 = .ok (.invokevirtual 137, 3) := g_182 bX6_ones rfl
theorem dX6_ones_97 : decode cX6_ones 97 = .ok (.ifCond .ge 6, 3) := g_156 6 bX6_ones rfl rfl
theorem dX6_ones_100 : decode cX6_ones 100 = .ok (.iload 4, 2) := g_21 bX6_ones rfl
theorem dX6_ones_102 : decode cX6_ones 102 = .ok (.ireturn, 1) := g_172 bX6_ones rfl
theorem dX6_ones_103 : decode cX6_ones 103 = .ok (.iinc 4 1, 3) := g_132 1 bX6_ones rfl rfl
theorem dX6_ones_106 : decode cX6_ones 106 = .ok (.iinc 5 4, 3) := g_132 4 bX6_ones rfl rfl
theorem dX6_ones_109 : decode cX6_ones 109 = .ok (.goto (-64), 3) := g_167 65472 bX6_ones rfl rfl
theorem dX6_ones_112 : decode cX6_ones 112 = .ok (.iload 4, 2) := g_21 bX6_ones rfl
theorem dX6_ones_114 : decode cX6_ones 114 = .ok (.ireturn, 1) := g_172 bX6_ones rfl
theorem dX6_read_0 : decode cX6_read 0 = .ok (.aload_n 0, 1) := g_42 bX6_read rfl
theorem dX6_read_1 : decode cX6_read 1 = .ok (.iload_n 1, 1) := g_27 bX6_read rfl
theorem dX6_read_2 : decode cX6_read 2 = .ok (.iload_n 2, 1) := g_28 bX6_read rfl
theorem dX6_read_3 : decode cX6_read 3 = .ok (.invokevirtual 251, 3) := g_182 bX6_read rfl
theorem dX6_read_6 : decode cX6_read 6 = .ok (.istore_n 3, 1) := g_62 bX6_read rfl
theorem dX6_read_7 : decode cX6_read 7 = .ok (.iload_n 3, 1) := g_29 bX6_read rfl
theorem dX6_read_8 : decode cX6_read 8 = .ok (.ifCond .eq 5, 3) := g_153 5 bX6_read rfl rfl
theorem dX6_read_11 : decode cX6_read 11 = .ok (.iload_n 3, 1) := g_29 bX6_read rfl
theorem dX6_read_12 : decode cX6_read 12 = .ok (.ireturn, 1) := g_172 bX6_read rfl
theorem dX6_read_13 : decode cX6_read 13 = .ok (.aload_n 0, 1) := g_42 bX6_read rfl
theorem dX6_read_14 : decode cX6_read 14 = .ok (.iload_n 1, 1) := g_27 bX6_read rfl
theorem dX6_read_15 : decode cX6_read 15 = .ok (.iload_n 2, 1) := g_28 bX6_read rfl
theorem dX6_read_16 : decode cX6_read 16 = .ok (.invokevirtual 257, 3) := g_182 bX6_read rfl
theorem dX6_read_19 : decode cX6_read 19 = .ok (.aload_n 0, 1) := g_42 bX6_read rfl
theorem dX6_read_20 : decode cX6_read 20 = .ok (.getfield 48, 3) := g_180 bX6_read rfl
theorem dX6_read_23 : decode cX6_read 23 = .ok (.iload_n 1, 1) := g_27 bX6_read rfl
theorem dX6_read_24 : decode cX6_read 24 = .ok (.aaload, 1) := g_50 bX6_read rfl
theorem dX6_read_25 : decode cX6_read 25 = .ok (.iload_n 2, 1) := g_28 bX6_read rfl
theorem dX6_read_26 : decode cX6_read 26 = .ok (.iaload, 1) := g_46 bX6_read rfl
theorem dX6_read_27 : decode cX6_read 27 = .ok (.ireturn, 1) := g_172 bX6_read rfl
theorem dX6_reader_0 : decode cX6_reader 0 = .ok (.aload_n 0, 1) := g_42 bX6_reader rfl
theorem dX6_reader_1 : decode cX6_reader 1 = .ok (.iload_n 1, 1) := g_27 bX6_reader rfl
theorem dX6_reader_2 : decode cX6_reader 2 = .ok (.i2l, 1) := g_133 bX6_reader rfl
theorem dX6_reader_3 : decode cX6_reader 3 = .ok (.invokevirtual 229, 3) := g_182 bX6_reader rfl
theorem dX6_reader_6 : decode cX6_reader 6 = .ok (.ifCond .ne 10, 3) := g_154 10 bX6_reader rfl rfl
theorem dX6_reader_9 : decode cX6_reader 9 = .ok (.aload_n 0, 1) := g_42 bX6_reader rfl
theorem dX6_reader_10 : decode cX6_reader 10 = .ok (.bipush (-2), 2) := g_16 254 bX6_reader rfl rfl
theorem dX6_reader_12 : decode cX6_reader 12 = .ok (.invokevirtual 91, 3) := g_182 bX6_reader rfl
theorem dX6_reader_15 : decode cX6_reader 15 = .ok (.ireturn, 1) := g_172 bX6_reader rfl
theorem dX6_reader_16 : decode cX6_reader 16 = .ok (.aload_n 0, 1) := g_42 bX6_reader rfl
theorem dX6_reader_17 : decode cX6_reader 17 = .ok (.iload_n 1, 1) := g_27 bX6_reader rfl
theorem dX6_reader_18 : decode cX6_reader 18 = .ok (.invokevirtual 248, 3) := g_182 bX6_reader rfl
theorem dX6_reader_21 : decode cX6_reader 21 = .ok (.ifCond .eq 12, 3) := g_153 12 bX6_reader rfl rfl
theorem dX6_reader_24 : decode cX6_reader 24 = .ok (.aload_n 0, 1) := g_42 bX6_reader rfl
theorem dX6_reader_25 : decode cX6_reader 25 = .ok (.bipush (-5), 2) := g_16 251 bX6_reader rfl rfl
theorem dX6_reader_27 : decode cX6_reader 27 = .ok (.invokevirtual 91, 3) := g_182 bX6_reader rfl
theorem dX6_reader_30 : decode cX6_reader 30 = .ok (.goto 8, 3) := g_167 8 bX6_reader rfl rfl
theorem dX6_reader_33 : decode cX6_reader 33 = .ok (.aload_n 0, 1) := g_42 bX6_reader rfl
theorem dX6_reader_34 : decode cX6_reader 34 = .ok (.iload_n 1, 1) := g_27 bX6_reader rfl
theorem dX6_reader_35 : decode cX6_reader 35 = .ok (.invokevirtual 272, 3) := g_182 bX6_reader rfl
theorem dX6_reader_38 : decode cX6_reader 38 = .ok (.ireturn, 1) := g_172 bX6_reader rfl
theorem dX6_teach_0 : decode cX6_teach 0 = .ok (.aload_n 0, 1) := g_42 bX6_teach rfl
theorem dX6_teach_1 : decode cX6_teach 1 = .ok (.iload_n 1, 1) := g_27 bX6_teach rfl
theorem dX6_teach_2 : decode cX6_teach 2 = .ok (.i2l, 1) := g_133 bX6_teach rfl
theorem dX6_teach_3 : decode cX6_teach 3 = .ok (.invokevirtual 236, 3) := g_182 bX6_teach rfl
theorem dX6_teach_6 : decode cX6_teach 6 = .ok (.ifCond .eq 12, 3) := g_153 12 bX6_teach rfl rfl
theorem dX6_teach_9 : decode cX6_teach 9 = .ok (.aload_n 0, 1) := g_42 bX6_teach rfl
theorem dX6_teach_10 : decode cX6_teach 10 = .ok (.iload_n 2, 1) := g_28 bX6_teach rfl
theorem dX6_teach_11 : decode cX6_teach 11 = .ok (.i2l, 1) := g_133 bX6_teach rfl
theorem dX6_teach_12 : decode cX6_teach 12 = .ok (.invokevirtual 229, 3) := g_182 bX6_teach rfl
theorem dX6_teach_15 : decode cX6_teach 15 = .ok (.ifCond .ne 10, 3) := g_154 10 bX6_teach rfl rfl
theorem dX6_teach_18 : decode cX6_teach 18 = .ok (.aload_n 0, 1) := g_42 bX6_teach rfl
theorem dX6_teach_19 : decode cX6_teach 19 = .ok (.bipush (-2), 2) := g_16 254 bX6_teach rfl rfl
theorem dX6_teach_21 : decode cX6_teach 21 = .ok (.invokevirtual 91, 3) := g_182 bX6_teach rfl
theorem dX6_teach_24 : decode cX6_teach 24 = .ok (.ireturn, 1) := g_172 bX6_teach rfl
theorem dX6_teach_25 : decode cX6_teach 25 = .ok (.aload_n 0, 1) := g_42 bX6_teach rfl
theorem dX6_teach_26 : decode cX6_teach 26 = .ok (.iload_n 1, 1) := g_27 bX6_teach rfl
theorem dX6_teach_27 : decode cX6_teach 27 = .ok (.invokevirtual 81, 3) := g_182 bX6_teach rfl
theorem dX6_teach_30 : decode cX6_teach 30 = .ok (.ifCond .ne 10, 3) := g_154 10 bX6_teach rfl rfl
theorem dX6_teach_33 : decode cX6_teach 33 = .ok (.aload_n 0, 1) := g_42 bX6_teach rfl
theorem dX6_teach_34 : decode cX6_teach 34 = .ok (.bipush (-5), 2) := g_16 251 bX6_teach rfl rfl
theorem dX6_teach_36 : decode cX6_teach 36 = .ok (.invokevirtual 91, 3) := g_182 bX6_teach rfl
theorem dX6_teach_39 : decode cX6_teach 39 = .ok (.ireturn, 1) := g_172 bX6_teach rfl
theorem dX6_teach_40 : decode cX6_teach 40 = .ok (.iconst (-1), 1) := g_2 bX6_teach rfl
theorem dX6_teach_41 : decode cX6_teach 41 = .ok (.istore_n 3, 1) := g_62 bX6_teach rfl
theorem dX6_teach_42 : decode cX6_teach 42 = .ok (.iconst 0, 1) := g_3 bX6_teach rfl
theorem dX6_teach_43 : decode cX6_teach 43 = .ok (.istore 4, 2) := g_54 bX6_teach rfl
theorem dX6_teach_45 : decode cX6_teach 45 = .ok (.iconst 0, 1) := g_3 bX6_teach rfl
theorem dX6_teach_46 : decode cX6_teach 46 = .ok (.istore 5, 2) := g_54 bX6_teach rfl
theorem dX6_teach_48 : decode cX6_teach 48 = .ok (.iload 5, 2) := g_21 bX6_teach rfl
theorem dX6_teach_50 : decode cX6_teach 50 = .ok (.aload_n 0, 1) := g_42 bX6_teach rfl
theorem dX6_teach_51 : decode cX6_teach 51 = .ok (.getfield 78, 3) := g_180 bX6_teach rfl
theorem dX6_teach_54 : decode cX6_teach 54 = .ok (.if_icmp .ge 52, 3) := g_162 52 bX6_teach rfl rfl
theorem dX6_teach_57 : decode cX6_teach 57 = .ok (.iload 5, 2) := g_21 bX6_teach rfl
theorem dX6_teach_59 : decode cX6_teach 59 = .ok (.iload_n 1, 1) := g_27 bX6_teach rfl
theorem dX6_teach_60 : decode cX6_teach 60 = .ok (.if_icmp .eq 23, 3) := g_159 23 bX6_teach rfl rfl
theorem dX6_teach_63 : decode cX6_teach 63 = .ok (.aload_n 0, 1) := g_42 bX6_teach rfl
theorem dX6_teach_64 : decode cX6_teach 64 = .ok (.iload 5, 2) := g_21 bX6_teach rfl
theorem dX6_teach_66 : decode cX6_teach 66 = .ok (.invokevirtual 81, 3) := g_182 bX6_teach rfl
theorem dX6_teach_69 : decode cX6_teach 69 = .ok (.ifCond .eq 14, 3) := g_153 14 bX6_teach rfl rfl
theorem dX6_teach_72 : decode cX6_teach 72 = .ok (.aload_n 0, 1) := g_42 bX6_teach rfl
theorem dX6_teach_73 : decode cX6_teach 73 = .ok (.iload_n 1, 1) := g_27 bX6_teach rfl
theorem dX6_teach_74 : decode cX6_teach 74 = .ok (.iload 5, 2) := g_21 bX6_teach rfl
theorem dX6_teach_76 : decode cX6_teach 76 = .ok (.iload_n 2, 1) := g_28 bX6_teach rfl
theorem dX6_teach_77 : decode cX6_teach 77 = .ok (.invokevirtual 263, 3) := g_182 bX6_teach rfl
theorem dX6_teach_80 : decode cX6_teach 80 = .ok (.goto 4, 3) := g_167 4 bX6_teach rfl rfl
theorem dX6_teach_83 : decode cX6_teach 83 = .ok (.iconst 0, 1) := g_3 bX6_teach rfl
theorem dX6_teach_84 : decode cX6_teach 84 = .ok (.istore 6, 2) := g_54 bX6_teach rfl
theorem dX6_teach_86 : decode cX6_teach 86 = .ok (.iload 6, 2) := g_21 bX6_teach rfl
theorem dX6_teach_88 : decode cX6_teach 88 = .ok (.iload 4, 2) := g_21 bX6_teach rfl
theorem dX6_teach_90 : decode cX6_teach 90 = .ok (.if_icmp .le 10, 3) := g_164 10 bX6_teach rfl rfl
theorem dX6_teach_93 : decode cX6_teach 93 = .ok (.iload 5, 2) := g_21 bX6_teach rfl
theorem dX6_teach_95 : decode cX6_teach 95 = .ok (.istore_n 3, 1) := g_62 bX6_teach rfl
theorem dX6_teach_96 : decode cX6_teach 96 = .ok (.iload 6, 2) := g_21 bX6_teach rfl
theorem dX6_teach_98 : decode cX6_teach 98 = .ok (.istore 4, 2) := g_54 bX6_teach rfl
theorem dX6_teach_100 : decode cX6_teach 100 = .ok (.iinc 5 1, 3) := g_132 1 bX6_teach rfl rfl
theorem dX6_teach_103 : decode cX6_teach 103 = .ok (.goto (-55), 3) := g_167 65481 bX6_teach rfl rfl
theorem dX6_teach_106 : decode cX6_teach 106 = .ok (.iload_n 3, 1) := g_29 bX6_teach rfl
theorem dX6_teach_107 : decode cX6_teach 107 = .ok (.ireturn, 1) := g_172 bX6_teach rfl
theorem dX6_tell_0 : decode cX6_tell 0 = .ok (.aload_n 0, 1) := g_42 bX6_tell rfl
theorem dX6_tell_1 : decode cX6_tell 1 = .ok (.iload_n 1, 1) := g_27 bX6_tell rfl
theorem dX6_tell_2 : decode cX6_tell 2 = .ok (.i2l, 1) := g_133 bX6_tell rfl
theorem dX6_tell_3 : decode cX6_tell 3 = .ok (.invokevirtual 236, 3) := g_182 bX6_tell rfl
theorem dX6_tell_6 : decode cX6_tell 6 = .ok (.ifCond .eq 26, 3) := g_153 26 bX6_tell rfl rfl
theorem dX6_tell_9 : decode cX6_tell 9 = .ok (.aload_n 0, 1) := g_42 bX6_tell rfl
theorem dX6_tell_10 : decode cX6_tell 10 = .ok (.iload_n 2, 1) := g_28 bX6_tell rfl
theorem dX6_tell_11 : decode cX6_tell 11 = .ok (.i2l, 1) := g_133 bX6_tell rfl
theorem dX6_tell_12 : decode cX6_tell 12 = .ok (.invokevirtual 236, 3) := g_182 bX6_tell rfl
theorem dX6_tell_15 : decode cX6_tell 15 = .ok (.ifCond .eq 17, 3) := g_153 17 bX6_tell rfl rfl
theorem dX6_tell_18 : decode cX6_tell 18 = .ok (.iload_n 1, 1) := g_27 bX6_tell rfl
theorem dX6_tell_19 : decode cX6_tell 19 = .ok (.iload_n 2, 1) := g_28 bX6_tell rfl
theorem dX6_tell_20 : decode cX6_tell 20 = .ok (.if_icmp .eq 12, 3) := g_159 12 bX6_tell rfl rfl
theorem dX6_tell_23 : decode cX6_tell 23 = .ok (.aload_n 0, 1) := g_42 bX6_tell rfl
theorem dX6_tell_24 : decode cX6_tell 24 = .ok (.iload_n 3, 1) := g_29 bX6_tell rfl
theorem dX6_tell_25 : decode cX6_tell 25 = .ok (.i2l, 1) := g_133 bX6_tell rfl
theorem dX6_tell_26 : decode cX6_tell 26 = .ok (.invokevirtual 229, 3) := g_182 bX6_tell rfl
theorem dX6_tell_29 : decode cX6_tell 29 = .ok (.ifCond .ne 10, 3) := g_154 10 bX6_tell rfl rfl
theorem dX6_tell_32 : decode cX6_tell 32 = .ok (.aload_n 0, 1) := g_42 bX6_tell rfl
theorem dX6_tell_33 : decode cX6_tell 33 = .ok (.bipush (-2), 2) := g_16 254 bX6_tell rfl rfl
theorem dX6_tell_35 : decode cX6_tell 35 = .ok (.invokevirtual 91, 3) := g_182 bX6_tell rfl
theorem dX6_tell_38 : decode cX6_tell 38 = .ok (.ireturn, 1) := g_172 bX6_tell rfl
theorem dX6_tell_39 : decode cX6_tell 39 = .ok (.aload_n 0, 1) := g_42 bX6_tell rfl
theorem dX6_tell_40 : decode cX6_tell 40 = .ok (.iload_n 1, 1) := g_27 bX6_tell rfl
theorem dX6_tell_41 : decode cX6_tell 41 = .ok (.invokevirtual 81, 3) := g_182 bX6_tell rfl
theorem dX6_tell_44 : decode cX6_tell 44 = .ok (.ifCond .eq 11, 3) := g_153 11 bX6_tell rfl rfl
theorem dX6_tell_47 : decode cX6_tell 47 = .ok (.aload_n 0, 1) := g_42 bX6_tell rfl
theorem dX6_tell_48 : decode cX6_tell 48 = .ok (.iload_n 2, 1) := g_28 bX6_tell rfl
theorem dX6_tell_49 : decode cX6_tell 49 = .ok (.invokevirtual 81, 3) := g_182 bX6_tell rfl
theorem dX6_tell_52 : decode cX6_tell 52 = .ok (.ifCond .ne 10, 3) := g_154 10 bX6_tell rfl rfl
theorem dX6_tell_55 : decode cX6_tell 55 = .ok (.aload_n 0, 1) := g_42 bX6_tell rfl
theorem dX6_tell_56 : decode cX6_tell 56 = .ok (.bipush (-5), 2) := g_16 251 bX6_tell rfl rfl
theorem dX6_tell_58 : decode cX6_tell 58 = .ok (.invokevirtual 91, 3) := g_182 bX6_tell rfl
theorem dX6_tell_61 : decode cX6_tell 61 = .ok (.ireturn, 1) := g_172 bX6_tell rfl
theorem dX6_tell_62 : decode cX6_tell 62 = .ok (.aload_n 0, 1) := g_42 bX6_tell rfl
theorem dX6_tell_63 : decode cX6_tell 63 = .ok (.iload_n 1, 1) := g_27 bX6_tell rfl
theorem dX6_tell_64 : decode cX6_tell 64 = .ok (.iload_n 2, 1) := g_28 bX6_tell rfl
theorem dX6_tell_65 : decode cX6_tell 65 = .ok (.iload_n 3, 1) := g_29 bX6_tell rfl
theorem dX6_tell_66 : decode cX6_tell 66 = .ok (.invokevirtual 263, 3) := g_182 bX6_tell rfl
theorem dX6_tell_69 : decode cX6_tell 69 = .ok (.istore 4, 2) := g_54 bX6_tell rfl
theorem dX6_tell_71 : decode cX6_tell 71 = .ok (.aload_n 0, 1) := g_42 bX6_tell rfl
theorem dX6_tell_72 : decode cX6_tell 72 = .ok (.getfield 48, 3) := g_180 bX6_tell rfl
theorem dX6_tell_75 : decode cX6_tell 75 = .ok (.iload_n 2, 1) := g_28 bX6_tell rfl
theorem dX6_tell_76 : decode cX6_tell 76 = .ok (.aaload, 1) := g_50 bX6_tell rfl
theorem dX6_tell_77 : decode cX6_tell 77 = .ok (.iload_n 3, 1) := g_29 bX6_tell rfl
theorem dX6_tell_78 : decode cX6_tell 78 = .ok (.dup2, 1) := g_92 bX6_tell rfl
theorem dX6_tell_79 : decode cX6_tell 79 = .ok (.iaload, 1) := g_46 bX6_tell rfl
theorem dX6_tell_80 : decode cX6_tell 80 = .ok (.iload 4, 2) := g_21 bX6_tell rfl
theorem dX6_tell_82 : decode cX6_tell 82 = .ok (.iadd, 1) := g_96 bX6_tell rfl
theorem dX6_tell_83 : decode cX6_tell 83 = .ok (.iastore, 1) := g_79 bX6_tell rfl
theorem dX6_tell_84 : decode cX6_tell 84 = .ok (.iload 4, 2) := g_21 bX6_tell rfl
theorem dX6_tell_86 : decode cX6_tell 86 = .ok (.ireturn, 1) := g_172 bX6_tell rfl
theorem dX6_town_0 : decode cX6_town 0 = .ok (.aload_n 0, 1) := g_42 bX6_town rfl
theorem dX6_town_1 : decode cX6_town 1 = .ok (.invokevirtual 110, 3) := g_182 bX6_town rfl
theorem dX6_town_4 : decode cX6_town 4 = .ok (.astore_n 1, 1) := g_76 bX6_town rfl
theorem dX6_town_5 : decode cX6_town 5 = .ok (.aload_n 0, 1) := g_42 bX6_town rfl
theorem dX6_town_6 : decode cX6_town 6 = .ok (.invokevirtual 222, 3) := g_182 bX6_town rfl
theorem dX6_town_9 : decode cX6_town 9 = .ok (.istore_n 2, 1) := g_61 bX6_town rfl
theorem dX6_town_10 : decode cX6_town 10 = .ok (.aload_n 0, 1) := g_42 bX6_town rfl
theorem dX6_town_11 : decode cX6_town 11 = .ok (.iconst 0, 1) := g_3 bX6_town rfl
theorem dX6_town_12 : decode cX6_town 12 = .ok (.putfield 141, 3) := g_181 bX6_town rfl
theorem dX6_town_15 : decode cX6_town 15 = .ok (.iload_n 2, 1) := g_28 bX6_town rfl
theorem dX6_town_16 : decode cX6_town 16 = .ok (.ifCond .ne 23, 3) := g_154 23 bX6_town rfl rfl
theorem dX6_town_19 : decode cX6_town 19 = .ok (.aload_n 0, 1) := g_42 bX6_town rfl
theorem dX6_town_20 : decode cX6_town 20 = .ok (.aload_n 1, 1) := g_43 bX6_town rfl
theorem dX6_town_21 : decode cX6_town 21 = .ok (.invokevirtual 225, 3) := g_182 bX6_town rfl
theorem dX6_town_24 : decode cX6_town 24 = .ok (.aload_n 0, 1) := g_42 bX6_town rfl
theorem dX6_town_25 : decode cX6_town 25 = .ok (.bipush (-2), 2) := g_16 254 bX6_town rfl rfl
theorem dX6_town_27 : decode cX6_town 27 = .ok (.invokevirtual 91, 3) := g_182 bX6_town rfl
theorem dX6_town_30 : decode cX6_town 30 = .ok (.pop, 1) := g_87 bX6_town rfl
theorem dX6_town_31 : decode cX6_town 31 = .ok (.bipush (-20), 2) := g_16 236 bX6_town rfl rfl
theorem dX6_town_33 : decode cX6_town 33 = .ok (.aload_n 0, 1) := g_42 bX6_town rfl
theorem dX6_town_34 : decode cX6_town 34 = .ok (.getfield 167, 3) := g_180 bX6_town rfl
theorem dX6_town_37 : decode cX6_town 37 = .ok (.isub, 1) := g_100 bX6_town rfl
theorem dX6_town_38 : decode cX6_town 38 = .ok (.ireturn, 1) := g_172 bX6_town rfl
theorem dX6_town_39 : decode cX6_town 39 = .ok (.aload_n 0, 1) := g_42 bX6_town rfl
theorem dX6_town_40 : decode cX6_town 40 = .ok (.getfield 216, 3) := g_180 bX6_town rfl
theorem dX6_town_43 : decode cX6_town 43 = .ok (.ireturn, 1) := g_172 bX6_town rfl
theorem dX6_two_0 : decode cX6_two 0 = .ok (.aload_n 0, 1) := g_42 bX6_two rfl
theorem dX6_two_1 : decode cX6_two 1 = .ok (.iload_n 1, 1) := g_27 bX6_two rfl
theorem dX6_two_2 : decode cX6_two 2 = .ok (.i2l, 1) := g_133 bX6_two rfl
theorem dX6_two_3 : decode cX6_two 3 = .ok (.invokevirtual 236, 3) := g_182 bX6_two rfl
theorem dX6_two_6 : decode cX6_two 6 = .ok (.ifCond .eq 26, 3) := g_153 26 bX6_two rfl rfl
theorem dX6_two_9 : decode cX6_two 9 = .ok (.aload_n 0, 1) := g_42 bX6_two rfl
theorem dX6_two_10 : decode cX6_two 10 = .ok (.iload_n 2, 1) := g_28 bX6_two rfl
theorem dX6_two_11 : decode cX6_two 11 = .ok (.i2l, 1) := g_133 bX6_two rfl
theorem dX6_two_12 : decode cX6_two 12 = .ok (.invokevirtual 236, 3) := g_182 bX6_two rfl
theorem dX6_two_15 : decode cX6_two 15 = .ok (.ifCond .eq 17, 3) := g_153 17 bX6_two rfl rfl
theorem dX6_two_18 : decode cX6_two 18 = .ok (.aload_n 0, 1) := g_42 bX6_two rfl
theorem dX6_two_19 : decode cX6_two 19 = .ok (.iconst 1, 1) := g_4 bX6_two rfl
theorem dX6_two_20 : decode cX6_two 20 = .ok (.iload_n 1, 1) := g_27 bX6_two rfl
theorem dX6_two_21 : decode cX6_two 21 = .ok (.ishl, 1) := g_120 bX6_two rfl
theorem dX6_two_22 : decode cX6_two 22 = .ok (.iconst 1, 1) := g_4 bX6_two rfl
theorem dX6_two_23 : decode cX6_two 23 = .ok (.iload_n 2, 1) := g_28 bX6_two rfl
theorem dX6_two_24 : decode cX6_two 24 = .ok (.ishl, 1) := g_120 bX6_two rfl
theorem dX6_two_25 : decode cX6_two 25 = .ok (.ior, 1) := g_128 bX6_two rfl
theorem dX6_two_26 : decode cX6_two 26 = .ok (.invokevirtual 266, 3) := g_182 bX6_two rfl
theorem dX6_two_29 : decode cX6_two 29 = .ok (.goto 9, 3) := g_167 9 bX6_two rfl rfl
theorem dX6_two_32 : decode cX6_two 32 = .ok (.aload_n 0, 1) := g_42 bX6_two rfl
theorem dX6_two_33 : decode cX6_two 33 = .ok (.bipush (-2), 2) := g_16 254 bX6_two rfl rfl
theorem dX6_two_35 : decode cX6_two 35 = .ok (.invokevirtual 91, 3) := g_182 bX6_two rfl
theorem dX6_two_38 : decode cX6_two 38 = .ok (.ireturn, 1) := g_172 bX6_two rfl
theorem dX6_value_0 : decode cX6_value 0 = .ok (.aload_n 0, 1) := g_42 bX6_value rfl
theorem dX6_value_1 : decode cX6_value 1 = .ok (.invokevirtual 122, 3) := g_182 bX6_value rfl
theorem dX6_value_4 : decode cX6_value 4 = .ok (.ireturn, 1) := g_172 bX6_value rfl
theorem dX6_wipe_0 : decode cX6_wipe 0 = .ok (.aload_n 0, 1) := g_42 bX6_wipe rfl
theorem dX6_wipe_1 : decode cX6_wipe 1 = .ok (.getfield 141, 3) := g_180 bX6_wipe rfl
theorem dX6_wipe_4 : decode cX6_wipe 4 = .ok (.istore_n 1, 1) := g_60 bX6_wipe rfl
theorem dX6_wipe_5 : decode cX6_wipe 5 = .ok (.aload_n 0, 1) := g_42 bX6_wipe rfl
theorem dX6_wipe_6 : decode cX6_wipe 6 = .ok (.iconst 0, 1) := g_3 bX6_wipe rfl
theorem dX6_wipe_7 : decode cX6_wipe 7 = .ok (.putfield 141, 3) := g_181 bX6_wipe rfl
theorem dX6_wipe_10 : decode cX6_wipe 10 = .ok (.iload_n 1, 1) := g_27 bX6_wipe rfl
theorem dX6_wipe_11 : decode cX6_wipe 11 = .ok (.ireturn, 1) := g_172 bX6_wipe rfl
theorem dX6_would_0 : decode cX6_would 0 = .ok (.aload_n 0, 1) := g_42 bX6_would rfl
theorem dX6_would_1 : decode cX6_would 1 = .ok (.iload_n 1, 1) := g_27 bX6_would rfl
theorem dX6_would_2 : decode cX6_would 2 = .ok (.iload_n 2, 1) := g_28 bX6_would rfl
theorem dX6_would_3 : decode cX6_would 3 = .ok (.invokevirtual 251, 3) := g_182 bX6_would rfl
theorem dX6_would_6 : decode cX6_would 6 = .ok (.istore_n 3, 1) := g_62 bX6_would rfl
theorem dX6_would_7 : decode cX6_would 7 = .ok (.iload_n 3, 1) := g_29 bX6_would rfl
theorem dX6_would_8 : decode cX6_would 8 = .ok (.ifCond .eq 7, 3) := g_153 7 bX6_would rfl rfl
theorem dX6_would_11 : decode cX6_would 11 = .ok (.iload_n 3, 1) := g_29 bX6_would rfl
theorem dX6_would_12 : decode cX6_would 12 = .ok (.goto 9, 3) := g_167 9 bX6_would rfl rfl
theorem dX6_would_15 : decode cX6_would 15 = .ok (.aload_n 0, 1) := g_42 bX6_would rfl
theorem dX6_would_16 : decode cX6_would 16 = .ok (.iload_n 1, 1) := g_27 bX6_would rfl
theorem dX6_would_17 : decode cX6_would 17 = .ok (.iload_n 2, 1) := g_28 bX6_would rfl
theorem dX6_would_18 : decode cX6_would 18 = .ok (.invokevirtual 254, 3) := g_182 bX6_would rfl
theorem dX6_would_21 : decode cX6_would 21 = .ok (.ireturn, 1) := g_172 bX6_would rfl
theorem dX6_write_0 : decode cX6_write 0 = .ok (.aload_n 0, 1) := g_42 bX6_write rfl
theorem dX6_write_1 : decode cX6_write 1 = .ok (.iload_n 1, 1) := g_27 bX6_write rfl
theorem dX6_write_2 : decode cX6_write 2 = .ok (.i2l, 1) := g_133 bX6_write rfl
theorem dX6_write_3 : decode cX6_write 3 = .ok (.invokevirtual 236, 3) := g_182 bX6_write rfl
theorem dX6_write_6 : decode cX6_write 6 = .ok (.ifCond .eq 12, 3) := g_153 12 bX6_write rfl rfl
theorem dX6_write_9 : decode cX6_write 9 = .ok (.aload_n 0, 1) := g_42 bX6_write rfl
theorem dX6_write_10 : decode cX6_write 10 = .ok (.iload_n 2, 1) := g_28 bX6_write rfl
theorem dX6_write_11 : decode cX6_write 11 = .ok (.i2l, 1) := g_133 bX6_write rfl
theorem dX6_write_12 : decode cX6_write 12 = .ok (.invokevirtual 229, 3) := g_182 bX6_write rfl
theorem dX6_write_15 : decode cX6_write 15 = .ok (.ifCond .ne 10, 3) := g_154 10 bX6_write rfl rfl
theorem dX6_write_18 : decode cX6_write 18 = .ok (.aload_n 0, 1) := g_42 bX6_write rfl
theorem dX6_write_19 : decode cX6_write 19 = .ok (.bipush (-2), 2) := g_16 254 bX6_write rfl rfl
theorem dX6_write_21 : decode cX6_write 21 = .ok (.invokevirtual 91, 3) := g_182 bX6_write rfl
theorem dX6_write_24 : decode cX6_write 24 = .ok (.ireturn, 1) := g_172 bX6_write rfl
theorem dX6_write_25 : decode cX6_write 25 = .ok (.aload_n 0, 1) := g_42 bX6_write rfl
theorem dX6_write_26 : decode cX6_write 26 = .ok (.iload_n 2, 1) := g_28 bX6_write rfl
theorem dX6_write_27 : decode cX6_write 27 = .ok (.invokevirtual 248, 3) := g_182 bX6_write rfl
theorem dX6_write_30 : decode cX6_write 30 = .ok (.ifCond .eq 22, 3) := g_153 22 bX6_write rfl rfl
theorem dX6_write_33 : decode cX6_write 33 = .ok (.aload_n 0, 1) := g_42 bX6_write rfl
theorem dX6_write_34 : decode cX6_write 34 = .ok (.iload_n 1, 1) := g_27 bX6_write rfl
theorem dX6_write_35 : decode cX6_write 35 = .ok (.invokevirtual 81, 3) := g_182 bX6_write rfl
theorem dX6_write_38 : decode cX6_write 38 = .ok (.ifCond .eq 14, 3) := g_153 14 bX6_write rfl rfl
theorem dX6_write_41 : decode cX6_write 41 = .ok (.aload_n 0, 1) := g_42 bX6_write rfl
theorem dX6_write_42 : decode cX6_write 42 = .ok (.getfield 48, 3) := g_180 bX6_write rfl
theorem dX6_write_45 : decode cX6_write 45 = .ok (.iload_n 1, 1) := g_27 bX6_write rfl
theorem dX6_write_46 : decode cX6_write 46 = .ok (.aaload, 1) := g_50 bX6_write rfl
theorem dX6_write_47 : decode cX6_write 47 = .ok (.iload_n 2, 1) := g_28 bX6_write rfl
theorem dX6_write_48 : decode cX6_write 48 = .ok (.iaload, 1) := g_46 bX6_write rfl
theorem dX6_write_49 : decode cX6_write 49 = .ok (.ifCond .ne 10, 3) := g_154 10 bX6_write rfl rfl
theorem dX6_write_52 : decode cX6_write 52 = .ok (.aload_n 0, 1) := g_42 bX6_write rfl
theorem dX6_write_53 : decode cX6_write 53 = .ok (.bipush (-5), 2) := g_16 251 bX6_write rfl rfl
theorem dX6_write_55 : decode cX6_write 55 = .ok (.invokevirtual 91, 3) := g_182 bX6_write rfl
theorem dX6_write_58 : decode cX6_write 58 = .ok (.ireturn, 1) := g_172 bX6_write rfl
theorem dX6_write_59 : decode cX6_write 59 = .ok (.aload_n 0, 1) := g_42 bX6_write rfl
theorem dX6_write_60 : decode cX6_write 60 = .ok (.getfield 42, 3) := g_180 bX6_write rfl
theorem dX6_write_63 : decode cX6_write 63 = .ok (.iload_n 2, 1) := g_28 bX6_write rfl
theorem dX6_write_64 : decode cX6_write 64 = .ok (.aaload, 1) := g_50 bX6_write rfl
theorem dX6_write_65 : decode cX6_write 65 = .ok (.iconst 2, 1) := g_5 bX6_write rfl
theorem dX6_write_66 : decode cX6_write 66 = .ok (.aload_n 0, 1) := g_42 bX6_write rfl
theorem dX6_write_67 : decode cX6_write 67 = .ok (.getfield 48, 3) := g_180 bX6_write rfl
theorem dX6_write_70 : decode cX6_write 70 = .ok (.iload_n 1, 1) := g_27 bX6_write rfl
theorem dX6_write_71 : decode cX6_write 71 = .ok (.aaload, 1) := g_50 bX6_write rfl
theorem dX6_write_72 : decode cX6_write 72 = .ok (.iload_n 2, 1) := g_28 bX6_write rfl
theorem dX6_write_73 : decode cX6_write 73 = .ok (.iaload, 1) := g_46 bX6_write rfl
theorem dX6_write_74 : decode cX6_write 74 = .ok (.iastore, 1) := g_79 bX6_write rfl
theorem dX6_write_75 : decode cX6_write 75 = .ok (.aload_n 0, 1) := g_42 bX6_write rfl
theorem dX6_write_76 : decode cX6_write 76 = .ok (.getfield 42, 3) := g_180 bX6_write rfl
theorem dX6_write_79 : decode cX6_write 79 = .ok (.iload_n 2, 1) := g_28 bX6_write rfl
theorem dX6_write_80 : decode cX6_write 80 = .ok (.aaload, 1) := g_50 bX6_write rfl
theorem dX6_write_81 : decode cX6_write 81 = .ok (.iconst 3, 1) := g_6 bX6_write rfl
theorem dX6_write_82 : decode cX6_write 82 = .ok (.iconst 0, 1) := g_3 bX6_write rfl
theorem dX6_write_83 : decode cX6_write 83 = .ok (.iastore, 1) := g_79 bX6_write rfl
theorem dX6_write_84 : decode cX6_write 84 = .ok (.aload_n 0, 1) := g_42 bX6_write rfl
theorem dX6_write_85 : decode cX6_write 85 = .ok (.getfield 42, 3) := g_180 bX6_write rfl
theorem dX6_write_88 : decode cX6_write 88 = .ok (.iload_n 2, 1) := g_28 bX6_write rfl
theorem dX6_write_89 : decode cX6_write 89 = .ok (.aaload, 1) := g_50 bX6_write rfl
theorem dX6_write_90 : decode cX6_write 90 = .ok (.iconst 2, 1) := g_5 bX6_write rfl
theorem dX6_write_91 : decode cX6_write 91 = .ok (.iaload, 1) := g_46 bX6_write rfl
theorem dX6_write_92 : decode cX6_write 92 = .ok (.ireturn, 1) := g_172 bX6_write rfl
theorem dX6_youngest_0 : decode cX6_youngest 0 = .ok (.aload_n 0, 1) := g_42 bX6_youngest rfl
theorem dX6_youngest_1 : decode cX6_youngest 1 = .ok (.iload_n 1, 1) := g_27 bX6_youngest rfl
theorem dX6_youngest_2 : decode cX6_youngest 2 = .ok (.i2l, 1) := g_133 bX6_youngest rfl
theorem dX6_youngest_3 : decode cX6_youngest 3 = .ok (.invokevirtual 236, 3) := g_182 bX6_youngest rfl
theorem dX6_youngest_6 : decode cX6_youngest 6 = .ok (.ifCond .eq 11, 3) := g_153 11 bX6_youngest rfl rfl
theorem dX6_youngest_9 : decode cX6_youngest 9 = .ok (.aload_n 0, 1) := g_42 bX6_youngest rfl
theorem dX6_youngest_10 : decode cX6_youngest 10 = .ok (.iload_n 1, 1) := g_27 bX6_youngest rfl
theorem dX6_youngest_11 : decode cX6_youngest 11 = .ok (.invokevirtual 269, 3) := g_182 bX6_youngest rfl
theorem dX6_youngest_14 : decode cX6_youngest 14 = .ok (.goto 9, 3) := g_167 9 bX6_youngest rfl rfl
theorem dX6_youngest_17 : decode cX6_youngest 17 = .ok (.aload_n 0, 1) := g_42 bX6_youngest rfl
theorem dX6_youngest_18 : decode cX6_youngest 18 = .ok (.bipush (-2), 2) := g_16 254 bX6_youngest rfl rfl
theorem dX6_youngest_20 : decode cX6_youngest 20 = .ok (.invokevirtual 91, 3) := g_182 bX6_youngest rfl
theorem dX6_youngest_23 : decode cX6_youngest 23 = .ok (.ireturn, 1) := g_172 bX6_youngest rfl
theorem sz4m {x z : Int32} {n : Nat} (hz : z = nI n) (hn : n ≤ 40) (h0 : ¬ x < 0) (c : x - x / 4 * 4 = 0) (hl : x ≤ z) : ∃ k : Nat, 4 * k ≤ 40 ∧ x = nI (4 * k) := by
  subst hz
  obtain ⟨k, hk, rfl⟩ := nI_of h0
  rw [Int32.le_iff_toInt_le, nI_toInt hk, nI_toInt (by omega)] at hl
  rw [show (4 : Int32) = nI 4 from rfl, pk_rem hk (by omega) (by omega)] at c
  have e : k % 4 = 0 := nI_inj (a := k % 4) (b := 0) (by omega) (by omega) c
  exact ⟨k / 4, by omega, by congr 1; omega⟩
theorem fm_yes {z k : Nat} (hz : z ≤ 250) (hk : k ≤ 4) (c : nI k ≤ 250 - nI z) : z + k ≤ 250 := by
  rw [show (250 : Int32) = nI 250 from rfl, pk_sub (by omega), Int32.le_iff_toInt_le, nI_toInt (by omega), nI_toInt (by omega)] at c
  omega
theorem fm_no {z k : Nat} (hz : z ≤ 250) (hk : k ≤ 4) (c : ¬ nI k ≤ 250 - nI z) : 250 < z + k := by
  rw [show (250 : Int32) = nI 250 from rfl, pk_sub (by omega), Int32.le_iff_toInt_le, nI_toInt (by omega), nI_toInt (by omega)] at c
  omega
theorem in04 {x : Int32} (h : Iv x.toInt64 0 4) : x = 0 ∨ x = 1 ∨ x = 2 ∨ x = 3 ∨ x = 4 := by
  have h1 := toI h (m := 0) (n := 4) (by decide) (by decide)
  rcases (show x.toInt = 0 ∨ x.toInt = 1 ∨ x.toInt = 2 ∨ x.toInt = 3 ∨ x.toInt = 4 by omega) with e | e | e | e | e
  · exact Or.inl (eqI (by decide) e)
  · exact Or.inr (Or.inl (eqI (by decide) e))
  · exact Or.inr (Or.inr (Or.inl (eqI (by decide) e)))
  · exact Or.inr (Or.inr (Or.inr (Or.inl (eqI (by decide) e))))
  · exact Or.inr (Or.inr (Or.inr (Or.inr (eqI (by decide) e))))
set_option maxHeartbeats 4000000 in
set_option maxRecDepth 100000 in
theorem p_X6_wipe (l : Launch) (G : va_G) (cy : Nat → ClassId) (sz : Nat) (qm : Nat) (qmh : Nat) (qmo : Nat) (qmz : Nat) (qmR : Nat) (qmv : Nat) (qmk : Nat) (qma : Nat) (qmt : Nat) (kZ : Nat) (qmr : Nat) (tA : TA) (qmB : Nat) (qmO : Nat) (qmK : Nat) (iEn : Int32) (iTk : Int32) (uP : UM) (uU : UM) (kAt : Nat) (iTo : Int32) (iFr : Int32) (JFi : Int64) (iFa : Int32) (qm3 : Nat) (iSt : Int32) (iLv : Int32) (iWs : Int32) (vLa : Value) (qmu : Nat) (qmy : Nat) (qmb : Nat) (qms : Nat) (iOm : Int32)   : MW l yX6_wipe cX6_wipe 2 (some .int) 16 0 0 G cy [zzO qm 5 [.ref qmh, .ref qmo, .ref qmz, .ref qmR, .ref qmv, .ref qmk, .ref qma, .ref qmt, .int (nI kZ), .ref qmr, .int (nI (T_nb tA)), .ref qmB, .int (nI (T_np tA)), .ref qmO, .ref qmK, .int iEn, .int iTk, .int (T_sd tA), ov uP, ov uU, .int (nI kAt), .int iTo, .int iFr, .long JFi, .int iFa, .ref qm3, .int iSt, .int iLv, .int iWs, vLa, .ref qmu, .ref qmy, .ref qmb, .ref qms, .int iOm]] sz [.ref qm] (Wi G (fun r u => ∃ (kNz : Nat), u = [zzO qm 5 [.ref qmh, .ref qmo, .ref qmz, .ref qmR, .ref qmv, .ref qmk, .ref qma, .ref qmt, .int (nI kNz), .ref qmr, .int (nI (T_nb tA)), .ref qmB, .int (nI (T_np tA)), .ref qmO, .ref qmK, .int iEn, .int iTk, .int (T_sd tA), ov uP, ov uU, .int (nI kAt), .int iTo, .int iFr, .long JFi, .int iFa, .ref qm3, .int iSt, .int iLv, .int iWs, vLa, .ref qmu, .ref qmy, .ref qmb, .ref qms, .int iOm]] ∧ (r = nI kZ ∧ kNz = 0) ∧ (True))) := by
  refine enW RX6 (by decide) rfl (Nat.le_of_ble_eq_true rfl) (fun p e s m below meth c ls A hx hb hml hown hts hr hlocks hP hN hl hin hD hA hS => ?_)
  have hin : meth.name = _ := hin
  have hK := hN.1
  replace hl : lv_has ls 2 [(0, .ref qm)] := hl
  refine lv_aload_n hx hb dX6_wipe_0 rfl (lv_at hl 0 rfl) ?_
  refine va_get (D := G) (ci := 5) (v := .int (nI kZ)) (C := RX6) (T := TX6) (N := 35) hx hb hts iX_X6 hown hK hP 0 rfl rfl 8 (by decide) (hts _ m_t858) (fun _ h9 => h9) rfl dX6_wipe_1 ?_
  refine lv_istore_n (lv' := [(1, .int (nI kZ)), (0, .ref qm)]) hx hb dX6_wipe_4 rfl hl (by decide) rfl (fun ls => ?_)
  clear hl
  intro hl
  refine lv_aload_n hx hb dX6_wipe_5 rfl (lv_at hl 1 rfl) ?_
  refine lv_iconst (v := 0) hx hb dX6_wipe_6 (by decide) ?_
  refine va_put (D := G) (ci := 5) (v := .int 0) (ty := .int) (C := RX6) (T := TX6) (N := 35) hx hb hts iX_X6 tyX6 tyX6_ok nmX6 hown hK hP hD hS 0 rfl rfl 8 (by decide) (hts _ m_t858) (fun _ h9 => h9) rfl (by decide +kernel) rfl rfl (Nat.le_of_ble_eq_true rfl) dX6_wipe_7 (fun H locs => ?_)
  clear hP hD hS
  intro hP hD hS
  have hPD := pd_as [zzO qm 5 [.ref qmh, .ref qmo, .ref qmz, .ref qmR, .ref qmv, .ref qmk, .ref qma, .ref qmt, .int 0, .ref qmr, .int (nI (T_nb tA)), .ref qmB, .int (nI (T_np tA)), .ref qmO, .ref qmK, .int iEn, .int iTk, .int (T_sd tA), ov uP, ov uU, .int (nI kAt), .int iTo, .int iFr, .long JFi, .int iFa, .ref qm3, .int iSt, .int iLv, .int iWs, vLa, .ref qmu, .ref qmy, .ref qmb, .ref qms, .int iOm]] hP hD rfl
  clear hP hD
  obtain ⟨hP, hD⟩ := hPD
  have hPD := pd_as [zzO qm 5 [.ref qmh, .ref qmo, .ref qmz, .ref qmR, .ref qmv, .ref qmk, .ref qma, .ref qmt, .int (nI 0), .ref qmr, .int (nI (T_nb tA)), .ref qmB, .int (nI (T_np tA)), .ref qmO, .ref qmK, .int iEn, .int iTk, .int (T_sd tA), ov uP, ov uU, .int (nI kAt), .int iTo, .int iFr, .long JFi, .int iFa, .ref qm3, .int iSt, .int iLv, .int iWs, vLa, .ref qmu, .ref qmy, .ref qmb, .ref qms, .int iOm]] hP hD rfl
  clear hP hD
  obtain ⟨hP, hD⟩ := hPD
  refine lv_iload_n hx hb dX6_wipe_10 rfl (lv_at hl 0 rfl) ?_
  exact endW (u := [zzO qm 5 [.ref qmh, .ref qmo, .ref qmz, .ref qmR, .ref qmv, .ref qmk, .ref qma, .ref qmt, .int (nI 0), .ref qmr, .int (nI (T_nb tA)), .ref qmB, .int (nI (T_np tA)), .ref qmO, .ref qmK, .int iEn, .int iTk, .int (T_sd tA), ov uP, ov uU, .int (nI kAt), .int iTo, .int iFr, .long JFi, .int iFa, .ref qm3, .int iSt, .int iLv, .int iWs, vLa, .ref qmu, .ref qmy, .ref qmb, .ref qms, .int iOm]]) hx hb hr hlocks rfl (hP.sub [0] rfl) (hD.sub [0] (by decide +kernel) rfl) hS ⟨0, rfl, ⟨rfl, rfl⟩, trivial⟩ dX6_wipe_11
set_option maxHeartbeats 4000000 in
set_option maxRecDepth 100000 in
theorem p_X6_bookOf (l : Launch) (G : va_G) (cy : Nat → ClassId) (sz : Nat) (qm : Nat) (qmh : Nat) (qmo : Nat) (qmz : Nat) (qmR : Nat) (qmv : Nat) (qmk : Nat) (qma : Nat) (qmt : Nat) (kZ : Nat) (qmr : Nat) (tA : TA) (qmB : Nat) (qmO : Nat) (qmK : Nat) (iEn : Int32) (iTk : Int32) (uP : UM) (uU : UM) (kAt : Nat) (iTo : Int32) (iFr : Int32) (JFi : Int64) (iFa : Int32) (qm3 : Nat) (iSt : Int32) (iLv : Int32) (iWs : Int32) (vLa : Value) (qmu : Nat) (qmy : Nat) (qmb : Nat) (qms : Nat) (iOm : Int32) (rB : Nat → Nat) (rO : Nat → Nat) (rK : Nat → Nat) (fMr : Nat → Int32) (iA : Int32) (iB : Int32)  (hB : T_nb tA ≤ 8) (hPp : T_np tA ≤ 8) (hTI : TI tA) : MW l yX6_bookOf cX6_bookOf 3 (some .int) 16 0 0 G cy [zzO qm 5 [.ref qmh, .ref qmo, .ref qmz, .ref qmR, .ref qmv, .ref qmk, .ref qma, .ref qmt, .int (nI kZ), .ref qmr, .int (nI (T_nb tA)), .ref qmB, .int (nI (T_np tA)), .ref qmO, .ref qmK, .int iEn, .int iTk, .int (T_sd tA), ov uP, ov uU, .int (nI kAt), .int iTo, .int iFr, .long JFi, .int iFa, .ref qm3, .int iSt, .int iLv, .int iWs, vLa, .ref qmu, .ref qmy, .ref qmb, .ref qms, .int iOm], zzG cy 3 qmB rB, zzI cy (rB 0) 4 (bkR tA 0), zzI cy (rB 1) 4 (bkR tA 1), zzI cy (rB 2) 4 (bkR tA 2), zzI cy (rB 3) 4 (bkR tA 3), zzI cy (rB 4) 4 (bkR tA 4), zzI cy (rB 5) 4 (bkR tA 5), zzI cy (rB 6) 4 (bkR tA 6), zzI cy (rB 7) 4 (bkR tA 7), zzG cy 3 qmO rO, zzI cy (rO 0) 5 (onR tA 0), zzI cy (rO 1) 5 (onR tA 1), zzI cy (rO 2) 5 (onR tA 2), zzI cy (rO 3) 5 (onR tA 3), zzI cy (rO 4) 5 (onR tA 4), zzI cy (rO 5) 5 (onR tA 5), zzI cy (rO 6) 5 (onR tA 6), zzI cy (rO 7) 5 (onR tA 7), zzG cy 3 qmK rK, zzI cy (rK 0) 8 (T_kn tA 0), zzI cy (rK 1) 8 (T_kn tA 1), zzI cy (rK 2) 8 (T_kn tA 2), zzI cy (rK 3) 8 (T_kn tA 3), zzI cy (rK 4) 8 (T_kn tA 4), zzI cy (rK 5) 8 (T_kn tA 5), zzI cy (rK 6) 8 (T_kn tA 6), zzI cy (rK 7) 8 (T_kn tA 7), zzI cy qmr 8 fMr] sz [.ref qm, .int iA, .int iB] (Wi G (fun r u => ∃ (fNr : Nat → Int32), u = [zzO qm 5 [.ref qmh, .ref qmo, .ref qmz, .ref qmR, .ref qmv, .ref qmk, .ref qma, .ref qmt, .int (nI kZ), .ref qmr, .int (nI (T_nb tA)), .ref qmB, .int (nI (T_np tA)), .ref qmO, .ref qmK, .int iEn, .int iTk, .int (T_sd tA), ov uP, ov uU, .int (nI kAt), .int iTo, .int iFr, .long JFi, .int iFa, .ref qm3, .int iSt, .int iLv, .int iWs, vLa, .ref qmu, .ref qmy, .ref qmb, .ref qms, .int iOm], zzG cy 3 qmB rB, zzI cy (rB 0) 4 (bkR tA 0), zzI cy (rB 1) 4 (bkR tA 1), zzI cy (rB 2) 4 (bkR tA 2), zzI cy (rB 3) 4 (bkR tA 3), zzI cy (rB 4) 4 (bkR tA 4), zzI cy (rB 5) 4 (bkR tA 5), zzI cy (rB 6) 4 (bkR tA 6), zzI cy (rB 7) 4 (bkR tA 7), zzG cy 3 qmO rO, zzI cy (rO 0) 5 (onR tA 0), zzI cy (rO 1) 5 (onR tA 1), zzI cy (rO 2) 5 (onR tA 2), zzI cy (rO 3) 5 (onR tA 3), zzI cy (rO 4) 5 (onR tA 4), zzI cy (rO 5) 5 (onR tA 5), zzI cy (rO 6) 5 (onR tA 6), zzI cy (rO 7) 5 (onR tA 7), zzG cy 3 qmK rK, zzI cy (rK 0) 8 (T_kn tA 0), zzI cy (rK 1) 8 (T_kn tA 1), zzI cy (rK 2) 8 (T_kn tA 2), zzI cy (rK 3) 8 (T_kn tA 3), zzI cy (rK 4) 8 (T_kn tA 4), zzI cy (rK 5) 8 (T_kn tA 5), zzI cy (rK 6) 8 (T_kn tA 6), zzI cy (rK 7) 8 (T_kn tA 7), zzI cy qmr 8 fNr] ∧ (True))) := by
  refine enW RX6 (by decide) rfl (Nat.le_of_ble_eq_true rfl) (fun p e s m below meth c ls A hx hb hml hown hts hr hlocks hP hN hl hin hD hA hS => ?_)
  have hin : meth.name = _ := hin
  have hK := hN.1
  replace hl : lv_has ls 3 [(0, .ref qm), (1, .int iA), (2, .int iB)] := hl
  refine lv_aload_n hx hb dX6_bookOf_0 rfl (lv_at hl 0 rfl) ?_
  refine lv_iload_n hx hb dX6_bookOf_1 rfl (lv_at hl 1 rfl) ?_
  refine lv_i2l (v := iA.toInt64) hx hb dX6_bookOf_2 rfl ?_
  refine kRi (rV (As := [.long iA.toInt64]) (rest := []) (b := qm) ⟨hx, hb, hml, hown, hts⟩ (c_X6_isBook l G cy qm (.ref qmh) (.ref qmo) (.ref qmz) (.ref qmR) (.ref qmv) (.ref qmk) (.ref qma) (.ref qmt) (.int (nI kZ)) (.ref qmr) tA qmB qmO qmK iEn iTk (ov uP) (ov uU) (.int (nI kAt)) (.int iTo) (.int iFr) (.long JFi) (.int iFa) (.ref qm3) (.int iSt) iLv iWs vLa (.ref qmu) (.ref qmy) (.ref qmb) (.ref qms) (.int iOm) iA hB) L_X6_229 (preRV (q := (RX6, TX6, 35)) hN hP [0] rfl 0 5 rfl rfl) rfl ⟨Nat.le_of_ble_eq_true rfl, Nat.le_of_ble_eq_true rfl⟩ hl.1 (Nat.le_of_ble_eq_true rfl) dX6_bookOf_3 ⟨Nat.le_of_ble_eq_true rfl, Nat.le_of_ble_eq_true rfl⟩) (fun r_1 h_2 => ?_)
  rcases h_2 with ⟨rfl, h_3⟩ | ⟨rfl, h_3⟩
  · obtain ⟨k_4, hk_5, rfl⟩ := h_3
    refine lv_if_eq (tgt := 21) hx hb dX6_bookOf_6 (by decide) (fun h9 => absurd h9 (by decide)) (fun _ => ?_)
    refine lv_iload_n hx hb dX6_bookOf_9 rfl (lv_at hl 2 rfl) ?_
    refine lv_i2l (v := iB.toInt64) hx hb dX6_bookOf_10 rfl ?_
    refine lv_lconst (v := 0) hx hb dX6_bookOf_11 (by decide) ?_
    refine lv_ldc2 hx hb hown (hts _ m_t964) dX6_bookOf_12 ?_
    refine kRi (rS (As := [.long iB.toInt64, .long 0, .long 4]) (rest := []) ⟨hx, hb, hml, hown, hts⟩ (c_X6_in l G cy iB.toInt64 0 4) L_X6_74 (preRS hN hP [] rfl) rfl ⟨Nat.le_of_ble_eq_true rfl, Nat.le_of_ble_eq_true rfl⟩ hl.1 (Nat.le_of_ble_eq_true rfl) dX6_bookOf_15 ⟨Nat.le_of_ble_eq_true rfl, Nat.le_of_ble_eq_true rfl⟩) (fun r_7 h_8 => ?_)
    rcases h_8 with ⟨rfl, h_9⟩ | ⟨rfl, h_9⟩
    · refine lv_if_ne (tgt := 28) hx hb dX6_bookOf_18 (by decide) (fun _ => ?_) (fun h9 => absurd h9 (by decide))
      rcases in04 h_9 with rfl | rfl | rfl | rfl | rfl
      · refine lv_iload_n hx hb dX6_bookOf_28 rfl (lv_at hl 2 rfl) ?_
        refine lv_iconst (v := 4) hx hb dX6_bookOf_29 (by decide) ?_
        refine lv_icmp_ne (tgt := 49) hx hb dX6_bookOf_30 (by decide) (fun _ => ?_) (fun h9 => absurd h9 (by decide))
        refine lv_aload_n hx hb dX6_bookOf_49 rfl (lv_at hl 0 rfl) ?_
        refine va_get (D := G) (ci := 5) (v := .ref qmB) (C := RX6) (T := TX6) (N := 35) hx hb hts iX_X6 hown hK hP 0 rfl rfl 11 (by decide) (hts _ m_t861) (fun _ h9 => h9) rfl dX6_bookOf_50 ?_
        refine lv_iload_n hx hb dX6_bookOf_53 rfl (lv_at hl 1 rfl) ?_
        refine va_alda hx hb hK hP 1 3 rfl rfl (in8 (by omega)) dX6_bookOf_54 ?_
        refine lv_setv (v := .ref (rB k_4)) (g_ref (by omega)) ?_
        refine lv_iload_n hx hb dX6_bookOf_55 rfl (lv_at hl 2 rfl) ?_
        refine va_iald hx hb hK hP (2 + k_4) 0 (sg8 (n0 := 2) (f := (fun j => zzI cy (rB j) 4 (bkR tA j))) rfl rfl rfl rfl rfl rfl rfl rfl k_4 (by omega)) rfl (in_c rfl) dX6_bookOf_56 ?_
        refine lv_seti (v := T_wo tA k_4) (bk_0 _ _) ?_
        exact endW (u := [zzO qm 5 [.ref qmh, .ref qmo, .ref qmz, .ref qmR, .ref qmv, .ref qmk, .ref qma, .ref qmt, .int (nI kZ), .ref qmr, .int (nI (T_nb tA)), .ref qmB, .int (nI (T_np tA)), .ref qmO, .ref qmK, .int iEn, .int iTk, .int (T_sd tA), ov uP, ov uU, .int (nI kAt), .int iTo, .int iFr, .long JFi, .int iFa, .ref qm3, .int iSt, .int iLv, .int iWs, vLa, .ref qmu, .ref qmy, .ref qmb, .ref qms, .int iOm], zzG cy 3 qmB rB, zzI cy (rB 0) 4 (bkR tA 0), zzI cy (rB 1) 4 (bkR tA 1), zzI cy (rB 2) 4 (bkR tA 2), zzI cy (rB 3) 4 (bkR tA 3), zzI cy (rB 4) 4 (bkR tA 4), zzI cy (rB 5) 4 (bkR tA 5), zzI cy (rB 6) 4 (bkR tA 6), zzI cy (rB 7) 4 (bkR tA 7), zzG cy 3 qmO rO, zzI cy (rO 0) 5 (onR tA 0), zzI cy (rO 1) 5 (onR tA 1), zzI cy (rO 2) 5 (onR tA 2), zzI cy (rO 3) 5 (onR tA 3), zzI cy (rO 4) 5 (onR tA 4), zzI cy (rO 5) 5 (onR tA 5), zzI cy (rO 6) 5 (onR tA 6), zzI cy (rO 7) 5 (onR tA 7), zzG cy 3 qmK rK, zzI cy (rK 0) 8 (T_kn tA 0), zzI cy (rK 1) 8 (T_kn tA 1), zzI cy (rK 2) 8 (T_kn tA 2), zzI cy (rK 3) 8 (T_kn tA 3), zzI cy (rK 4) 8 (T_kn tA 4), zzI cy (rK 5) 8 (T_kn tA 5), zzI cy (rK 6) 8 (T_kn tA 6), zzI cy (rK 7) 8 (T_kn tA 7), zzI cy qmr 8 fMr]) hx hb hr hlocks rfl (hP.sub [0, 1, 2, 3, 4, 5, 6, 7, 8, 9, 10, 11, 12, 13, 14, 15, 16, 17, 18, 19, 20, 21, 22, 23, 24, 25, 26, 27, 28] rfl) (hD.sub [0, 1, 2, 3, 4, 5, 6, 7, 8, 9, 10, 11, 12, 13, 14, 15, 16, 17, 18, 19, 20, 21, 22, 23, 24, 25, 26, 27, 28] (by decide +kernel) rfl) hS ⟨fMr, rfl, trivial⟩ dX6_bookOf_57
      · refine lv_iload_n hx hb dX6_bookOf_28 rfl (lv_at hl 2 rfl) ?_
        refine lv_iconst (v := 4) hx hb dX6_bookOf_29 (by decide) ?_
        refine lv_icmp_ne (tgt := 49) hx hb dX6_bookOf_30 (by decide) (fun _ => ?_) (fun h9 => absurd h9 (by decide))
        refine lv_aload_n hx hb dX6_bookOf_49 rfl (lv_at hl 0 rfl) ?_
        refine va_get (D := G) (ci := 5) (v := .ref qmB) (C := RX6) (T := TX6) (N := 35) hx hb hts iX_X6 hown hK hP 0 rfl rfl 11 (by decide) (hts _ m_t861) (fun _ h9 => h9) rfl dX6_bookOf_50 ?_
        refine lv_iload_n hx hb dX6_bookOf_53 rfl (lv_at hl 1 rfl) ?_
        refine va_alda hx hb hK hP 1 3 rfl rfl (in8 (by omega)) dX6_bookOf_54 ?_
        refine lv_setv (v := .ref (rB k_4)) (g_ref (by omega)) ?_
        refine lv_iload_n hx hb dX6_bookOf_55 rfl (lv_at hl 2 rfl) ?_
        refine va_iald hx hb hK hP (2 + k_4) 0 (sg8 (n0 := 2) (f := (fun j => zzI cy (rB j) 4 (bkR tA j))) rfl rfl rfl rfl rfl rfl rfl rfl k_4 (by omega)) rfl (in_c rfl) dX6_bookOf_56 ?_
        refine lv_seti (v := T_ne tA k_4) (bk_1 _ _) ?_
        exact endW (u := [zzO qm 5 [.ref qmh, .ref qmo, .ref qmz, .ref qmR, .ref qmv, .ref qmk, .ref qma, .ref qmt, .int (nI kZ), .ref qmr, .int (nI (T_nb tA)), .ref qmB, .int (nI (T_np tA)), .ref qmO, .ref qmK, .int iEn, .int iTk, .int (T_sd tA), ov uP, ov uU, .int (nI kAt), .int iTo, .int iFr, .long JFi, .int iFa, .ref qm3, .int iSt, .int iLv, .int iWs, vLa, .ref qmu, .ref qmy, .ref qmb, .ref qms, .int iOm], zzG cy 3 qmB rB, zzI cy (rB 0) 4 (bkR tA 0), zzI cy (rB 1) 4 (bkR tA 1), zzI cy (rB 2) 4 (bkR tA 2), zzI cy (rB 3) 4 (bkR tA 3), zzI cy (rB 4) 4 (bkR tA 4), zzI cy (rB 5) 4 (bkR tA 5), zzI cy (rB 6) 4 (bkR tA 6), zzI cy (rB 7) 4 (bkR tA 7), zzG cy 3 qmO rO, zzI cy (rO 0) 5 (onR tA 0), zzI cy (rO 1) 5 (onR tA 1), zzI cy (rO 2) 5 (onR tA 2), zzI cy (rO 3) 5 (onR tA 3), zzI cy (rO 4) 5 (onR tA 4), zzI cy (rO 5) 5 (onR tA 5), zzI cy (rO 6) 5 (onR tA 6), zzI cy (rO 7) 5 (onR tA 7), zzG cy 3 qmK rK, zzI cy (rK 0) 8 (T_kn tA 0), zzI cy (rK 1) 8 (T_kn tA 1), zzI cy (rK 2) 8 (T_kn tA 2), zzI cy (rK 3) 8 (T_kn tA 3), zzI cy (rK 4) 8 (T_kn tA 4), zzI cy (rK 5) 8 (T_kn tA 5), zzI cy (rK 6) 8 (T_kn tA 6), zzI cy (rK 7) 8 (T_kn tA 7), zzI cy qmr 8 fMr]) hx hb hr hlocks rfl (hP.sub [0, 1, 2, 3, 4, 5, 6, 7, 8, 9, 10, 11, 12, 13, 14, 15, 16, 17, 18, 19, 20, 21, 22, 23, 24, 25, 26, 27, 28] rfl) (hD.sub [0, 1, 2, 3, 4, 5, 6, 7, 8, 9, 10, 11, 12, 13, 14, 15, 16, 17, 18, 19, 20, 21, 22, 23, 24, 25, 26, 27, 28] (by decide +kernel) rfl) hS ⟨fMr, rfl, trivial⟩ dX6_bookOf_57
      · refine lv_iload_n hx hb dX6_bookOf_28 rfl (lv_at hl 2 rfl) ?_
        refine lv_iconst (v := 4) hx hb dX6_bookOf_29 (by decide) ?_
        refine lv_icmp_ne (tgt := 49) hx hb dX6_bookOf_30 (by decide) (fun _ => ?_) (fun h9 => absurd h9 (by decide))
        refine lv_aload_n hx hb dX6_bookOf_49 rfl (lv_at hl 0 rfl) ?_
        refine va_get (D := G) (ci := 5) (v := .ref qmB) (C := RX6) (T := TX6) (N := 35) hx hb hts iX_X6 hown hK hP 0 rfl rfl 11 (by decide) (hts _ m_t861) (fun _ h9 => h9) rfl dX6_bookOf_50 ?_
        refine lv_iload_n hx hb dX6_bookOf_53 rfl (lv_at hl 1 rfl) ?_
        refine va_alda hx hb hK hP 1 3 rfl rfl (in8 (by omega)) dX6_bookOf_54 ?_
        refine lv_setv (v := .ref (rB k_4)) (g_ref (by omega)) ?_
        refine lv_iload_n hx hb dX6_bookOf_55 rfl (lv_at hl 2 rfl) ?_
        refine va_iald hx hb hK hP (2 + k_4) 0 (sg8 (n0 := 2) (f := (fun j => zzI cy (rB j) 4 (bkR tA j))) rfl rfl rfl rfl rfl rfl rfl rfl k_4 (by omega)) rfl (in_c rfl) dX6_bookOf_56 ?_
        refine lv_seti (v := T_go tA k_4) (bk_2 _ _) ?_
        exact endW (u := [zzO qm 5 [.ref qmh, .ref qmo, .ref qmz, .ref qmR, .ref qmv, .ref qmk, .ref qma, .ref qmt, .int (nI kZ), .ref qmr, .int (nI (T_nb tA)), .ref qmB, .int (nI (T_np tA)), .ref qmO, .ref qmK, .int iEn, .int iTk, .int (T_sd tA), ov uP, ov uU, .int (nI kAt), .int iTo, .int iFr, .long JFi, .int iFa, .ref qm3, .int iSt, .int iLv, .int iWs, vLa, .ref qmu, .ref qmy, .ref qmb, .ref qms, .int iOm], zzG cy 3 qmB rB, zzI cy (rB 0) 4 (bkR tA 0), zzI cy (rB 1) 4 (bkR tA 1), zzI cy (rB 2) 4 (bkR tA 2), zzI cy (rB 3) 4 (bkR tA 3), zzI cy (rB 4) 4 (bkR tA 4), zzI cy (rB 5) 4 (bkR tA 5), zzI cy (rB 6) 4 (bkR tA 6), zzI cy (rB 7) 4 (bkR tA 7), zzG cy 3 qmO rO, zzI cy (rO 0) 5 (onR tA 0), zzI cy (rO 1) 5 (onR tA 1), zzI cy (rO 2) 5 (onR tA 2), zzI cy (rO 3) 5 (onR tA 3), zzI cy (rO 4) 5 (onR tA 4), zzI cy (rO 5) 5 (onR tA 5), zzI cy (rO 6) 5 (onR tA 6), zzI cy (rO 7) 5 (onR tA 7), zzG cy 3 qmK rK, zzI cy (rK 0) 8 (T_kn tA 0), zzI cy (rK 1) 8 (T_kn tA 1), zzI cy (rK 2) 8 (T_kn tA 2), zzI cy (rK 3) 8 (T_kn tA 3), zzI cy (rK 4) 8 (T_kn tA 4), zzI cy (rK 5) 8 (T_kn tA 5), zzI cy (rK 6) 8 (T_kn tA 6), zzI cy (rK 7) 8 (T_kn tA 7), zzI cy qmr 8 fMr]) hx hb hr hlocks rfl (hP.sub [0, 1, 2, 3, 4, 5, 6, 7, 8, 9, 10, 11, 12, 13, 14, 15, 16, 17, 18, 19, 20, 21, 22, 23, 24, 25, 26, 27, 28] rfl) (hD.sub [0, 1, 2, 3, 4, 5, 6, 7, 8, 9, 10, 11, 12, 13, 14, 15, 16, 17, 18, 19, 20, 21, 22, 23, 24, 25, 26, 27, 28] (by decide +kernel) rfl) hS ⟨fMr, rfl, trivial⟩ dX6_bookOf_57
      · refine lv_iload_n hx hb dX6_bookOf_28 rfl (lv_at hl 2 rfl) ?_
        refine lv_iconst (v := 4) hx hb dX6_bookOf_29 (by decide) ?_
        refine lv_icmp_ne (tgt := 49) hx hb dX6_bookOf_30 (by decide) (fun _ => ?_) (fun h9 => absurd h9 (by decide))
        refine lv_aload_n hx hb dX6_bookOf_49 rfl (lv_at hl 0 rfl) ?_
        refine va_get (D := G) (ci := 5) (v := .ref qmB) (C := RX6) (T := TX6) (N := 35) hx hb hts iX_X6 hown hK hP 0 rfl rfl 11 (by decide) (hts _ m_t861) (fun _ h9 => h9) rfl dX6_bookOf_50 ?_
        refine lv_iload_n hx hb dX6_bookOf_53 rfl (lv_at hl 1 rfl) ?_
        refine va_alda hx hb hK hP 1 3 rfl rfl (in8 (by omega)) dX6_bookOf_54 ?_
        refine lv_setv (v := .ref (rB k_4)) (g_ref (by omega)) ?_
        refine lv_iload_n hx hb dX6_bookOf_55 rfl (lv_at hl 2 rfl) ?_
        refine va_iald hx hb hK hP (2 + k_4) 0 (sg8 (n0 := 2) (f := (fun j => zzI cy (rB j) 4 (bkR tA j))) rfl rfl rfl rfl rfl rfl rfl rfl k_4 (by omega)) rfl (in_c rfl) dX6_bookOf_56 ?_
        refine lv_seti (v := b01 (T_wh tA k_4)) (bk_3 _ _) ?_
        exact endW (u := [zzO qm 5 [.ref qmh, .ref qmo, .ref qmz, .ref qmR, .ref qmv, .ref qmk, .ref qma, .ref qmt, .int (nI kZ), .ref qmr, .int (nI (T_nb tA)), .ref qmB, .int (nI (T_np tA)), .ref qmO, .ref qmK, .int iEn, .int iTk, .int (T_sd tA), ov uP, ov uU, .int (nI kAt), .int iTo, .int iFr, .long JFi, .int iFa, .ref qm3, .int iSt, .int iLv, .int iWs, vLa, .ref qmu, .ref qmy, .ref qmb, .ref qms, .int iOm], zzG cy 3 qmB rB, zzI cy (rB 0) 4 (bkR tA 0), zzI cy (rB 1) 4 (bkR tA 1), zzI cy (rB 2) 4 (bkR tA 2), zzI cy (rB 3) 4 (bkR tA 3), zzI cy (rB 4) 4 (bkR tA 4), zzI cy (rB 5) 4 (bkR tA 5), zzI cy (rB 6) 4 (bkR tA 6), zzI cy (rB 7) 4 (bkR tA 7), zzG cy 3 qmO rO, zzI cy (rO 0) 5 (onR tA 0), zzI cy (rO 1) 5 (onR tA 1), zzI cy (rO 2) 5 (onR tA 2), zzI cy (rO 3) 5 (onR tA 3), zzI cy (rO 4) 5 (onR tA 4), zzI cy (rO 5) 5 (onR tA 5), zzI cy (rO 6) 5 (onR tA 6), zzI cy (rO 7) 5 (onR tA 7), zzG cy 3 qmK rK, zzI cy (rK 0) 8 (T_kn tA 0), zzI cy (rK 1) 8 (T_kn tA 1), zzI cy (rK 2) 8 (T_kn tA 2), zzI cy (rK 3) 8 (T_kn tA 3), zzI cy (rK 4) 8 (T_kn tA 4), zzI cy (rK 5) 8 (T_kn tA 5), zzI cy (rK 6) 8 (T_kn tA 6), zzI cy (rK 7) 8 (T_kn tA 7), zzI cy qmr 8 fMr]) hx hb hr hlocks rfl (hP.sub [0, 1, 2, 3, 4, 5, 6, 7, 8, 9, 10, 11, 12, 13, 14, 15, 16, 17, 18, 19, 20, 21, 22, 23, 24, 25, 26, 27, 28] rfl) (hD.sub [0, 1, 2, 3, 4, 5, 6, 7, 8, 9, 10, 11, 12, 13, 14, 15, 16, 17, 18, 19, 20, 21, 22, 23, 24, 25, 26, 27, 28] (by decide +kernel) rfl) hS ⟨fMr, rfl, trivial⟩ dX6_bookOf_57
      · refine lv_iload_n hx hb dX6_bookOf_28 rfl (lv_at hl 2 rfl) ?_
        refine lv_iconst (v := 4) hx hb dX6_bookOf_29 (by decide) ?_
        refine lv_icmp_ne (tgt := 49) hx hb dX6_bookOf_30 (by decide) (fun h9 => absurd (by decide) h9) (fun _ => ?_)
        refine lv_aload_n hx hb dX6_bookOf_33 rfl (lv_at hl 0 rfl) ?_
        refine lv_iload_n hx hb dX6_bookOf_34 rfl (lv_at hl 1 rfl) ?_
        refine lv_iconst (v := 1) hx hb dX6_bookOf_35 (by decide) ?_
        refine lv_aload_n hx hb dX6_bookOf_36 rfl (lv_at hl 0 rfl) ?_
        refine va_get (D := G) (ci := 5) (v := .int (nI (T_np tA))) (C := RX6) (T := TX6) (N := 35) hx hb hts iX_X6 hown hK hP 0 rfl rfl 12 (by decide) (hts _ m_t862) (fun _ h9 => h9) rfl dX6_bookOf_37 ?_
        refine lv_ishl hx hb dX6_bookOf_40 ?_
        refine lv_iconst (v := 1) hx hb dX6_bookOf_41 (by decide) ?_
        refine lv_isub hx hb dX6_bookOf_42 ?_
        refine kRi (rV (As := [.int (nI k_4), .int ((1 <<< ((nI (T_np tA)) &&& 31)) - 1)]) (rest := []) (b := qm) ⟨hx, hb, hml, hown, hts⟩ (c_X6_greatest l G cy qm (.ref qmh) (.ref qmo) (.ref qmz) (.ref qmR) (.ref qmv) (.ref qmk) (.ref qma) (.ref qmt) (.int (nI kZ)) (.ref qmr) tA qmB qmO qmK iEn iTk (ov uP) (ov uU) (.int (nI kAt)) (.int iTo) (.int iFr) (.long JFi) (.int iFa) (.ref qm3) (.int iSt) iLv iWs vLa (.ref qmu) (.ref qmy) (.ref qmb) (.ref qms) (.int iOm) rO rK k_4 ((1 <<< ((nI (T_np tA)) &&& 31)) - 1) hPp (by first | omega | (simp only [nb_sr, np_sr, nb_wr, np_wr, nb_rd, np_rd, nb_ch, np_ch, nb_zr, np_zr, nb_za, np_za, nb_ey, np_ey, nb_hf, np_hf, nb_dd, np_dd, nb_so, np_so, nb_skn, np_skn, nb_swh, np_swh, nb_sgn, np_sgn, nb_ssd, np_ssd, nb_sgo, np_sgo, nb_sag, np_sag]; omega))) L_X6_233 (preRV (q := (RX6, TX6, 35)) hN hP [0, 10, 11, 12, 13, 14, 15, 16, 17, 18, 19, 20, 21, 22, 23, 24, 25, 26, 27] rfl 0 5 rfl rfl) rfl ⟨Nat.le_of_ble_eq_true rfl, Nat.le_of_ble_eq_true rfl⟩ hl.1 (Nat.le_of_ble_eq_true rfl) dX6_bookOf_43 ⟨Nat.le_of_ble_eq_true rfl, Nat.le_of_ble_eq_true rfl⟩) (fun r_16 h_17 => ?_)
        subst h_17
        refine lv_goto (tgt := 57) hx hb dX6_bookOf_46 (by decide) ?_
        exact endW (u := [zzO qm 5 [.ref qmh, .ref qmo, .ref qmz, .ref qmR, .ref qmv, .ref qmk, .ref qma, .ref qmt, .int (nI kZ), .ref qmr, .int (nI (T_nb tA)), .ref qmB, .int (nI (T_np tA)), .ref qmO, .ref qmK, .int iEn, .int iTk, .int (T_sd tA), ov uP, ov uU, .int (nI kAt), .int iTo, .int iFr, .long JFi, .int iFa, .ref qm3, .int iSt, .int iLv, .int iWs, vLa, .ref qmu, .ref qmy, .ref qmb, .ref qms, .int iOm], zzG cy 3 qmB rB, zzI cy (rB 0) 4 (bkR tA 0), zzI cy (rB 1) 4 (bkR tA 1), zzI cy (rB 2) 4 (bkR tA 2), zzI cy (rB 3) 4 (bkR tA 3), zzI cy (rB 4) 4 (bkR tA 4), zzI cy (rB 5) 4 (bkR tA 5), zzI cy (rB 6) 4 (bkR tA 6), zzI cy (rB 7) 4 (bkR tA 7), zzG cy 3 qmO rO, zzI cy (rO 0) 5 (onR tA 0), zzI cy (rO 1) 5 (onR tA 1), zzI cy (rO 2) 5 (onR tA 2), zzI cy (rO 3) 5 (onR tA 3), zzI cy (rO 4) 5 (onR tA 4), zzI cy (rO 5) 5 (onR tA 5), zzI cy (rO 6) 5 (onR tA 6), zzI cy (rO 7) 5 (onR tA 7), zzG cy 3 qmK rK, zzI cy (rK 0) 8 (T_kn tA 0), zzI cy (rK 1) 8 (T_kn tA 1), zzI cy (rK 2) 8 (T_kn tA 2), zzI cy (rK 3) 8 (T_kn tA 3), zzI cy (rK 4) 8 (T_kn tA 4), zzI cy (rK 5) 8 (T_kn tA 5), zzI cy (rK 6) 8 (T_kn tA 6), zzI cy (rK 7) 8 (T_kn tA 7), zzI cy qmr 8 fMr]) hx hb hr hlocks rfl (hP.sub [0, 1, 2, 3, 4, 5, 6, 7, 8, 9, 10, 11, 12, 13, 14, 15, 16, 17, 18, 19, 20, 21, 22, 23, 24, 25, 26, 27, 28] rfl) (hD.sub [0, 1, 2, 3, 4, 5, 6, 7, 8, 9, 10, 11, 12, 13, 14, 15, 16, 17, 18, 19, 20, 21, 22, 23, 24, 25, 26, 27, 28] (by decide +kernel) rfl) hS ⟨fMr, rfl, trivial⟩ dX6_bookOf_57
    · refine lv_if_ne (tgt := 28) hx hb dX6_bookOf_18 (by decide) (fun h9 => absurd (by decide) h9) (fun _ => ?_)
      refine lv_aload_n hx hb dX6_bookOf_21 rfl (lv_at hl 0 rfl) ?_
      refine lv_bipush (v := (-2)) hx hb dX6_bookOf_22 (by decide) ?_
      refine cVi (As := [.int (-2)]) (rest := []) (b := qm) (q := (RX6, TX6, 35)) ⟨hx, hb, hml, hown, hts⟩ (c_X6_refuse2 l G cy (s.heap).size qm (.ref qmh) (.ref qmo) (.ref qmz) (.ref qmR) (.ref qmv) (.ref qmk) (.ref qma) (.ref qmt) (.int (nI kZ)) qmr tA qmB qmO qmK iEn iTk (ov uP) (ov uU) (.int (nI kAt)) (.int iTo) (.int iFr) (.long JFi) (.int iFa) (.ref qm3) (.int iSt) iLv iWs vLa (.ref qmu) (.ref qmy) (.ref qmb) (.ref qms) (.int iOm) fMr) L_X6_91 hN hP hD hS hA [0, 28] [false, true, true, true, true, true, true, true, true, true, true, true, true, true, true, true, true, true, true, true, true, true, true, true, true, true, true, true, false] rfl (by decide +kernel) rfl 0 5 rfl rfl rfl ⟨Nat.le_of_ble_eq_true rfl, Nat.le_of_ble_eq_true rfl⟩ hl.1 (Nat.le_of_ble_eq_true rfl) dX6_bookOf_24 ⟨Nat.le_of_ble_eq_true rfl, Nat.le_of_ble_eq_true rfl⟩ (fun r_19 u_21 H locs h_20 => ?_)
      clear hP hD hS
      intro hP hD hS
      obtain ⟨fX_22, rfl, h_20⟩ := h_20
      have hPD := pd_as [zzG cy 3 qmB rB, zzI cy (rB 0) 4 (bkR tA 0), zzI cy (rB 1) 4 (bkR tA 1), zzI cy (rB 2) 4 (bkR tA 2), zzI cy (rB 3) 4 (bkR tA 3), zzI cy (rB 4) 4 (bkR tA 4), zzI cy (rB 5) 4 (bkR tA 5), zzI cy (rB 6) 4 (bkR tA 6), zzI cy (rB 7) 4 (bkR tA 7), zzG cy 3 qmO rO, zzI cy (rO 0) 5 (onR tA 0), zzI cy (rO 1) 5 (onR tA 1), zzI cy (rO 2) 5 (onR tA 2), zzI cy (rO 3) 5 (onR tA 3), zzI cy (rO 4) 5 (onR tA 4), zzI cy (rO 5) 5 (onR tA 5), zzI cy (rO 6) 5 (onR tA 6), zzI cy (rO 7) 5 (onR tA 7), zzG cy 3 qmK rK, zzI cy (rK 0) 8 (T_kn tA 0), zzI cy (rK 1) 8 (T_kn tA 1), zzI cy (rK 2) 8 (T_kn tA 2), zzI cy (rK 3) 8 (T_kn tA 3), zzI cy (rK 4) 8 (T_kn tA 4), zzI cy (rK 5) 8 (T_kn tA 5), zzI cy (rK 6) 8 (T_kn tA 6), zzI cy (rK 7) 8 (T_kn tA 7), zzO qm 5 [.ref qmh, .ref qmo, .ref qmz, .ref qmR, .ref qmv, .ref qmk, .ref qma, .ref qmt, .int (nI kZ), .ref qmr, .int (nI (T_nb tA)), .ref qmB, .int (nI (T_np tA)), .ref qmO, .ref qmK, .int iEn, .int iTk, .int (T_sd tA), ov uP, ov uU, .int (nI kAt), .int iTo, .int iFr, .long JFi, .int iFa, .ref qm3, .int iSt, .int iLv, .int iWs, vLa, .ref qmu, .ref qmy, .ref qmb, .ref qms, .int iOm], zzI cy qmr 8 fX_22] hP hD rfl
      clear hP hD
      obtain ⟨hP, hD⟩ := hPD
      subst h_20
      exact endW (u := [zzO qm 5 [.ref qmh, .ref qmo, .ref qmz, .ref qmR, .ref qmv, .ref qmk, .ref qma, .ref qmt, .int (nI kZ), .ref qmr, .int (nI (T_nb tA)), .ref qmB, .int (nI (T_np tA)), .ref qmO, .ref qmK, .int iEn, .int iTk, .int (T_sd tA), ov uP, ov uU, .int (nI kAt), .int iTo, .int iFr, .long JFi, .int iFa, .ref qm3, .int iSt, .int iLv, .int iWs, vLa, .ref qmu, .ref qmy, .ref qmb, .ref qms, .int iOm], zzG cy 3 qmB rB, zzI cy (rB 0) 4 (bkR tA 0), zzI cy (rB 1) 4 (bkR tA 1), zzI cy (rB 2) 4 (bkR tA 2), zzI cy (rB 3) 4 (bkR tA 3), zzI cy (rB 4) 4 (bkR tA 4), zzI cy (rB 5) 4 (bkR tA 5), zzI cy (rB 6) 4 (bkR tA 6), zzI cy (rB 7) 4 (bkR tA 7), zzG cy 3 qmO rO, zzI cy (rO 0) 5 (onR tA 0), zzI cy (rO 1) 5 (onR tA 1), zzI cy (rO 2) 5 (onR tA 2), zzI cy (rO 3) 5 (onR tA 3), zzI cy (rO 4) 5 (onR tA 4), zzI cy (rO 5) 5 (onR tA 5), zzI cy (rO 6) 5 (onR tA 6), zzI cy (rO 7) 5 (onR tA 7), zzG cy 3 qmK rK, zzI cy (rK 0) 8 (T_kn tA 0), zzI cy (rK 1) 8 (T_kn tA 1), zzI cy (rK 2) 8 (T_kn tA 2), zzI cy (rK 3) 8 (T_kn tA 3), zzI cy (rK 4) 8 (T_kn tA 4), zzI cy (rK 5) 8 (T_kn tA 5), zzI cy (rK 6) 8 (T_kn tA 6), zzI cy (rK 7) 8 (T_kn tA 7), zzI cy qmr 8 fX_22]) hx hb hr hlocks rfl (hP.sub [27, 0, 1, 2, 3, 4, 5, 6, 7, 8, 9, 10, 11, 12, 13, 14, 15, 16, 17, 18, 19, 20, 21, 22, 23, 24, 25, 26, 28] rfl) (hD.sub [27, 0, 1, 2, 3, 4, 5, 6, 7, 8, 9, 10, 11, 12, 13, 14, 15, 16, 17, 18, 19, 20, 21, 22, 23, 24, 25, 26, 28] (by decide +kernel) rfl) hS ⟨fX_22, rfl, trivial⟩ dX6_bookOf_27
  · refine lv_if_eq (tgt := 21) hx hb dX6_bookOf_6 (by decide) (fun _ => ?_) (fun h9 => absurd (by decide) h9)
    refine lv_aload_n hx hb dX6_bookOf_21 rfl (lv_at hl 0 rfl) ?_
    refine lv_bipush (v := (-2)) hx hb dX6_bookOf_22 (by decide) ?_
    refine cVi (As := [.int (-2)]) (rest := []) (b := qm) (q := (RX6, TX6, 35)) ⟨hx, hb, hml, hown, hts⟩ (c_X6_refuse2 l G cy (s.heap).size qm (.ref qmh) (.ref qmo) (.ref qmz) (.ref qmR) (.ref qmv) (.ref qmk) (.ref qma) (.ref qmt) (.int (nI kZ)) qmr tA qmB qmO qmK iEn iTk (ov uP) (ov uU) (.int (nI kAt)) (.int iTo) (.int iFr) (.long JFi) (.int iFa) (.ref qm3) (.int iSt) iLv iWs vLa (.ref qmu) (.ref qmy) (.ref qmb) (.ref qms) (.int iOm) fMr) L_X6_91 hN hP hD hS hA [0, 28] [false, true, true, true, true, true, true, true, true, true, true, true, true, true, true, true, true, true, true, true, true, true, true, true, true, true, true, true, false] rfl (by decide +kernel) rfl 0 5 rfl rfl rfl ⟨Nat.le_of_ble_eq_true rfl, Nat.le_of_ble_eq_true rfl⟩ hl.1 (Nat.le_of_ble_eq_true rfl) dX6_bookOf_24 ⟨Nat.le_of_ble_eq_true rfl, Nat.le_of_ble_eq_true rfl⟩ (fun r_24 u_26 H locs h_25 => ?_)
    clear hP hD hS
    intro hP hD hS
    obtain ⟨fX_27, rfl, h_25⟩ := h_25
    have hPD := pd_as [zzG cy 3 qmB rB, zzI cy (rB 0) 4 (bkR tA 0), zzI cy (rB 1) 4 (bkR tA 1), zzI cy (rB 2) 4 (bkR tA 2), zzI cy (rB 3) 4 (bkR tA 3), zzI cy (rB 4) 4 (bkR tA 4), zzI cy (rB 5) 4 (bkR tA 5), zzI cy (rB 6) 4 (bkR tA 6), zzI cy (rB 7) 4 (bkR tA 7), zzG cy 3 qmO rO, zzI cy (rO 0) 5 (onR tA 0), zzI cy (rO 1) 5 (onR tA 1), zzI cy (rO 2) 5 (onR tA 2), zzI cy (rO 3) 5 (onR tA 3), zzI cy (rO 4) 5 (onR tA 4), zzI cy (rO 5) 5 (onR tA 5), zzI cy (rO 6) 5 (onR tA 6), zzI cy (rO 7) 5 (onR tA 7), zzG cy 3 qmK rK, zzI cy (rK 0) 8 (T_kn tA 0), zzI cy (rK 1) 8 (T_kn tA 1), zzI cy (rK 2) 8 (T_kn tA 2), zzI cy (rK 3) 8 (T_kn tA 3), zzI cy (rK 4) 8 (T_kn tA 4), zzI cy (rK 5) 8 (T_kn tA 5), zzI cy (rK 6) 8 (T_kn tA 6), zzI cy (rK 7) 8 (T_kn tA 7), zzO qm 5 [.ref qmh, .ref qmo, .ref qmz, .ref qmR, .ref qmv, .ref qmk, .ref qma, .ref qmt, .int (nI kZ), .ref qmr, .int (nI (T_nb tA)), .ref qmB, .int (nI (T_np tA)), .ref qmO, .ref qmK, .int iEn, .int iTk, .int (T_sd tA), ov uP, ov uU, .int (nI kAt), .int iTo, .int iFr, .long JFi, .int iFa, .ref qm3, .int iSt, .int iLv, .int iWs, vLa, .ref qmu, .ref qmy, .ref qmb, .ref qms, .int iOm], zzI cy qmr 8 fX_27] hP hD rfl
    clear hP hD
    obtain ⟨hP, hD⟩ := hPD
    subst h_25
    exact endW (u := [zzO qm 5 [.ref qmh, .ref qmo, .ref qmz, .ref qmR, .ref qmv, .ref qmk, .ref qma, .ref qmt, .int (nI kZ), .ref qmr, .int (nI (T_nb tA)), .ref qmB, .int (nI (T_np tA)), .ref qmO, .ref qmK, .int iEn, .int iTk, .int (T_sd tA), ov uP, ov uU, .int (nI kAt), .int iTo, .int iFr, .long JFi, .int iFa, .ref qm3, .int iSt, .int iLv, .int iWs, vLa, .ref qmu, .ref qmy, .ref qmb, .ref qms, .int iOm], zzG cy 3 qmB rB, zzI cy (rB 0) 4 (bkR tA 0), zzI cy (rB 1) 4 (bkR tA 1), zzI cy (rB 2) 4 (bkR tA 2), zzI cy (rB 3) 4 (bkR tA 3), zzI cy (rB 4) 4 (bkR tA 4), zzI cy (rB 5) 4 (bkR tA 5), zzI cy (rB 6) 4 (bkR tA 6), zzI cy (rB 7) 4 (bkR tA 7), zzG cy 3 qmO rO, zzI cy (rO 0) 5 (onR tA 0), zzI cy (rO 1) 5 (onR tA 1), zzI cy (rO 2) 5 (onR tA 2), zzI cy (rO 3) 5 (onR tA 3), zzI cy (rO 4) 5 (onR tA 4), zzI cy (rO 5) 5 (onR tA 5), zzI cy (rO 6) 5 (onR tA 6), zzI cy (rO 7) 5 (onR tA 7), zzG cy 3 qmK rK, zzI cy (rK 0) 8 (T_kn tA 0), zzI cy (rK 1) 8 (T_kn tA 1), zzI cy (rK 2) 8 (T_kn tA 2), zzI cy (rK 3) 8 (T_kn tA 3), zzI cy (rK 4) 8 (T_kn tA 4), zzI cy (rK 5) 8 (T_kn tA 5), zzI cy (rK 6) 8 (T_kn tA 6), zzI cy (rK 7) 8 (T_kn tA 7), zzI cy qmr 8 fX_27]) hx hb hr hlocks rfl (hP.sub [27, 0, 1, 2, 3, 4, 5, 6, 7, 8, 9, 10, 11, 12, 13, 14, 15, 16, 17, 18, 19, 20, 21, 22, 23, 24, 25, 26, 28] rfl) (hD.sub [27, 0, 1, 2, 3, 4, 5, 6, 7, 8, 9, 10, 11, 12, 13, 14, 15, 16, 17, 18, 19, 20, 21, 22, 23, 24, 25, 26, 28] (by decide +kernel) rfl) hS ⟨fX_27, rfl, trivial⟩ dX6_bookOf_27
set_option maxHeartbeats 4000000 in
set_option maxRecDepth 100000 in
theorem p_X6_oneOf (l : Launch) (G : va_G) (cy : Nat → ClassId) (sz : Nat) (qm : Nat) (qmh : Nat) (qmo : Nat) (qmz : Nat) (qmR : Nat) (qmv : Nat) (qmk : Nat) (qma : Nat) (qmt : Nat) (kZ : Nat) (qmr : Nat) (tA : TA) (qmB : Nat) (qmO : Nat) (qmK : Nat) (iEn : Int32) (iTk : Int32) (uP : UM) (uU : UM) (kAt : Nat) (iTo : Int32) (iFr : Int32) (JFi : Int64) (iFa : Int32) (qm3 : Nat) (iSt : Int32) (iLv : Int32) (iWs : Int32) (vLa : Value) (qmu : Nat) (qmy : Nat) (qmb : Nat) (qms : Nat) (iOm : Int32) (rB : Nat → Nat) (rO : Nat → Nat) (rK : Nat → Nat) (fMr : Nat → Int32) (iA : Int32) (iB : Int32)  (hB : T_nb tA ≤ 8) (hPp : T_np tA ≤ 8) (hTI : TI tA) : MW l yX6_oneOf cX6_oneOf 3 (some .int) 16 0 0 G cy [zzO qm 5 [.ref qmh, .ref qmo, .ref qmz, .ref qmR, .ref qmv, .ref qmk, .ref qma, .ref qmt, .int (nI kZ), .ref qmr, .int (nI (T_nb tA)), .ref qmB, .int (nI (T_np tA)), .ref qmO, .ref qmK, .int iEn, .int iTk, .int (T_sd tA), ov uP, ov uU, .int (nI kAt), .int iTo, .int iFr, .long JFi, .int iFa, .ref qm3, .int iSt, .int iLv, .int iWs, vLa, .ref qmu, .ref qmy, .ref qmb, .ref qms, .int iOm], zzG cy 3 qmB rB, zzI cy (rB 0) 4 (bkR tA 0), zzI cy (rB 1) 4 (bkR tA 1), zzI cy (rB 2) 4 (bkR tA 2), zzI cy (rB 3) 4 (bkR tA 3), zzI cy (rB 4) 4 (bkR tA 4), zzI cy (rB 5) 4 (bkR tA 5), zzI cy (rB 6) 4 (bkR tA 6), zzI cy (rB 7) 4 (bkR tA 7), zzG cy 3 qmO rO, zzI cy (rO 0) 5 (onR tA 0), zzI cy (rO 1) 5 (onR tA 1), zzI cy (rO 2) 5 (onR tA 2), zzI cy (rO 3) 5 (onR tA 3), zzI cy (rO 4) 5 (onR tA 4), zzI cy (rO 5) 5 (onR tA 5), zzI cy (rO 6) 5 (onR tA 6), zzI cy (rO 7) 5 (onR tA 7), zzG cy 3 qmK rK, zzI cy (rK 0) 8 (T_kn tA 0), zzI cy (rK 1) 8 (T_kn tA 1), zzI cy (rK 2) 8 (T_kn tA 2), zzI cy (rK 3) 8 (T_kn tA 3), zzI cy (rK 4) 8 (T_kn tA 4), zzI cy (rK 5) 8 (T_kn tA 5), zzI cy (rK 6) 8 (T_kn tA 6), zzI cy (rK 7) 8 (T_kn tA 7), zzI cy qmr 8 fMr] sz [.ref qm, .int iA, .int iB] (Wi G (fun r u => ∃ (fNr : Nat → Int32), u = [zzO qm 5 [.ref qmh, .ref qmo, .ref qmz, .ref qmR, .ref qmv, .ref qmk, .ref qma, .ref qmt, .int (nI kZ), .ref qmr, .int (nI (T_nb tA)), .ref qmB, .int (nI (T_np tA)), .ref qmO, .ref qmK, .int iEn, .int iTk, .int (T_sd tA), ov uP, ov uU, .int (nI kAt), .int iTo, .int iFr, .long JFi, .int iFa, .ref qm3, .int iSt, .int iLv, .int iWs, vLa, .ref qmu, .ref qmy, .ref qmb, .ref qms, .int iOm], zzG cy 3 qmB rB, zzI cy (rB 0) 4 (bkR tA 0), zzI cy (rB 1) 4 (bkR tA 1), zzI cy (rB 2) 4 (bkR tA 2), zzI cy (rB 3) 4 (bkR tA 3), zzI cy (rB 4) 4 (bkR tA 4), zzI cy (rB 5) 4 (bkR tA 5), zzI cy (rB 6) 4 (bkR tA 6), zzI cy (rB 7) 4 (bkR tA 7), zzG cy 3 qmO rO, zzI cy (rO 0) 5 (onR tA 0), zzI cy (rO 1) 5 (onR tA 1), zzI cy (rO 2) 5 (onR tA 2), zzI cy (rO 3) 5 (onR tA 3), zzI cy (rO 4) 5 (onR tA 4), zzI cy (rO 5) 5 (onR tA 5), zzI cy (rO 6) 5 (onR tA 6), zzI cy (rO 7) 5 (onR tA 7), zzG cy 3 qmK rK, zzI cy (rK 0) 8 (T_kn tA 0), zzI cy (rK 1) 8 (T_kn tA 1), zzI cy (rK 2) 8 (T_kn tA 2), zzI cy (rK 3) 8 (T_kn tA 3), zzI cy (rK 4) 8 (T_kn tA 4), zzI cy (rK 5) 8 (T_kn tA 5), zzI cy (rK 6) 8 (T_kn tA 6), zzI cy (rK 7) 8 (T_kn tA 7), zzI cy qmr 8 fNr] ∧ (True))) := by
  refine enW RX6 (by decide) rfl (Nat.le_of_ble_eq_true rfl) (fun p e s m below meth c ls A hx hb hml hown hts hr hlocks hP hN hl hin hD hA hS => ?_)
  have hin : meth.name = _ := hin
  have hK := hN.1
  replace hl : lv_has ls 3 [(0, .ref qm), (1, .int iA), (2, .int iB)] := hl
  refine lv_aload_n hx hb dX6_oneOf_0 rfl (lv_at hl 0 rfl) ?_
  refine lv_iload_n hx hb dX6_oneOf_1 rfl (lv_at hl 1 rfl) ?_
  refine lv_i2l (v := iA.toInt64) hx hb dX6_oneOf_2 rfl ?_
  refine kRi (rV (As := [.long iA.toInt64]) (rest := []) (b := qm) ⟨hx, hb, hml, hown, hts⟩ (c_X6_isOne l G cy qm (.ref qmh) (.ref qmo) (.ref qmz) (.ref qmR) (.ref qmv) (.ref qmk) (.ref qma) (.ref qmt) (.int (nI kZ)) (.ref qmr) tA qmB qmO qmK iEn iTk (ov uP) (ov uU) (.int (nI kAt)) (.int iTo) (.int iFr) (.long JFi) (.int iFa) (.ref qm3) (.int iSt) iLv iWs vLa (.ref qmu) (.ref qmy) (.ref qmb) (.ref qms) (.int iOm) iA hPp) L_X6_236 (preRV (q := (RX6, TX6, 35)) hN hP [0] rfl 0 5 rfl rfl) rfl ⟨Nat.le_of_ble_eq_true rfl, Nat.le_of_ble_eq_true rfl⟩ hl.1 (Nat.le_of_ble_eq_true rfl) dX6_oneOf_3 ⟨Nat.le_of_ble_eq_true rfl, Nat.le_of_ble_eq_true rfl⟩) (fun r_1 h_2 => ?_)
  rcases h_2 with ⟨rfl, h_3⟩ | ⟨rfl, h_3⟩
  · obtain ⟨k_4, hk_5, rfl⟩ := h_3
    refine lv_if_eq (tgt := 32) hx hb dX6_oneOf_6 (by decide) (fun h9 => absurd h9 (by decide)) (fun _ => ?_)
    refine lv_iload_n hx hb dX6_oneOf_9 rfl (lv_at hl 2 rfl) ?_
    refine lv_i2l (v := iB.toInt64) hx hb dX6_oneOf_10 rfl ?_
    refine lv_lconst (v := 0) hx hb dX6_oneOf_11 (by decide) ?_
    refine lv_ldc2 hx hb hown (hts _ m_t964) dX6_oneOf_12 ?_
    refine kRi (rS (As := [.long iB.toInt64, .long 0, .long 4]) (rest := []) ⟨hx, hb, hml, hown, hts⟩ (c_X6_in l G cy iB.toInt64 0 4) L_X6_74 (preRS hN hP [] rfl) rfl ⟨Nat.le_of_ble_eq_true rfl, Nat.le_of_ble_eq_true rfl⟩ hl.1 (Nat.le_of_ble_eq_true rfl) dX6_oneOf_15 ⟨Nat.le_of_ble_eq_true rfl, Nat.le_of_ble_eq_true rfl⟩) (fun r_7 h_8 => ?_)
    rcases h_8 with ⟨rfl, h_9⟩ | ⟨rfl, h_9⟩
    · refine lv_if_eq (tgt := 32) hx hb dX6_oneOf_18 (by decide) (fun h9 => absurd h9 (by decide)) (fun _ => ?_)
      rcases in04 h_9 with rfl | rfl | rfl | rfl | rfl
      · refine lv_aload_n hx hb dX6_oneOf_21 rfl (lv_at hl 0 rfl) ?_
        refine va_get (D := G) (ci := 5) (v := .ref qmO) (C := RX6) (T := TX6) (N := 35) hx hb hts iX_X6 hown hK hP 0 rfl rfl 13 (by decide) (hts _ m_t863) (fun _ h9 => h9) rfl dX6_oneOf_22 ?_
        refine lv_iload_n hx hb dX6_oneOf_25 rfl (lv_at hl 1 rfl) ?_
        refine va_alda hx hb hK hP 10 3 rfl rfl (in8 (by omega)) dX6_oneOf_26 ?_
        refine lv_setv (v := .ref (rO k_4)) (g_ref (by omega)) ?_
        refine lv_iload_n hx hb dX6_oneOf_27 rfl (lv_at hl 2 rfl) ?_
        refine va_iald hx hb hK hP (11 + k_4) 0 (sg8 (n0 := 11) (f := (fun j => zzI cy (rO j) 5 (onR tA j))) rfl rfl rfl rfl rfl rfl rfl rfl k_4 (by omega)) rfl (in_c rfl) dX6_oneOf_28 ?_
        refine lv_seti (v := T_ag tA k_4) (on_0 _ _) ?_
        refine lv_goto (tgt := 38) hx hb dX6_oneOf_29 (by decide) ?_
        exact endW (u := [zzO qm 5 [.ref qmh, .ref qmo, .ref qmz, .ref qmR, .ref qmv, .ref qmk, .ref qma, .ref qmt, .int (nI kZ), .ref qmr, .int (nI (T_nb tA)), .ref qmB, .int (nI (T_np tA)), .ref qmO, .ref qmK, .int iEn, .int iTk, .int (T_sd tA), ov uP, ov uU, .int (nI kAt), .int iTo, .int iFr, .long JFi, .int iFa, .ref qm3, .int iSt, .int iLv, .int iWs, vLa, .ref qmu, .ref qmy, .ref qmb, .ref qms, .int iOm], zzG cy 3 qmB rB, zzI cy (rB 0) 4 (bkR tA 0), zzI cy (rB 1) 4 (bkR tA 1), zzI cy (rB 2) 4 (bkR tA 2), zzI cy (rB 3) 4 (bkR tA 3), zzI cy (rB 4) 4 (bkR tA 4), zzI cy (rB 5) 4 (bkR tA 5), zzI cy (rB 6) 4 (bkR tA 6), zzI cy (rB 7) 4 (bkR tA 7), zzG cy 3 qmO rO, zzI cy (rO 0) 5 (onR tA 0), zzI cy (rO 1) 5 (onR tA 1), zzI cy (rO 2) 5 (onR tA 2), zzI cy (rO 3) 5 (onR tA 3), zzI cy (rO 4) 5 (onR tA 4), zzI cy (rO 5) 5 (onR tA 5), zzI cy (rO 6) 5 (onR tA 6), zzI cy (rO 7) 5 (onR tA 7), zzG cy 3 qmK rK, zzI cy (rK 0) 8 (T_kn tA 0), zzI cy (rK 1) 8 (T_kn tA 1), zzI cy (rK 2) 8 (T_kn tA 2), zzI cy (rK 3) 8 (T_kn tA 3), zzI cy (rK 4) 8 (T_kn tA 4), zzI cy (rK 5) 8 (T_kn tA 5), zzI cy (rK 6) 8 (T_kn tA 6), zzI cy (rK 7) 8 (T_kn tA 7), zzI cy qmr 8 fMr]) hx hb hr hlocks rfl (hP.sub [0, 1, 2, 3, 4, 5, 6, 7, 8, 9, 10, 11, 12, 13, 14, 15, 16, 17, 18, 19, 20, 21, 22, 23, 24, 25, 26, 27, 28] rfl) (hD.sub [0, 1, 2, 3, 4, 5, 6, 7, 8, 9, 10, 11, 12, 13, 14, 15, 16, 17, 18, 19, 20, 21, 22, 23, 24, 25, 26, 27, 28] (by decide +kernel) rfl) hS ⟨fMr, rfl, trivial⟩ dX6_oneOf_38
      · refine lv_aload_n hx hb dX6_oneOf_21 rfl (lv_at hl 0 rfl) ?_
        refine va_get (D := G) (ci := 5) (v := .ref qmO) (C := RX6) (T := TX6) (N := 35) hx hb hts iX_X6 hown hK hP 0 rfl rfl 13 (by decide) (hts _ m_t863) (fun _ h9 => h9) rfl dX6_oneOf_22 ?_
        refine lv_iload_n hx hb dX6_oneOf_25 rfl (lv_at hl 1 rfl) ?_
        refine va_alda hx hb hK hP 10 3 rfl rfl (in8 (by omega)) dX6_oneOf_26 ?_
        refine lv_setv (v := .ref (rO k_4)) (g_ref (by omega)) ?_
        refine lv_iload_n hx hb dX6_oneOf_27 rfl (lv_at hl 2 rfl) ?_
        refine va_iald hx hb hK hP (11 + k_4) 0 (sg8 (n0 := 11) (f := (fun j => zzI cy (rO j) 5 (onR tA j))) rfl rfl rfl rfl rfl rfl rfl rfl k_4 (by omega)) rfl (in_c rfl) dX6_oneOf_28 ?_
        refine lv_seti (v := T_re tA k_4) (on_1' _ _) ?_
        refine lv_goto (tgt := 38) hx hb dX6_oneOf_29 (by decide) ?_
        exact endW (u := [zzO qm 5 [.ref qmh, .ref qmo, .ref qmz, .ref qmR, .ref qmv, .ref qmk, .ref qma, .ref qmt, .int (nI kZ), .ref qmr, .int (nI (T_nb tA)), .ref qmB, .int (nI (T_np tA)), .ref qmO, .ref qmK, .int iEn, .int iTk, .int (T_sd tA), ov uP, ov uU, .int (nI kAt), .int iTo, .int iFr, .long JFi, .int iFa, .ref qm3, .int iSt, .int iLv, .int iWs, vLa, .ref qmu, .ref qmy, .ref qmb, .ref qms, .int iOm], zzG cy 3 qmB rB, zzI cy (rB 0) 4 (bkR tA 0), zzI cy (rB 1) 4 (bkR tA 1), zzI cy (rB 2) 4 (bkR tA 2), zzI cy (rB 3) 4 (bkR tA 3), zzI cy (rB 4) 4 (bkR tA 4), zzI cy (rB 5) 4 (bkR tA 5), zzI cy (rB 6) 4 (bkR tA 6), zzI cy (rB 7) 4 (bkR tA 7), zzG cy 3 qmO rO, zzI cy (rO 0) 5 (onR tA 0), zzI cy (rO 1) 5 (onR tA 1), zzI cy (rO 2) 5 (onR tA 2), zzI cy (rO 3) 5 (onR tA 3), zzI cy (rO 4) 5 (onR tA 4), zzI cy (rO 5) 5 (onR tA 5), zzI cy (rO 6) 5 (onR tA 6), zzI cy (rO 7) 5 (onR tA 7), zzG cy 3 qmK rK, zzI cy (rK 0) 8 (T_kn tA 0), zzI cy (rK 1) 8 (T_kn tA 1), zzI cy (rK 2) 8 (T_kn tA 2), zzI cy (rK 3) 8 (T_kn tA 3), zzI cy (rK 4) 8 (T_kn tA 4), zzI cy (rK 5) 8 (T_kn tA 5), zzI cy (rK 6) 8 (T_kn tA 6), zzI cy (rK 7) 8 (T_kn tA 7), zzI cy qmr 8 fMr]) hx hb hr hlocks rfl (hP.sub [0, 1, 2, 3, 4, 5, 6, 7, 8, 9, 10, 11, 12, 13, 14, 15, 16, 17, 18, 19, 20, 21, 22, 23, 24, 25, 26, 27, 28] rfl) (hD.sub [0, 1, 2, 3, 4, 5, 6, 7, 8, 9, 10, 11, 12, 13, 14, 15, 16, 17, 18, 19, 20, 21, 22, 23, 24, 25, 26, 27, 28] (by decide +kernel) rfl) hS ⟨fMr, rfl, trivial⟩ dX6_oneOf_38
      · refine lv_aload_n hx hb dX6_oneOf_21 rfl (lv_at hl 0 rfl) ?_
        refine va_get (D := G) (ci := 5) (v := .ref qmO) (C := RX6) (T := TX6) (N := 35) hx hb hts iX_X6 hown hK hP 0 rfl rfl 13 (by decide) (hts _ m_t863) (fun _ h9 => h9) rfl dX6_oneOf_22 ?_
        refine lv_iload_n hx hb dX6_oneOf_25 rfl (lv_at hl 1 rfl) ?_
        refine va_alda hx hb hK hP 10 3 rfl rfl (in8 (by omega)) dX6_oneOf_26 ?_
        refine lv_setv (v := .ref (rO k_4)) (g_ref (by omega)) ?_
        refine lv_iload_n hx hb dX6_oneOf_27 rfl (lv_at hl 2 rfl) ?_
        refine va_iald hx hb hK hP (11 + k_4) 0 (sg8 (n0 := 11) (f := (fun j => zzI cy (rO j) 5 (onR tA j))) rfl rfl rfl rfl rfl rfl rfl rfl k_4 (by omega)) rfl (in_c rfl) dX6_oneOf_28 ?_
        refine lv_seti (v := T_me tA k_4) (on_2' _ _) ?_
        refine lv_goto (tgt := 38) hx hb dX6_oneOf_29 (by decide) ?_
        exact endW (u := [zzO qm 5 [.ref qmh, .ref qmo, .ref qmz, .ref qmR, .ref qmv, .ref qmk, .ref qma, .ref qmt, .int (nI kZ), .ref qmr, .int (nI (T_nb tA)), .ref qmB, .int (nI (T_np tA)), .ref qmO, .ref qmK, .int iEn, .int iTk, .int (T_sd tA), ov uP, ov uU, .int (nI kAt), .int iTo, .int iFr, .long JFi, .int iFa, .ref qm3, .int iSt, .int iLv, .int iWs, vLa, .ref qmu, .ref qmy, .ref qmb, .ref qms, .int iOm], zzG cy 3 qmB rB, zzI cy (rB 0) 4 (bkR tA 0), zzI cy (rB 1) 4 (bkR tA 1), zzI cy (rB 2) 4 (bkR tA 2), zzI cy (rB 3) 4 (bkR tA 3), zzI cy (rB 4) 4 (bkR tA 4), zzI cy (rB 5) 4 (bkR tA 5), zzI cy (rB 6) 4 (bkR tA 6), zzI cy (rB 7) 4 (bkR tA 7), zzG cy 3 qmO rO, zzI cy (rO 0) 5 (onR tA 0), zzI cy (rO 1) 5 (onR tA 1), zzI cy (rO 2) 5 (onR tA 2), zzI cy (rO 3) 5 (onR tA 3), zzI cy (rO 4) 5 (onR tA 4), zzI cy (rO 5) 5 (onR tA 5), zzI cy (rO 6) 5 (onR tA 6), zzI cy (rO 7) 5 (onR tA 7), zzG cy 3 qmK rK, zzI cy (rK 0) 8 (T_kn tA 0), zzI cy (rK 1) 8 (T_kn tA 1), zzI cy (rK 2) 8 (T_kn tA 2), zzI cy (rK 3) 8 (T_kn tA 3), zzI cy (rK 4) 8 (T_kn tA 4), zzI cy (rK 5) 8 (T_kn tA 5), zzI cy (rK 6) 8 (T_kn tA 6), zzI cy (rK 7) 8 (T_kn tA 7), zzI cy qmr 8 fMr]) hx hb hr hlocks rfl (hP.sub [0, 1, 2, 3, 4, 5, 6, 7, 8, 9, 10, 11, 12, 13, 14, 15, 16, 17, 18, 19, 20, 21, 22, 23, 24, 25, 26, 27, 28] rfl) (hD.sub [0, 1, 2, 3, 4, 5, 6, 7, 8, 9, 10, 11, 12, 13, 14, 15, 16, 17, 18, 19, 20, 21, 22, 23, 24, 25, 26, 27, 28] (by decide +kernel) rfl) hS ⟨fMr, rfl, trivial⟩ dX6_oneOf_38
      · refine lv_aload_n hx hb dX6_oneOf_21 rfl (lv_at hl 0 rfl) ?_
        refine va_get (D := G) (ci := 5) (v := .ref qmO) (C := RX6) (T := TX6) (N := 35) hx hb hts iX_X6 hown hK hP 0 rfl rfl 13 (by decide) (hts _ m_t863) (fun _ h9 => h9) rfl dX6_oneOf_22 ?_
        refine lv_iload_n hx hb dX6_oneOf_25 rfl (lv_at hl 1 rfl) ?_
        refine va_alda hx hb hK hP 10 3 rfl rfl (in8 (by omega)) dX6_oneOf_26 ?_
        refine lv_setv (v := .ref (rO k_4)) (g_ref (by omega)) ?_
        refine lv_iload_n hx hb dX6_oneOf_27 rfl (lv_at hl 2 rfl) ?_
        refine va_iald hx hb hK hP (11 + k_4) 0 (sg8 (n0 := 11) (f := (fun j => zzI cy (rO j) 5 (onR tA j))) rfl rfl rfl rfl rfl rfl rfl rfl k_4 (by omega)) rfl (in_c rfl) dX6_oneOf_28 ?_
        refine lv_seti (v := T_te tA k_4) (on_3 _ _) ?_
        refine lv_goto (tgt := 38) hx hb dX6_oneOf_29 (by decide) ?_
        exact endW (u := [zzO qm 5 [.ref qmh, .ref qmo, .ref qmz, .ref qmR, .ref qmv, .ref qmk, .ref qma, .ref qmt, .int (nI kZ), .ref qmr, .int (nI (T_nb tA)), .ref qmB, .int (nI (T_np tA)), .ref qmO, .ref qmK, .int iEn, .int iTk, .int (T_sd tA), ov uP, ov uU, .int (nI kAt), .int iTo, .int iFr, .long JFi, .int iFa, .ref qm3, .int iSt, .int iLv, .int iWs, vLa, .ref qmu, .ref qmy, .ref qmb, .ref qms, .int iOm], zzG cy 3 qmB rB, zzI cy (rB 0) 4 (bkR tA 0), zzI cy (rB 1) 4 (bkR tA 1), zzI cy (rB 2) 4 (bkR tA 2), zzI cy (rB 3) 4 (bkR tA 3), zzI cy (rB 4) 4 (bkR tA 4), zzI cy (rB 5) 4 (bkR tA 5), zzI cy (rB 6) 4 (bkR tA 6), zzI cy (rB 7) 4 (bkR tA 7), zzG cy 3 qmO rO, zzI cy (rO 0) 5 (onR tA 0), zzI cy (rO 1) 5 (onR tA 1), zzI cy (rO 2) 5 (onR tA 2), zzI cy (rO 3) 5 (onR tA 3), zzI cy (rO 4) 5 (onR tA 4), zzI cy (rO 5) 5 (onR tA 5), zzI cy (rO 6) 5 (onR tA 6), zzI cy (rO 7) 5 (onR tA 7), zzG cy 3 qmK rK, zzI cy (rK 0) 8 (T_kn tA 0), zzI cy (rK 1) 8 (T_kn tA 1), zzI cy (rK 2) 8 (T_kn tA 2), zzI cy (rK 3) 8 (T_kn tA 3), zzI cy (rK 4) 8 (T_kn tA 4), zzI cy (rK 5) 8 (T_kn tA 5), zzI cy (rK 6) 8 (T_kn tA 6), zzI cy (rK 7) 8 (T_kn tA 7), zzI cy qmr 8 fMr]) hx hb hr hlocks rfl (hP.sub [0, 1, 2, 3, 4, 5, 6, 7, 8, 9, 10, 11, 12, 13, 14, 15, 16, 17, 18, 19, 20, 21, 22, 23, 24, 25, 26, 27, 28] rfl) (hD.sub [0, 1, 2, 3, 4, 5, 6, 7, 8, 9, 10, 11, 12, 13, 14, 15, 16, 17, 18, 19, 20, 21, 22, 23, 24, 25, 26, 27, 28] (by decide +kernel) rfl) hS ⟨fMr, rfl, trivial⟩ dX6_oneOf_38
      · refine lv_aload_n hx hb dX6_oneOf_21 rfl (lv_at hl 0 rfl) ?_
        refine va_get (D := G) (ci := 5) (v := .ref qmO) (C := RX6) (T := TX6) (N := 35) hx hb hts iX_X6 hown hK hP 0 rfl rfl 13 (by decide) (hts _ m_t863) (fun _ h9 => h9) rfl dX6_oneOf_22 ?_
        refine lv_iload_n hx hb dX6_oneOf_25 rfl (lv_at hl 1 rfl) ?_
        refine va_alda hx hb hK hP 10 3 rfl rfl (in8 (by omega)) dX6_oneOf_26 ?_
        refine lv_setv (v := .ref (rO k_4)) (g_ref (by omega)) ?_
        refine lv_iload_n hx hb dX6_oneOf_27 rfl (lv_at hl 2 rfl) ?_
        refine va_iald hx hb hK hP (11 + k_4) 0 (sg8 (n0 := 11) (f := (fun j => zzI cy (rO j) 5 (onR tA j))) rfl rfl rfl rfl rfl rfl rfl rfl k_4 (by omega)) rfl (in_c rfl) dX6_oneOf_28 ?_
        refine lv_seti (v := b01 (T_gn tA k_4)) (on_4 _ _) ?_
        refine lv_goto (tgt := 38) hx hb dX6_oneOf_29 (by decide) ?_
        exact endW (u := [zzO qm 5 [.ref qmh, .ref qmo, .ref qmz, .ref qmR, .ref qmv, .ref qmk, .ref qma, .ref qmt, .int (nI kZ), .ref qmr, .int (nI (T_nb tA)), .ref qmB, .int (nI (T_np tA)), .ref qmO, .ref qmK, .int iEn, .int iTk, .int (T_sd tA), ov uP, ov uU, .int (nI kAt), .int iTo, .int iFr, .long JFi, .int iFa, .ref qm3, .int iSt, .int iLv, .int iWs, vLa, .ref qmu, .ref qmy, .ref qmb, .ref qms, .int iOm], zzG cy 3 qmB rB, zzI cy (rB 0) 4 (bkR tA 0), zzI cy (rB 1) 4 (bkR tA 1), zzI cy (rB 2) 4 (bkR tA 2), zzI cy (rB 3) 4 (bkR tA 3), zzI cy (rB 4) 4 (bkR tA 4), zzI cy (rB 5) 4 (bkR tA 5), zzI cy (rB 6) 4 (bkR tA 6), zzI cy (rB 7) 4 (bkR tA 7), zzG cy 3 qmO rO, zzI cy (rO 0) 5 (onR tA 0), zzI cy (rO 1) 5 (onR tA 1), zzI cy (rO 2) 5 (onR tA 2), zzI cy (rO 3) 5 (onR tA 3), zzI cy (rO 4) 5 (onR tA 4), zzI cy (rO 5) 5 (onR tA 5), zzI cy (rO 6) 5 (onR tA 6), zzI cy (rO 7) 5 (onR tA 7), zzG cy 3 qmK rK, zzI cy (rK 0) 8 (T_kn tA 0), zzI cy (rK 1) 8 (T_kn tA 1), zzI cy (rK 2) 8 (T_kn tA 2), zzI cy (rK 3) 8 (T_kn tA 3), zzI cy (rK 4) 8 (T_kn tA 4), zzI cy (rK 5) 8 (T_kn tA 5), zzI cy (rK 6) 8 (T_kn tA 6), zzI cy (rK 7) 8 (T_kn tA 7), zzI cy qmr 8 fMr]) hx hb hr hlocks rfl (hP.sub [0, 1, 2, 3, 4, 5, 6, 7, 8, 9, 10, 11, 12, 13, 14, 15, 16, 17, 18, 19, 20, 21, 22, 23, 24, 25, 26, 27, 28] rfl) (hD.sub [0, 1, 2, 3, 4, 5, 6, 7, 8, 9, 10, 11, 12, 13, 14, 15, 16, 17, 18, 19, 20, 21, 22, 23, 24, 25, 26, 27, 28] (by decide +kernel) rfl) hS ⟨fMr, rfl, trivial⟩ dX6_oneOf_38
    · refine lv_if_eq (tgt := 32) hx hb dX6_oneOf_18 (by decide) (fun _ => ?_) (fun h9 => absurd (by decide) h9)
      refine lv_aload_n hx hb dX6_oneOf_32 rfl (lv_at hl 0 rfl) ?_
      refine lv_bipush (v := (-2)) hx hb dX6_oneOf_33 (by decide) ?_
      refine cVi (As := [.int (-2)]) (rest := []) (b := qm) (q := (RX6, TX6, 35)) ⟨hx, hb, hml, hown, hts⟩ (c_X6_refuse2 l G cy (s.heap).size qm (.ref qmh) (.ref qmo) (.ref qmz) (.ref qmR) (.ref qmv) (.ref qmk) (.ref qma) (.ref qmt) (.int (nI kZ)) qmr tA qmB qmO qmK iEn iTk (ov uP) (ov uU) (.int (nI kAt)) (.int iTo) (.int iFr) (.long JFi) (.int iFa) (.ref qm3) (.int iSt) iLv iWs vLa (.ref qmu) (.ref qmy) (.ref qmb) (.ref qms) (.int iOm) fMr) L_X6_91 hN hP hD hS hA [0, 28] [false, true, true, true, true, true, true, true, true, true, true, true, true, true, true, true, true, true, true, true, true, true, true, true, true, true, true, true, false] rfl (by decide +kernel) rfl 0 5 rfl rfl rfl ⟨Nat.le_of_ble_eq_true rfl, Nat.le_of_ble_eq_true rfl⟩ hl.1 (Nat.le_of_ble_eq_true rfl) dX6_oneOf_35 ⟨Nat.le_of_ble_eq_true rfl, Nat.le_of_ble_eq_true rfl⟩ (fun r_12 u_14 H locs h_13 => ?_)
      clear hP hD hS
      intro hP hD hS
      obtain ⟨fX_15, rfl, h_13⟩ := h_13
      have hPD := pd_as [zzG cy 3 qmB rB, zzI cy (rB 0) 4 (bkR tA 0), zzI cy (rB 1) 4 (bkR tA 1), zzI cy (rB 2) 4 (bkR tA 2), zzI cy (rB 3) 4 (bkR tA 3), zzI cy (rB 4) 4 (bkR tA 4), zzI cy (rB 5) 4 (bkR tA 5), zzI cy (rB 6) 4 (bkR tA 6), zzI cy (rB 7) 4 (bkR tA 7), zzG cy 3 qmO rO, zzI cy (rO 0) 5 (onR tA 0), zzI cy (rO 1) 5 (onR tA 1), zzI cy (rO 2) 5 (onR tA 2), zzI cy (rO 3) 5 (onR tA 3), zzI cy (rO 4) 5 (onR tA 4), zzI cy (rO 5) 5 (onR tA 5), zzI cy (rO 6) 5 (onR tA 6), zzI cy (rO 7) 5 (onR tA 7), zzG cy 3 qmK rK, zzI cy (rK 0) 8 (T_kn tA 0), zzI cy (rK 1) 8 (T_kn tA 1), zzI cy (rK 2) 8 (T_kn tA 2), zzI cy (rK 3) 8 (T_kn tA 3), zzI cy (rK 4) 8 (T_kn tA 4), zzI cy (rK 5) 8 (T_kn tA 5), zzI cy (rK 6) 8 (T_kn tA 6), zzI cy (rK 7) 8 (T_kn tA 7), zzO qm 5 [.ref qmh, .ref qmo, .ref qmz, .ref qmR, .ref qmv, .ref qmk, .ref qma, .ref qmt, .int (nI kZ), .ref qmr, .int (nI (T_nb tA)), .ref qmB, .int (nI (T_np tA)), .ref qmO, .ref qmK, .int iEn, .int iTk, .int (T_sd tA), ov uP, ov uU, .int (nI kAt), .int iTo, .int iFr, .long JFi, .int iFa, .ref qm3, .int iSt, .int iLv, .int iWs, vLa, .ref qmu, .ref qmy, .ref qmb, .ref qms, .int iOm], zzI cy qmr 8 fX_15] hP hD rfl
      clear hP hD
      obtain ⟨hP, hD⟩ := hPD
      subst h_13
      exact endW (u := [zzO qm 5 [.ref qmh, .ref qmo, .ref qmz, .ref qmR, .ref qmv, .ref qmk, .ref qma, .ref qmt, .int (nI kZ), .ref qmr, .int (nI (T_nb tA)), .ref qmB, .int (nI (T_np tA)), .ref qmO, .ref qmK, .int iEn, .int iTk, .int (T_sd tA), ov uP, ov uU, .int (nI kAt), .int iTo, .int iFr, .long JFi, .int iFa, .ref qm3, .int iSt, .int iLv, .int iWs, vLa, .ref qmu, .ref qmy, .ref qmb, .ref qms, .int iOm], zzG cy 3 qmB rB, zzI cy (rB 0) 4 (bkR tA 0), zzI cy (rB 1) 4 (bkR tA 1), zzI cy (rB 2) 4 (bkR tA 2), zzI cy (rB 3) 4 (bkR tA 3), zzI cy (rB 4) 4 (bkR tA 4), zzI cy (rB 5) 4 (bkR tA 5), zzI cy (rB 6) 4 (bkR tA 6), zzI cy (rB 7) 4 (bkR tA 7), zzG cy 3 qmO rO, zzI cy (rO 0) 5 (onR tA 0), zzI cy (rO 1) 5 (onR tA 1), zzI cy (rO 2) 5 (onR tA 2), zzI cy (rO 3) 5 (onR tA 3), zzI cy (rO 4) 5 (onR tA 4), zzI cy (rO 5) 5 (onR tA 5), zzI cy (rO 6) 5 (onR tA 6), zzI cy (rO 7) 5 (onR tA 7), zzG cy 3 qmK rK, zzI cy (rK 0) 8 (T_kn tA 0), zzI cy (rK 1) 8 (T_kn tA 1), zzI cy (rK 2) 8 (T_kn tA 2), zzI cy (rK 3) 8 (T_kn tA 3), zzI cy (rK 4) 8 (T_kn tA 4), zzI cy (rK 5) 8 (T_kn tA 5), zzI cy (rK 6) 8 (T_kn tA 6), zzI cy (rK 7) 8 (T_kn tA 7), zzI cy qmr 8 fX_15]) hx hb hr hlocks rfl (hP.sub [27, 0, 1, 2, 3, 4, 5, 6, 7, 8, 9, 10, 11, 12, 13, 14, 15, 16, 17, 18, 19, 20, 21, 22, 23, 24, 25, 26, 28] rfl) (hD.sub [27, 0, 1, 2, 3, 4, 5, 6, 7, 8, 9, 10, 11, 12, 13, 14, 15, 16, 17, 18, 19, 20, 21, 22, 23, 24, 25, 26, 28] (by decide +kernel) rfl) hS ⟨fX_15, rfl, trivial⟩ dX6_oneOf_38
  · refine lv_if_eq (tgt := 32) hx hb dX6_oneOf_6 (by decide) (fun _ => ?_) (fun h9 => absurd (by decide) h9)
    refine lv_aload_n hx hb dX6_oneOf_32 rfl (lv_at hl 0 rfl) ?_
    refine lv_bipush (v := (-2)) hx hb dX6_oneOf_33 (by decide) ?_
    refine cVi (As := [.int (-2)]) (rest := []) (b := qm) (q := (RX6, TX6, 35)) ⟨hx, hb, hml, hown, hts⟩ (c_X6_refuse2 l G cy (s.heap).size qm (.ref qmh) (.ref qmo) (.ref qmz) (.ref qmR) (.ref qmv) (.ref qmk) (.ref qma) (.ref qmt) (.int (nI kZ)) qmr tA qmB qmO qmK iEn iTk (ov uP) (ov uU) (.int (nI kAt)) (.int iTo) (.int iFr) (.long JFi) (.int iFa) (.ref qm3) (.int iSt) iLv iWs vLa (.ref qmu) (.ref qmy) (.ref qmb) (.ref qms) (.int iOm) fMr) L_X6_91 hN hP hD hS hA [0, 28] [false, true, true, true, true, true, true, true, true, true, true, true, true, true, true, true, true, true, true, true, true, true, true, true, true, true, true, true, false] rfl (by decide +kernel) rfl 0 5 rfl rfl rfl ⟨Nat.le_of_ble_eq_true rfl, Nat.le_of_ble_eq_true rfl⟩ hl.1 (Nat.le_of_ble_eq_true rfl) dX6_oneOf_35 ⟨Nat.le_of_ble_eq_true rfl, Nat.le_of_ble_eq_true rfl⟩ (fun r_17 u_19 H locs h_18 => ?_)
    clear hP hD hS
    intro hP hD hS
    obtain ⟨fX_20, rfl, h_18⟩ := h_18
    have hPD := pd_as [zzG cy 3 qmB rB, zzI cy (rB 0) 4 (bkR tA 0), zzI cy (rB 1) 4 (bkR tA 1), zzI cy (rB 2) 4 (bkR tA 2), zzI cy (rB 3) 4 (bkR tA 3), zzI cy (rB 4) 4 (bkR tA 4), zzI cy (rB 5) 4 (bkR tA 5), zzI cy (rB 6) 4 (bkR tA 6), zzI cy (rB 7) 4 (bkR tA 7), zzG cy 3 qmO rO, zzI cy (rO 0) 5 (onR tA 0), zzI cy (rO 1) 5 (onR tA 1), zzI cy (rO 2) 5 (onR tA 2), zzI cy (rO 3) 5 (onR tA 3), zzI cy (rO 4) 5 (onR tA 4), zzI cy (rO 5) 5 (onR tA 5), zzI cy (rO 6) 5 (onR tA 6), zzI cy (rO 7) 5 (onR tA 7), zzG cy 3 qmK rK, zzI cy (rK 0) 8 (T_kn tA 0), zzI cy (rK 1) 8 (T_kn tA 1), zzI cy (rK 2) 8 (T_kn tA 2), zzI cy (rK 3) 8 (T_kn tA 3), zzI cy (rK 4) 8 (T_kn tA 4), zzI cy (rK 5) 8 (T_kn tA 5), zzI cy (rK 6) 8 (T_kn tA 6), zzI cy (rK 7) 8 (T_kn tA 7), zzO qm 5 [.ref qmh, .ref qmo, .ref qmz, .ref qmR, .ref qmv, .ref qmk, .ref qma, .ref qmt, .int (nI kZ), .ref qmr, .int (nI (T_nb tA)), .ref qmB, .int (nI (T_np tA)), .ref qmO, .ref qmK, .int iEn, .int iTk, .int (T_sd tA), ov uP, ov uU, .int (nI kAt), .int iTo, .int iFr, .long JFi, .int iFa, .ref qm3, .int iSt, .int iLv, .int iWs, vLa, .ref qmu, .ref qmy, .ref qmb, .ref qms, .int iOm], zzI cy qmr 8 fX_20] hP hD rfl
    clear hP hD
    obtain ⟨hP, hD⟩ := hPD
    subst h_18
    exact endW (u := [zzO qm 5 [.ref qmh, .ref qmo, .ref qmz, .ref qmR, .ref qmv, .ref qmk, .ref qma, .ref qmt, .int (nI kZ), .ref qmr, .int (nI (T_nb tA)), .ref qmB, .int (nI (T_np tA)), .ref qmO, .ref qmK, .int iEn, .int iTk, .int (T_sd tA), ov uP, ov uU, .int (nI kAt), .int iTo, .int iFr, .long JFi, .int iFa, .ref qm3, .int iSt, .int iLv, .int iWs, vLa, .ref qmu, .ref qmy, .ref qmb, .ref qms, .int iOm], zzG cy 3 qmB rB, zzI cy (rB 0) 4 (bkR tA 0), zzI cy (rB 1) 4 (bkR tA 1), zzI cy (rB 2) 4 (bkR tA 2), zzI cy (rB 3) 4 (bkR tA 3), zzI cy (rB 4) 4 (bkR tA 4), zzI cy (rB 5) 4 (bkR tA 5), zzI cy (rB 6) 4 (bkR tA 6), zzI cy (rB 7) 4 (bkR tA 7), zzG cy 3 qmO rO, zzI cy (rO 0) 5 (onR tA 0), zzI cy (rO 1) 5 (onR tA 1), zzI cy (rO 2) 5 (onR tA 2), zzI cy (rO 3) 5 (onR tA 3), zzI cy (rO 4) 5 (onR tA 4), zzI cy (rO 5) 5 (onR tA 5), zzI cy (rO 6) 5 (onR tA 6), zzI cy (rO 7) 5 (onR tA 7), zzG cy 3 qmK rK, zzI cy (rK 0) 8 (T_kn tA 0), zzI cy (rK 1) 8 (T_kn tA 1), zzI cy (rK 2) 8 (T_kn tA 2), zzI cy (rK 3) 8 (T_kn tA 3), zzI cy (rK 4) 8 (T_kn tA 4), zzI cy (rK 5) 8 (T_kn tA 5), zzI cy (rK 6) 8 (T_kn tA 6), zzI cy (rK 7) 8 (T_kn tA 7), zzI cy qmr 8 fX_20]) hx hb hr hlocks rfl (hP.sub [27, 0, 1, 2, 3, 4, 5, 6, 7, 8, 9, 10, 11, 12, 13, 14, 15, 16, 17, 18, 19, 20, 21, 22, 23, 24, 25, 26, 28] rfl) (hD.sub [27, 0, 1, 2, 3, 4, 5, 6, 7, 8, 9, 10, 11, 12, 13, 14, 15, 16, 17, 18, 19, 20, 21, 22, 23, 24, 25, 26, 28] (by decide +kernel) rfl) hS ⟨fX_20, rfl, trivial⟩ dX6_oneOf_38
set_option maxHeartbeats 4000000 in
set_option maxRecDepth 100000 in
theorem p_X6_known (l : Launch) (G : va_G) (cy : Nat → ClassId) (sz : Nat) (qm : Nat) (qmh : Nat) (qmo : Nat) (qmz : Nat) (qmR : Nat) (qmv : Nat) (qmk : Nat) (qma : Nat) (qmt : Nat) (kZ : Nat) (qmr : Nat) (tA : TA) (qmB : Nat) (qmO : Nat) (qmK : Nat) (iEn : Int32) (iTk : Int32) (uP : UM) (uU : UM) (kAt : Nat) (iTo : Int32) (iFr : Int32) (JFi : Int64) (iFa : Int32) (qm3 : Nat) (iSt : Int32) (iLv : Int32) (iWs : Int32) (vLa : Value) (qmu : Nat) (qmy : Nat) (qmb : Nat) (qms : Nat) (iOm : Int32) (rB : Nat → Nat) (rO : Nat → Nat) (rK : Nat → Nat) (fMr : Nat → Int32) (iA : Int32) (iB : Int32)  (hB : T_nb tA ≤ 8) (hPp : T_np tA ≤ 8) (hTI : TI tA) : MW l yX6_known cX6_known 3 (some .int) 16 0 0 G cy [zzO qm 5 [.ref qmh, .ref qmo, .ref qmz, .ref qmR, .ref qmv, .ref qmk, .ref qma, .ref qmt, .int (nI kZ), .ref qmr, .int (nI (T_nb tA)), .ref qmB, .int (nI (T_np tA)), .ref qmO, .ref qmK, .int iEn, .int iTk, .int (T_sd tA), ov uP, ov uU, .int (nI kAt), .int iTo, .int iFr, .long JFi, .int iFa, .ref qm3, .int iSt, .int iLv, .int iWs, vLa, .ref qmu, .ref qmy, .ref qmb, .ref qms, .int iOm], zzG cy 3 qmB rB, zzI cy (rB 0) 4 (bkR tA 0), zzI cy (rB 1) 4 (bkR tA 1), zzI cy (rB 2) 4 (bkR tA 2), zzI cy (rB 3) 4 (bkR tA 3), zzI cy (rB 4) 4 (bkR tA 4), zzI cy (rB 5) 4 (bkR tA 5), zzI cy (rB 6) 4 (bkR tA 6), zzI cy (rB 7) 4 (bkR tA 7), zzG cy 3 qmO rO, zzI cy (rO 0) 5 (onR tA 0), zzI cy (rO 1) 5 (onR tA 1), zzI cy (rO 2) 5 (onR tA 2), zzI cy (rO 3) 5 (onR tA 3), zzI cy (rO 4) 5 (onR tA 4), zzI cy (rO 5) 5 (onR tA 5), zzI cy (rO 6) 5 (onR tA 6), zzI cy (rO 7) 5 (onR tA 7), zzG cy 3 qmK rK, zzI cy (rK 0) 8 (T_kn tA 0), zzI cy (rK 1) 8 (T_kn tA 1), zzI cy (rK 2) 8 (T_kn tA 2), zzI cy (rK 3) 8 (T_kn tA 3), zzI cy (rK 4) 8 (T_kn tA 4), zzI cy (rK 5) 8 (T_kn tA 5), zzI cy (rK 6) 8 (T_kn tA 6), zzI cy (rK 7) 8 (T_kn tA 7), zzI cy qmr 8 fMr] sz [.ref qm, .int iA, .int iB] (Wi G (fun r u => ∃ (fNr : Nat → Int32), u = [zzO qm 5 [.ref qmh, .ref qmo, .ref qmz, .ref qmR, .ref qmv, .ref qmk, .ref qma, .ref qmt, .int (nI kZ), .ref qmr, .int (nI (T_nb tA)), .ref qmB, .int (nI (T_np tA)), .ref qmO, .ref qmK, .int iEn, .int iTk, .int (T_sd tA), ov uP, ov uU, .int (nI kAt), .int iTo, .int iFr, .long JFi, .int iFa, .ref qm3, .int iSt, .int iLv, .int iWs, vLa, .ref qmu, .ref qmy, .ref qmb, .ref qms, .int iOm], zzG cy 3 qmB rB, zzI cy (rB 0) 4 (bkR tA 0), zzI cy (rB 1) 4 (bkR tA 1), zzI cy (rB 2) 4 (bkR tA 2), zzI cy (rB 3) 4 (bkR tA 3), zzI cy (rB 4) 4 (bkR tA 4), zzI cy (rB 5) 4 (bkR tA 5), zzI cy (rB 6) 4 (bkR tA 6), zzI cy (rB 7) 4 (bkR tA 7), zzG cy 3 qmO rO, zzI cy (rO 0) 5 (onR tA 0), zzI cy (rO 1) 5 (onR tA 1), zzI cy (rO 2) 5 (onR tA 2), zzI cy (rO 3) 5 (onR tA 3), zzI cy (rO 4) 5 (onR tA 4), zzI cy (rO 5) 5 (onR tA 5), zzI cy (rO 6) 5 (onR tA 6), zzI cy (rO 7) 5 (onR tA 7), zzG cy 3 qmK rK, zzI cy (rK 0) 8 (T_kn tA 0), zzI cy (rK 1) 8 (T_kn tA 1), zzI cy (rK 2) 8 (T_kn tA 2), zzI cy (rK 3) 8 (T_kn tA 3), zzI cy (rK 4) 8 (T_kn tA 4), zzI cy (rK 5) 8 (T_kn tA 5), zzI cy (rK 6) 8 (T_kn tA 6), zzI cy (rK 7) 8 (T_kn tA 7), zzI cy qmr 8 fNr] ∧ (True))) := by
  refine enW RX6 (by decide) rfl (Nat.le_of_ble_eq_true rfl) (fun p e s m below meth c ls A hx hb hml hown hts hr hlocks hP hN hl hin hD hA hS => ?_)
  have hin : meth.name = _ := hin
  have hK := hN.1
  replace hl : lv_has ls 3 [(0, .ref qm), (1, .int iA), (2, .int iB)] := hl
  refine lv_aload_n hx hb dX6_known_0 rfl (lv_at hl 0 rfl) ?_
  refine lv_iload_n hx hb dX6_known_1 rfl (lv_at hl 1 rfl) ?_
  refine lv_i2l (v := iA.toInt64) hx hb dX6_known_2 rfl ?_
  refine kRi (rV (As := [.long iA.toInt64]) (rest := []) (b := qm) ⟨hx, hb, hml, hown, hts⟩ (c_X6_isOne l G cy qm (.ref qmh) (.ref qmo) (.ref qmz) (.ref qmR) (.ref qmv) (.ref qmk) (.ref qma) (.ref qmt) (.int (nI kZ)) (.ref qmr) tA qmB qmO qmK iEn iTk (ov uP) (ov uU) (.int (nI kAt)) (.int iTo) (.int iFr) (.long JFi) (.int iFa) (.ref qm3) (.int iSt) iLv iWs vLa (.ref qmu) (.ref qmy) (.ref qmb) (.ref qms) (.int iOm) iA hPp) L_X6_236 (preRV (q := (RX6, TX6, 35)) hN hP [0] rfl 0 5 rfl rfl) rfl ⟨Nat.le_of_ble_eq_true rfl, Nat.le_of_ble_eq_true rfl⟩ hl.1 (Nat.le_of_ble_eq_true rfl) dX6_known_3 ⟨Nat.le_of_ble_eq_true rfl, Nat.le_of_ble_eq_true rfl⟩) (fun r_1 h_2 => ?_)
  rcases h_2 with ⟨rfl, h_3⟩ | ⟨rfl, h_3⟩
  · obtain ⟨k_4, hk_5, rfl⟩ := h_3
    refine lv_if_eq (tgt := 29) hx hb dX6_known_6 (by decide) (fun h9 => absurd h9 (by decide)) (fun _ => ?_)
    refine lv_aload_n hx hb dX6_known_9 rfl (lv_at hl 0 rfl) ?_
    refine lv_iload_n hx hb dX6_known_10 rfl (lv_at hl 2 rfl) ?_
    refine lv_i2l (v := iB.toInt64) hx hb dX6_known_11 rfl ?_
    refine kRi (rV (As := [.long iB.toInt64]) (rest := []) (b := qm) ⟨hx, hb, hml, hown, hts⟩ (c_X6_isBook l G cy qm (.ref qmh) (.ref qmo) (.ref qmz) (.ref qmR) (.ref qmv) (.ref qmk) (.ref qma) (.ref qmt) (.int (nI kZ)) (.ref qmr) tA qmB qmO qmK iEn iTk (ov uP) (ov uU) (.int (nI kAt)) (.int iTo) (.int iFr) (.long JFi) (.int iFa) (.ref qm3) (.int iSt) iLv iWs vLa (.ref qmu) (.ref qmy) (.ref qmb) (.ref qms) (.int iOm) iB hB) L_X6_229 (preRV (q := (RX6, TX6, 35)) hN hP [0] rfl 0 5 rfl rfl) rfl ⟨Nat.le_of_ble_eq_true rfl, Nat.le_of_ble_eq_true rfl⟩ hl.1 (Nat.le_of_ble_eq_true rfl) dX6_known_12 ⟨Nat.le_of_ble_eq_true rfl, Nat.le_of_ble_eq_true rfl⟩) (fun r_7 h_8 => ?_)
    rcases h_8 with ⟨rfl, h_9⟩ | ⟨rfl, h_9⟩
    · obtain ⟨k_10, hk_11, rfl⟩ := h_9
      refine lv_if_eq (tgt := 29) hx hb dX6_known_15 (by decide) (fun h9 => absurd h9 (by decide)) (fun _ => ?_)
      refine lv_aload_n hx hb dX6_known_18 rfl (lv_at hl 0 rfl) ?_
      refine va_get (D := G) (ci := 5) (v := .ref qmK) (C := RX6) (T := TX6) (N := 35) hx hb hts iX_X6 hown hK hP 0 rfl rfl 14 (by decide) (hts _ m_t864) (fun _ h9 => h9) rfl dX6_known_19 ?_
      refine lv_iload_n hx hb dX6_known_22 rfl (lv_at hl 1 rfl) ?_
      refine va_alda hx hb hK hP 19 3 rfl rfl (in8 (by omega)) dX6_known_23 ?_
      refine lv_setv (v := .ref (rK k_4)) (g_ref (by omega)) ?_
      refine lv_iload_n hx hb dX6_known_24 rfl (lv_at hl 2 rfl) ?_
      refine va_iald hx hb hK hP (20 + k_4) 0 (sg8 (n0 := 20) (f := (fun j => zzI cy (rK j) 8 (T_kn tA j))) rfl rfl rfl rfl rfl rfl rfl rfl k_4 (by omega)) rfl (vp_in_nI (by omega) (by omega)) dX6_known_25 ?_
      refine lv_seti (v := T_kn tA k_4 k_10) (congrArg (T_kn tA k_4) (nI_clamp (by omega))) ?_
      refine lv_goto (tgt := 35) hx hb dX6_known_26 (by decide) ?_
      exact endW (u := [zzO qm 5 [.ref qmh, .ref qmo, .ref qmz, .ref qmR, .ref qmv, .ref qmk, .ref qma, .ref qmt, .int (nI kZ), .ref qmr, .int (nI (T_nb tA)), .ref qmB, .int (nI (T_np tA)), .ref qmO, .ref qmK, .int iEn, .int iTk, .int (T_sd tA), ov uP, ov uU, .int (nI kAt), .int iTo, .int iFr, .long JFi, .int iFa, .ref qm3, .int iSt, .int iLv, .int iWs, vLa, .ref qmu, .ref qmy, .ref qmb, .ref qms, .int iOm], zzG cy 3 qmB rB, zzI cy (rB 0) 4 (bkR tA 0), zzI cy (rB 1) 4 (bkR tA 1), zzI cy (rB 2) 4 (bkR tA 2), zzI cy (rB 3) 4 (bkR tA 3), zzI cy (rB 4) 4 (bkR tA 4), zzI cy (rB 5) 4 (bkR tA 5), zzI cy (rB 6) 4 (bkR tA 6), zzI cy (rB 7) 4 (bkR tA 7), zzG cy 3 qmO rO, zzI cy (rO 0) 5 (onR tA 0), zzI cy (rO 1) 5 (onR tA 1), zzI cy (rO 2) 5 (onR tA 2), zzI cy (rO 3) 5 (onR tA 3), zzI cy (rO 4) 5 (onR tA 4), zzI cy (rO 5) 5 (onR tA 5), zzI cy (rO 6) 5 (onR tA 6), zzI cy (rO 7) 5 (onR tA 7), zzG cy 3 qmK rK, zzI cy (rK 0) 8 (T_kn tA 0), zzI cy (rK 1) 8 (T_kn tA 1), zzI cy (rK 2) 8 (T_kn tA 2), zzI cy (rK 3) 8 (T_kn tA 3), zzI cy (rK 4) 8 (T_kn tA 4), zzI cy (rK 5) 8 (T_kn tA 5), zzI cy (rK 6) 8 (T_kn tA 6), zzI cy (rK 7) 8 (T_kn tA 7), zzI cy qmr 8 fMr]) hx hb hr hlocks rfl (hP.sub [0, 1, 2, 3, 4, 5, 6, 7, 8, 9, 10, 11, 12, 13, 14, 15, 16, 17, 18, 19, 20, 21, 22, 23, 24, 25, 26, 27, 28] rfl) (hD.sub [0, 1, 2, 3, 4, 5, 6, 7, 8, 9, 10, 11, 12, 13, 14, 15, 16, 17, 18, 19, 20, 21, 22, 23, 24, 25, 26, 27, 28] (by decide +kernel) rfl) hS ⟨fMr, rfl, trivial⟩ dX6_known_35
    · refine lv_if_eq (tgt := 29) hx hb dX6_known_15 (by decide) (fun _ => ?_) (fun h9 => absurd (by decide) h9)
      refine lv_aload_n hx hb dX6_known_29 rfl (lv_at hl 0 rfl) ?_
      refine lv_bipush (v := (-2)) hx hb dX6_known_30 (by decide) ?_
      refine cVi (As := [.int (-2)]) (rest := []) (b := qm) (q := (RX6, TX6, 35)) ⟨hx, hb, hml, hown, hts⟩ (c_X6_refuse2 l G cy (s.heap).size qm (.ref qmh) (.ref qmo) (.ref qmz) (.ref qmR) (.ref qmv) (.ref qmk) (.ref qma) (.ref qmt) (.int (nI kZ)) qmr tA qmB qmO qmK iEn iTk (ov uP) (ov uU) (.int (nI kAt)) (.int iTo) (.int iFr) (.long JFi) (.int iFa) (.ref qm3) (.int iSt) iLv iWs vLa (.ref qmu) (.ref qmy) (.ref qmb) (.ref qms) (.int iOm) fMr) L_X6_91 hN hP hD hS hA [0, 28] [false, true, true, true, true, true, true, true, true, true, true, true, true, true, true, true, true, true, true, true, true, true, true, true, true, true, true, true, false] rfl (by decide +kernel) rfl 0 5 rfl rfl rfl ⟨Nat.le_of_ble_eq_true rfl, Nat.le_of_ble_eq_true rfl⟩ hl.1 (Nat.le_of_ble_eq_true rfl) dX6_known_32 ⟨Nat.le_of_ble_eq_true rfl, Nat.le_of_ble_eq_true rfl⟩ (fun r_14 u_16 H locs h_15 => ?_)
      clear hP hD hS
      intro hP hD hS
      obtain ⟨fX_17, rfl, h_15⟩ := h_15
      have hPD := pd_as [zzG cy 3 qmB rB, zzI cy (rB 0) 4 (bkR tA 0), zzI cy (rB 1) 4 (bkR tA 1), zzI cy (rB 2) 4 (bkR tA 2), zzI cy (rB 3) 4 (bkR tA 3), zzI cy (rB 4) 4 (bkR tA 4), zzI cy (rB 5) 4 (bkR tA 5), zzI cy (rB 6) 4 (bkR tA 6), zzI cy (rB 7) 4 (bkR tA 7), zzG cy 3 qmO rO, zzI cy (rO 0) 5 (onR tA 0), zzI cy (rO 1) 5 (onR tA 1), zzI cy (rO 2) 5 (onR tA 2), zzI cy (rO 3) 5 (onR tA 3), zzI cy (rO 4) 5 (onR tA 4), zzI cy (rO 5) 5 (onR tA 5), zzI cy (rO 6) 5 (onR tA 6), zzI cy (rO 7) 5 (onR tA 7), zzG cy 3 qmK rK, zzI cy (rK 0) 8 (T_kn tA 0), zzI cy (rK 1) 8 (T_kn tA 1), zzI cy (rK 2) 8 (T_kn tA 2), zzI cy (rK 3) 8 (T_kn tA 3), zzI cy (rK 4) 8 (T_kn tA 4), zzI cy (rK 5) 8 (T_kn tA 5), zzI cy (rK 6) 8 (T_kn tA 6), zzI cy (rK 7) 8 (T_kn tA 7), zzO qm 5 [.ref qmh, .ref qmo, .ref qmz, .ref qmR, .ref qmv, .ref qmk, .ref qma, .ref qmt, .int (nI kZ), .ref qmr, .int (nI (T_nb tA)), .ref qmB, .int (nI (T_np tA)), .ref qmO, .ref qmK, .int iEn, .int iTk, .int (T_sd tA), ov uP, ov uU, .int (nI kAt), .int iTo, .int iFr, .long JFi, .int iFa, .ref qm3, .int iSt, .int iLv, .int iWs, vLa, .ref qmu, .ref qmy, .ref qmb, .ref qms, .int iOm], zzI cy qmr 8 fX_17] hP hD rfl
      clear hP hD
      obtain ⟨hP, hD⟩ := hPD
      subst h_15
      exact endW (u := [zzO qm 5 [.ref qmh, .ref qmo, .ref qmz, .ref qmR, .ref qmv, .ref qmk, .ref qma, .ref qmt, .int (nI kZ), .ref qmr, .int (nI (T_nb tA)), .ref qmB, .int (nI (T_np tA)), .ref qmO, .ref qmK, .int iEn, .int iTk, .int (T_sd tA), ov uP, ov uU, .int (nI kAt), .int iTo, .int iFr, .long JFi, .int iFa, .ref qm3, .int iSt, .int iLv, .int iWs, vLa, .ref qmu, .ref qmy, .ref qmb, .ref qms, .int iOm], zzG cy 3 qmB rB, zzI cy (rB 0) 4 (bkR tA 0), zzI cy (rB 1) 4 (bkR tA 1), zzI cy (rB 2) 4 (bkR tA 2), zzI cy (rB 3) 4 (bkR tA 3), zzI cy (rB 4) 4 (bkR tA 4), zzI cy (rB 5) 4 (bkR tA 5), zzI cy (rB 6) 4 (bkR tA 6), zzI cy (rB 7) 4 (bkR tA 7), zzG cy 3 qmO rO, zzI cy (rO 0) 5 (onR tA 0), zzI cy (rO 1) 5 (onR tA 1), zzI cy (rO 2) 5 (onR tA 2), zzI cy (rO 3) 5 (onR tA 3), zzI cy (rO 4) 5 (onR tA 4), zzI cy (rO 5) 5 (onR tA 5), zzI cy (rO 6) 5 (onR tA 6), zzI cy (rO 7) 5 (onR tA 7), zzG cy 3 qmK rK, zzI cy (rK 0) 8 (T_kn tA 0), zzI cy (rK 1) 8 (T_kn tA 1), zzI cy (rK 2) 8 (T_kn tA 2), zzI cy (rK 3) 8 (T_kn tA 3), zzI cy (rK 4) 8 (T_kn tA 4), zzI cy (rK 5) 8 (T_kn tA 5), zzI cy (rK 6) 8 (T_kn tA 6), zzI cy (rK 7) 8 (T_kn tA 7), zzI cy qmr 8 fX_17]) hx hb hr hlocks rfl (hP.sub [27, 0, 1, 2, 3, 4, 5, 6, 7, 8, 9, 10, 11, 12, 13, 14, 15, 16, 17, 18, 19, 20, 21, 22, 23, 24, 25, 26, 28] rfl) (hD.sub [27, 0, 1, 2, 3, 4, 5, 6, 7, 8, 9, 10, 11, 12, 13, 14, 15, 16, 17, 18, 19, 20, 21, 22, 23, 24, 25, 26, 28] (by decide +kernel) rfl) hS ⟨fX_17, rfl, trivial⟩ dX6_known_35
  · refine lv_if_eq (tgt := 29) hx hb dX6_known_6 (by decide) (fun _ => ?_) (fun h9 => absurd (by decide) h9)
    refine lv_aload_n hx hb dX6_known_29 rfl (lv_at hl 0 rfl) ?_
    refine lv_bipush (v := (-2)) hx hb dX6_known_30 (by decide) ?_
    refine cVi (As := [.int (-2)]) (rest := []) (b := qm) (q := (RX6, TX6, 35)) ⟨hx, hb, hml, hown, hts⟩ (c_X6_refuse2 l G cy (s.heap).size qm (.ref qmh) (.ref qmo) (.ref qmz) (.ref qmR) (.ref qmv) (.ref qmk) (.ref qma) (.ref qmt) (.int (nI kZ)) qmr tA qmB qmO qmK iEn iTk (ov uP) (ov uU) (.int (nI kAt)) (.int iTo) (.int iFr) (.long JFi) (.int iFa) (.ref qm3) (.int iSt) iLv iWs vLa (.ref qmu) (.ref qmy) (.ref qmb) (.ref qms) (.int iOm) fMr) L_X6_91 hN hP hD hS hA [0, 28] [false, true, true, true, true, true, true, true, true, true, true, true, true, true, true, true, true, true, true, true, true, true, true, true, true, true, true, true, false] rfl (by decide +kernel) rfl 0 5 rfl rfl rfl ⟨Nat.le_of_ble_eq_true rfl, Nat.le_of_ble_eq_true rfl⟩ hl.1 (Nat.le_of_ble_eq_true rfl) dX6_known_32 ⟨Nat.le_of_ble_eq_true rfl, Nat.le_of_ble_eq_true rfl⟩ (fun r_19 u_21 H locs h_20 => ?_)
    clear hP hD hS
    intro hP hD hS
    obtain ⟨fX_22, rfl, h_20⟩ := h_20
    have hPD := pd_as [zzG cy 3 qmB rB, zzI cy (rB 0) 4 (bkR tA 0), zzI cy (rB 1) 4 (bkR tA 1), zzI cy (rB 2) 4 (bkR tA 2), zzI cy (rB 3) 4 (bkR tA 3), zzI cy (rB 4) 4 (bkR tA 4), zzI cy (rB 5) 4 (bkR tA 5), zzI cy (rB 6) 4 (bkR tA 6), zzI cy (rB 7) 4 (bkR tA 7), zzG cy 3 qmO rO, zzI cy (rO 0) 5 (onR tA 0), zzI cy (rO 1) 5 (onR tA 1), zzI cy (rO 2) 5 (onR tA 2), zzI cy (rO 3) 5 (onR tA 3), zzI cy (rO 4) 5 (onR tA 4), zzI cy (rO 5) 5 (onR tA 5), zzI cy (rO 6) 5 (onR tA 6), zzI cy (rO 7) 5 (onR tA 7), zzG cy 3 qmK rK, zzI cy (rK 0) 8 (T_kn tA 0), zzI cy (rK 1) 8 (T_kn tA 1), zzI cy (rK 2) 8 (T_kn tA 2), zzI cy (rK 3) 8 (T_kn tA 3), zzI cy (rK 4) 8 (T_kn tA 4), zzI cy (rK 5) 8 (T_kn tA 5), zzI cy (rK 6) 8 (T_kn tA 6), zzI cy (rK 7) 8 (T_kn tA 7), zzO qm 5 [.ref qmh, .ref qmo, .ref qmz, .ref qmR, .ref qmv, .ref qmk, .ref qma, .ref qmt, .int (nI kZ), .ref qmr, .int (nI (T_nb tA)), .ref qmB, .int (nI (T_np tA)), .ref qmO, .ref qmK, .int iEn, .int iTk, .int (T_sd tA), ov uP, ov uU, .int (nI kAt), .int iTo, .int iFr, .long JFi, .int iFa, .ref qm3, .int iSt, .int iLv, .int iWs, vLa, .ref qmu, .ref qmy, .ref qmb, .ref qms, .int iOm], zzI cy qmr 8 fX_22] hP hD rfl
    clear hP hD
    obtain ⟨hP, hD⟩ := hPD
    subst h_20
    exact endW (u := [zzO qm 5 [.ref qmh, .ref qmo, .ref qmz, .ref qmR, .ref qmv, .ref qmk, .ref qma, .ref qmt, .int (nI kZ), .ref qmr, .int (nI (T_nb tA)), .ref qmB, .int (nI (T_np tA)), .ref qmO, .ref qmK, .int iEn, .int iTk, .int (T_sd tA), ov uP, ov uU, .int (nI kAt), .int iTo, .int iFr, .long JFi, .int iFa, .ref qm3, .int iSt, .int iLv, .int iWs, vLa, .ref qmu, .ref qmy, .ref qmb, .ref qms, .int iOm], zzG cy 3 qmB rB, zzI cy (rB 0) 4 (bkR tA 0), zzI cy (rB 1) 4 (bkR tA 1), zzI cy (rB 2) 4 (bkR tA 2), zzI cy (rB 3) 4 (bkR tA 3), zzI cy (rB 4) 4 (bkR tA 4), zzI cy (rB 5) 4 (bkR tA 5), zzI cy (rB 6) 4 (bkR tA 6), zzI cy (rB 7) 4 (bkR tA 7), zzG cy 3 qmO rO, zzI cy (rO 0) 5 (onR tA 0), zzI cy (rO 1) 5 (onR tA 1), zzI cy (rO 2) 5 (onR tA 2), zzI cy (rO 3) 5 (onR tA 3), zzI cy (rO 4) 5 (onR tA 4), zzI cy (rO 5) 5 (onR tA 5), zzI cy (rO 6) 5 (onR tA 6), zzI cy (rO 7) 5 (onR tA 7), zzG cy 3 qmK rK, zzI cy (rK 0) 8 (T_kn tA 0), zzI cy (rK 1) 8 (T_kn tA 1), zzI cy (rK 2) 8 (T_kn tA 2), zzI cy (rK 3) 8 (T_kn tA 3), zzI cy (rK 4) 8 (T_kn tA 4), zzI cy (rK 5) 8 (T_kn tA 5), zzI cy (rK 6) 8 (T_kn tA 6), zzI cy (rK 7) 8 (T_kn tA 7), zzI cy qmr 8 fX_22]) hx hb hr hlocks rfl (hP.sub [27, 0, 1, 2, 3, 4, 5, 6, 7, 8, 9, 10, 11, 12, 13, 14, 15, 16, 17, 18, 19, 20, 21, 22, 23, 24, 25, 26, 28] rfl) (hD.sub [27, 0, 1, 2, 3, 4, 5, 6, 7, 8, 9, 10, 11, 12, 13, 14, 15, 16, 17, 18, 19, 20, 21, 22, 23, 24, 25, 26, 28] (by decide +kernel) rfl) hS ⟨fX_22, rfl, trivial⟩ dX6_known_35
set_option maxHeartbeats 4000000 in
set_option maxRecDepth 100000 in
theorem p_X6_needs (l : Launch) (G : va_G) (cy : Nat → ClassId) (sz : Nat) (qm : Nat) (qmh : Nat) (qmo : Nat) (qmz : Nat) (qmR : Nat) (qmv : Nat) (qmk : Nat) (qma : Nat) (qmt : Nat) (kZ : Nat) (qmr : Nat) (tA : TA) (qmB : Nat) (qmO : Nat) (qmK : Nat) (iEn : Int32) (iTk : Int32) (uP : UM) (uU : UM) (kAt : Nat) (iTo : Int32) (iFr : Int32) (JFi : Int64) (iFa : Int32) (qm3 : Nat) (iSt : Int32) (iLv : Int32) (iWs : Int32) (vLa : Value) (qmu : Nat) (qmy : Nat) (qmb : Nat) (qms : Nat) (iOm : Int32) (rB : Nat → Nat) (rO : Nat → Nat) (rK : Nat → Nat) (fMr : Nat → Int32) (iA : Int32) (iB : Int32)  (hB : T_nb tA ≤ 8) (hPp : T_np tA ≤ 8) (hTI : TI tA) : MW l yX6_needs cX6_needs 5 (some .int) 16 0 0 G cy [zzO qm 5 [.ref qmh, .ref qmo, .ref qmz, .ref qmR, .ref qmv, .ref qmk, .ref qma, .ref qmt, .int (nI kZ), .ref qmr, .int (nI (T_nb tA)), .ref qmB, .int (nI (T_np tA)), .ref qmO, .ref qmK, .int iEn, .int iTk, .int (T_sd tA), ov uP, ov uU, .int (nI kAt), .int iTo, .int iFr, .long JFi, .int iFa, .ref qm3, .int iSt, .int iLv, .int iWs, vLa, .ref qmu, .ref qmy, .ref qmb, .ref qms, .int iOm], zzG cy 3 qmB rB, zzI cy (rB 0) 4 (bkR tA 0), zzI cy (rB 1) 4 (bkR tA 1), zzI cy (rB 2) 4 (bkR tA 2), zzI cy (rB 3) 4 (bkR tA 3), zzI cy (rB 4) 4 (bkR tA 4), zzI cy (rB 5) 4 (bkR tA 5), zzI cy (rB 6) 4 (bkR tA 6), zzI cy (rB 7) 4 (bkR tA 7), zzG cy 3 qmO rO, zzI cy (rO 0) 5 (onR tA 0), zzI cy (rO 1) 5 (onR tA 1), zzI cy (rO 2) 5 (onR tA 2), zzI cy (rO 3) 5 (onR tA 3), zzI cy (rO 4) 5 (onR tA 4), zzI cy (rO 5) 5 (onR tA 5), zzI cy (rO 6) 5 (onR tA 6), zzI cy (rO 7) 5 (onR tA 7), zzG cy 3 qmK rK, zzI cy (rK 0) 8 (T_kn tA 0), zzI cy (rK 1) 8 (T_kn tA 1), zzI cy (rK 2) 8 (T_kn tA 2), zzI cy (rK 3) 8 (T_kn tA 3), zzI cy (rK 4) 8 (T_kn tA 4), zzI cy (rK 5) 8 (T_kn tA 5), zzI cy (rK 6) 8 (T_kn tA 6), zzI cy (rK 7) 8 (T_kn tA 7), zzI cy qmr 8 fMr] sz [.ref qm, .int iA, .int iB] (Wi G (fun r u => ∃ (fNr : Nat → Int32), u = [zzO qm 5 [.ref qmh, .ref qmo, .ref qmz, .ref qmR, .ref qmv, .ref qmk, .ref qma, .ref qmt, .int (nI kZ), .ref qmr, .int (nI (T_nb tA)), .ref qmB, .int (nI (T_np tA)), .ref qmO, .ref qmK, .int iEn, .int iTk, .int (T_sd tA), ov uP, ov uU, .int (nI kAt), .int iTo, .int iFr, .long JFi, .int iFa, .ref qm3, .int iSt, .int iLv, .int iWs, vLa, .ref qmu, .ref qmy, .ref qmb, .ref qms, .int iOm], zzG cy 3 qmB rB, zzI cy (rB 0) 4 (bkR tA 0), zzI cy (rB 1) 4 (bkR tA 1), zzI cy (rB 2) 4 (bkR tA 2), zzI cy (rB 3) 4 (bkR tA 3), zzI cy (rB 4) 4 (bkR tA 4), zzI cy (rB 5) 4 (bkR tA 5), zzI cy (rB 6) 4 (bkR tA 6), zzI cy (rB 7) 4 (bkR tA 7), zzG cy 3 qmO rO, zzI cy (rO 0) 5 (onR tA 0), zzI cy (rO 1) 5 (onR tA 1), zzI cy (rO 2) 5 (onR tA 2), zzI cy (rO 3) 5 (onR tA 3), zzI cy (rO 4) 5 (onR tA 4), zzI cy (rO 5) 5 (onR tA 5), zzI cy (rO 6) 5 (onR tA 6), zzI cy (rO 7) 5 (onR tA 7), zzG cy 3 qmK rK, zzI cy (rK 0) 8 (T_kn tA 0), zzI cy (rK 1) 8 (T_kn tA 1), zzI cy (rK 2) 8 (T_kn tA 2), zzI cy (rK 3) 8 (T_kn tA 3), zzI cy (rK 4) 8 (T_kn tA 4), zzI cy (rK 5) 8 (T_kn tA 5), zzI cy (rK 6) 8 (T_kn tA 6), zzI cy (rK 7) 8 (T_kn tA 7), zzI cy qmr 8 fNr] ∧ (True))) := by
  refine enW RX6 (by decide) rfl (Nat.le_of_ble_eq_true rfl) (fun p e s m below meth c ls A hx hb hml hown hts hr hlocks hP hN hl hin hD hA hS => ?_)
  have hin : meth.name = _ := hin
  have hK := hN.1
  replace hl : lv_has ls 5 [(0, .ref qm), (1, .int iA), (2, .int iB)] := hl
  refine lv_aload_n hx hb dX6_needs_0 rfl (lv_at hl 0 rfl) ?_
  refine lv_iload_n hx hb dX6_needs_1 rfl (lv_at hl 1 rfl) ?_
  refine lv_i2l (v := iA.toInt64) hx hb dX6_needs_2 rfl ?_
  refine kRi (rV (As := [.long iA.toInt64]) (rest := []) (b := qm) ⟨hx, hb, hml, hown, hts⟩ (c_X6_isBook l G cy qm (.ref qmh) (.ref qmo) (.ref qmz) (.ref qmR) (.ref qmv) (.ref qmk) (.ref qma) (.ref qmt) (.int (nI kZ)) (.ref qmr) tA qmB qmO qmK iEn iTk (ov uP) (ov uU) (.int (nI kAt)) (.int iTo) (.int iFr) (.long JFi) (.int iFa) (.ref qm3) (.int iSt) iLv iWs vLa (.ref qmu) (.ref qmy) (.ref qmb) (.ref qms) (.int iOm) iA hB) L_X6_229 (preRV (q := (RX6, TX6, 35)) hN hP [0] rfl 0 5 rfl rfl) rfl ⟨Nat.le_of_ble_eq_true rfl, Nat.le_of_ble_eq_true rfl⟩ hl.1 (Nat.le_of_ble_eq_true rfl) dX6_needs_3 ⟨Nat.le_of_ble_eq_true rfl, Nat.le_of_ble_eq_true rfl⟩) (fun r_1 h_2 => ?_)
  rcases h_2 with ⟨rfl, h_3⟩ | ⟨rfl, h_3⟩
  · obtain ⟨k_4, hk_5, rfl⟩ := h_3
    refine lv_if_ne (tgt := 16) hx hb dX6_needs_6 (by decide) (fun _ => ?_) (fun h9 => absurd h9 (by decide))
    refine lv_iconst (v := 0) hx hb dX6_needs_16 (by decide) ?_
    refine lv_istore_n (lv' := [(3, .int 0), (0, .ref qm), (1, .int (nI k_4)), (2, .int iB)]) hx hb dX6_needs_17 rfl hl (by decide) rfl (fun ls => ?_)
    clear hl
    intro hl
    refine lv_iload_n hx hb dX6_needs_18 rfl (lv_at hl 3 rfl) ?_
    refine lv_if_eq (tgt := 73) hx hb dX6_needs_19 (by decide) (fun c_7 => ?_) (fun c_7 => ?_)
    · refine lv_aload_n hx hb dX6_needs_73 rfl (lv_at hl 1 rfl) ?_
      refine va_get (D := G) (ci := 5) (v := .ref qmB) (C := RX6) (T := TX6) (N := 35) hx hb hts iX_X6 hown hK hP 0 rfl rfl 11 (by decide) (hts _ m_t861) (fun _ h9 => h9) rfl dX6_needs_74 ?_
      refine lv_iload_n hx hb dX6_needs_77 rfl (lv_at hl 2 rfl) ?_
      refine va_alda hx hb hK hP 1 3 rfl rfl (in8 (by omega)) dX6_needs_78 ?_
      refine lv_setv (v := .ref (rB k_4)) (g_ref (by omega)) ?_
      refine lv_iconst (v := 1) hx hb dX6_needs_79 (by decide) ?_
      refine va_iald hx hb hK hP (2 + k_4) 0 (sg8 (n0 := 2) (f := (fun j => zzI cy (rB j) 4 (bkR tA j))) rfl rfl rfl rfl rfl rfl rfl rfl k_4 (by omega)) rfl (in_c rfl) dX6_needs_80 ?_
      refine lv_seti (v := T_ne tA k_4) (bk_1 _ _) ?_
      refine lv_istore_n (lv' := [(3, .int (T_ne tA k_4)), (0, .ref qm), (1, .int (nI k_4)), (2, .int iB)]) hx hb dX6_needs_81 rfl hl (by decide) rfl (fun ls => ?_)
      clear hl
      intro hl
      refine lv_iload_n hx hb dX6_needs_82 rfl (lv_at hl 2 rfl) ?_
      refine lv_iconst (v := 1) hx hb dX6_needs_83 (by decide) ?_
      refine lv_isub hx hb dX6_needs_84 ?_
      refine lv_istore (lv' := [(4, .int ((nI k_4) - 1)), (3, .int (T_ne tA k_4)), (0, .ref qm), (1, .int (nI k_4)), (2, .int iB)]) hx hb dX6_needs_85 hl (by decide) rfl (fun ls => ?_)
      clear hl
      intro hl
      have lp_8 : ∀ (n_9 : Nat) (j_11 : Nat) (xS_12 : Int32), j_11 < n_9 → j_11 ≤ k_4 → ∀ (H : Heap) (locs : List Loc) (ls : Array Slot), va_P G CL [zzO qm 5 [.ref qmh, .ref qmo, .ref qmz, .ref qmR, .ref qmv, .ref qmk, .ref qma, .ref qmt, .int (nI kZ), .ref qmr, .int (nI (T_nb tA)), .ref qmB, .int (nI (T_np tA)), .ref qmO, .ref qmK, .int iEn, .int iTk, .int (T_sd tA), ov uP, ov uU, .int (nI kAt), .int iTo, .int iFr, .long JFi, .int iFa, .ref qm3, .int iSt, .int iLv, .int iWs, vLa, .ref qmu, .ref qmy, .ref qmb, .ref qms, .int iOm], zzG cy 3 qmB rB, zzI cy (rB 0) 4 (bkR tA 0), zzI cy (rB 1) 4 (bkR tA 1), zzI cy (rB 2) 4 (bkR tA 2), zzI cy (rB 3) 4 (bkR tA 3), zzI cy (rB 4) 4 (bkR tA 4), zzI cy (rB 5) 4 (bkR tA 5), zzI cy (rB 6) 4 (bkR tA 6), zzI cy (rB 7) 4 (bkR tA 7), zzG cy 3 qmO rO, zzI cy (rO 0) 5 (onR tA 0), zzI cy (rO 1) 5 (onR tA 1), zzI cy (rO 2) 5 (onR tA 2), zzI cy (rO 3) 5 (onR tA 3), zzI cy (rO 4) 5 (onR tA 4), zzI cy (rO 5) 5 (onR tA 5), zzI cy (rO 6) 5 (onR tA 6), zzI cy (rO 7) 5 (onR tA 7), zzG cy 3 qmK rK, zzI cy (rK 0) 8 (T_kn tA 0), zzI cy (rK 1) 8 (T_kn tA 1), zzI cy (rK 2) 8 (T_kn tA 2), zzI cy (rK 3) 8 (T_kn tA 3), zzI cy (rK 4) 8 (T_kn tA 4), zzI cy (rK 5) 8 (T_kn tA 5), zzI cy (rK 6) 8 (T_kn tA 6), zzI cy (rK 7) 8 (T_kn tA 7), zzI cy qmr 8 fMr] H → va_D A [zzO qm 5 [.ref qmh, .ref qmo, .ref qmz, .ref qmR, .ref qmv, .ref qmk, .ref qma, .ref qmt, .int (nI kZ), .ref qmr, .int (nI (T_nb tA)), .ref qmB, .int (nI (T_np tA)), .ref qmO, .ref qmK, .int iEn, .int iTk, .int (T_sd tA), ov uP, ov uU, .int (nI kAt), .int iTo, .int iFr, .long JFi, .int iFa, .ref qm3, .int iSt, .int iLv, .int iWs, vLa, .ref qmu, .ref qmy, .ref qmb, .ref qms, .int iOm], zzG cy 3 qmB rB, zzI cy (rB 0) 4 (bkR tA 0), zzI cy (rB 1) 4 (bkR tA 1), zzI cy (rB 2) 4 (bkR tA 2), zzI cy (rB 3) 4 (bkR tA 3), zzI cy (rB 4) 4 (bkR tA 4), zzI cy (rB 5) 4 (bkR tA 5), zzI cy (rB 6) 4 (bkR tA 6), zzI cy (rB 7) 4 (bkR tA 7), zzG cy 3 qmO rO, zzI cy (rO 0) 5 (onR tA 0), zzI cy (rO 1) 5 (onR tA 1), zzI cy (rO 2) 5 (onR tA 2), zzI cy (rO 3) 5 (onR tA 3), zzI cy (rO 4) 5 (onR tA 4), zzI cy (rO 5) 5 (onR tA 5), zzI cy (rO 6) 5 (onR tA 6), zzI cy (rO 7) 5 (onR tA 7), zzG cy 3 qmK rK, zzI cy (rK 0) 8 (T_kn tA 0), zzI cy (rK 1) 8 (T_kn tA 1), zzI cy (rK 2) 8 (T_kn tA 2), zzI cy (rK 3) 8 (T_kn tA 3), zzI cy (rK 4) 8 (T_kn tA 4), zzI cy (rK 5) 8 (T_kn tA 5), zzI cy (rK 6) 8 (T_kn tA 6), zzI cy (rK 7) 8 (T_kn tA 7), zzI cy qmr 8 fMr] → va_S A s.heap H locs → lv_has ls 5 [(4, .int (nI j_11 - 1)), (3, .int xS_12), (0, .ref qm), (1, .int (nI k_4)), (2, .int iB)] → W p l e (Rm 16 0 0) s m (List.toArray (α := Value) [.ref qm, .int (nI k_4), .int iB]) below meth c H locs 0 0 (MQ below ((Wi G (fun r u => ∃ (fNr : Nat → Int32), u = [zzO qm 5 [.ref qmh, .ref qmo, .ref qmz, .ref qmR, .ref qmv, .ref qmk, .ref qma, .ref qmt, .int (nI kZ), .ref qmr, .int (nI (T_nb tA)), .ref qmB, .int (nI (T_np tA)), .ref qmO, .ref qmK, .int iEn, .int iTk, .int (T_sd tA), ov uP, ov uU, .int (nI kAt), .int iTo, .int iFr, .long JFi, .int iFa, .ref qm3, .int iSt, .int iLv, .int iWs, vLa, .ref qmu, .ref qmy, .ref qmb, .ref qms, .int iOm], zzG cy 3 qmB rB, zzI cy (rB 0) 4 (bkR tA 0), zzI cy (rB 1) 4 (bkR tA 1), zzI cy (rB 2) 4 (bkR tA 2), zzI cy (rB 3) 4 (bkR tA 3), zzI cy (rB 4) 4 (bkR tA 4), zzI cy (rB 5) 4 (bkR tA 5), zzI cy (rB 6) 4 (bkR tA 6), zzI cy (rB 7) 4 (bkR tA 7), zzG cy 3 qmO rO, zzI cy (rO 0) 5 (onR tA 0), zzI cy (rO 1) 5 (onR tA 1), zzI cy (rO 2) 5 (onR tA 2), zzI cy (rO 3) 5 (onR tA 3), zzI cy (rO 4) 5 (onR tA 4), zzI cy (rO 5) 5 (onR tA 5), zzI cy (rO 6) 5 (onR tA 6), zzI cy (rO 7) 5 (onR tA 7), zzG cy 3 qmK rK, zzI cy (rK 0) 8 (T_kn tA 0), zzI cy (rK 1) 8 (T_kn tA 1), zzI cy (rK 2) 8 (T_kn tA 2), zzI cy (rK 3) 8 (T_kn tA 3), zzI cy (rK 4) 8 (T_kn tA 4), zzI cy (rK 5) 8 (T_kn tA 5), zzI cy (rK 6) 8 (T_kn tA 6), zzI cy (rK 7) 8 (T_kn tA 7), zzI cy qmr 8 fNr] ∧ (True))) A) (List.toArray (α := Value) [.ref qm, .int (nI k_4), .int iB]) s 0 0 A) (F0 m 87 ls []) := by
        intro n_9
        induction n_9 with
        | zero => intro j_11 xS_12 hm9; exact absurd hm9 (Nat.not_lt_zero _)
        | succ n_9 ih_10 =>
          intro j_11 xS_12 hm_14 hj_13 H locs ls hP hD hS hl
          refine lv_iload hx hb dX6_needs_87 (lv_at hl 0 rfl) ?_
          refine lv_if_lt (tgt := 123) hx hb dX6_needs_89 (by decide) (fun c_15 => ?_) (fun c_15 => ?_)
          · refine lv_iload_n hx hb dX6_needs_123 rfl (lv_at hl 1 rfl) ?_
            exact endW (u := [zzO qm 5 [.ref qmh, .ref qmo, .ref qmz, .ref qmR, .ref qmv, .ref qmk, .ref qma, .ref qmt, .int (nI kZ), .ref qmr, .int (nI (T_nb tA)), .ref qmB, .int (nI (T_np tA)), .ref qmO, .ref qmK, .int iEn, .int iTk, .int (T_sd tA), ov uP, ov uU, .int (nI kAt), .int iTo, .int iFr, .long JFi, .int iFa, .ref qm3, .int iSt, .int iLv, .int iWs, vLa, .ref qmu, .ref qmy, .ref qmb, .ref qms, .int iOm], zzG cy 3 qmB rB, zzI cy (rB 0) 4 (bkR tA 0), zzI cy (rB 1) 4 (bkR tA 1), zzI cy (rB 2) 4 (bkR tA 2), zzI cy (rB 3) 4 (bkR tA 3), zzI cy (rB 4) 4 (bkR tA 4), zzI cy (rB 5) 4 (bkR tA 5), zzI cy (rB 6) 4 (bkR tA 6), zzI cy (rB 7) 4 (bkR tA 7), zzG cy 3 qmO rO, zzI cy (rO 0) 5 (onR tA 0), zzI cy (rO 1) 5 (onR tA 1), zzI cy (rO 2) 5 (onR tA 2), zzI cy (rO 3) 5 (onR tA 3), zzI cy (rO 4) 5 (onR tA 4), zzI cy (rO 5) 5 (onR tA 5), zzI cy (rO 6) 5 (onR tA 6), zzI cy (rO 7) 5 (onR tA 7), zzG cy 3 qmK rK, zzI cy (rK 0) 8 (T_kn tA 0), zzI cy (rK 1) 8 (T_kn tA 1), zzI cy (rK 2) 8 (T_kn tA 2), zzI cy (rK 3) 8 (T_kn tA 3), zzI cy (rK 4) 8 (T_kn tA 4), zzI cy (rK 5) 8 (T_kn tA 5), zzI cy (rK 6) 8 (T_kn tA 6), zzI cy (rK 7) 8 (T_kn tA 7), zzI cy qmr 8 fMr]) hx hb hr hlocks rfl (hP.sub [0, 1, 2, 3, 4, 5, 6, 7, 8, 9, 10, 11, 12, 13, 14, 15, 16, 17, 18, 19, 20, 21, 22, 23, 24, 25, 26, 27, 28] rfl) (hD.sub [0, 1, 2, 3, 4, 5, 6, 7, 8, 9, 10, 11, 12, 13, 14, 15, 16, 17, 18, 19, 20, 21, 22, 23, 24, 25, 26, 27, 28] (by decide +kernel) rfl) hS ⟨fMr, rfl, trivial⟩ dX6_needs_124
          · obtain ⟨m_16, em_17⟩ := m1_pos c_15
            subst em_17
            rw [nI_pred] at hl
            refine lv_iload_n hx hb dX6_needs_92 rfl (lv_at hl 1 rfl) ?_
            refine lv_iload_n hx hb dX6_needs_93 rfl (lv_at hl 1 rfl) ?_
            refine lv_iload hx hb dX6_needs_94 (lv_at hl 0 rfl) ?_
            refine lv_ishr hx hb dX6_needs_96 ?_
            refine lv_iconst (v := 1) hx hb dX6_needs_97 (by decide) ?_
            refine lv_iand hx hb dX6_needs_98 ?_
            refine lv_if_eq (tgt := 114) hx hb dX6_needs_99 (by decide) (fun c_18 => ?_) (fun c_18 => ?_)
            · refine lv_iconst (v := 0) hx hb dX6_needs_114 (by decide) ?_
              refine lv_ior hx hb dX6_needs_115 ?_
              refine lv_istore_n (lv' := [(3, .int (xS_12 ||| 0)), (4, .int (nI m_16)), (0, .ref qm), (1, .int (nI k_4)), (2, .int iB)]) hx hb dX6_needs_116 rfl hl (by decide) rfl (fun ls => ?_)
              clear hl
              intro hl
              refine lv_iinc (v := nI m_16 - 1) (lv' := [(4, .int (nI m_16 - 1)), (3, .int (xS_12 ||| 0)), (0, .ref qm), (1, .int (nI k_4)), (2, .int iB)]) hx hb dX6_needs_117 hl (k := 1) rfl (ii_m1 _) (by decide) rfl (fun ls => ?_)
              clear hl
              intro hl
              refine lv_goto (tgt := 87) hx hb dX6_needs_120 (by decide) ?_
              exact ih_10 m_16 (xS_12 ||| 0) (by omega) (by omega) _ _ _ hP hD hS (lv_sub hl [0, 1, 2, 3, 4] rfl)
            · refine lv_aload_n hx hb dX6_needs_102 rfl (lv_at hl 2 rfl) ?_
              refine va_get (D := G) (ci := 5) (v := .ref qmB) (C := RX6) (T := TX6) (N := 35) hx hb hts iX_X6 hown hK hP 0 rfl rfl 11 (by decide) (hts _ m_t861) (fun _ h9 => h9) rfl dX6_needs_103 ?_
              refine lv_iload hx hb dX6_needs_106 (lv_at hl 0 rfl) ?_
              refine va_alda hx hb hK hP 1 3 rfl rfl (in8 (by omega)) dX6_needs_108 ?_
              refine lv_setv (v := .ref (rB m_16)) (g_ref (by omega)) ?_
              refine lv_iconst (v := 1) hx hb dX6_needs_109 (by decide) ?_
              refine va_iald hx hb hK hP (2 + m_16) 0 (sg8 (n0 := 2) (f := (fun j => zzI cy (rB j) 4 (bkR tA j))) rfl rfl rfl rfl rfl rfl rfl rfl m_16 (by omega)) rfl (in_c rfl) dX6_needs_110 ?_
              refine lv_seti (v := T_ne tA m_16) (bk_1 _ _) ?_
              refine lv_goto (tgt := 115) hx hb dX6_needs_111 (by decide) ?_
              refine lv_ior hx hb dX6_needs_115 ?_
              refine lv_istore_n (lv' := [(3, .int (xS_12 ||| (T_ne tA m_16))), (4, .int (nI m_16)), (0, .ref qm), (1, .int (nI k_4)), (2, .int iB)]) hx hb dX6_needs_116 rfl hl (by decide) rfl (fun ls => ?_)
              clear hl
              intro hl
              refine lv_iinc (v := nI m_16 - 1) (lv' := [(4, .int (nI m_16 - 1)), (3, .int (xS_12 ||| (T_ne tA m_16))), (0, .ref qm), (1, .int (nI k_4)), (2, .int iB)]) hx hb dX6_needs_117 hl (k := 1) rfl (ii_m1 _) (by decide) rfl (fun ls => ?_)
              clear hl
              intro hl
              refine lv_goto (tgt := 87) hx hb dX6_needs_120 (by decide) ?_
              exact ih_10 m_16 (xS_12 ||| (T_ne tA m_16)) (by omega) (by omega) _ _ _ hP hD hS (lv_sub hl [0, 1, 2, 3, 4] rfl)
      exact lp_8 (k_4 + 1) k_4 (T_ne tA k_4) (Nat.lt_succ_self _) (Nat.le_refl _) _ _ ls hP hD hS (lv_sub hl [0, 1, 2, 3, 4] rfl)
    · refine lv_iload_n hx hb dX6_needs_22 rfl (lv_at hl 2 rfl) ?_
      refine lv_iconst (v := 1) hx hb dX6_needs_23 (by decide) ?_
      refine lv_iadd hx hb dX6_needs_24 ?_
      refine lv_seti (v := nI (k_4 + 1)) (nI_1 _) ?_
      refine lv_istore (lv' := [(4, .int (nI (k_4 + 1))), (3, .int 0), (0, .ref qm), (1, .int (nI k_4)), (2, .int iB)]) hx hb dX6_needs_25 hl (by decide) rfl (fun ls => ?_)
      clear hl
      intro hl
      have lp_19 : ∀ (n_20 : Nat) (j_22 : Nat) (xS_23 : Int32), 8 - j_22 < n_20 → j_22 ≤ T_nb tA → ∀ (H : Heap) (locs : List Loc) (ls : Array Slot), va_P G CL [zzO qm 5 [.ref qmh, .ref qmo, .ref qmz, .ref qmR, .ref qmv, .ref qmk, .ref qma, .ref qmt, .int (nI kZ), .ref qmr, .int (nI (T_nb tA)), .ref qmB, .int (nI (T_np tA)), .ref qmO, .ref qmK, .int iEn, .int iTk, .int (T_sd tA), ov uP, ov uU, .int (nI kAt), .int iTo, .int iFr, .long JFi, .int iFa, .ref qm3, .int iSt, .int iLv, .int iWs, vLa, .ref qmu, .ref qmy, .ref qmb, .ref qms, .int iOm], zzG cy 3 qmB rB, zzI cy (rB 0) 4 (bkR tA 0), zzI cy (rB 1) 4 (bkR tA 1), zzI cy (rB 2) 4 (bkR tA 2), zzI cy (rB 3) 4 (bkR tA 3), zzI cy (rB 4) 4 (bkR tA 4), zzI cy (rB 5) 4 (bkR tA 5), zzI cy (rB 6) 4 (bkR tA 6), zzI cy (rB 7) 4 (bkR tA 7), zzG cy 3 qmO rO, zzI cy (rO 0) 5 (onR tA 0), zzI cy (rO 1) 5 (onR tA 1), zzI cy (rO 2) 5 (onR tA 2), zzI cy (rO 3) 5 (onR tA 3), zzI cy (rO 4) 5 (onR tA 4), zzI cy (rO 5) 5 (onR tA 5), zzI cy (rO 6) 5 (onR tA 6), zzI cy (rO 7) 5 (onR tA 7), zzG cy 3 qmK rK, zzI cy (rK 0) 8 (T_kn tA 0), zzI cy (rK 1) 8 (T_kn tA 1), zzI cy (rK 2) 8 (T_kn tA 2), zzI cy (rK 3) 8 (T_kn tA 3), zzI cy (rK 4) 8 (T_kn tA 4), zzI cy (rK 5) 8 (T_kn tA 5), zzI cy (rK 6) 8 (T_kn tA 6), zzI cy (rK 7) 8 (T_kn tA 7), zzI cy qmr 8 fMr] H → va_D A [zzO qm 5 [.ref qmh, .ref qmo, .ref qmz, .ref qmR, .ref qmv, .ref qmk, .ref qma, .ref qmt, .int (nI kZ), .ref qmr, .int (nI (T_nb tA)), .ref qmB, .int (nI (T_np tA)), .ref qmO, .ref qmK, .int iEn, .int iTk, .int (T_sd tA), ov uP, ov uU, .int (nI kAt), .int iTo, .int iFr, .long JFi, .int iFa, .ref qm3, .int iSt, .int iLv, .int iWs, vLa, .ref qmu, .ref qmy, .ref qmb, .ref qms, .int iOm], zzG cy 3 qmB rB, zzI cy (rB 0) 4 (bkR tA 0), zzI cy (rB 1) 4 (bkR tA 1), zzI cy (rB 2) 4 (bkR tA 2), zzI cy (rB 3) 4 (bkR tA 3), zzI cy (rB 4) 4 (bkR tA 4), zzI cy (rB 5) 4 (bkR tA 5), zzI cy (rB 6) 4 (bkR tA 6), zzI cy (rB 7) 4 (bkR tA 7), zzG cy 3 qmO rO, zzI cy (rO 0) 5 (onR tA 0), zzI cy (rO 1) 5 (onR tA 1), zzI cy (rO 2) 5 (onR tA 2), zzI cy (rO 3) 5 (onR tA 3), zzI cy (rO 4) 5 (onR tA 4), zzI cy (rO 5) 5 (onR tA 5), zzI cy (rO 6) 5 (onR tA 6), zzI cy (rO 7) 5 (onR tA 7), zzG cy 3 qmK rK, zzI cy (rK 0) 8 (T_kn tA 0), zzI cy (rK 1) 8 (T_kn tA 1), zzI cy (rK 2) 8 (T_kn tA 2), zzI cy (rK 3) 8 (T_kn tA 3), zzI cy (rK 4) 8 (T_kn tA 4), zzI cy (rK 5) 8 (T_kn tA 5), zzI cy (rK 6) 8 (T_kn tA 6), zzI cy (rK 7) 8 (T_kn tA 7), zzI cy qmr 8 fMr] → va_S A s.heap H locs → lv_has ls 5 [(4, .int (nI j_22)), (3, .int xS_23), (0, .ref qm), (1, .int (nI k_4)), (2, .int iB)] → W p l e (Rm 16 0 0) s m (List.toArray (α := Value) [.ref qm, .int (nI k_4), .int iB]) below meth c H locs 0 0 (MQ below ((Wi G (fun r u => ∃ (fNr : Nat → Int32), u = [zzO qm 5 [.ref qmh, .ref qmo, .ref qmz, .ref qmR, .ref qmv, .ref qmk, .ref qma, .ref qmt, .int (nI kZ), .ref qmr, .int (nI (T_nb tA)), .ref qmB, .int (nI (T_np tA)), .ref qmO, .ref qmK, .int iEn, .int iTk, .int (T_sd tA), ov uP, ov uU, .int (nI kAt), .int iTo, .int iFr, .long JFi, .int iFa, .ref qm3, .int iSt, .int iLv, .int iWs, vLa, .ref qmu, .ref qmy, .ref qmb, .ref qms, .int iOm], zzG cy 3 qmB rB, zzI cy (rB 0) 4 (bkR tA 0), zzI cy (rB 1) 4 (bkR tA 1), zzI cy (rB 2) 4 (bkR tA 2), zzI cy (rB 3) 4 (bkR tA 3), zzI cy (rB 4) 4 (bkR tA 4), zzI cy (rB 5) 4 (bkR tA 5), zzI cy (rB 6) 4 (bkR tA 6), zzI cy (rB 7) 4 (bkR tA 7), zzG cy 3 qmO rO, zzI cy (rO 0) 5 (onR tA 0), zzI cy (rO 1) 5 (onR tA 1), zzI cy (rO 2) 5 (onR tA 2), zzI cy (rO 3) 5 (onR tA 3), zzI cy (rO 4) 5 (onR tA 4), zzI cy (rO 5) 5 (onR tA 5), zzI cy (rO 6) 5 (onR tA 6), zzI cy (rO 7) 5 (onR tA 7), zzG cy 3 qmK rK, zzI cy (rK 0) 8 (T_kn tA 0), zzI cy (rK 1) 8 (T_kn tA 1), zzI cy (rK 2) 8 (T_kn tA 2), zzI cy (rK 3) 8 (T_kn tA 3), zzI cy (rK 4) 8 (T_kn tA 4), zzI cy (rK 5) 8 (T_kn tA 5), zzI cy (rK 6) 8 (T_kn tA 6), zzI cy (rK 7) 8 (T_kn tA 7), zzI cy qmr 8 fNr] ∧ (True))) A) (List.toArray (α := Value) [.ref qm, .int (nI k_4), .int iB]) s 0 0 A) (F0 m 27 ls []) := by
        intro n_20
        induction n_20 with
        | zero => intro j_22 xS_23 hm9; exact absurd hm9 (Nat.not_lt_zero _)
        | succ n_20 ih_21 =>
          intro j_22 xS_23 hm_25 hj_24 H locs ls hP hD hS hl
          refine lv_iload hx hb dX6_needs_27 (lv_at hl 0 rfl) ?_
          refine lv_aload_n hx hb dX6_needs_29 rfl (lv_at hl 2 rfl) ?_
          refine va_get (D := G) (ci := 5) (v := .int (nI (T_nb tA))) (C := RX6) (T := TX6) (N := 35) hx hb hts iX_X6 hown hK hP 0 rfl rfl 10 (by decide) (hts _ m_t860) (fun _ h9 => h9) rfl dX6_needs_30 ?_
          refine lv_icmp_ge (tgt := 71) hx hb dX6_needs_33 (by decide) (fun c_26 => ?_) (fun c_26 => ?_)
          · have hlt_27 : j_22 = T_nb tA := Nat.le_antisymm (by omega) (lp_ge rfl rfl (by omega) (by omega) c_26)
            refine lv_iload_n hx hb dX6_needs_71 rfl (lv_at hl 1 rfl) ?_
            exact endW (u := [zzO qm 5 [.ref qmh, .ref qmo, .ref qmz, .ref qmR, .ref qmv, .ref qmk, .ref qma, .ref qmt, .int (nI kZ), .ref qmr, .int (nI (T_nb tA)), .ref qmB, .int (nI (T_np tA)), .ref qmO, .ref qmK, .int iEn, .int iTk, .int (T_sd tA), ov uP, ov uU, .int (nI kAt), .int iTo, .int iFr, .long JFi, .int iFa, .ref qm3, .int iSt, .int iLv, .int iWs, vLa, .ref qmu, .ref qmy, .ref qmb, .ref qms, .int iOm], zzG cy 3 qmB rB, zzI cy (rB 0) 4 (bkR tA 0), zzI cy (rB 1) 4 (bkR tA 1), zzI cy (rB 2) 4 (bkR tA 2), zzI cy (rB 3) 4 (bkR tA 3), zzI cy (rB 4) 4 (bkR tA 4), zzI cy (rB 5) 4 (bkR tA 5), zzI cy (rB 6) 4 (bkR tA 6), zzI cy (rB 7) 4 (bkR tA 7), zzG cy 3 qmO rO, zzI cy (rO 0) 5 (onR tA 0), zzI cy (rO 1) 5 (onR tA 1), zzI cy (rO 2) 5 (onR tA 2), zzI cy (rO 3) 5 (onR tA 3), zzI cy (rO 4) 5 (onR tA 4), zzI cy (rO 5) 5 (onR tA 5), zzI cy (rO 6) 5 (onR tA 6), zzI cy (rO 7) 5 (onR tA 7), zzG cy 3 qmK rK, zzI cy (rK 0) 8 (T_kn tA 0), zzI cy (rK 1) 8 (T_kn tA 1), zzI cy (rK 2) 8 (T_kn tA 2), zzI cy (rK 3) 8 (T_kn tA 3), zzI cy (rK 4) 8 (T_kn tA 4), zzI cy (rK 5) 8 (T_kn tA 5), zzI cy (rK 6) 8 (T_kn tA 6), zzI cy (rK 7) 8 (T_kn tA 7), zzI cy qmr 8 fMr]) hx hb hr hlocks rfl (hP.sub [0, 1, 2, 3, 4, 5, 6, 7, 8, 9, 10, 11, 12, 13, 14, 15, 16, 17, 18, 19, 20, 21, 22, 23, 24, 25, 26, 27, 28] rfl) (hD.sub [0, 1, 2, 3, 4, 5, 6, 7, 8, 9, 10, 11, 12, 13, 14, 15, 16, 17, 18, 19, 20, 21, 22, 23, 24, 25, 26, 27, 28] (by decide +kernel) rfl) hS ⟨fMr, rfl, trivial⟩ dX6_needs_72
          · have hlt_28 : j_22 < T_nb tA := lp_lt rfl rfl (by omega) (by omega) c_26
            refine lv_iload_n hx hb dX6_needs_36 rfl (lv_at hl 1 rfl) ?_
            refine lv_aload_n hx hb dX6_needs_37 rfl (lv_at hl 2 rfl) ?_
            refine va_get (D := G) (ci := 5) (v := .ref qmB) (C := RX6) (T := TX6) (N := 35) hx hb hts iX_X6 hown hK hP 0 rfl rfl 11 (by decide) (hts _ m_t861) (fun _ h9 => h9) rfl dX6_needs_38 ?_
            refine lv_iload hx hb dX6_needs_41 (lv_at hl 0 rfl) ?_
            refine va_alda hx hb hK hP 1 3 rfl rfl (in8 (by omega)) dX6_needs_43 ?_
            refine lv_setv (v := .ref (rB j_22)) (g_ref (by omega)) ?_
            refine lv_iconst (v := 1) hx hb dX6_needs_44 (by decide) ?_
            refine va_iald hx hb hK hP (2 + j_22) 0 (sg8 (n0 := 2) (f := (fun j => zzI cy (rB j) 4 (bkR tA j))) rfl rfl rfl rfl rfl rfl rfl rfl j_22 (by omega)) rfl (in_c rfl) dX6_needs_45 ?_
            refine lv_seti (v := T_ne tA j_22) (bk_1 _ _) ?_
            refine lv_iload_n hx hb dX6_needs_46 rfl (lv_at hl 1 rfl) ?_
            refine lv_iconst (v := 1) hx hb dX6_needs_47 (by decide) ?_
            refine lv_iload_n hx hb dX6_needs_48 rfl (lv_at hl 3 rfl) ?_
            refine lv_ishl hx hb dX6_needs_49 ?_
            refine lv_ior hx hb dX6_needs_50 ?_
            refine lv_iand hx hb dX6_needs_51 ?_
            refine lv_if_eq (tgt := 62) hx hb dX6_needs_52 (by decide) (fun c_29 => ?_) (fun c_29 => ?_)
            · refine lv_iconst (v := 0) hx hb dX6_needs_62 (by decide) ?_
              refine lv_ior hx hb dX6_needs_63 ?_
              refine lv_istore_n (lv' := [(3, .int (xS_23 ||| 0)), (4, .int (nI j_22)), (0, .ref qm), (1, .int (nI k_4)), (2, .int iB)]) hx hb dX6_needs_64 rfl hl (by decide) rfl (fun ls => ?_)
              clear hl
              intro hl
              refine lv_iinc (v := nI (j_22 + 1)) (lv' := [(4, .int (nI (j_22 + 1))), (3, .int (xS_23 ||| 0)), (0, .ref qm), (1, .int (nI k_4)), (2, .int iB)]) hx hb dX6_needs_65 hl (k := 1) rfl (nI_1 _) (by decide) rfl (fun ls => ?_)
              clear hl
              intro hl
              refine lv_goto (tgt := 27) hx hb dX6_needs_68 (by decide) ?_
              exact ih_21 (j_22 + 1) (xS_23 ||| 0) (by omega) (by omega) _ _ _ hP hD hS (lv_sub hl [0, 1, 2, 3, 4] rfl)
            · refine lv_iconst (v := 1) hx hb dX6_needs_55 (by decide) ?_
              refine lv_iload hx hb dX6_needs_56 (lv_at hl 0 rfl) ?_
              refine lv_ishl hx hb dX6_needs_58 ?_
              refine lv_goto (tgt := 63) hx hb dX6_needs_59 (by decide) ?_
              refine lv_ior hx hb dX6_needs_63 ?_
              refine lv_istore_n (lv' := [(3, .int (xS_23 ||| (1 <<< ((nI j_22) &&& 31)))), (4, .int (nI j_22)), (0, .ref qm), (1, .int (nI k_4)), (2, .int iB)]) hx hb dX6_needs_64 rfl hl (by decide) rfl (fun ls => ?_)
              clear hl
              intro hl
              refine lv_iinc (v := nI (j_22 + 1)) (lv' := [(4, .int (nI (j_22 + 1))), (3, .int (xS_23 ||| (1 <<< ((nI j_22) &&& 31)))), (0, .ref qm), (1, .int (nI k_4)), (2, .int iB)]) hx hb dX6_needs_65 hl (k := 1) rfl (nI_1 _) (by decide) rfl (fun ls => ?_)
              clear hl
              intro hl
              refine lv_goto (tgt := 27) hx hb dX6_needs_68 (by decide) ?_
              exact ih_21 (j_22 + 1) (xS_23 ||| (1 <<< ((nI j_22) &&& 31))) (by omega) (by omega) _ _ _ hP hD hS (lv_sub hl [0, 1, 2, 3, 4] rfl)
      exact lp_19 ((8 - (k_4 + 1)) + 1) (k_4 + 1) 0 (Nat.lt_succ_self _) (by omega) _ _ ls hP hD hS (lv_sub hl [0, 1, 2, 3, 4] rfl)
  · refine lv_if_ne (tgt := 16) hx hb dX6_needs_6 (by decide) (fun h9 => absurd (by decide) h9) (fun _ => ?_)
    refine lv_aload_n hx hb dX6_needs_9 rfl (lv_at hl 0 rfl) ?_
    refine lv_bipush (v := (-2)) hx hb dX6_needs_10 (by decide) ?_
    refine cVi (As := [.int (-2)]) (rest := []) (b := qm) (q := (RX6, TX6, 35)) ⟨hx, hb, hml, hown, hts⟩ (c_X6_refuse2 l G cy (s.heap).size qm (.ref qmh) (.ref qmo) (.ref qmz) (.ref qmR) (.ref qmv) (.ref qmk) (.ref qma) (.ref qmt) (.int (nI kZ)) qmr tA qmB qmO qmK iEn iTk (ov uP) (ov uU) (.int (nI kAt)) (.int iTo) (.int iFr) (.long JFi) (.int iFa) (.ref qm3) (.int iSt) iLv iWs vLa (.ref qmu) (.ref qmy) (.ref qmb) (.ref qms) (.int iOm) fMr) L_X6_91 hN hP hD hS hA [0, 28] [false, true, true, true, true, true, true, true, true, true, true, true, true, true, true, true, true, true, true, true, true, true, true, true, true, true, true, true, false] rfl (by decide +kernel) rfl 0 5 rfl rfl rfl ⟨Nat.le_of_ble_eq_true rfl, Nat.le_of_ble_eq_true rfl⟩ hl.1 (Nat.le_of_ble_eq_true rfl) dX6_needs_12 ⟨Nat.le_of_ble_eq_true rfl, Nat.le_of_ble_eq_true rfl⟩ (fun r_31 u_33 H locs h_32 => ?_)
    clear hP hD hS
    intro hP hD hS
    obtain ⟨fX_34, rfl, h_32⟩ := h_32
    have hPD := pd_as [zzG cy 3 qmB rB, zzI cy (rB 0) 4 (bkR tA 0), zzI cy (rB 1) 4 (bkR tA 1), zzI cy (rB 2) 4 (bkR tA 2), zzI cy (rB 3) 4 (bkR tA 3), zzI cy (rB 4) 4 (bkR tA 4), zzI cy (rB 5) 4 (bkR tA 5), zzI cy (rB 6) 4 (bkR tA 6), zzI cy (rB 7) 4 (bkR tA 7), zzG cy 3 qmO rO, zzI cy (rO 0) 5 (onR tA 0), zzI cy (rO 1) 5 (onR tA 1), zzI cy (rO 2) 5 (onR tA 2), zzI cy (rO 3) 5 (onR tA 3), zzI cy (rO 4) 5 (onR tA 4), zzI cy (rO 5) 5 (onR tA 5), zzI cy (rO 6) 5 (onR tA 6), zzI cy (rO 7) 5 (onR tA 7), zzG cy 3 qmK rK, zzI cy (rK 0) 8 (T_kn tA 0), zzI cy (rK 1) 8 (T_kn tA 1), zzI cy (rK 2) 8 (T_kn tA 2), zzI cy (rK 3) 8 (T_kn tA 3), zzI cy (rK 4) 8 (T_kn tA 4), zzI cy (rK 5) 8 (T_kn tA 5), zzI cy (rK 6) 8 (T_kn tA 6), zzI cy (rK 7) 8 (T_kn tA 7), zzO qm 5 [.ref qmh, .ref qmo, .ref qmz, .ref qmR, .ref qmv, .ref qmk, .ref qma, .ref qmt, .int (nI kZ), .ref qmr, .int (nI (T_nb tA)), .ref qmB, .int (nI (T_np tA)), .ref qmO, .ref qmK, .int iEn, .int iTk, .int (T_sd tA), ov uP, ov uU, .int (nI kAt), .int iTo, .int iFr, .long JFi, .int iFa, .ref qm3, .int iSt, .int iLv, .int iWs, vLa, .ref qmu, .ref qmy, .ref qmb, .ref qms, .int iOm], zzI cy qmr 8 fX_34] hP hD rfl
    clear hP hD
    obtain ⟨hP, hD⟩ := hPD
    subst h_32
    exact endW (u := [zzO qm 5 [.ref qmh, .ref qmo, .ref qmz, .ref qmR, .ref qmv, .ref qmk, .ref qma, .ref qmt, .int (nI kZ), .ref qmr, .int (nI (T_nb tA)), .ref qmB, .int (nI (T_np tA)), .ref qmO, .ref qmK, .int iEn, .int iTk, .int (T_sd tA), ov uP, ov uU, .int (nI kAt), .int iTo, .int iFr, .long JFi, .int iFa, .ref qm3, .int iSt, .int iLv, .int iWs, vLa, .ref qmu, .ref qmy, .ref qmb, .ref qms, .int iOm], zzG cy 3 qmB rB, zzI cy (rB 0) 4 (bkR tA 0), zzI cy (rB 1) 4 (bkR tA 1), zzI cy (rB 2) 4 (bkR tA 2), zzI cy (rB 3) 4 (bkR tA 3), zzI cy (rB 4) 4 (bkR tA 4), zzI cy (rB 5) 4 (bkR tA 5), zzI cy (rB 6) 4 (bkR tA 6), zzI cy (rB 7) 4 (bkR tA 7), zzG cy 3 qmO rO, zzI cy (rO 0) 5 (onR tA 0), zzI cy (rO 1) 5 (onR tA 1), zzI cy (rO 2) 5 (onR tA 2), zzI cy (rO 3) 5 (onR tA 3), zzI cy (rO 4) 5 (onR tA 4), zzI cy (rO 5) 5 (onR tA 5), zzI cy (rO 6) 5 (onR tA 6), zzI cy (rO 7) 5 (onR tA 7), zzG cy 3 qmK rK, zzI cy (rK 0) 8 (T_kn tA 0), zzI cy (rK 1) 8 (T_kn tA 1), zzI cy (rK 2) 8 (T_kn tA 2), zzI cy (rK 3) 8 (T_kn tA 3), zzI cy (rK 4) 8 (T_kn tA 4), zzI cy (rK 5) 8 (T_kn tA 5), zzI cy (rK 6) 8 (T_kn tA 6), zzI cy (rK 7) 8 (T_kn tA 7), zzI cy qmr 8 fX_34]) hx hb hr hlocks rfl (hP.sub [27, 0, 1, 2, 3, 4, 5, 6, 7, 8, 9, 10, 11, 12, 13, 14, 15, 16, 17, 18, 19, 20, 21, 22, 23, 24, 25, 26, 28] rfl) (hD.sub [27, 0, 1, 2, 3, 4, 5, 6, 7, 8, 9, 10, 11, 12, 13, 14, 15, 16, 17, 18, 19, 20, 21, 22, 23, 24, 25, 26, 28] (by decide +kernel) rfl) hS ⟨fX_34, rfl, trivial⟩ dX6_needs_15
set_option maxHeartbeats 4000000 in
set_option maxRecDepth 100000 in
theorem p_X6_ground (l : Launch) (G : va_G) (cy : Nat → ClassId) (sz : Nat) (qm : Nat) (qmh : Nat) (qmo : Nat) (qmz : Nat) (qmR : Nat) (qmv : Nat) (qmk : Nat) (qma : Nat) (qmt : Nat) (kZ : Nat) (qmr : Nat) (tA : TA) (qmB : Nat) (qmO : Nat) (qmK : Nat) (iEn : Int32) (iTk : Int32) (uP : UM) (uU : UM) (kAt : Nat) (iTo : Int32) (iFr : Int32) (JFi : Int64) (iFa : Int32) (qm3 : Nat) (iSt : Int32) (iLv : Int32) (iWs : Int32) (vLa : Value) (qmu : Nat) (qmy : Nat) (qmb : Nat) (qms : Nat) (iOm : Int32) (rB : Nat → Nat) (rO : Nat → Nat) (rK : Nat → Nat) (fMr : Nat → Int32) (iA : Int32) (iB : Int32)  (hB : T_nb tA ≤ 8) (hPp : T_np tA ≤ 8) (hTI : TI tA) : MW l yX6_ground cX6_ground 3 (some .int) 16 0 0 G cy [zzO qm 5 [.ref qmh, .ref qmo, .ref qmz, .ref qmR, .ref qmv, .ref qmk, .ref qma, .ref qmt, .int (nI kZ), .ref qmr, .int (nI (T_nb tA)), .ref qmB, .int (nI (T_np tA)), .ref qmO, .ref qmK, .int iEn, .int iTk, .int (T_sd tA), ov uP, ov uU, .int (nI kAt), .int iTo, .int iFr, .long JFi, .int iFa, .ref qm3, .int iSt, .int iLv, .int iWs, vLa, .ref qmu, .ref qmy, .ref qmb, .ref qms, .int iOm], zzG cy 3 qmB rB, zzI cy (rB 0) 4 (bkR tA 0), zzI cy (rB 1) 4 (bkR tA 1), zzI cy (rB 2) 4 (bkR tA 2), zzI cy (rB 3) 4 (bkR tA 3), zzI cy (rB 4) 4 (bkR tA 4), zzI cy (rB 5) 4 (bkR tA 5), zzI cy (rB 6) 4 (bkR tA 6), zzI cy (rB 7) 4 (bkR tA 7), zzG cy 3 qmO rO, zzI cy (rO 0) 5 (onR tA 0), zzI cy (rO 1) 5 (onR tA 1), zzI cy (rO 2) 5 (onR tA 2), zzI cy (rO 3) 5 (onR tA 3), zzI cy (rO 4) 5 (onR tA 4), zzI cy (rO 5) 5 (onR tA 5), zzI cy (rO 6) 5 (onR tA 6), zzI cy (rO 7) 5 (onR tA 7), zzG cy 3 qmK rK, zzI cy (rK 0) 8 (T_kn tA 0), zzI cy (rK 1) 8 (T_kn tA 1), zzI cy (rK 2) 8 (T_kn tA 2), zzI cy (rK 3) 8 (T_kn tA 3), zzI cy (rK 4) 8 (T_kn tA 4), zzI cy (rK 5) 8 (T_kn tA 5), zzI cy (rK 6) 8 (T_kn tA 6), zzI cy (rK 7) 8 (T_kn tA 7), zzI cy qmr 8 fMr] sz [.ref qm, .int iA, .int iB] (Wi G (fun r u => ∃ (fNr : Nat → Int32), u = [zzO qm 5 [.ref qmh, .ref qmo, .ref qmz, .ref qmR, .ref qmv, .ref qmk, .ref qma, .ref qmt, .int (nI kZ), .ref qmr, .int (nI (T_nb tA)), .ref qmB, .int (nI (T_np tA)), .ref qmO, .ref qmK, .int iEn, .int iTk, .int (T_sd tA), ov uP, ov uU, .int (nI kAt), .int iTo, .int iFr, .long JFi, .int iFa, .ref qm3, .int iSt, .int iLv, .int iWs, vLa, .ref qmu, .ref qmy, .ref qmb, .ref qms, .int iOm], zzG cy 3 qmB rB, zzI cy (rB 0) 4 (bkR tA 0), zzI cy (rB 1) 4 (bkR tA 1), zzI cy (rB 2) 4 (bkR tA 2), zzI cy (rB 3) 4 (bkR tA 3), zzI cy (rB 4) 4 (bkR tA 4), zzI cy (rB 5) 4 (bkR tA 5), zzI cy (rB 6) 4 (bkR tA 6), zzI cy (rB 7) 4 (bkR tA 7), zzG cy 3 qmO rO, zzI cy (rO 0) 5 (onR tA 0), zzI cy (rO 1) 5 (onR tA 1), zzI cy (rO 2) 5 (onR tA 2), zzI cy (rO 3) 5 (onR tA 3), zzI cy (rO 4) 5 (onR tA 4), zzI cy (rO 5) 5 (onR tA 5), zzI cy (rO 6) 5 (onR tA 6), zzI cy (rO 7) 5 (onR tA 7), zzG cy 3 qmK rK, zzI cy (rK 0) 8 (T_kn tA 0), zzI cy (rK 1) 8 (T_kn tA 1), zzI cy (rK 2) 8 (T_kn tA 2), zzI cy (rK 3) 8 (T_kn tA 3), zzI cy (rK 4) 8 (T_kn tA 4), zzI cy (rK 5) 8 (T_kn tA 5), zzI cy (rK 6) 8 (T_kn tA 6), zzI cy (rK 7) 8 (T_kn tA 7), zzI cy qmr 8 fNr] ∧ (True))) := by
  refine enW RX6 (by decide) rfl (Nat.le_of_ble_eq_true rfl) (fun p e s m below meth c ls A hx hb hml hown hts hr hlocks hP hN hl hin hD hA hS => ?_)
  have hin : meth.name = _ := hin
  have hK := hN.1
  replace hl : lv_has ls 3 [(0, .ref qm), (1, .int iA), (2, .int iB)] := hl
  refine lv_aload_n hx hb dX6_ground_0 rfl (lv_at hl 0 rfl) ?_
  refine lv_iload_n hx hb dX6_ground_1 rfl (lv_at hl 1 rfl) ?_
  refine lv_i2l (v := iA.toInt64) hx hb dX6_ground_2 rfl ?_
  refine kRi (rV (As := [.long iA.toInt64]) (rest := []) (b := qm) ⟨hx, hb, hml, hown, hts⟩ (c_X6_isOne l G cy qm (.ref qmh) (.ref qmo) (.ref qmz) (.ref qmR) (.ref qmv) (.ref qmk) (.ref qma) (.ref qmt) (.int (nI kZ)) (.ref qmr) tA qmB qmO qmK iEn iTk (ov uP) (ov uU) (.int (nI kAt)) (.int iTo) (.int iFr) (.long JFi) (.int iFa) (.ref qm3) (.int iSt) iLv iWs vLa (.ref qmu) (.ref qmy) (.ref qmb) (.ref qms) (.int iOm) iA hPp) L_X6_236 (preRV (q := (RX6, TX6, 35)) hN hP [0] rfl 0 5 rfl rfl) rfl ⟨Nat.le_of_ble_eq_true rfl, Nat.le_of_ble_eq_true rfl⟩ hl.1 (Nat.le_of_ble_eq_true rfl) dX6_ground_3 ⟨Nat.le_of_ble_eq_true rfl, Nat.le_of_ble_eq_true rfl⟩) (fun r_1 h_2 => ?_)
  rcases h_2 with ⟨rfl, h_3⟩ | ⟨rfl, h_3⟩
  · obtain ⟨k_4, hk_5, rfl⟩ := h_3
    refine lv_if_eq (tgt := 27) hx hb dX6_ground_6 (by decide) (fun h9 => absurd h9 (by decide)) (fun _ => ?_)
    refine lv_aload_n hx hb dX6_ground_9 rfl (lv_at hl 0 rfl) ?_
    refine lv_iload_n hx hb dX6_ground_10 rfl (lv_at hl 2 rfl) ?_
    refine lv_i2l (v := iB.toInt64) hx hb dX6_ground_11 rfl ?_
    refine kRi (rV (As := [.long iB.toInt64]) (rest := []) (b := qm) ⟨hx, hb, hml, hown, hts⟩ (c_X6_isBook l G cy qm (.ref qmh) (.ref qmo) (.ref qmz) (.ref qmR) (.ref qmv) (.ref qmk) (.ref qma) (.ref qmt) (.int (nI kZ)) (.ref qmr) tA qmB qmO qmK iEn iTk (ov uP) (ov uU) (.int (nI kAt)) (.int iTo) (.int iFr) (.long JFi) (.int iFa) (.ref qm3) (.int iSt) iLv iWs vLa (.ref qmu) (.ref qmy) (.ref qmb) (.ref qms) (.int iOm) iB hB) L_X6_229 (preRV (q := (RX6, TX6, 35)) hN hP [0] rfl 0 5 rfl rfl) rfl ⟨Nat.le_of_ble_eq_true rfl, Nat.le_of_ble_eq_true rfl⟩ hl.1 (Nat.le_of_ble_eq_true rfl) dX6_ground_12 ⟨Nat.le_of_ble_eq_true rfl, Nat.le_of_ble_eq_true rfl⟩) (fun r_7 h_8 => ?_)
    rcases h_8 with ⟨rfl, h_9⟩ | ⟨rfl, h_9⟩
    · obtain ⟨k_10, hk_11, rfl⟩ := h_9
      refine lv_if_eq (tgt := 27) hx hb dX6_ground_15 (by decide) (fun h9 => absurd h9 (by decide)) (fun _ => ?_)
      refine lv_aload_n hx hb dX6_ground_18 rfl (lv_at hl 0 rfl) ?_
      refine lv_iload_n hx hb dX6_ground_19 rfl (lv_at hl 1 rfl) ?_
      refine lv_iload_n hx hb dX6_ground_20 rfl (lv_at hl 2 rfl) ?_
      refine kRi (rV (As := [.int (nI k_4), .int (nI k_10)]) (rest := []) (b := qm) ⟨hx, hb, hml, hown, hts⟩ (c_X6_groundOf l G cy qm (.ref qmh) (.ref qmo) (.ref qmz) (.ref qmR) (.ref qmv) (.ref qmk) (.ref qma) (.ref qmt) (.int (nI kZ)) (.ref qmr) tA qmB qmO qmK iEn iTk (ov uP) (ov uU) (.int (nI kAt)) (.int iTo) (.int iFr) (.long JFi) (.int iFa) (.ref qm3) (.int iSt) iLv iWs vLa (.ref qmu) (.ref qmy) (.ref qmb) (.ref qms) (.int iOm) rB rK k_4 k_10 (by first | omega | (simp only [nb_sr, np_sr, nb_wr, np_wr, nb_rd, np_rd, nb_ch, np_ch, nb_zr, np_zr, nb_za, np_za, nb_ey, np_ey, nb_hf, np_hf, nb_dd, np_dd, nb_so, np_so, nb_skn, np_skn, nb_swh, np_swh, nb_sgn, np_sgn, nb_ssd, np_ssd, nb_sgo, np_sgo, nb_sag, np_sag]; omega)) (by first | omega | (simp only [nb_sr, np_sr, nb_wr, np_wr, nb_rd, np_rd, nb_ch, np_ch, nb_zr, np_zr, nb_za, np_za, nb_ey, np_ey, nb_hf, np_hf, nb_dd, np_dd, nb_so, np_so, nb_skn, np_skn, nb_swh, np_swh, nb_sgn, np_sgn, nb_ssd, np_ssd, nb_sgo, np_sgo, nb_sag, np_sag]; omega))) L_X6_241 (preRV (q := (RX6, TX6, 35)) hN hP [0, 1, 2, 3, 4, 5, 6, 7, 8, 9, 19, 20, 21, 22, 23, 24, 25, 26, 27] rfl 0 5 rfl rfl) rfl ⟨Nat.le_of_ble_eq_true rfl, Nat.le_of_ble_eq_true rfl⟩ hl.1 (Nat.le_of_ble_eq_true rfl) dX6_ground_21 ⟨Nat.le_of_ble_eq_true rfl, Nat.le_of_ble_eq_true rfl⟩) (fun r_13 h_14 => ?_)
      subst h_14
      refine lv_goto (tgt := 33) hx hb dX6_ground_24 (by decide) ?_
      exact endW (u := [zzO qm 5 [.ref qmh, .ref qmo, .ref qmz, .ref qmR, .ref qmv, .ref qmk, .ref qma, .ref qmt, .int (nI kZ), .ref qmr, .int (nI (T_nb tA)), .ref qmB, .int (nI (T_np tA)), .ref qmO, .ref qmK, .int iEn, .int iTk, .int (T_sd tA), ov uP, ov uU, .int (nI kAt), .int iTo, .int iFr, .long JFi, .int iFa, .ref qm3, .int iSt, .int iLv, .int iWs, vLa, .ref qmu, .ref qmy, .ref qmb, .ref qms, .int iOm], zzG cy 3 qmB rB, zzI cy (rB 0) 4 (bkR tA 0), zzI cy (rB 1) 4 (bkR tA 1), zzI cy (rB 2) 4 (bkR tA 2), zzI cy (rB 3) 4 (bkR tA 3), zzI cy (rB 4) 4 (bkR tA 4), zzI cy (rB 5) 4 (bkR tA 5), zzI cy (rB 6) 4 (bkR tA 6), zzI cy (rB 7) 4 (bkR tA 7), zzG cy 3 qmO rO, zzI cy (rO 0) 5 (onR tA 0), zzI cy (rO 1) 5 (onR tA 1), zzI cy (rO 2) 5 (onR tA 2), zzI cy (rO 3) 5 (onR tA 3), zzI cy (rO 4) 5 (onR tA 4), zzI cy (rO 5) 5 (onR tA 5), zzI cy (rO 6) 5 (onR tA 6), zzI cy (rO 7) 5 (onR tA 7), zzG cy 3 qmK rK, zzI cy (rK 0) 8 (T_kn tA 0), zzI cy (rK 1) 8 (T_kn tA 1), zzI cy (rK 2) 8 (T_kn tA 2), zzI cy (rK 3) 8 (T_kn tA 3), zzI cy (rK 4) 8 (T_kn tA 4), zzI cy (rK 5) 8 (T_kn tA 5), zzI cy (rK 6) 8 (T_kn tA 6), zzI cy (rK 7) 8 (T_kn tA 7), zzI cy qmr 8 fMr]) hx hb hr hlocks rfl (hP.sub [0, 1, 2, 3, 4, 5, 6, 7, 8, 9, 10, 11, 12, 13, 14, 15, 16, 17, 18, 19, 20, 21, 22, 23, 24, 25, 26, 27, 28] rfl) (hD.sub [0, 1, 2, 3, 4, 5, 6, 7, 8, 9, 10, 11, 12, 13, 14, 15, 16, 17, 18, 19, 20, 21, 22, 23, 24, 25, 26, 27, 28] (by decide +kernel) rfl) hS ⟨fMr, rfl, trivial⟩ dX6_ground_33
    · refine lv_if_eq (tgt := 27) hx hb dX6_ground_15 (by decide) (fun _ => ?_) (fun h9 => absurd (by decide) h9)
      refine lv_aload_n hx hb dX6_ground_27 rfl (lv_at hl 0 rfl) ?_
      refine lv_bipush (v := (-2)) hx hb dX6_ground_28 (by decide) ?_
      refine cVi (As := [.int (-2)]) (rest := []) (b := qm) (q := (RX6, TX6, 35)) ⟨hx, hb, hml, hown, hts⟩ (c_X6_refuse2 l G cy (s.heap).size qm (.ref qmh) (.ref qmo) (.ref qmz) (.ref qmR) (.ref qmv) (.ref qmk) (.ref qma) (.ref qmt) (.int (nI kZ)) qmr tA qmB qmO qmK iEn iTk (ov uP) (ov uU) (.int (nI kAt)) (.int iTo) (.int iFr) (.long JFi) (.int iFa) (.ref qm3) (.int iSt) iLv iWs vLa (.ref qmu) (.ref qmy) (.ref qmb) (.ref qms) (.int iOm) fMr) L_X6_91 hN hP hD hS hA [0, 28] [false, true, true, true, true, true, true, true, true, true, true, true, true, true, true, true, true, true, true, true, true, true, true, true, true, true, true, true, false] rfl (by decide +kernel) rfl 0 5 rfl rfl rfl ⟨Nat.le_of_ble_eq_true rfl, Nat.le_of_ble_eq_true rfl⟩ hl.1 (Nat.le_of_ble_eq_true rfl) dX6_ground_30 ⟨Nat.le_of_ble_eq_true rfl, Nat.le_of_ble_eq_true rfl⟩ (fun r_16 u_18 H locs h_17 => ?_)
      clear hP hD hS
      intro hP hD hS
      obtain ⟨fX_19, rfl, h_17⟩ := h_17
      have hPD := pd_as [zzG cy 3 qmB rB, zzI cy (rB 0) 4 (bkR tA 0), zzI cy (rB 1) 4 (bkR tA 1), zzI cy (rB 2) 4 (bkR tA 2), zzI cy (rB 3) 4 (bkR tA 3), zzI cy (rB 4) 4 (bkR tA 4), zzI cy (rB 5) 4 (bkR tA 5), zzI cy (rB 6) 4 (bkR tA 6), zzI cy (rB 7) 4 (bkR tA 7), zzG cy 3 qmO rO, zzI cy (rO 0) 5 (onR tA 0), zzI cy (rO 1) 5 (onR tA 1), zzI cy (rO 2) 5 (onR tA 2), zzI cy (rO 3) 5 (onR tA 3), zzI cy (rO 4) 5 (onR tA 4), zzI cy (rO 5) 5 (onR tA 5), zzI cy (rO 6) 5 (onR tA 6), zzI cy (rO 7) 5 (onR tA 7), zzG cy 3 qmK rK, zzI cy (rK 0) 8 (T_kn tA 0), zzI cy (rK 1) 8 (T_kn tA 1), zzI cy (rK 2) 8 (T_kn tA 2), zzI cy (rK 3) 8 (T_kn tA 3), zzI cy (rK 4) 8 (T_kn tA 4), zzI cy (rK 5) 8 (T_kn tA 5), zzI cy (rK 6) 8 (T_kn tA 6), zzI cy (rK 7) 8 (T_kn tA 7), zzO qm 5 [.ref qmh, .ref qmo, .ref qmz, .ref qmR, .ref qmv, .ref qmk, .ref qma, .ref qmt, .int (nI kZ), .ref qmr, .int (nI (T_nb tA)), .ref qmB, .int (nI (T_np tA)), .ref qmO, .ref qmK, .int iEn, .int iTk, .int (T_sd tA), ov uP, ov uU, .int (nI kAt), .int iTo, .int iFr, .long JFi, .int iFa, .ref qm3, .int iSt, .int iLv, .int iWs, vLa, .ref qmu, .ref qmy, .ref qmb, .ref qms, .int iOm], zzI cy qmr 8 fX_19] hP hD rfl
      clear hP hD
      obtain ⟨hP, hD⟩ := hPD
      subst h_17
      exact endW (u := [zzO qm 5 [.ref qmh, .ref qmo, .ref qmz, .ref qmR, .ref qmv, .ref qmk, .ref qma, .ref qmt, .int (nI kZ), .ref qmr, .int (nI (T_nb tA)), .ref qmB, .int (nI (T_np tA)), .ref qmO, .ref qmK, .int iEn, .int iTk, .int (T_sd tA), ov uP, ov uU, .int (nI kAt), .int iTo, .int iFr, .long JFi, .int iFa, .ref qm3, .int iSt, .int iLv, .int iWs, vLa, .ref qmu, .ref qmy, .ref qmb, .ref qms, .int iOm], zzG cy 3 qmB rB, zzI cy (rB 0) 4 (bkR tA 0), zzI cy (rB 1) 4 (bkR tA 1), zzI cy (rB 2) 4 (bkR tA 2), zzI cy (rB 3) 4 (bkR tA 3), zzI cy (rB 4) 4 (bkR tA 4), zzI cy (rB 5) 4 (bkR tA 5), zzI cy (rB 6) 4 (bkR tA 6), zzI cy (rB 7) 4 (bkR tA 7), zzG cy 3 qmO rO, zzI cy (rO 0) 5 (onR tA 0), zzI cy (rO 1) 5 (onR tA 1), zzI cy (rO 2) 5 (onR tA 2), zzI cy (rO 3) 5 (onR tA 3), zzI cy (rO 4) 5 (onR tA 4), zzI cy (rO 5) 5 (onR tA 5), zzI cy (rO 6) 5 (onR tA 6), zzI cy (rO 7) 5 (onR tA 7), zzG cy 3 qmK rK, zzI cy (rK 0) 8 (T_kn tA 0), zzI cy (rK 1) 8 (T_kn tA 1), zzI cy (rK 2) 8 (T_kn tA 2), zzI cy (rK 3) 8 (T_kn tA 3), zzI cy (rK 4) 8 (T_kn tA 4), zzI cy (rK 5) 8 (T_kn tA 5), zzI cy (rK 6) 8 (T_kn tA 6), zzI cy (rK 7) 8 (T_kn tA 7), zzI cy qmr 8 fX_19]) hx hb hr hlocks rfl (hP.sub [27, 0, 1, 2, 3, 4, 5, 6, 7, 8, 9, 10, 11, 12, 13, 14, 15, 16, 17, 18, 19, 20, 21, 22, 23, 24, 25, 26, 28] rfl) (hD.sub [27, 0, 1, 2, 3, 4, 5, 6, 7, 8, 9, 10, 11, 12, 13, 14, 15, 16, 17, 18, 19, 20, 21, 22, 23, 24, 25, 26, 28] (by decide +kernel) rfl) hS ⟨fX_19, rfl, trivial⟩ dX6_ground_33
  · refine lv_if_eq (tgt := 27) hx hb dX6_ground_6 (by decide) (fun _ => ?_) (fun h9 => absurd (by decide) h9)
    refine lv_aload_n hx hb dX6_ground_27 rfl (lv_at hl 0 rfl) ?_
    refine lv_bipush (v := (-2)) hx hb dX6_ground_28 (by decide) ?_
    refine cVi (As := [.int (-2)]) (rest := []) (b := qm) (q := (RX6, TX6, 35)) ⟨hx, hb, hml, hown, hts⟩ (c_X6_refuse2 l G cy (s.heap).size qm (.ref qmh) (.ref qmo) (.ref qmz) (.ref qmR) (.ref qmv) (.ref qmk) (.ref qma) (.ref qmt) (.int (nI kZ)) qmr tA qmB qmO qmK iEn iTk (ov uP) (ov uU) (.int (nI kAt)) (.int iTo) (.int iFr) (.long JFi) (.int iFa) (.ref qm3) (.int iSt) iLv iWs vLa (.ref qmu) (.ref qmy) (.ref qmb) (.ref qms) (.int iOm) fMr) L_X6_91 hN hP hD hS hA [0, 28] [false, true, true, true, true, true, true, true, true, true, true, true, true, true, true, true, true, true, true, true, true, true, true, true, true, true, true, true, false] rfl (by decide +kernel) rfl 0 5 rfl rfl rfl ⟨Nat.le_of_ble_eq_true rfl, Nat.le_of_ble_eq_true rfl⟩ hl.1 (Nat.le_of_ble_eq_true rfl) dX6_ground_30 ⟨Nat.le_of_ble_eq_true rfl, Nat.le_of_ble_eq_true rfl⟩ (fun r_21 u_23 H locs h_22 => ?_)
    clear hP hD hS
    intro hP hD hS
    obtain ⟨fX_24, rfl, h_22⟩ := h_22
    have hPD := pd_as [zzG cy 3 qmB rB, zzI cy (rB 0) 4 (bkR tA 0), zzI cy (rB 1) 4 (bkR tA 1), zzI cy (rB 2) 4 (bkR tA 2), zzI cy (rB 3) 4 (bkR tA 3), zzI cy (rB 4) 4 (bkR tA 4), zzI cy (rB 5) 4 (bkR tA 5), zzI cy (rB 6) 4 (bkR tA 6), zzI cy (rB 7) 4 (bkR tA 7), zzG cy 3 qmO rO, zzI cy (rO 0) 5 (onR tA 0), zzI cy (rO 1) 5 (onR tA 1), zzI cy (rO 2) 5 (onR tA 2), zzI cy (rO 3) 5 (onR tA 3), zzI cy (rO 4) 5 (onR tA 4), zzI cy (rO 5) 5 (onR tA 5), zzI cy (rO 6) 5 (onR tA 6), zzI cy (rO 7) 5 (onR tA 7), zzG cy 3 qmK rK, zzI cy (rK 0) 8 (T_kn tA 0), zzI cy (rK 1) 8 (T_kn tA 1), zzI cy (rK 2) 8 (T_kn tA 2), zzI cy (rK 3) 8 (T_kn tA 3), zzI cy (rK 4) 8 (T_kn tA 4), zzI cy (rK 5) 8 (T_kn tA 5), zzI cy (rK 6) 8 (T_kn tA 6), zzI cy (rK 7) 8 (T_kn tA 7), zzO qm 5 [.ref qmh, .ref qmo, .ref qmz, .ref qmR, .ref qmv, .ref qmk, .ref qma, .ref qmt, .int (nI kZ), .ref qmr, .int (nI (T_nb tA)), .ref qmB, .int (nI (T_np tA)), .ref qmO, .ref qmK, .int iEn, .int iTk, .int (T_sd tA), ov uP, ov uU, .int (nI kAt), .int iTo, .int iFr, .long JFi, .int iFa, .ref qm3, .int iSt, .int iLv, .int iWs, vLa, .ref qmu, .ref qmy, .ref qmb, .ref qms, .int iOm], zzI cy qmr 8 fX_24] hP hD rfl
    clear hP hD
    obtain ⟨hP, hD⟩ := hPD
    subst h_22
    exact endW (u := [zzO qm 5 [.ref qmh, .ref qmo, .ref qmz, .ref qmR, .ref qmv, .ref qmk, .ref qma, .ref qmt, .int (nI kZ), .ref qmr, .int (nI (T_nb tA)), .ref qmB, .int (nI (T_np tA)), .ref qmO, .ref qmK, .int iEn, .int iTk, .int (T_sd tA), ov uP, ov uU, .int (nI kAt), .int iTo, .int iFr, .long JFi, .int iFa, .ref qm3, .int iSt, .int iLv, .int iWs, vLa, .ref qmu, .ref qmy, .ref qmb, .ref qms, .int iOm], zzG cy 3 qmB rB, zzI cy (rB 0) 4 (bkR tA 0), zzI cy (rB 1) 4 (bkR tA 1), zzI cy (rB 2) 4 (bkR tA 2), zzI cy (rB 3) 4 (bkR tA 3), zzI cy (rB 4) 4 (bkR tA 4), zzI cy (rB 5) 4 (bkR tA 5), zzI cy (rB 6) 4 (bkR tA 6), zzI cy (rB 7) 4 (bkR tA 7), zzG cy 3 qmO rO, zzI cy (rO 0) 5 (onR tA 0), zzI cy (rO 1) 5 (onR tA 1), zzI cy (rO 2) 5 (onR tA 2), zzI cy (rO 3) 5 (onR tA 3), zzI cy (rO 4) 5 (onR tA 4), zzI cy (rO 5) 5 (onR tA 5), zzI cy (rO 6) 5 (onR tA 6), zzI cy (rO 7) 5 (onR tA 7), zzG cy 3 qmK rK, zzI cy (rK 0) 8 (T_kn tA 0), zzI cy (rK 1) 8 (T_kn tA 1), zzI cy (rK 2) 8 (T_kn tA 2), zzI cy (rK 3) 8 (T_kn tA 3), zzI cy (rK 4) 8 (T_kn tA 4), zzI cy (rK 5) 8 (T_kn tA 5), zzI cy (rK 6) 8 (T_kn tA 6), zzI cy (rK 7) 8 (T_kn tA 7), zzI cy qmr 8 fX_24]) hx hb hr hlocks rfl (hP.sub [27, 0, 1, 2, 3, 4, 5, 6, 7, 8, 9, 10, 11, 12, 13, 14, 15, 16, 17, 18, 19, 20, 21, 22, 23, 24, 25, 26, 28] rfl) (hD.sub [27, 0, 1, 2, 3, 4, 5, 6, 7, 8, 9, 10, 11, 12, 13, 14, 15, 16, 17, 18, 19, 20, 21, 22, 23, 24, 25, 26, 28] (by decide +kernel) rfl) hS ⟨fX_24, rfl, trivial⟩ dX6_ground_33
set_option maxHeartbeats 4000000 in
set_option maxRecDepth 100000 in
theorem p_X6_would (l : Launch) (G : va_G) (cy : Nat → ClassId) (sz : Nat) (qm : Nat) (qmh : Nat) (qmo : Nat) (qmz : Nat) (qmR : Nat) (qmv : Nat) (qmk : Nat) (qma : Nat) (qmt : Nat) (kZ : Nat) (qmr : Nat) (tA : TA) (qmB : Nat) (qmO : Nat) (qmK : Nat) (iEn : Int32) (iTk : Int32) (uP : UM) (uU : UM) (kAt : Nat) (iTo : Int32) (iFr : Int32) (JFi : Int64) (iFa : Int32) (qm3 : Nat) (iSt : Int32) (iLv : Int32) (iWs : Int32) (vLa : Value) (qmu : Nat) (qmy : Nat) (qmb : Nat) (qms : Nat) (iOm : Int32) (rB : Nat → Nat) (rO : Nat → Nat) (rK : Nat → Nat) (fMr : Nat → Int32) (iA : Int32) (iB : Int32)  (hB : T_nb tA ≤ 8) (hPp : T_np tA ≤ 8) (hTI : TI tA) : MW l yX6_would cX6_would 4 (some .int) 16 0 0 G cy [zzO qm 5 [.ref qmh, .ref qmo, .ref qmz, .ref qmR, .ref qmv, .ref qmk, .ref qma, .ref qmt, .int (nI kZ), .ref qmr, .int (nI (T_nb tA)), .ref qmB, .int (nI (T_np tA)), .ref qmO, .ref qmK, .int iEn, .int iTk, .int (T_sd tA), ov uP, ov uU, .int (nI kAt), .int iTo, .int iFr, .long JFi, .int iFa, .ref qm3, .int iSt, .int iLv, .int iWs, vLa, .ref qmu, .ref qmy, .ref qmb, .ref qms, .int iOm], zzG cy 3 qmB rB, zzI cy (rB 0) 4 (bkR tA 0), zzI cy (rB 1) 4 (bkR tA 1), zzI cy (rB 2) 4 (bkR tA 2), zzI cy (rB 3) 4 (bkR tA 3), zzI cy (rB 4) 4 (bkR tA 4), zzI cy (rB 5) 4 (bkR tA 5), zzI cy (rB 6) 4 (bkR tA 6), zzI cy (rB 7) 4 (bkR tA 7), zzG cy 3 qmO rO, zzI cy (rO 0) 5 (onR tA 0), zzI cy (rO 1) 5 (onR tA 1), zzI cy (rO 2) 5 (onR tA 2), zzI cy (rO 3) 5 (onR tA 3), zzI cy (rO 4) 5 (onR tA 4), zzI cy (rO 5) 5 (onR tA 5), zzI cy (rO 6) 5 (onR tA 6), zzI cy (rO 7) 5 (onR tA 7), zzG cy 3 qmK rK, zzI cy (rK 0) 8 (T_kn tA 0), zzI cy (rK 1) 8 (T_kn tA 1), zzI cy (rK 2) 8 (T_kn tA 2), zzI cy (rK 3) 8 (T_kn tA 3), zzI cy (rK 4) 8 (T_kn tA 4), zzI cy (rK 5) 8 (T_kn tA 5), zzI cy (rK 6) 8 (T_kn tA 6), zzI cy (rK 7) 8 (T_kn tA 7), zzI cy qmr 8 fMr] sz [.ref qm, .int iA, .int iB] (Wi G (fun r u => ∃ (fNr : Nat → Int32), u = [zzO qm 5 [.ref qmh, .ref qmo, .ref qmz, .ref qmR, .ref qmv, .ref qmk, .ref qma, .ref qmt, .int (nI kZ), .ref qmr, .int (nI (T_nb tA)), .ref qmB, .int (nI (T_np tA)), .ref qmO, .ref qmK, .int iEn, .int iTk, .int (T_sd tA), ov uP, ov uU, .int (nI kAt), .int iTo, .int iFr, .long JFi, .int iFa, .ref qm3, .int iSt, .int iLv, .int iWs, vLa, .ref qmu, .ref qmy, .ref qmb, .ref qms, .int iOm], zzG cy 3 qmB rB, zzI cy (rB 0) 4 (bkR tA 0), zzI cy (rB 1) 4 (bkR tA 1), zzI cy (rB 2) 4 (bkR tA 2), zzI cy (rB 3) 4 (bkR tA 3), zzI cy (rB 4) 4 (bkR tA 4), zzI cy (rB 5) 4 (bkR tA 5), zzI cy (rB 6) 4 (bkR tA 6), zzI cy (rB 7) 4 (bkR tA 7), zzG cy 3 qmO rO, zzI cy (rO 0) 5 (onR tA 0), zzI cy (rO 1) 5 (onR tA 1), zzI cy (rO 2) 5 (onR tA 2), zzI cy (rO 3) 5 (onR tA 3), zzI cy (rO 4) 5 (onR tA 4), zzI cy (rO 5) 5 (onR tA 5), zzI cy (rO 6) 5 (onR tA 6), zzI cy (rO 7) 5 (onR tA 7), zzG cy 3 qmK rK, zzI cy (rK 0) 8 (T_kn tA 0), zzI cy (rK 1) 8 (T_kn tA 1), zzI cy (rK 2) 8 (T_kn tA 2), zzI cy (rK 3) 8 (T_kn tA 3), zzI cy (rK 4) 8 (T_kn tA 4), zzI cy (rK 5) 8 (T_kn tA 5), zzI cy (rK 6) 8 (T_kn tA 6), zzI cy (rK 7) 8 (T_kn tA 7), zzI cy qmr 8 fNr] ∧ (True))) := by
  refine enW RX6 (by decide) rfl (Nat.le_of_ble_eq_true rfl) (fun p e s m below meth c ls A hx hb hml hown hts hr hlocks hP hN hl hin hD hA hS => ?_)
  have hin : meth.name = _ := hin
  have hK := hN.1
  replace hl : lv_has ls 4 [(0, .ref qm), (1, .int iA), (2, .int iB)] := hl
  refine lv_aload_n hx hb dX6_would_0 rfl (lv_at hl 0 rfl) ?_
  refine lv_iload_n hx hb dX6_would_1 rfl (lv_at hl 1 rfl) ?_
  refine lv_iload_n hx hb dX6_would_2 rfl (lv_at hl 2 rfl) ?_
  refine cVi (As := [.int iA, .int iB]) (rest := []) (b := qm) (q := (RX6, TX6, 35)) ⟨hx, hb, hml, hown, hts⟩ (c_X6_noReading l G cy (s.heap).size qm (.ref qmh) (.ref qmo) (.ref qmz) (.ref qmR) (.ref qmv) (.ref qmk) (.ref qma) (.ref qmt) (.int (nI kZ)) qmr tA qmB qmO qmK iEn iTk (ov uP) (ov uU) (.int (nI kAt)) (.int iTo) (.int iFr) (.long JFi) (.int iFa) (.ref qm3) (.int iSt) iLv iWs vLa (.ref qmu) (.ref qmy) (.ref qmb) (.ref qms) (.int iOm) rB rO fMr iA iB hB hPp) L_X6_251 hN hP hD hS hA [0, 1, 2, 3, 4, 5, 6, 7, 8, 9, 10, 11, 12, 13, 14, 15, 16, 17, 18, 28] [false, false, false, false, false, false, false, false, false, false, false, false, false, false, false, false, false, false, false, true, true, true, true, true, true, true, true, true, false] rfl (by decide +kernel) rfl 0 5 rfl rfl rfl ⟨Nat.le_of_ble_eq_true rfl, Nat.le_of_ble_eq_true rfl⟩ hl.1 (Nat.le_of_ble_eq_true rfl) dX6_would_3 ⟨Nat.le_of_ble_eq_true rfl, Nat.le_of_ble_eq_true rfl⟩ (fun r_1 u_3 H locs h_2 => ?_)
  clear hP hD hS
  intro hP hD hS
  obtain ⟨fX_4, rfl, h_2⟩ := h_2
  have hPD := pd_as [zzG cy 3 qmK rK, zzI cy (rK 0) 8 (T_kn tA 0), zzI cy (rK 1) 8 (T_kn tA 1), zzI cy (rK 2) 8 (T_kn tA 2), zzI cy (rK 3) 8 (T_kn tA 3), zzI cy (rK 4) 8 (T_kn tA 4), zzI cy (rK 5) 8 (T_kn tA 5), zzI cy (rK 6) 8 (T_kn tA 6), zzI cy (rK 7) 8 (T_kn tA 7), zzO qm 5 [.ref qmh, .ref qmo, .ref qmz, .ref qmR, .ref qmv, .ref qmk, .ref qma, .ref qmt, .int (nI kZ), .ref qmr, .int (nI (T_nb tA)), .ref qmB, .int (nI (T_np tA)), .ref qmO, .ref qmK, .int iEn, .int iTk, .int (T_sd tA), ov uP, ov uU, .int (nI kAt), .int iTo, .int iFr, .long JFi, .int iFa, .ref qm3, .int iSt, .int iLv, .int iWs, vLa, .ref qmu, .ref qmy, .ref qmb, .ref qms, .int iOm], zzG cy 3 qmB rB, zzI cy (rB 0) 4 (bkR tA 0), zzI cy (rB 1) 4 (bkR tA 1), zzI cy (rB 2) 4 (bkR tA 2), zzI cy (rB 3) 4 (bkR tA 3), zzI cy (rB 4) 4 (bkR tA 4), zzI cy (rB 5) 4 (bkR tA 5), zzI cy (rB 6) 4 (bkR tA 6), zzI cy (rB 7) 4 (bkR tA 7), zzG cy 3 qmO rO, zzI cy (rO 0) 5 (onR tA 0), zzI cy (rO 1) 5 (onR tA 1), zzI cy (rO 2) 5 (onR tA 2), zzI cy (rO 3) 5 (onR tA 3), zzI cy (rO 4) 5 (onR tA 4), zzI cy (rO 5) 5 (onR tA 5), zzI cy (rO 6) 5 (onR tA 6), zzI cy (rO 7) 5 (onR tA 7), zzI cy qmr 8 fX_4] hP hD rfl
  clear hP hD
  obtain ⟨hP, hD⟩ := hPD
  rcases h_2 with ⟨rfl, h_5⟩ | ⟨rfl, h_5⟩ | ⟨rfl, h_5⟩
  · refine lv_istore_n (lv' := [(3, .int (-2)), (0, .ref qm), (1, .int iA), (2, .int iB)]) hx hb dX6_would_6 rfl hl (by decide) rfl (fun ls => ?_)
    clear hl
    intro hl
    refine lv_iload_n hx hb dX6_would_7 rfl (lv_at hl 0 rfl) ?_
    refine lv_if_eq (tgt := 15) hx hb dX6_would_8 (by decide) (fun h9 => absurd h9 (by decide)) (fun _ => ?_)
    refine lv_iload_n hx hb dX6_would_11 rfl (lv_at hl 0 rfl) ?_
    refine lv_goto (tgt := 21) hx hb dX6_would_12 (by decide) ?_
    exact endW (u := [zzO qm 5 [.ref qmh, .ref qmo, .ref qmz, .ref qmR, .ref qmv, .ref qmk, .ref qma, .ref qmt, .int (nI kZ), .ref qmr, .int (nI (T_nb tA)), .ref qmB, .int (nI (T_np tA)), .ref qmO, .ref qmK, .int iEn, .int iTk, .int (T_sd tA), ov uP, ov uU, .int (nI kAt), .int iTo, .int iFr, .long JFi, .int iFa, .ref qm3, .int iSt, .int iLv, .int iWs, vLa, .ref qmu, .ref qmy, .ref qmb, .ref qms, .int iOm], zzG cy 3 qmB rB, zzI cy (rB 0) 4 (bkR tA 0), zzI cy (rB 1) 4 (bkR tA 1), zzI cy (rB 2) 4 (bkR tA 2), zzI cy (rB 3) 4 (bkR tA 3), zzI cy (rB 4) 4 (bkR tA 4), zzI cy (rB 5) 4 (bkR tA 5), zzI cy (rB 6) 4 (bkR tA 6), zzI cy (rB 7) 4 (bkR tA 7), zzG cy 3 qmO rO, zzI cy (rO 0) 5 (onR tA 0), zzI cy (rO 1) 5 (onR tA 1), zzI cy (rO 2) 5 (onR tA 2), zzI cy (rO 3) 5 (onR tA 3), zzI cy (rO 4) 5 (onR tA 4), zzI cy (rO 5) 5 (onR tA 5), zzI cy (rO 6) 5 (onR tA 6), zzI cy (rO 7) 5 (onR tA 7), zzG cy 3 qmK rK, zzI cy (rK 0) 8 (T_kn tA 0), zzI cy (rK 1) 8 (T_kn tA 1), zzI cy (rK 2) 8 (T_kn tA 2), zzI cy (rK 3) 8 (T_kn tA 3), zzI cy (rK 4) 8 (T_kn tA 4), zzI cy (rK 5) 8 (T_kn tA 5), zzI cy (rK 6) 8 (T_kn tA 6), zzI cy (rK 7) 8 (T_kn tA 7), zzI cy qmr 8 fX_4]) hx hb hr hlocks rfl (hP.sub [9, 10, 11, 12, 13, 14, 15, 16, 17, 18, 19, 20, 21, 22, 23, 24, 25, 26, 27, 0, 1, 2, 3, 4, 5, 6, 7, 8, 28] rfl) (hD.sub [9, 10, 11, 12, 13, 14, 15, 16, 17, 18, 19, 20, 21, 22, 23, 24, 25, 26, 27, 0, 1, 2, 3, 4, 5, 6, 7, 8, 28] (by decide +kernel) rfl) hS ⟨fX_4, rfl, trivial⟩ dX6_would_21
  · refine lv_istore_n (lv' := [(3, .int (-5)), (0, .ref qm), (1, .int iA), (2, .int iB)]) hx hb dX6_would_6 rfl hl (by decide) rfl (fun ls => ?_)
    clear hl
    intro hl
    refine lv_iload_n hx hb dX6_would_7 rfl (lv_at hl 0 rfl) ?_
    refine lv_if_eq (tgt := 15) hx hb dX6_would_8 (by decide) (fun h9 => absurd h9 (by decide)) (fun _ => ?_)
    refine lv_iload_n hx hb dX6_would_11 rfl (lv_at hl 0 rfl) ?_
    refine lv_goto (tgt := 21) hx hb dX6_would_12 (by decide) ?_
    exact endW (u := [zzO qm 5 [.ref qmh, .ref qmo, .ref qmz, .ref qmR, .ref qmv, .ref qmk, .ref qma, .ref qmt, .int (nI kZ), .ref qmr, .int (nI (T_nb tA)), .ref qmB, .int (nI (T_np tA)), .ref qmO, .ref qmK, .int iEn, .int iTk, .int (T_sd tA), ov uP, ov uU, .int (nI kAt), .int iTo, .int iFr, .long JFi, .int iFa, .ref qm3, .int iSt, .int iLv, .int iWs, vLa, .ref qmu, .ref qmy, .ref qmb, .ref qms, .int iOm], zzG cy 3 qmB rB, zzI cy (rB 0) 4 (bkR tA 0), zzI cy (rB 1) 4 (bkR tA 1), zzI cy (rB 2) 4 (bkR tA 2), zzI cy (rB 3) 4 (bkR tA 3), zzI cy (rB 4) 4 (bkR tA 4), zzI cy (rB 5) 4 (bkR tA 5), zzI cy (rB 6) 4 (bkR tA 6), zzI cy (rB 7) 4 (bkR tA 7), zzG cy 3 qmO rO, zzI cy (rO 0) 5 (onR tA 0), zzI cy (rO 1) 5 (onR tA 1), zzI cy (rO 2) 5 (onR tA 2), zzI cy (rO 3) 5 (onR tA 3), zzI cy (rO 4) 5 (onR tA 4), zzI cy (rO 5) 5 (onR tA 5), zzI cy (rO 6) 5 (onR tA 6), zzI cy (rO 7) 5 (onR tA 7), zzG cy 3 qmK rK, zzI cy (rK 0) 8 (T_kn tA 0), zzI cy (rK 1) 8 (T_kn tA 1), zzI cy (rK 2) 8 (T_kn tA 2), zzI cy (rK 3) 8 (T_kn tA 3), zzI cy (rK 4) 8 (T_kn tA 4), zzI cy (rK 5) 8 (T_kn tA 5), zzI cy (rK 6) 8 (T_kn tA 6), zzI cy (rK 7) 8 (T_kn tA 7), zzI cy qmr 8 fX_4]) hx hb hr hlocks rfl (hP.sub [9, 10, 11, 12, 13, 14, 15, 16, 17, 18, 19, 20, 21, 22, 23, 24, 25, 26, 27, 0, 1, 2, 3, 4, 5, 6, 7, 8, 28] rfl) (hD.sub [9, 10, 11, 12, 13, 14, 15, 16, 17, 18, 19, 20, 21, 22, 23, 24, 25, 26, 27, 0, 1, 2, 3, 4, 5, 6, 7, 8, 28] (by decide +kernel) rfl) hS ⟨fX_4, rfl, trivial⟩ dX6_would_21
  · refine lv_istore_n (lv' := [(3, .int 0), (0, .ref qm), (1, .int iA), (2, .int iB)]) hx hb dX6_would_6 rfl hl (by decide) rfl (fun ls => ?_)
    clear hl
    intro hl
    refine lv_iload_n hx hb dX6_would_7 rfl (lv_at hl 0 rfl) ?_
    refine lv_if_eq (tgt := 15) hx hb dX6_would_8 (by decide) (fun _ => ?_) (fun h9 => absurd (by decide) h9)
    refine lv_aload_n hx hb dX6_would_15 rfl (lv_at hl 1 rfl) ?_
    refine lv_iload_n hx hb dX6_would_16 rfl (lv_at hl 2 rfl) ?_
    refine lv_iload_n hx hb dX6_would_17 rfl (lv_at hl 3 rfl) ?_
    obtain ⟨k_9, k_10, hk_11, hk_12, rfl, rfl, h_13, h_14⟩ := h_5
    refine kRi (rV (As := [.int (nI k_9), .int (nI k_10)]) (rest := []) (b := qm) ⟨hx, hb, hml, hown, hts⟩ (c_X6_wouldKnow l G cy qm (.ref qmh) (.ref qmo) (.ref qmz) (.ref qmR) (.ref qmv) (.ref qmk) (.ref qma) (.ref qmt) (.int (nI kZ)) (.ref qmr) tA qmB qmO qmK iEn iTk (ov uP) (ov uU) (.int (nI kAt)) (.int iTo) (.int iFr) (.long JFi) (.int iFa) (.ref qm3) (.int iSt) iLv iWs vLa (.ref qmu) (.ref qmy) (.ref qmb) (.ref qms) (.int iOm) rB rO rK k_9 k_10 (by first | omega | (simp only [nb_sr, np_sr, nb_wr, np_wr, nb_rd, np_rd, nb_ch, np_ch, nb_zr, np_zr, nb_za, np_za, nb_ey, np_ey, nb_hf, np_hf, nb_dd, np_dd, nb_so, np_so, nb_skn, np_skn, nb_swh, np_swh, nb_sgn, np_sgn, nb_ssd, np_ssd, nb_sgo, np_sgo, nb_sag, np_sag]; omega)) (by first | omega | (simp only [nb_sr, np_sr, nb_wr, np_wr, nb_rd, np_rd, nb_ch, np_ch, nb_zr, np_zr, nb_za, np_za, nb_ey, np_ey, nb_hf, np_hf, nb_dd, np_dd, nb_so, np_so, nb_skn, np_skn, nb_swh, np_swh, nb_sgn, np_sgn, nb_ssd, np_ssd, nb_sgo, np_sgo, nb_sag, np_sag]; omega))) L_X6_254 (preRV (q := (RX6, TX6, 35)) hN hP [9, 10, 11, 12, 13, 14, 15, 16, 17, 18, 19, 20, 21, 22, 23, 24, 25, 26, 27, 0, 1, 2, 3, 4, 5, 6, 7, 8] rfl 9 5 rfl rfl) rfl ⟨Nat.le_of_ble_eq_true rfl, Nat.le_of_ble_eq_true rfl⟩ hl.1 (Nat.le_of_ble_eq_true rfl) dX6_would_18 ⟨Nat.le_of_ble_eq_true rfl, Nat.le_of_ble_eq_true rfl⟩) (fun r_15 h_16 => ?_)
    subst h_16
    exact endW (u := [zzO qm 5 [.ref qmh, .ref qmo, .ref qmz, .ref qmR, .ref qmv, .ref qmk, .ref qma, .ref qmt, .int (nI kZ), .ref qmr, .int (nI (T_nb tA)), .ref qmB, .int (nI (T_np tA)), .ref qmO, .ref qmK, .int iEn, .int iTk, .int (T_sd tA), ov uP, ov uU, .int (nI kAt), .int iTo, .int iFr, .long JFi, .int iFa, .ref qm3, .int iSt, .int iLv, .int iWs, vLa, .ref qmu, .ref qmy, .ref qmb, .ref qms, .int iOm], zzG cy 3 qmB rB, zzI cy (rB 0) 4 (bkR tA 0), zzI cy (rB 1) 4 (bkR tA 1), zzI cy (rB 2) 4 (bkR tA 2), zzI cy (rB 3) 4 (bkR tA 3), zzI cy (rB 4) 4 (bkR tA 4), zzI cy (rB 5) 4 (bkR tA 5), zzI cy (rB 6) 4 (bkR tA 6), zzI cy (rB 7) 4 (bkR tA 7), zzG cy 3 qmO rO, zzI cy (rO 0) 5 (onR tA 0), zzI cy (rO 1) 5 (onR tA 1), zzI cy (rO 2) 5 (onR tA 2), zzI cy (rO 3) 5 (onR tA 3), zzI cy (rO 4) 5 (onR tA 4), zzI cy (rO 5) 5 (onR tA 5), zzI cy (rO 6) 5 (onR tA 6), zzI cy (rO 7) 5 (onR tA 7), zzG cy 3 qmK rK, zzI cy (rK 0) 8 (T_kn tA 0), zzI cy (rK 1) 8 (T_kn tA 1), zzI cy (rK 2) 8 (T_kn tA 2), zzI cy (rK 3) 8 (T_kn tA 3), zzI cy (rK 4) 8 (T_kn tA 4), zzI cy (rK 5) 8 (T_kn tA 5), zzI cy (rK 6) 8 (T_kn tA 6), zzI cy (rK 7) 8 (T_kn tA 7), zzI cy qmr 8 fX_4]) hx hb hr hlocks rfl (hP.sub [9, 10, 11, 12, 13, 14, 15, 16, 17, 18, 19, 20, 21, 22, 23, 24, 25, 26, 27, 0, 1, 2, 3, 4, 5, 6, 7, 8, 28] rfl) (hD.sub [9, 10, 11, 12, 13, 14, 15, 16, 17, 18, 19, 20, 21, 22, 23, 24, 25, 26, 27, 0, 1, 2, 3, 4, 5, 6, 7, 8, 28] (by decide +kernel) rfl) hS ⟨fX_4, rfl, trivial⟩ dX6_would_21
set_option maxHeartbeats 4000000 in
set_option maxRecDepth 100000 in
theorem p_X6_teach (l : Launch) (G : va_G) (cy : Nat → ClassId) (sz : Nat) (qm : Nat) (qmh : Nat) (qmo : Nat) (qmz : Nat) (qmR : Nat) (qmv : Nat) (qmk : Nat) (qma : Nat) (qmt : Nat) (kZ : Nat) (qmr : Nat) (tA : TA) (qmB : Nat) (qmO : Nat) (qmK : Nat) (iEn : Int32) (iTk : Int32) (uP : UM) (uU : UM) (kAt : Nat) (iTo : Int32) (iFr : Int32) (JFi : Int64) (iFa : Int32) (qm3 : Nat) (iSt : Int32) (iLv : Int32) (iWs : Int32) (vLa : Value) (qmu : Nat) (qmy : Nat) (qmb : Nat) (qms : Nat) (iOm : Int32) (rB : Nat → Nat) (rO : Nat → Nat) (rK : Nat → Nat) (fMr : Nat → Int32) (iA : Int32) (iB : Int32)  (hB : T_nb tA ≤ 8) (hPp : T_np tA ≤ 8) (hTI : TI tA) : MW l yX6_teach cX6_teach 7 (some .int) 16 0 0 G cy [zzO qm 5 [.ref qmh, .ref qmo, .ref qmz, .ref qmR, .ref qmv, .ref qmk, .ref qma, .ref qmt, .int (nI kZ), .ref qmr, .int (nI (T_nb tA)), .ref qmB, .int (nI (T_np tA)), .ref qmO, .ref qmK, .int iEn, .int iTk, .int (T_sd tA), ov uP, ov uU, .int (nI kAt), .int iTo, .int iFr, .long JFi, .int iFa, .ref qm3, .int iSt, .int iLv, .int iWs, vLa, .ref qmu, .ref qmy, .ref qmb, .ref qms, .int iOm], zzG cy 3 qmB rB, zzI cy (rB 0) 4 (bkR tA 0), zzI cy (rB 1) 4 (bkR tA 1), zzI cy (rB 2) 4 (bkR tA 2), zzI cy (rB 3) 4 (bkR tA 3), zzI cy (rB 4) 4 (bkR tA 4), zzI cy (rB 5) 4 (bkR tA 5), zzI cy (rB 6) 4 (bkR tA 6), zzI cy (rB 7) 4 (bkR tA 7), zzG cy 3 qmO rO, zzI cy (rO 0) 5 (onR tA 0), zzI cy (rO 1) 5 (onR tA 1), zzI cy (rO 2) 5 (onR tA 2), zzI cy (rO 3) 5 (onR tA 3), zzI cy (rO 4) 5 (onR tA 4), zzI cy (rO 5) 5 (onR tA 5), zzI cy (rO 6) 5 (onR tA 6), zzI cy (rO 7) 5 (onR tA 7), zzG cy 3 qmK rK, zzI cy (rK 0) 8 (T_kn tA 0), zzI cy (rK 1) 8 (T_kn tA 1), zzI cy (rK 2) 8 (T_kn tA 2), zzI cy (rK 3) 8 (T_kn tA 3), zzI cy (rK 4) 8 (T_kn tA 4), zzI cy (rK 5) 8 (T_kn tA 5), zzI cy (rK 6) 8 (T_kn tA 6), zzI cy (rK 7) 8 (T_kn tA 7), zzI cy qmr 8 fMr] sz [.ref qm, .int iA, .int iB] (Wi G (fun r u => ∃ (fNr : Nat → Int32), u = [zzO qm 5 [.ref qmh, .ref qmo, .ref qmz, .ref qmR, .ref qmv, .ref qmk, .ref qma, .ref qmt, .int (nI kZ), .ref qmr, .int (nI (T_nb tA)), .ref qmB, .int (nI (T_np tA)), .ref qmO, .ref qmK, .int iEn, .int iTk, .int (T_sd tA), ov uP, ov uU, .int (nI kAt), .int iTo, .int iFr, .long JFi, .int iFa, .ref qm3, .int iSt, .int iLv, .int iWs, vLa, .ref qmu, .ref qmy, .ref qmb, .ref qms, .int iOm], zzG cy 3 qmB rB, zzI cy (rB 0) 4 (bkR tA 0), zzI cy (rB 1) 4 (bkR tA 1), zzI cy (rB 2) 4 (bkR tA 2), zzI cy (rB 3) 4 (bkR tA 3), zzI cy (rB 4) 4 (bkR tA 4), zzI cy (rB 5) 4 (bkR tA 5), zzI cy (rB 6) 4 (bkR tA 6), zzI cy (rB 7) 4 (bkR tA 7), zzG cy 3 qmO rO, zzI cy (rO 0) 5 (onR tA 0), zzI cy (rO 1) 5 (onR tA 1), zzI cy (rO 2) 5 (onR tA 2), zzI cy (rO 3) 5 (onR tA 3), zzI cy (rO 4) 5 (onR tA 4), zzI cy (rO 5) 5 (onR tA 5), zzI cy (rO 6) 5 (onR tA 6), zzI cy (rO 7) 5 (onR tA 7), zzG cy 3 qmK rK, zzI cy (rK 0) 8 (T_kn tA 0), zzI cy (rK 1) 8 (T_kn tA 1), zzI cy (rK 2) 8 (T_kn tA 2), zzI cy (rK 3) 8 (T_kn tA 3), zzI cy (rK 4) 8 (T_kn tA 4), zzI cy (rK 5) 8 (T_kn tA 5), zzI cy (rK 6) 8 (T_kn tA 6), zzI cy (rK 7) 8 (T_kn tA 7), zzI cy qmr 8 fNr] ∧ (True))) := by
  refine enW RX6 (by decide) rfl (Nat.le_of_ble_eq_true rfl) (fun p e s m below meth c ls A hx hb hml hown hts hr hlocks hP hN hl hin hD hA hS => ?_)
  have hin : meth.name = _ := hin
  have hK := hN.1
  replace hl : lv_has ls 7 [(0, .ref qm), (1, .int iA), (2, .int iB)] := hl
  refine lv_aload_n hx hb dX6_teach_0 rfl (lv_at hl 0 rfl) ?_
  refine lv_iload_n hx hb dX6_teach_1 rfl (lv_at hl 1 rfl) ?_
  refine lv_i2l (v := iA.toInt64) hx hb dX6_teach_2 rfl ?_
  refine kRi (rV (As := [.long iA.toInt64]) (rest := []) (b := qm) ⟨hx, hb, hml, hown, hts⟩ (c_X6_isOne l G cy qm (.ref qmh) (.ref qmo) (.ref qmz) (.ref qmR) (.ref qmv) (.ref qmk) (.ref qma) (.ref qmt) (.int (nI kZ)) (.ref qmr) tA qmB qmO qmK iEn iTk (ov uP) (ov uU) (.int (nI kAt)) (.int iTo) (.int iFr) (.long JFi) (.int iFa) (.ref qm3) (.int iSt) iLv iWs vLa (.ref qmu) (.ref qmy) (.ref qmb) (.ref qms) (.int iOm) iA hPp) L_X6_236 (preRV (q := (RX6, TX6, 35)) hN hP [0] rfl 0 5 rfl rfl) rfl ⟨Nat.le_of_ble_eq_true rfl, Nat.le_of_ble_eq_true rfl⟩ hl.1 (Nat.le_of_ble_eq_true rfl) dX6_teach_3 ⟨Nat.le_of_ble_eq_true rfl, Nat.le_of_ble_eq_true rfl⟩) (fun r_1 h_2 => ?_)
  rcases h_2 with ⟨rfl, h_3⟩ | ⟨rfl, h_3⟩
  · obtain ⟨k_4, hk_5, rfl⟩ := h_3
    refine lv_if_eq (tgt := 18) hx hb dX6_teach_6 (by decide) (fun h9 => absurd h9 (by decide)) (fun _ => ?_)
    refine lv_aload_n hx hb dX6_teach_9 rfl (lv_at hl 0 rfl) ?_
    refine lv_iload_n hx hb dX6_teach_10 rfl (lv_at hl 2 rfl) ?_
    refine lv_i2l (v := iB.toInt64) hx hb dX6_teach_11 rfl ?_
    refine kRi (rV (As := [.long iB.toInt64]) (rest := []) (b := qm) ⟨hx, hb, hml, hown, hts⟩ (c_X6_isBook l G cy qm (.ref qmh) (.ref qmo) (.ref qmz) (.ref qmR) (.ref qmv) (.ref qmk) (.ref qma) (.ref qmt) (.int (nI kZ)) (.ref qmr) tA qmB qmO qmK iEn iTk (ov uP) (ov uU) (.int (nI kAt)) (.int iTo) (.int iFr) (.long JFi) (.int iFa) (.ref qm3) (.int iSt) iLv iWs vLa (.ref qmu) (.ref qmy) (.ref qmb) (.ref qms) (.int iOm) iB hB) L_X6_229 (preRV (q := (RX6, TX6, 35)) hN hP [0] rfl 0 5 rfl rfl) rfl ⟨Nat.le_of_ble_eq_true rfl, Nat.le_of_ble_eq_true rfl⟩ hl.1 (Nat.le_of_ble_eq_true rfl) dX6_teach_12 ⟨Nat.le_of_ble_eq_true rfl, Nat.le_of_ble_eq_true rfl⟩) (fun r_7 h_8 => ?_)
    rcases h_8 with ⟨rfl, h_9⟩ | ⟨rfl, h_9⟩
    · obtain ⟨k_10, hk_11, rfl⟩ := h_9
      refine lv_if_ne (tgt := 25) hx hb dX6_teach_15 (by decide) (fun _ => ?_) (fun h9 => absurd h9 (by decide))
      refine lv_aload_n hx hb dX6_teach_25 rfl (lv_at hl 0 rfl) ?_
      refine lv_iload_n hx hb dX6_teach_26 rfl (lv_at hl 1 rfl) ?_
      refine kRi (rV (As := [.int (nI k_4)]) (rest := []) (b := qm) ⟨hx, hb, hml, hown, hts⟩ (c_X6_isThere l G cy qm (.ref qmh) (.ref qmo) (.ref qmz) (.ref qmR) (.ref qmv) (.ref qmk) (.ref qma) (.ref qmt) (.int (nI kZ)) (.ref qmr) tA qmB qmO qmK iEn iTk (ov uP) (ov uU) (.int (nI kAt)) (.int iTo) (.int iFr) (.long JFi) (.int iFa) (.ref qm3) (.int iSt) iLv iWs vLa (.ref qmu) (.ref qmy) (.ref qmb) (.ref qms) (.int iOm) rO k_4 (by first | omega | (simp only [nb_sr, np_sr, nb_wr, np_wr, nb_rd, np_rd, nb_ch, np_ch, nb_zr, np_zr, nb_za, np_za, nb_ey, np_ey, nb_hf, np_hf, nb_dd, np_dd, nb_so, np_so, nb_skn, np_skn, nb_swh, np_swh, nb_sgn, np_sgn, nb_ssd, np_ssd, nb_sgo, np_sgo, nb_sag, np_sag]; omega))) L_X6_81 (preRV (q := (RX6, TX6, 35)) hN hP [0, 10, 11, 12, 13, 14, 15, 16, 17, 18] rfl 0 5 rfl rfl) rfl ⟨Nat.le_of_ble_eq_true rfl, Nat.le_of_ble_eq_true rfl⟩ hl.1 (Nat.le_of_ble_eq_true rfl) dX6_teach_27 ⟨Nat.le_of_ble_eq_true rfl, Nat.le_of_ble_eq_true rfl⟩) (fun r_13 h_14 => ?_)
      rcases h_14 with ⟨rfl, h_15⟩ | ⟨rfl, h_15⟩
      · refine lv_if_ne (tgt := 40) hx hb dX6_teach_30 (by decide) (fun _ => ?_) (fun h9 => absurd h9 (by decide))
        refine lv_iconst (v := (-1)) hx hb dX6_teach_40 (by decide) ?_
        refine lv_istore_n (lv' := [(3, .int (-1)), (0, .ref qm), (1, .int (nI k_4)), (2, .int (nI k_10))]) hx hb dX6_teach_41 rfl hl (by decide) rfl (fun ls => ?_)
        clear hl
        intro hl
        refine lv_iconst (v := 0) hx hb dX6_teach_42 (by decide) ?_
        refine lv_istore (lv' := [(4, .int 0), (3, .int (-1)), (0, .ref qm), (1, .int (nI k_4)), (2, .int (nI k_10))]) hx hb dX6_teach_43 hl (by decide) rfl (fun ls => ?_)
        clear hl
        intro hl
        refine lv_iconst (v := 0) hx hb dX6_teach_45 (by decide) ?_
        refine lv_istore (lv' := [(5, .int 0), (4, .int 0), (3, .int (-1)), (0, .ref qm), (1, .int (nI k_4)), (2, .int (nI k_10))]) hx hb dX6_teach_46 hl (by decide) rfl (fun ls => ?_)
        clear hl
        intro hl
        have lp_17 : ∀ (n_18 : Nat) (j_20 : Nat) (x3_21 : Int32) (x4_22 : Int32), 8 - j_20 < n_18 → j_20 ≤ T_np tA → ∀ (H : Heap) (locs : List Loc) (ls : Array Slot), va_P G CL [zzO qm 5 [.ref qmh, .ref qmo, .ref qmz, .ref qmR, .ref qmv, .ref qmk, .ref qma, .ref qmt, .int (nI kZ), .ref qmr, .int (nI (T_nb tA)), .ref qmB, .int (nI (T_np tA)), .ref qmO, .ref qmK, .int iEn, .int iTk, .int (T_sd tA), ov uP, ov uU, .int (nI kAt), .int iTo, .int iFr, .long JFi, .int iFa, .ref qm3, .int iSt, .int iLv, .int iWs, vLa, .ref qmu, .ref qmy, .ref qmb, .ref qms, .int iOm], zzG cy 3 qmB rB, zzI cy (rB 0) 4 (bkR tA 0), zzI cy (rB 1) 4 (bkR tA 1), zzI cy (rB 2) 4 (bkR tA 2), zzI cy (rB 3) 4 (bkR tA 3), zzI cy (rB 4) 4 (bkR tA 4), zzI cy (rB 5) 4 (bkR tA 5), zzI cy (rB 6) 4 (bkR tA 6), zzI cy (rB 7) 4 (bkR tA 7), zzG cy 3 qmO rO, zzI cy (rO 0) 5 (onR tA 0), zzI cy (rO 1) 5 (onR tA 1), zzI cy (rO 2) 5 (onR tA 2), zzI cy (rO 3) 5 (onR tA 3), zzI cy (rO 4) 5 (onR tA 4), zzI cy (rO 5) 5 (onR tA 5), zzI cy (rO 6) 5 (onR tA 6), zzI cy (rO 7) 5 (onR tA 7), zzG cy 3 qmK rK, zzI cy (rK 0) 8 (T_kn tA 0), zzI cy (rK 1) 8 (T_kn tA 1), zzI cy (rK 2) 8 (T_kn tA 2), zzI cy (rK 3) 8 (T_kn tA 3), zzI cy (rK 4) 8 (T_kn tA 4), zzI cy (rK 5) 8 (T_kn tA 5), zzI cy (rK 6) 8 (T_kn tA 6), zzI cy (rK 7) 8 (T_kn tA 7), zzI cy qmr 8 fMr] H → va_D A [zzO qm 5 [.ref qmh, .ref qmo, .ref qmz, .ref qmR, .ref qmv, .ref qmk, .ref qma, .ref qmt, .int (nI kZ), .ref qmr, .int (nI (T_nb tA)), .ref qmB, .int (nI (T_np tA)), .ref qmO, .ref qmK, .int iEn, .int iTk, .int (T_sd tA), ov uP, ov uU, .int (nI kAt), .int iTo, .int iFr, .long JFi, .int iFa, .ref qm3, .int iSt, .int iLv, .int iWs, vLa, .ref qmu, .ref qmy, .ref qmb, .ref qms, .int iOm], zzG cy 3 qmB rB, zzI cy (rB 0) 4 (bkR tA 0), zzI cy (rB 1) 4 (bkR tA 1), zzI cy (rB 2) 4 (bkR tA 2), zzI cy (rB 3) 4 (bkR tA 3), zzI cy (rB 4) 4 (bkR tA 4), zzI cy (rB 5) 4 (bkR tA 5), zzI cy (rB 6) 4 (bkR tA 6), zzI cy (rB 7) 4 (bkR tA 7), zzG cy 3 qmO rO, zzI cy (rO 0) 5 (onR tA 0), zzI cy (rO 1) 5 (onR tA 1), zzI cy (rO 2) 5 (onR tA 2), zzI cy (rO 3) 5 (onR tA 3), zzI cy (rO 4) 5 (onR tA 4), zzI cy (rO 5) 5 (onR tA 5), zzI cy (rO 6) 5 (onR tA 6), zzI cy (rO 7) 5 (onR tA 7), zzG cy 3 qmK rK, zzI cy (rK 0) 8 (T_kn tA 0), zzI cy (rK 1) 8 (T_kn tA 1), zzI cy (rK 2) 8 (T_kn tA 2), zzI cy (rK 3) 8 (T_kn tA 3), zzI cy (rK 4) 8 (T_kn tA 4), zzI cy (rK 5) 8 (T_kn tA 5), zzI cy (rK 6) 8 (T_kn tA 6), zzI cy (rK 7) 8 (T_kn tA 7), zzI cy qmr 8 fMr] → va_S A s.heap H locs → lv_has ls 7 [(5, .int (nI j_20)), (4, .int x4_22), (3, .int x3_21), (0, .ref qm), (1, .int (nI k_4)), (2, .int (nI k_10))] → W p l e (Rm 16 0 0) s m (List.toArray (α := Value) [.ref qm, .int (nI k_4), .int (nI k_10)]) below meth c H locs 0 0 (MQ below ((Wi G (fun r u => ∃ (fNr : Nat → Int32), u = [zzO qm 5 [.ref qmh, .ref qmo, .ref qmz, .ref qmR, .ref qmv, .ref qmk, .ref qma, .ref qmt, .int (nI kZ), .ref qmr, .int (nI (T_nb tA)), .ref qmB, .int (nI (T_np tA)), .ref qmO, .ref qmK, .int iEn, .int iTk, .int (T_sd tA), ov uP, ov uU, .int (nI kAt), .int iTo, .int iFr, .long JFi, .int iFa, .ref qm3, .int iSt, .int iLv, .int iWs, vLa, .ref qmu, .ref qmy, .ref qmb, .ref qms, .int iOm], zzG cy 3 qmB rB, zzI cy (rB 0) 4 (bkR tA 0), zzI cy (rB 1) 4 (bkR tA 1), zzI cy (rB 2) 4 (bkR tA 2), zzI cy (rB 3) 4 (bkR tA 3), zzI cy (rB 4) 4 (bkR tA 4), zzI cy (rB 5) 4 (bkR tA 5), zzI cy (rB 6) 4 (bkR tA 6), zzI cy (rB 7) 4 (bkR tA 7), zzG cy 3 qmO rO, zzI cy (rO 0) 5 (onR tA 0), zzI cy (rO 1) 5 (onR tA 1), zzI cy (rO 2) 5 (onR tA 2), zzI cy (rO 3) 5 (onR tA 3), zzI cy (rO 4) 5 (onR tA 4), zzI cy (rO 5) 5 (onR tA 5), zzI cy (rO 6) 5 (onR tA 6), zzI cy (rO 7) 5 (onR tA 7), zzG cy 3 qmK rK, zzI cy (rK 0) 8 (T_kn tA 0), zzI cy (rK 1) 8 (T_kn tA 1), zzI cy (rK 2) 8 (T_kn tA 2), zzI cy (rK 3) 8 (T_kn tA 3), zzI cy (rK 4) 8 (T_kn tA 4), zzI cy (rK 5) 8 (T_kn tA 5), zzI cy (rK 6) 8 (T_kn tA 6), zzI cy (rK 7) 8 (T_kn tA 7), zzI cy qmr 8 fNr] ∧ (True))) A) (List.toArray (α := Value) [.ref qm, .int (nI k_4), .int (nI k_10)]) s 0 0 A) (F0 m 48 ls []) := by
          intro n_18
          induction n_18 with
          | zero => intro j_20 x3_21 x4_22 hm9; exact absurd hm9 (Nat.not_lt_zero _)
          | succ n_18 ih_19 =>
            intro j_20 x3_21 x4_22 hm_24 hj_23 H locs ls hP hD hS hl
            refine lv_iload hx hb dX6_teach_48 (lv_at hl 0 rfl) ?_
            refine lv_aload_n hx hb dX6_teach_50 rfl (lv_at hl 3 rfl) ?_
            refine va_get (D := G) (ci := 5) (v := .int (nI (T_np tA))) (C := RX6) (T := TX6) (N := 35) hx hb hts iX_X6 hown hK hP 0 rfl rfl 12 (by decide) (hts _ m_t862) (fun _ h9 => h9) rfl dX6_teach_51 ?_
            refine lv_icmp_ge (tgt := 106) hx hb dX6_teach_54 (by decide) (fun c_25 => ?_) (fun c_25 => ?_)
            · have hlt_26 : j_20 = T_np tA := Nat.le_antisymm (by omega) (lp_ge rfl rfl (by omega) (by omega) c_25)
              refine lv_iload_n hx hb dX6_teach_106 rfl (lv_at hl 2 rfl) ?_
              exact endW (u := [zzO qm 5 [.ref qmh, .ref qmo, .ref qmz, .ref qmR, .ref qmv, .ref qmk, .ref qma, .ref qmt, .int (nI kZ), .ref qmr, .int (nI (T_nb tA)), .ref qmB, .int (nI (T_np tA)), .ref qmO, .ref qmK, .int iEn, .int iTk, .int (T_sd tA), ov uP, ov uU, .int (nI kAt), .int iTo, .int iFr, .long JFi, .int iFa, .ref qm3, .int iSt, .int iLv, .int iWs, vLa, .ref qmu, .ref qmy, .ref qmb, .ref qms, .int iOm], zzG cy 3 qmB rB, zzI cy (rB 0) 4 (bkR tA 0), zzI cy (rB 1) 4 (bkR tA 1), zzI cy (rB 2) 4 (bkR tA 2), zzI cy (rB 3) 4 (bkR tA 3), zzI cy (rB 4) 4 (bkR tA 4), zzI cy (rB 5) 4 (bkR tA 5), zzI cy (rB 6) 4 (bkR tA 6), zzI cy (rB 7) 4 (bkR tA 7), zzG cy 3 qmO rO, zzI cy (rO 0) 5 (onR tA 0), zzI cy (rO 1) 5 (onR tA 1), zzI cy (rO 2) 5 (onR tA 2), zzI cy (rO 3) 5 (onR tA 3), zzI cy (rO 4) 5 (onR tA 4), zzI cy (rO 5) 5 (onR tA 5), zzI cy (rO 6) 5 (onR tA 6), zzI cy (rO 7) 5 (onR tA 7), zzG cy 3 qmK rK, zzI cy (rK 0) 8 (T_kn tA 0), zzI cy (rK 1) 8 (T_kn tA 1), zzI cy (rK 2) 8 (T_kn tA 2), zzI cy (rK 3) 8 (T_kn tA 3), zzI cy (rK 4) 8 (T_kn tA 4), zzI cy (rK 5) 8 (T_kn tA 5), zzI cy (rK 6) 8 (T_kn tA 6), zzI cy (rK 7) 8 (T_kn tA 7), zzI cy qmr 8 fMr]) hx hb hr hlocks rfl (hP.sub [0, 1, 2, 3, 4, 5, 6, 7, 8, 9, 10, 11, 12, 13, 14, 15, 16, 17, 18, 19, 20, 21, 22, 23, 24, 25, 26, 27, 28] rfl) (hD.sub [0, 1, 2, 3, 4, 5, 6, 7, 8, 9, 10, 11, 12, 13, 14, 15, 16, 17, 18, 19, 20, 21, 22, 23, 24, 25, 26, 27, 28] (by decide +kernel) rfl) hS ⟨fMr, rfl, trivial⟩ dX6_teach_107
            · have hlt_27 : j_20 < T_np tA := lp_lt rfl rfl (by omega) (by omega) c_25
              refine lv_iload hx hb dX6_teach_57 (lv_at hl 0 rfl) ?_
              refine lv_iload_n hx hb dX6_teach_59 rfl (lv_at hl 4 rfl) ?_
              refine lv_icmp_eq (tgt := 83) hx hb dX6_teach_60 (by decide) (fun c_28 => ?_) (fun c_28 => ?_)
              · refine lv_iconst (v := 0) hx hb dX6_teach_83 (by decide) ?_
                refine lv_istore (lv' := [(6, .int 0), (5, .int (nI j_20)), (4, .int x4_22), (3, .int x3_21), (0, .ref qm), (1, .int (nI k_4)), (2, .int (nI k_10))]) hx hb dX6_teach_84 hl (by decide) rfl (fun ls => ?_)
                clear hl
                intro hl
                refine lv_iload hx hb dX6_teach_86 (lv_at hl 0 rfl) ?_
                refine lv_iload hx hb dX6_teach_88 (lv_at hl 2 rfl) ?_
                refine lv_icmp_le (tgt := 100) hx hb dX6_teach_90 (by decide) (fun c_29 => ?_) (fun c_29 => ?_)
                · refine lv_iinc (v := nI (j_20 + 1)) (lv' := [(5, .int (nI (j_20 + 1))), (6, .int 0), (4, .int x4_22), (3, .int x3_21), (0, .ref qm), (1, .int (nI k_4)), (2, .int (nI k_10))]) hx hb dX6_teach_100 hl (k := 1) rfl (nI_1 _) (by decide) rfl (fun ls => ?_)
                  clear hl
                  intro hl
                  refine lv_goto (tgt := 48) hx hb dX6_teach_103 (by decide) ?_
                  exact ih_19 (j_20 + 1) x3_21 x4_22 (by omega) (by omega) _ _ _ hP hD hS (lv_sub hl [0, 2, 3, 4, 5, 6] rfl)
                · refine lv_iload hx hb dX6_teach_93 (lv_at hl 1 rfl) ?_
                  refine lv_istore_n (lv' := [(3, .int (nI j_20)), (6, .int 0), (5, .int (nI j_20)), (4, .int x4_22), (0, .ref qm), (1, .int (nI k_4)), (2, .int (nI k_10))]) hx hb dX6_teach_95 rfl hl (by decide) rfl (fun ls => ?_)
                  clear hl
                  intro hl
                  refine lv_iload hx hb dX6_teach_96 (lv_at hl 1 rfl) ?_
                  refine lv_istore (lv' := [(4, .int 0), (3, .int (nI j_20)), (6, .int 0), (5, .int (nI j_20)), (0, .ref qm), (1, .int (nI k_4)), (2, .int (nI k_10))]) hx hb dX6_teach_98 hl (by decide) rfl (fun ls => ?_)
                  clear hl
                  intro hl
                  refine lv_iinc (v := nI (j_20 + 1)) (lv' := [(5, .int (nI (j_20 + 1))), (4, .int 0), (3, .int (nI j_20)), (6, .int 0), (0, .ref qm), (1, .int (nI k_4)), (2, .int (nI k_10))]) hx hb dX6_teach_100 hl (k := 3) rfl (nI_1 _) (by decide) rfl (fun ls => ?_)
                  clear hl
                  intro hl
                  refine lv_goto (tgt := 48) hx hb dX6_teach_103 (by decide) ?_
                  exact ih_19 (j_20 + 1) (nI j_20) 0 (by omega) (by omega) _ _ _ hP hD hS (lv_sub hl [0, 1, 2, 4, 5, 6] rfl)
              · refine lv_aload_n hx hb dX6_teach_63 rfl (lv_at hl 3 rfl) ?_
                refine lv_iload hx hb dX6_teach_64 (lv_at hl 0 rfl) ?_
                refine kRi (rV (As := [.int (nI j_20)]) (rest := []) (b := qm) ⟨hx, hb, hml, hown, hts⟩ (c_X6_isThere l G cy qm (.ref qmh) (.ref qmo) (.ref qmz) (.ref qmR) (.ref qmv) (.ref qmk) (.ref qma) (.ref qmt) (.int (nI kZ)) (.ref qmr) tA qmB qmO qmK iEn iTk (ov uP) (ov uU) (.int (nI kAt)) (.int iTo) (.int iFr) (.long JFi) (.int iFa) (.ref qm3) (.int iSt) iLv iWs vLa (.ref qmu) (.ref qmy) (.ref qmb) (.ref qms) (.int iOm) rO j_20 (by first | omega | (simp only [nb_sr, np_sr, nb_wr, np_wr, nb_rd, np_rd, nb_ch, np_ch, nb_zr, np_zr, nb_za, np_za, nb_ey, np_ey, nb_hf, np_hf, nb_dd, np_dd, nb_so, np_so, nb_skn, np_skn, nb_swh, np_swh, nb_sgn, np_sgn, nb_ssd, np_ssd, nb_sgo, np_sgo, nb_sag, np_sag]; omega))) L_X6_81 (preRV (q := (RX6, TX6, 35)) hN hP [0, 10, 11, 12, 13, 14, 15, 16, 17, 18] rfl 0 5 rfl rfl) rfl ⟨Nat.le_of_ble_eq_true rfl, Nat.le_of_ble_eq_true rfl⟩ hl.1 (Nat.le_of_ble_eq_true rfl) dX6_teach_66 ⟨Nat.le_of_ble_eq_true rfl, Nat.le_of_ble_eq_true rfl⟩) (fun r_30 h_31 => ?_)
                rcases h_31 with ⟨rfl, h_32⟩ | ⟨rfl, h_32⟩
                · refine lv_if_eq (tgt := 83) hx hb dX6_teach_69 (by decide) (fun h9 => absurd h9 (by decide)) (fun _ => ?_)
                  refine lv_aload_n hx hb dX6_teach_72 rfl (lv_at hl 3 rfl) ?_
                  refine lv_iload_n hx hb dX6_teach_73 rfl (lv_at hl 4 rfl) ?_
                  refine lv_iload hx hb dX6_teach_74 (lv_at hl 0 rfl) ?_
                  refine lv_iload_n hx hb dX6_teach_76 rfl (lv_at hl 5 rfl) ?_
                  refine kRi (rV (As := [.int (nI k_4), .int (nI j_20), .int (nI k_10)]) (rest := []) (b := qm) ⟨hx, hb, hml, hown, hts⟩ (c_X6_moreBy l G cy qm (.ref qmh) (.ref qmo) (.ref qmz) (.ref qmR) (.ref qmv) (.ref qmk) (.ref qma) (.ref qmt) (.int (nI kZ)) (.ref qmr) tA qmB qmO qmK iEn iTk (ov uP) (ov uU) (.int (nI kAt)) (.int iTo) (.int iFr) (.long JFi) (.int iFa) (.ref qm3) (.int iSt) iLv iWs vLa (.ref qmu) (.ref qmy) (.ref qmb) (.ref qms) (.int iOm) rB rO rK k_4 j_20 k_10 (by first | omega | (simp only [nb_sr, np_sr, nb_wr, np_wr, nb_rd, np_rd, nb_ch, np_ch, nb_zr, np_zr, nb_za, np_za, nb_ey, np_ey, nb_hf, np_hf, nb_dd, np_dd, nb_so, np_so, nb_skn, np_skn, nb_swh, np_swh, nb_sgn, np_sgn, nb_ssd, np_ssd, nb_sgo, np_sgo, nb_sag, np_sag]; omega)) (by first | omega | (simp only [nb_sr, np_sr, nb_wr, np_wr, nb_rd, np_rd, nb_ch, np_ch, nb_zr, np_zr, nb_za, np_za, nb_ey, np_ey, nb_hf, np_hf, nb_dd, np_dd, nb_so, np_so, nb_skn, np_skn, nb_swh, np_swh, nb_sgn, np_sgn, nb_ssd, np_ssd, nb_sgo, np_sgo, nb_sag, np_sag]; omega)) (by first | omega | (simp only [nb_sr, np_sr, nb_wr, np_wr, nb_rd, np_rd, nb_ch, np_ch, nb_zr, np_zr, nb_za, np_za, nb_ey, np_ey, nb_hf, np_hf, nb_dd, np_dd, nb_so, np_so, nb_skn, np_skn, nb_swh, np_swh, nb_sgn, np_sgn, nb_ssd, np_ssd, nb_sgo, np_sgo, nb_sag, np_sag]; omega)) hTI) L_X6_263 (preRV (q := (RX6, TX6, 35)) hN hP [0, 1, 2, 3, 4, 5, 6, 7, 8, 9, 10, 11, 12, 13, 14, 15, 16, 17, 18, 19, 20, 21, 22, 23, 24, 25, 26, 27] rfl 0 5 rfl rfl) rfl ⟨Nat.le_of_ble_eq_true rfl, Nat.le_of_ble_eq_true rfl⟩ hl.1 (Nat.le_of_ble_eq_true rfl) dX6_teach_77 ⟨Nat.le_of_ble_eq_true rfl, Nat.le_of_ble_eq_true rfl⟩) (fun r_34 h_35 => ?_)
                  subst h_35
                  refine lv_goto (tgt := 84) hx hb dX6_teach_80 (by decide) ?_
                  refine lv_istore (lv' := [(6, .int (zgt tA k_4 j_20 k_10)), (5, .int (nI j_20)), (4, .int x4_22), (3, .int x3_21), (0, .ref qm), (1, .int (nI k_4)), (2, .int (nI k_10))]) hx hb dX6_teach_84 hl (by decide) rfl (fun ls => ?_)
                  clear hl
                  intro hl
                  refine lv_iload hx hb dX6_teach_86 (lv_at hl 0 rfl) ?_
                  refine lv_iload hx hb dX6_teach_88 (lv_at hl 2 rfl) ?_
                  refine lv_icmp_le (tgt := 100) hx hb dX6_teach_90 (by decide) (fun c_36 => ?_) (fun c_36 => ?_)
                  · refine lv_iinc (v := nI (j_20 + 1)) (lv' := [(5, .int (nI (j_20 + 1))), (6, .int (zgt tA k_4 j_20 k_10)), (4, .int x4_22), (3, .int x3_21), (0, .ref qm), (1, .int (nI k_4)), (2, .int (nI k_10))]) hx hb dX6_teach_100 hl (k := 1) rfl (nI_1 _) (by decide) rfl (fun ls => ?_)
                    clear hl
                    intro hl
                    refine lv_goto (tgt := 48) hx hb dX6_teach_103 (by decide) ?_
                    exact ih_19 (j_20 + 1) x3_21 x4_22 (by omega) (by omega) _ _ _ hP hD hS (lv_sub hl [0, 2, 3, 4, 5, 6] rfl)
                  · refine lv_iload hx hb dX6_teach_93 (lv_at hl 1 rfl) ?_
                    refine lv_istore_n (lv' := [(3, .int (nI j_20)), (6, .int (zgt tA k_4 j_20 k_10)), (5, .int (nI j_20)), (4, .int x4_22), (0, .ref qm), (1, .int (nI k_4)), (2, .int (nI k_10))]) hx hb dX6_teach_95 rfl hl (by decide) rfl (fun ls => ?_)
                    clear hl
                    intro hl
                    refine lv_iload hx hb dX6_teach_96 (lv_at hl 1 rfl) ?_
                    refine lv_istore (lv' := [(4, .int (zgt tA k_4 j_20 k_10)), (3, .int (nI j_20)), (6, .int (zgt tA k_4 j_20 k_10)), (5, .int (nI j_20)), (0, .ref qm), (1, .int (nI k_4)), (2, .int (nI k_10))]) hx hb dX6_teach_98 hl (by decide) rfl (fun ls => ?_)
                    clear hl
                    intro hl
                    refine lv_iinc (v := nI (j_20 + 1)) (lv' := [(5, .int (nI (j_20 + 1))), (4, .int (zgt tA k_4 j_20 k_10)), (3, .int (nI j_20)), (6, .int (zgt tA k_4 j_20 k_10)), (0, .ref qm), (1, .int (nI k_4)), (2, .int (nI k_10))]) hx hb dX6_teach_100 hl (k := 3) rfl (nI_1 _) (by decide) rfl (fun ls => ?_)
                    clear hl
                    intro hl
                    refine lv_goto (tgt := 48) hx hb dX6_teach_103 (by decide) ?_
                    exact ih_19 (j_20 + 1) (nI j_20) (zgt tA k_4 j_20 k_10) (by omega) (by omega) _ _ _ hP hD hS (lv_sub hl [0, 1, 2, 4, 5, 6] rfl)
                · refine lv_if_eq (tgt := 83) hx hb dX6_teach_69 (by decide) (fun _ => ?_) (fun h9 => absurd (by decide) h9)
                  refine lv_iconst (v := 0) hx hb dX6_teach_83 (by decide) ?_
                  refine lv_istore (lv' := [(6, .int 0), (5, .int (nI j_20)), (4, .int x4_22), (3, .int x3_21), (0, .ref qm), (1, .int (nI k_4)), (2, .int (nI k_10))]) hx hb dX6_teach_84 hl (by decide) rfl (fun ls => ?_)
                  clear hl
                  intro hl
                  refine lv_iload hx hb dX6_teach_86 (lv_at hl 0 rfl) ?_
                  refine lv_iload hx hb dX6_teach_88 (lv_at hl 2 rfl) ?_
                  refine lv_icmp_le (tgt := 100) hx hb dX6_teach_90 (by decide) (fun c_38 => ?_) (fun c_38 => ?_)
                  · refine lv_iinc (v := nI (j_20 + 1)) (lv' := [(5, .int (nI (j_20 + 1))), (6, .int 0), (4, .int x4_22), (3, .int x3_21), (0, .ref qm), (1, .int (nI k_4)), (2, .int (nI k_10))]) hx hb dX6_teach_100 hl (k := 1) rfl (nI_1 _) (by decide) rfl (fun ls => ?_)
                    clear hl
                    intro hl
                    refine lv_goto (tgt := 48) hx hb dX6_teach_103 (by decide) ?_
                    exact ih_19 (j_20 + 1) x3_21 x4_22 (by omega) (by omega) _ _ _ hP hD hS (lv_sub hl [0, 2, 3, 4, 5, 6] rfl)
                  · refine lv_iload hx hb dX6_teach_93 (lv_at hl 1 rfl) ?_
                    refine lv_istore_n (lv' := [(3, .int (nI j_20)), (6, .int 0), (5, .int (nI j_20)), (4, .int x4_22), (0, .ref qm), (1, .int (nI k_4)), (2, .int (nI k_10))]) hx hb dX6_teach_95 rfl hl (by decide) rfl (fun ls => ?_)
                    clear hl
                    intro hl
                    refine lv_iload hx hb dX6_teach_96 (lv_at hl 1 rfl) ?_
                    refine lv_istore (lv' := [(4, .int 0), (3, .int (nI j_20)), (6, .int 0), (5, .int (nI j_20)), (0, .ref qm), (1, .int (nI k_4)), (2, .int (nI k_10))]) hx hb dX6_teach_98 hl (by decide) rfl (fun ls => ?_)
                    clear hl
                    intro hl
                    refine lv_iinc (v := nI (j_20 + 1)) (lv' := [(5, .int (nI (j_20 + 1))), (4, .int 0), (3, .int (nI j_20)), (6, .int 0), (0, .ref qm), (1, .int (nI k_4)), (2, .int (nI k_10))]) hx hb dX6_teach_100 hl (k := 3) rfl (nI_1 _) (by decide) rfl (fun ls => ?_)
                    clear hl
                    intro hl
                    refine lv_goto (tgt := 48) hx hb dX6_teach_103 (by decide) ?_
                    exact ih_19 (j_20 + 1) (nI j_20) 0 (by omega) (by omega) _ _ _ hP hD hS (lv_sub hl [0, 1, 2, 4, 5, 6] rfl)
        exact lp_17 ((8 - 0) + 1) 0 (-1) 0 (Nat.lt_succ_self _) (Nat.zero_le _) _ _ ls hP hD hS (lv_sub hl [0, 1, 2, 3, 4, 5] rfl)
      · refine lv_if_ne (tgt := 40) hx hb dX6_teach_30 (by decide) (fun h9 => absurd (by decide) h9) (fun _ => ?_)
        refine lv_aload_n hx hb dX6_teach_33 rfl (lv_at hl 0 rfl) ?_
        refine lv_bipush (v := (-5)) hx hb dX6_teach_34 (by decide) ?_
        refine cVi (As := [.int (-5)]) (rest := []) (b := qm) (q := (RX6, TX6, 35)) ⟨hx, hb, hml, hown, hts⟩ (c_X6_refuse5 l G cy (s.heap).size qm (.ref qmh) (.ref qmo) (.ref qmz) (.ref qmR) (.ref qmv) (.ref qmk) (.ref qma) (.ref qmt) (.int (nI kZ)) qmr tA qmB qmO qmK iEn iTk (ov uP) (ov uU) (.int (nI kAt)) (.int iTo) (.int iFr) (.long JFi) (.int iFa) (.ref qm3) (.int iSt) iLv iWs vLa (.ref qmu) (.ref qmy) (.ref qmb) (.ref qms) (.int iOm) fMr) L_X6_91 hN hP hD hS hA [0, 28] [false, true, true, true, true, true, true, true, true, true, true, true, true, true, true, true, true, true, true, true, true, true, true, true, true, true, true, true, false] rfl (by decide +kernel) rfl 0 5 rfl rfl rfl ⟨Nat.le_of_ble_eq_true rfl, Nat.le_of_ble_eq_true rfl⟩ hl.1 (Nat.le_of_ble_eq_true rfl) dX6_teach_36 ⟨Nat.le_of_ble_eq_true rfl, Nat.le_of_ble_eq_true rfl⟩ (fun r_40 u_42 H locs h_41 => ?_)
        clear hP hD hS
        intro hP hD hS
        obtain ⟨fX_43, rfl, h_41⟩ := h_41
        have hPD := pd_as [zzG cy 3 qmB rB, zzI cy (rB 0) 4 (bkR tA 0), zzI cy (rB 1) 4 (bkR tA 1), zzI cy (rB 2) 4 (bkR tA 2), zzI cy (rB 3) 4 (bkR tA 3), zzI cy (rB 4) 4 (bkR tA 4), zzI cy (rB 5) 4 (bkR tA 5), zzI cy (rB 6) 4 (bkR tA 6), zzI cy (rB 7) 4 (bkR tA 7), zzG cy 3 qmO rO, zzI cy (rO 0) 5 (onR tA 0), zzI cy (rO 1) 5 (onR tA 1), zzI cy (rO 2) 5 (onR tA 2), zzI cy (rO 3) 5 (onR tA 3), zzI cy (rO 4) 5 (onR tA 4), zzI cy (rO 5) 5 (onR tA 5), zzI cy (rO 6) 5 (onR tA 6), zzI cy (rO 7) 5 (onR tA 7), zzG cy 3 qmK rK, zzI cy (rK 0) 8 (T_kn tA 0), zzI cy (rK 1) 8 (T_kn tA 1), zzI cy (rK 2) 8 (T_kn tA 2), zzI cy (rK 3) 8 (T_kn tA 3), zzI cy (rK 4) 8 (T_kn tA 4), zzI cy (rK 5) 8 (T_kn tA 5), zzI cy (rK 6) 8 (T_kn tA 6), zzI cy (rK 7) 8 (T_kn tA 7), zzO qm 5 [.ref qmh, .ref qmo, .ref qmz, .ref qmR, .ref qmv, .ref qmk, .ref qma, .ref qmt, .int (nI kZ), .ref qmr, .int (nI (T_nb tA)), .ref qmB, .int (nI (T_np tA)), .ref qmO, .ref qmK, .int iEn, .int iTk, .int (T_sd tA), ov uP, ov uU, .int (nI kAt), .int iTo, .int iFr, .long JFi, .int iFa, .ref qm3, .int iSt, .int iLv, .int iWs, vLa, .ref qmu, .ref qmy, .ref qmb, .ref qms, .int iOm], zzI cy qmr 8 fX_43] hP hD rfl
        clear hP hD
        obtain ⟨hP, hD⟩ := hPD
        subst h_41
        exact endW (u := [zzO qm 5 [.ref qmh, .ref qmo, .ref qmz, .ref qmR, .ref qmv, .ref qmk, .ref qma, .ref qmt, .int (nI kZ), .ref qmr, .int (nI (T_nb tA)), .ref qmB, .int (nI (T_np tA)), .ref qmO, .ref qmK, .int iEn, .int iTk, .int (T_sd tA), ov uP, ov uU, .int (nI kAt), .int iTo, .int iFr, .long JFi, .int iFa, .ref qm3, .int iSt, .int iLv, .int iWs, vLa, .ref qmu, .ref qmy, .ref qmb, .ref qms, .int iOm], zzG cy 3 qmB rB, zzI cy (rB 0) 4 (bkR tA 0), zzI cy (rB 1) 4 (bkR tA 1), zzI cy (rB 2) 4 (bkR tA 2), zzI cy (rB 3) 4 (bkR tA 3), zzI cy (rB 4) 4 (bkR tA 4), zzI cy (rB 5) 4 (bkR tA 5), zzI cy (rB 6) 4 (bkR tA 6), zzI cy (rB 7) 4 (bkR tA 7), zzG cy 3 qmO rO, zzI cy (rO 0) 5 (onR tA 0), zzI cy (rO 1) 5 (onR tA 1), zzI cy (rO 2) 5 (onR tA 2), zzI cy (rO 3) 5 (onR tA 3), zzI cy (rO 4) 5 (onR tA 4), zzI cy (rO 5) 5 (onR tA 5), zzI cy (rO 6) 5 (onR tA 6), zzI cy (rO 7) 5 (onR tA 7), zzG cy 3 qmK rK, zzI cy (rK 0) 8 (T_kn tA 0), zzI cy (rK 1) 8 (T_kn tA 1), zzI cy (rK 2) 8 (T_kn tA 2), zzI cy (rK 3) 8 (T_kn tA 3), zzI cy (rK 4) 8 (T_kn tA 4), zzI cy (rK 5) 8 (T_kn tA 5), zzI cy (rK 6) 8 (T_kn tA 6), zzI cy (rK 7) 8 (T_kn tA 7), zzI cy qmr 8 fX_43]) hx hb hr hlocks rfl (hP.sub [27, 0, 1, 2, 3, 4, 5, 6, 7, 8, 9, 10, 11, 12, 13, 14, 15, 16, 17, 18, 19, 20, 21, 22, 23, 24, 25, 26, 28] rfl) (hD.sub [27, 0, 1, 2, 3, 4, 5, 6, 7, 8, 9, 10, 11, 12, 13, 14, 15, 16, 17, 18, 19, 20, 21, 22, 23, 24, 25, 26, 28] (by decide +kernel) rfl) hS ⟨fX_43, rfl, trivial⟩ dX6_teach_39
    · refine lv_if_ne (tgt := 25) hx hb dX6_teach_15 (by decide) (fun h9 => absurd (by decide) h9) (fun _ => ?_)
      refine lv_aload_n hx hb dX6_teach_18 rfl (lv_at hl 0 rfl) ?_
      refine lv_bipush (v := (-2)) hx hb dX6_teach_19 (by decide) ?_
      refine cVi (As := [.int (-2)]) (rest := []) (b := qm) (q := (RX6, TX6, 35)) ⟨hx, hb, hml, hown, hts⟩ (c_X6_refuse2 l G cy (s.heap).size qm (.ref qmh) (.ref qmo) (.ref qmz) (.ref qmR) (.ref qmv) (.ref qmk) (.ref qma) (.ref qmt) (.int (nI kZ)) qmr tA qmB qmO qmK iEn iTk (ov uP) (ov uU) (.int (nI kAt)) (.int iTo) (.int iFr) (.long JFi) (.int iFa) (.ref qm3) (.int iSt) iLv iWs vLa (.ref qmu) (.ref qmy) (.ref qmb) (.ref qms) (.int iOm) fMr) L_X6_91 hN hP hD hS hA [0, 28] [false, true, true, true, true, true, true, true, true, true, true, true, true, true, true, true, true, true, true, true, true, true, true, true, true, true, true, true, false] rfl (by decide +kernel) rfl 0 5 rfl rfl rfl ⟨Nat.le_of_ble_eq_true rfl, Nat.le_of_ble_eq_true rfl⟩ hl.1 (Nat.le_of_ble_eq_true rfl) dX6_teach_21 ⟨Nat.le_of_ble_eq_true rfl, Nat.le_of_ble_eq_true rfl⟩ (fun r_45 u_47 H locs h_46 => ?_)
      clear hP hD hS
      intro hP hD hS
      obtain ⟨fX_48, rfl, h_46⟩ := h_46
      have hPD := pd_as [zzG cy 3 qmB rB, zzI cy (rB 0) 4 (bkR tA 0), zzI cy (rB 1) 4 (bkR tA 1), zzI cy (rB 2) 4 (bkR tA 2), zzI cy (rB 3) 4 (bkR tA 3), zzI cy (rB 4) 4 (bkR tA 4), zzI cy (rB 5) 4 (bkR tA 5), zzI cy (rB 6) 4 (bkR tA 6), zzI cy (rB 7) 4 (bkR tA 7), zzG cy 3 qmO rO, zzI cy (rO 0) 5 (onR tA 0), zzI cy (rO 1) 5 (onR tA 1), zzI cy (rO 2) 5 (onR tA 2), zzI cy (rO 3) 5 (onR tA 3), zzI cy (rO 4) 5 (onR tA 4), zzI cy (rO 5) 5 (onR tA 5), zzI cy (rO 6) 5 (onR tA 6), zzI cy (rO 7) 5 (onR tA 7), zzG cy 3 qmK rK, zzI cy (rK 0) 8 (T_kn tA 0), zzI cy (rK 1) 8 (T_kn tA 1), zzI cy (rK 2) 8 (T_kn tA 2), zzI cy (rK 3) 8 (T_kn tA 3), zzI cy (rK 4) 8 (T_kn tA 4), zzI cy (rK 5) 8 (T_kn tA 5), zzI cy (rK 6) 8 (T_kn tA 6), zzI cy (rK 7) 8 (T_kn tA 7), zzO qm 5 [.ref qmh, .ref qmo, .ref qmz, .ref qmR, .ref qmv, .ref qmk, .ref qma, .ref qmt, .int (nI kZ), .ref qmr, .int (nI (T_nb tA)), .ref qmB, .int (nI (T_np tA)), .ref qmO, .ref qmK, .int iEn, .int iTk, .int (T_sd tA), ov uP, ov uU, .int (nI kAt), .int iTo, .int iFr, .long JFi, .int iFa, .ref qm3, .int iSt, .int iLv, .int iWs, vLa, .ref qmu, .ref qmy, .ref qmb, .ref qms, .int iOm], zzI cy qmr 8 fX_48] hP hD rfl
      clear hP hD
      obtain ⟨hP, hD⟩ := hPD
      subst h_46
      exact endW (u := [zzO qm 5 [.ref qmh, .ref qmo, .ref qmz, .ref qmR, .ref qmv, .ref qmk, .ref qma, .ref qmt, .int (nI kZ), .ref qmr, .int (nI (T_nb tA)), .ref qmB, .int (nI (T_np tA)), .ref qmO, .ref qmK, .int iEn, .int iTk, .int (T_sd tA), ov uP, ov uU, .int (nI kAt), .int iTo, .int iFr, .long JFi, .int iFa, .ref qm3, .int iSt, .int iLv, .int iWs, vLa, .ref qmu, .ref qmy, .ref qmb, .ref qms, .int iOm], zzG cy 3 qmB rB, zzI cy (rB 0) 4 (bkR tA 0), zzI cy (rB 1) 4 (bkR tA 1), zzI cy (rB 2) 4 (bkR tA 2), zzI cy (rB 3) 4 (bkR tA 3), zzI cy (rB 4) 4 (bkR tA 4), zzI cy (rB 5) 4 (bkR tA 5), zzI cy (rB 6) 4 (bkR tA 6), zzI cy (rB 7) 4 (bkR tA 7), zzG cy 3 qmO rO, zzI cy (rO 0) 5 (onR tA 0), zzI cy (rO 1) 5 (onR tA 1), zzI cy (rO 2) 5 (onR tA 2), zzI cy (rO 3) 5 (onR tA 3), zzI cy (rO 4) 5 (onR tA 4), zzI cy (rO 5) 5 (onR tA 5), zzI cy (rO 6) 5 (onR tA 6), zzI cy (rO 7) 5 (onR tA 7), zzG cy 3 qmK rK, zzI cy (rK 0) 8 (T_kn tA 0), zzI cy (rK 1) 8 (T_kn tA 1), zzI cy (rK 2) 8 (T_kn tA 2), zzI cy (rK 3) 8 (T_kn tA 3), zzI cy (rK 4) 8 (T_kn tA 4), zzI cy (rK 5) 8 (T_kn tA 5), zzI cy (rK 6) 8 (T_kn tA 6), zzI cy (rK 7) 8 (T_kn tA 7), zzI cy qmr 8 fX_48]) hx hb hr hlocks rfl (hP.sub [27, 0, 1, 2, 3, 4, 5, 6, 7, 8, 9, 10, 11, 12, 13, 14, 15, 16, 17, 18, 19, 20, 21, 22, 23, 24, 25, 26, 28] rfl) (hD.sub [27, 0, 1, 2, 3, 4, 5, 6, 7, 8, 9, 10, 11, 12, 13, 14, 15, 16, 17, 18, 19, 20, 21, 22, 23, 24, 25, 26, 28] (by decide +kernel) rfl) hS ⟨fX_48, rfl, trivial⟩ dX6_teach_24
  · refine lv_if_eq (tgt := 18) hx hb dX6_teach_6 (by decide) (fun _ => ?_) (fun h9 => absurd (by decide) h9)
    refine lv_aload_n hx hb dX6_teach_18 rfl (lv_at hl 0 rfl) ?_
    refine lv_bipush (v := (-2)) hx hb dX6_teach_19 (by decide) ?_
    refine cVi (As := [.int (-2)]) (rest := []) (b := qm) (q := (RX6, TX6, 35)) ⟨hx, hb, hml, hown, hts⟩ (c_X6_refuse2 l G cy (s.heap).size qm (.ref qmh) (.ref qmo) (.ref qmz) (.ref qmR) (.ref qmv) (.ref qmk) (.ref qma) (.ref qmt) (.int (nI kZ)) qmr tA qmB qmO qmK iEn iTk (ov uP) (ov uU) (.int (nI kAt)) (.int iTo) (.int iFr) (.long JFi) (.int iFa) (.ref qm3) (.int iSt) iLv iWs vLa (.ref qmu) (.ref qmy) (.ref qmb) (.ref qms) (.int iOm) fMr) L_X6_91 hN hP hD hS hA [0, 28] [false, true, true, true, true, true, true, true, true, true, true, true, true, true, true, true, true, true, true, true, true, true, true, true, true, true, true, true, false] rfl (by decide +kernel) rfl 0 5 rfl rfl rfl ⟨Nat.le_of_ble_eq_true rfl, Nat.le_of_ble_eq_true rfl⟩ hl.1 (Nat.le_of_ble_eq_true rfl) dX6_teach_21 ⟨Nat.le_of_ble_eq_true rfl, Nat.le_of_ble_eq_true rfl⟩ (fun r_50 u_52 H locs h_51 => ?_)
    clear hP hD hS
    intro hP hD hS
    obtain ⟨fX_53, rfl, h_51⟩ := h_51
    have hPD := pd_as [zzG cy 3 qmB rB, zzI cy (rB 0) 4 (bkR tA 0), zzI cy (rB 1) 4 (bkR tA 1), zzI cy (rB 2) 4 (bkR tA 2), zzI cy (rB 3) 4 (bkR tA 3), zzI cy (rB 4) 4 (bkR tA 4), zzI cy (rB 5) 4 (bkR tA 5), zzI cy (rB 6) 4 (bkR tA 6), zzI cy (rB 7) 4 (bkR tA 7), zzG cy 3 qmO rO, zzI cy (rO 0) 5 (onR tA 0), zzI cy (rO 1) 5 (onR tA 1), zzI cy (rO 2) 5 (onR tA 2), zzI cy (rO 3) 5 (onR tA 3), zzI cy (rO 4) 5 (onR tA 4), zzI cy (rO 5) 5 (onR tA 5), zzI cy (rO 6) 5 (onR tA 6), zzI cy (rO 7) 5 (onR tA 7), zzG cy 3 qmK rK, zzI cy (rK 0) 8 (T_kn tA 0), zzI cy (rK 1) 8 (T_kn tA 1), zzI cy (rK 2) 8 (T_kn tA 2), zzI cy (rK 3) 8 (T_kn tA 3), zzI cy (rK 4) 8 (T_kn tA 4), zzI cy (rK 5) 8 (T_kn tA 5), zzI cy (rK 6) 8 (T_kn tA 6), zzI cy (rK 7) 8 (T_kn tA 7), zzO qm 5 [.ref qmh, .ref qmo, .ref qmz, .ref qmR, .ref qmv, .ref qmk, .ref qma, .ref qmt, .int (nI kZ), .ref qmr, .int (nI (T_nb tA)), .ref qmB, .int (nI (T_np tA)), .ref qmO, .ref qmK, .int iEn, .int iTk, .int (T_sd tA), ov uP, ov uU, .int (nI kAt), .int iTo, .int iFr, .long JFi, .int iFa, .ref qm3, .int iSt, .int iLv, .int iWs, vLa, .ref qmu, .ref qmy, .ref qmb, .ref qms, .int iOm], zzI cy qmr 8 fX_53] hP hD rfl
    clear hP hD
    obtain ⟨hP, hD⟩ := hPD
    subst h_51
    exact endW (u := [zzO qm 5 [.ref qmh, .ref qmo, .ref qmz, .ref qmR, .ref qmv, .ref qmk, .ref qma, .ref qmt, .int (nI kZ), .ref qmr, .int (nI (T_nb tA)), .ref qmB, .int (nI (T_np tA)), .ref qmO, .ref qmK, .int iEn, .int iTk, .int (T_sd tA), ov uP, ov uU, .int (nI kAt), .int iTo, .int iFr, .long JFi, .int iFa, .ref qm3, .int iSt, .int iLv, .int iWs, vLa, .ref qmu, .ref qmy, .ref qmb, .ref qms, .int iOm], zzG cy 3 qmB rB, zzI cy (rB 0) 4 (bkR tA 0), zzI cy (rB 1) 4 (bkR tA 1), zzI cy (rB 2) 4 (bkR tA 2), zzI cy (rB 3) 4 (bkR tA 3), zzI cy (rB 4) 4 (bkR tA 4), zzI cy (rB 5) 4 (bkR tA 5), zzI cy (rB 6) 4 (bkR tA 6), zzI cy (rB 7) 4 (bkR tA 7), zzG cy 3 qmO rO, zzI cy (rO 0) 5 (onR tA 0), zzI cy (rO 1) 5 (onR tA 1), zzI cy (rO 2) 5 (onR tA 2), zzI cy (rO 3) 5 (onR tA 3), zzI cy (rO 4) 5 (onR tA 4), zzI cy (rO 5) 5 (onR tA 5), zzI cy (rO 6) 5 (onR tA 6), zzI cy (rO 7) 5 (onR tA 7), zzG cy 3 qmK rK, zzI cy (rK 0) 8 (T_kn tA 0), zzI cy (rK 1) 8 (T_kn tA 1), zzI cy (rK 2) 8 (T_kn tA 2), zzI cy (rK 3) 8 (T_kn tA 3), zzI cy (rK 4) 8 (T_kn tA 4), zzI cy (rK 5) 8 (T_kn tA 5), zzI cy (rK 6) 8 (T_kn tA 6), zzI cy (rK 7) 8 (T_kn tA 7), zzI cy qmr 8 fX_53]) hx hb hr hlocks rfl (hP.sub [27, 0, 1, 2, 3, 4, 5, 6, 7, 8, 9, 10, 11, 12, 13, 14, 15, 16, 17, 18, 19, 20, 21, 22, 23, 24, 25, 26, 28] rfl) (hD.sub [27, 0, 1, 2, 3, 4, 5, 6, 7, 8, 9, 10, 11, 12, 13, 14, 15, 16, 17, 18, 19, 20, 21, 22, 23, 24, 25, 26, 28] (by decide +kernel) rfl) hS ⟨fX_53, rfl, trivial⟩ dX6_teach_24
set_option maxHeartbeats 4000000 in
set_option maxRecDepth 100000 in
theorem p_X6_value (l : Launch) (G : va_G) (cy : Nat → ClassId) (qm : Nat) (qmh : Nat) (qmo : Nat) (qmz : Nat) (qmR : Nat) (qmv : Nat) (qmk : Nat) (qma : Nat) (qmt : Nat) (kZ : Nat) (qmr : Nat) (tA : TA) (qmB : Nat) (qmO : Nat) (qmK : Nat) (iEn : Int32) (iTk : Int32) (uP : UM) (uU : UM) (kAt : Nat) (iTo : Int32) (iFr : Int32) (JFi : Int64) (iFa : Int32) (qm3 : Nat) (iSt : Int32) (iLv : Int32) (iWs : Int32) (vLa : Value) (qmu : Nat) (qmy : Nat) (qmb : Nat) (qms : Nat) (iOm : Int32) (rB : Nat → Nat) (rO : Nat → Nat) (rK : Nat → Nat)  (hB : T_nb tA ≤ 8) (hPp : T_np tA ≤ 8) (hTI : TI tA) : MR l yX6_value cX6_value 1 (some .int) 16 G cy [zzO qm 5 [.ref qmh, .ref qmo, .ref qmz, .ref qmR, .ref qmv, .ref qmk, .ref qma, .ref qmt, .int (nI kZ), .ref qmr, .int (nI (T_nb tA)), .ref qmB, .int (nI (T_np tA)), .ref qmO, .ref qmK, .int iEn, .int iTk, .int (T_sd tA), ov uP, ov uU, .int (nI kAt), .int iTo, .int iFr, .long JFi, .int iFa, .ref qm3, .int iSt, .int iLv, .int iWs, vLa, .ref qmu, .ref qmy, .ref qmb, .ref qms, .int iOm], zzG cy 3 qmB rB, zzI cy (rB 0) 4 (bkR tA 0), zzI cy (rB 1) 4 (bkR tA 1), zzI cy (rB 2) 4 (bkR tA 2), zzI cy (rB 3) 4 (bkR tA 3), zzI cy (rB 4) 4 (bkR tA 4), zzI cy (rB 5) 4 (bkR tA 5), zzI cy (rB 6) 4 (bkR tA 6), zzI cy (rB 7) 4 (bkR tA 7), zzG cy 3 qmO rO, zzI cy (rO 0) 5 (onR tA 0), zzI cy (rO 1) 5 (onR tA 1), zzI cy (rO 2) 5 (onR tA 2), zzI cy (rO 3) 5 (onR tA 3), zzI cy (rO 4) 5 (onR tA 4), zzI cy (rO 5) 5 (onR tA 5), zzI cy (rO 6) 5 (onR tA 6), zzI cy (rO 7) 5 (onR tA 7), zzG cy 3 qmK rK, zzI cy (rK 0) 8 (T_kn tA 0), zzI cy (rK 1) 8 (T_kn tA 1), zzI cy (rK 2) 8 (T_kn tA 2), zzI cy (rK 3) 8 (T_kn tA 3), zzI cy (rK 4) 8 (T_kn tA 4), zzI cy (rK 5) 8 (T_kn tA 5), zzI cy (rK 6) 8 (T_kn tA 6), zzI cy (rK 7) 8 (T_kn tA 7)] [.ref qm] (vp_Si (fun r => True)) := by
  refine enR RX6 (by decide) rfl (Nat.le_of_ble_eq_true rfl) (fun p e s m below meth c ls hx hb hml hown hts hr hlocks hP hN hl => ?_)
  have hK := hN.1
  replace hl : lv_has ls 1 [(0, .ref qm)] := hl
  refine lv_aload_n hx hb dX6_value_0 rfl (lv_at hl 0 rfl) ?_
  refine kRi (rV (As := []) (rest := []) (b := qm) ⟨hx, hb, hml, hown, hts⟩ (c_X6_valueNow l G cy qm (.ref qmh) (.ref qmo) (.ref qmz) (.ref qmR) (.ref qmv) (.ref qmk) (.ref qma) (.ref qmt) (.int (nI kZ)) (.ref qmr) tA qmB qmO qmK iEn iTk (ov uP) (ov uU) (.int (nI kAt)) (.int iTo) (.int iFr) (.long JFi) (.int iFa) (.ref qm3) (.int iSt) iLv iWs vLa (.ref qmu) (.ref qmy) (.ref qmb) (.ref qms) (.int iOm) rB rO rK hB hPp) L_X6_122 (preRV (q := (RX6, TX6, 35)) hN hP [0, 1, 2, 3, 4, 5, 6, 7, 8, 9, 10, 11, 12, 13, 14, 15, 16, 17, 18, 19, 20, 21, 22, 23, 24, 25, 26, 27] rfl 0 5 rfl rfl) rfl ⟨Nat.le_of_ble_eq_true rfl, Nat.le_of_ble_eq_true rfl⟩ hl.1 (Nat.le_of_ble_eq_true rfl) dX6_value_1 ⟨Nat.le_of_ble_eq_true rfl, Nat.le_of_ble_eq_true rfl⟩) (fun r_1 h_2 => ?_)
  subst h_2
  exact endR hx hb hr hlocks rfl trivial dX6_value_4
set_option maxHeartbeats 4000000 in
set_option maxRecDepth 100000 in
theorem p_X6_two (l : Launch) (G : va_G) (cy : Nat → ClassId) (sz : Nat) (qm : Nat) (qmh : Nat) (qmo : Nat) (qmz : Nat) (qmR : Nat) (qmv : Nat) (qmk : Nat) (qma : Nat) (qmt : Nat) (kZ : Nat) (qmr : Nat) (tA : TA) (qmB : Nat) (qmO : Nat) (qmK : Nat) (iEn : Int32) (iTk : Int32) (uP : UM) (uU : UM) (kAt : Nat) (iTo : Int32) (iFr : Int32) (JFi : Int64) (iFa : Int32) (qm3 : Nat) (iSt : Int32) (iLv : Int32) (iWs : Int32) (vLa : Value) (qmu : Nat) (qmy : Nat) (qmb : Nat) (qms : Nat) (iOm : Int32) (rB : Nat → Nat) (rO : Nat → Nat) (rK : Nat → Nat) (fMr : Nat → Int32) (iA : Int32) (iB : Int32)  (hB : T_nb tA ≤ 8) (hPp : T_np tA ≤ 8) (hTI : TI tA) : MW l yX6_two cX6_two 3 (some .int) 16 0 0 G cy [zzO qm 5 [.ref qmh, .ref qmo, .ref qmz, .ref qmR, .ref qmv, .ref qmk, .ref qma, .ref qmt, .int (nI kZ), .ref qmr, .int (nI (T_nb tA)), .ref qmB, .int (nI (T_np tA)), .ref qmO, .ref qmK, .int iEn, .int iTk, .int (T_sd tA), ov uP, ov uU, .int (nI kAt), .int iTo, .int iFr, .long JFi, .int iFa, .ref qm3, .int iSt, .int iLv, .int iWs, vLa, .ref qmu, .ref qmy, .ref qmb, .ref qms, .int iOm], zzG cy 3 qmB rB, zzI cy (rB 0) 4 (bkR tA 0), zzI cy (rB 1) 4 (bkR tA 1), zzI cy (rB 2) 4 (bkR tA 2), zzI cy (rB 3) 4 (bkR tA 3), zzI cy (rB 4) 4 (bkR tA 4), zzI cy (rB 5) 4 (bkR tA 5), zzI cy (rB 6) 4 (bkR tA 6), zzI cy (rB 7) 4 (bkR tA 7), zzG cy 3 qmO rO, zzI cy (rO 0) 5 (onR tA 0), zzI cy (rO 1) 5 (onR tA 1), zzI cy (rO 2) 5 (onR tA 2), zzI cy (rO 3) 5 (onR tA 3), zzI cy (rO 4) 5 (onR tA 4), zzI cy (rO 5) 5 (onR tA 5), zzI cy (rO 6) 5 (onR tA 6), zzI cy (rO 7) 5 (onR tA 7), zzG cy 3 qmK rK, zzI cy (rK 0) 8 (T_kn tA 0), zzI cy (rK 1) 8 (T_kn tA 1), zzI cy (rK 2) 8 (T_kn tA 2), zzI cy (rK 3) 8 (T_kn tA 3), zzI cy (rK 4) 8 (T_kn tA 4), zzI cy (rK 5) 8 (T_kn tA 5), zzI cy (rK 6) 8 (T_kn tA 6), zzI cy (rK 7) 8 (T_kn tA 7), zzI cy qmr 8 fMr] sz [.ref qm, .int iA, .int iB] (Wi G (fun r u => ∃ (fNr : Nat → Int32), u = [zzO qm 5 [.ref qmh, .ref qmo, .ref qmz, .ref qmR, .ref qmv, .ref qmk, .ref qma, .ref qmt, .int (nI kZ), .ref qmr, .int (nI (T_nb tA)), .ref qmB, .int (nI (T_np tA)), .ref qmO, .ref qmK, .int iEn, .int iTk, .int (T_sd tA), ov uP, ov uU, .int (nI kAt), .int iTo, .int iFr, .long JFi, .int iFa, .ref qm3, .int iSt, .int iLv, .int iWs, vLa, .ref qmu, .ref qmy, .ref qmb, .ref qms, .int iOm], zzG cy 3 qmB rB, zzI cy (rB 0) 4 (bkR tA 0), zzI cy (rB 1) 4 (bkR tA 1), zzI cy (rB 2) 4 (bkR tA 2), zzI cy (rB 3) 4 (bkR tA 3), zzI cy (rB 4) 4 (bkR tA 4), zzI cy (rB 5) 4 (bkR tA 5), zzI cy (rB 6) 4 (bkR tA 6), zzI cy (rB 7) 4 (bkR tA 7), zzG cy 3 qmO rO, zzI cy (rO 0) 5 (onR tA 0), zzI cy (rO 1) 5 (onR tA 1), zzI cy (rO 2) 5 (onR tA 2), zzI cy (rO 3) 5 (onR tA 3), zzI cy (rO 4) 5 (onR tA 4), zzI cy (rO 5) 5 (onR tA 5), zzI cy (rO 6) 5 (onR tA 6), zzI cy (rO 7) 5 (onR tA 7), zzG cy 3 qmK rK, zzI cy (rK 0) 8 (T_kn tA 0), zzI cy (rK 1) 8 (T_kn tA 1), zzI cy (rK 2) 8 (T_kn tA 2), zzI cy (rK 3) 8 (T_kn tA 3), zzI cy (rK 4) 8 (T_kn tA 4), zzI cy (rK 5) 8 (T_kn tA 5), zzI cy (rK 6) 8 (T_kn tA 6), zzI cy (rK 7) 8 (T_kn tA 7), zzI cy qmr 8 fNr] ∧ (True))) := by
  refine enW RX6 (by decide) rfl (Nat.le_of_ble_eq_true rfl) (fun p e s m below meth c ls A hx hb hml hown hts hr hlocks hP hN hl hin hD hA hS => ?_)
  have hin : meth.name = _ := hin
  have hK := hN.1
  replace hl : lv_has ls 3 [(0, .ref qm), (1, .int iA), (2, .int iB)] := hl
  refine lv_aload_n hx hb dX6_two_0 rfl (lv_at hl 0 rfl) ?_
  refine lv_iload_n hx hb dX6_two_1 rfl (lv_at hl 1 rfl) ?_
  refine lv_i2l (v := iA.toInt64) hx hb dX6_two_2 rfl ?_
  refine kRi (rV (As := [.long iA.toInt64]) (rest := []) (b := qm) ⟨hx, hb, hml, hown, hts⟩ (c_X6_isOne l G cy qm (.ref qmh) (.ref qmo) (.ref qmz) (.ref qmR) (.ref qmv) (.ref qmk) (.ref qma) (.ref qmt) (.int (nI kZ)) (.ref qmr) tA qmB qmO qmK iEn iTk (ov uP) (ov uU) (.int (nI kAt)) (.int iTo) (.int iFr) (.long JFi) (.int iFa) (.ref qm3) (.int iSt) iLv iWs vLa (.ref qmu) (.ref qmy) (.ref qmb) (.ref qms) (.int iOm) iA hPp) L_X6_236 (preRV (q := (RX6, TX6, 35)) hN hP [0] rfl 0 5 rfl rfl) rfl ⟨Nat.le_of_ble_eq_true rfl, Nat.le_of_ble_eq_true rfl⟩ hl.1 (Nat.le_of_ble_eq_true rfl) dX6_two_3 ⟨Nat.le_of_ble_eq_true rfl, Nat.le_of_ble_eq_true rfl⟩) (fun r_1 h_2 => ?_)
  rcases h_2 with ⟨rfl, h_3⟩ | ⟨rfl, h_3⟩
  · obtain ⟨k_4, hk_5, rfl⟩ := h_3
    refine lv_if_eq (tgt := 32) hx hb dX6_two_6 (by decide) (fun h9 => absurd h9 (by decide)) (fun _ => ?_)
    refine lv_aload_n hx hb dX6_two_9 rfl (lv_at hl 0 rfl) ?_
    refine lv_iload_n hx hb dX6_two_10 rfl (lv_at hl 2 rfl) ?_
    refine lv_i2l (v := iB.toInt64) hx hb dX6_two_11 rfl ?_
    refine kRi (rV (As := [.long iB.toInt64]) (rest := []) (b := qm) ⟨hx, hb, hml, hown, hts⟩ (c_X6_isOne l G cy qm (.ref qmh) (.ref qmo) (.ref qmz) (.ref qmR) (.ref qmv) (.ref qmk) (.ref qma) (.ref qmt) (.int (nI kZ)) (.ref qmr) tA qmB qmO qmK iEn iTk (ov uP) (ov uU) (.int (nI kAt)) (.int iTo) (.int iFr) (.long JFi) (.int iFa) (.ref qm3) (.int iSt) iLv iWs vLa (.ref qmu) (.ref qmy) (.ref qmb) (.ref qms) (.int iOm) iB hPp) L_X6_236 (preRV (q := (RX6, TX6, 35)) hN hP [0] rfl 0 5 rfl rfl) rfl ⟨Nat.le_of_ble_eq_true rfl, Nat.le_of_ble_eq_true rfl⟩ hl.1 (Nat.le_of_ble_eq_true rfl) dX6_two_12 ⟨Nat.le_of_ble_eq_true rfl, Nat.le_of_ble_eq_true rfl⟩) (fun r_7 h_8 => ?_)
    rcases h_8 with ⟨rfl, h_9⟩ | ⟨rfl, h_9⟩
    · obtain ⟨k_10, hk_11, rfl⟩ := h_9
      refine lv_if_eq (tgt := 32) hx hb dX6_two_15 (by decide) (fun h9 => absurd h9 (by decide)) (fun _ => ?_)
      refine lv_aload_n hx hb dX6_two_18 rfl (lv_at hl 0 rfl) ?_
      refine lv_iconst (v := 1) hx hb dX6_two_19 (by decide) ?_
      refine lv_iload_n hx hb dX6_two_20 rfl (lv_at hl 1 rfl) ?_
      refine lv_ishl hx hb dX6_two_21 ?_
      refine lv_iconst (v := 1) hx hb dX6_two_22 (by decide) ?_
      refine lv_iload_n hx hb dX6_two_23 rfl (lv_at hl 2 rfl) ?_
      refine lv_ishl hx hb dX6_two_24 ?_
      refine lv_ior hx hb dX6_two_25 ?_
      refine kRi (rV (As := [.int ((1 <<< ((nI k_4) &&& 31)) ||| (1 <<< ((nI k_10) &&& 31)))]) (rest := []) (b := qm) ⟨hx, hb, hml, hown, hts⟩ (c_X6_valueOf l G cy qm (.ref qmh) (.ref qmo) (.ref qmz) (.ref qmR) (.ref qmv) (.ref qmk) (.ref qma) (.ref qmt) (.int (nI kZ)) (.ref qmr) tA qmB qmO qmK iEn iTk (ov uP) (ov uU) (.int (nI kAt)) (.int iTo) (.int iFr) (.long JFi) (.int iFa) (.ref qm3) (.int iSt) iLv iWs vLa (.ref qmu) (.ref qmy) (.ref qmb) (.ref qms) (.int iOm) rB rO rK ((1 <<< ((nI k_4) &&& 31)) ||| (1 <<< ((nI k_10) &&& 31))) hB hPp) L_X6_266 (preRV (q := (RX6, TX6, 35)) hN hP [0, 1, 2, 3, 4, 5, 6, 7, 8, 9, 10, 11, 12, 13, 14, 15, 16, 17, 18, 19, 20, 21, 22, 23, 24, 25, 26, 27] rfl 0 5 rfl rfl) rfl ⟨Nat.le_of_ble_eq_true rfl, Nat.le_of_ble_eq_true rfl⟩ hl.1 (Nat.le_of_ble_eq_true rfl) dX6_two_26 ⟨Nat.le_of_ble_eq_true rfl, Nat.le_of_ble_eq_true rfl⟩) (fun r_13 h_14 => ?_)
      subst h_14
      refine lv_goto (tgt := 38) hx hb dX6_two_29 (by decide) ?_
      exact endW (u := [zzO qm 5 [.ref qmh, .ref qmo, .ref qmz, .ref qmR, .ref qmv, .ref qmk, .ref qma, .ref qmt, .int (nI kZ), .ref qmr, .int (nI (T_nb tA)), .ref qmB, .int (nI (T_np tA)), .ref qmO, .ref qmK, .int iEn, .int iTk, .int (T_sd tA), ov uP, ov uU, .int (nI kAt), .int iTo, .int iFr, .long JFi, .int iFa, .ref qm3, .int iSt, .int iLv, .int iWs, vLa, .ref qmu, .ref qmy, .ref qmb, .ref qms, .int iOm], zzG cy 3 qmB rB, zzI cy (rB 0) 4 (bkR tA 0), zzI cy (rB 1) 4 (bkR tA 1), zzI cy (rB 2) 4 (bkR tA 2), zzI cy (rB 3) 4 (bkR tA 3), zzI cy (rB 4) 4 (bkR tA 4), zzI cy (rB 5) 4 (bkR tA 5), zzI cy (rB 6) 4 (bkR tA 6), zzI cy (rB 7) 4 (bkR tA 7), zzG cy 3 qmO rO, zzI cy (rO 0) 5 (onR tA 0), zzI cy (rO 1) 5 (onR tA 1), zzI cy (rO 2) 5 (onR tA 2), zzI cy (rO 3) 5 (onR tA 3), zzI cy (rO 4) 5 (onR tA 4), zzI cy (rO 5) 5 (onR tA 5), zzI cy (rO 6) 5 (onR tA 6), zzI cy (rO 7) 5 (onR tA 7), zzG cy 3 qmK rK, zzI cy (rK 0) 8 (T_kn tA 0), zzI cy (rK 1) 8 (T_kn tA 1), zzI cy (rK 2) 8 (T_kn tA 2), zzI cy (rK 3) 8 (T_kn tA 3), zzI cy (rK 4) 8 (T_kn tA 4), zzI cy (rK 5) 8 (T_kn tA 5), zzI cy (rK 6) 8 (T_kn tA 6), zzI cy (rK 7) 8 (T_kn tA 7), zzI cy qmr 8 fMr]) hx hb hr hlocks rfl (hP.sub [0, 1, 2, 3, 4, 5, 6, 7, 8, 9, 10, 11, 12, 13, 14, 15, 16, 17, 18, 19, 20, 21, 22, 23, 24, 25, 26, 27, 28] rfl) (hD.sub [0, 1, 2, 3, 4, 5, 6, 7, 8, 9, 10, 11, 12, 13, 14, 15, 16, 17, 18, 19, 20, 21, 22, 23, 24, 25, 26, 27, 28] (by decide +kernel) rfl) hS ⟨fMr, rfl, trivial⟩ dX6_two_38
    · refine lv_if_eq (tgt := 32) hx hb dX6_two_15 (by decide) (fun _ => ?_) (fun h9 => absurd (by decide) h9)
      refine lv_aload_n hx hb dX6_two_32 rfl (lv_at hl 0 rfl) ?_
      refine lv_bipush (v := (-2)) hx hb dX6_two_33 (by decide) ?_
      refine cVi (As := [.int (-2)]) (rest := []) (b := qm) (q := (RX6, TX6, 35)) ⟨hx, hb, hml, hown, hts⟩ (c_X6_refuse2 l G cy (s.heap).size qm (.ref qmh) (.ref qmo) (.ref qmz) (.ref qmR) (.ref qmv) (.ref qmk) (.ref qma) (.ref qmt) (.int (nI kZ)) qmr tA qmB qmO qmK iEn iTk (ov uP) (ov uU) (.int (nI kAt)) (.int iTo) (.int iFr) (.long JFi) (.int iFa) (.ref qm3) (.int iSt) iLv iWs vLa (.ref qmu) (.ref qmy) (.ref qmb) (.ref qms) (.int iOm) fMr) L_X6_91 hN hP hD hS hA [0, 28] [false, true, true, true, true, true, true, true, true, true, true, true, true, true, true, true, true, true, true, true, true, true, true, true, true, true, true, true, false] rfl (by decide +kernel) rfl 0 5 rfl rfl rfl ⟨Nat.le_of_ble_eq_true rfl, Nat.le_of_ble_eq_true rfl⟩ hl.1 (Nat.le_of_ble_eq_true rfl) dX6_two_35 ⟨Nat.le_of_ble_eq_true rfl, Nat.le_of_ble_eq_true rfl⟩ (fun r_16 u_18 H locs h_17 => ?_)
      clear hP hD hS
      intro hP hD hS
      obtain ⟨fX_19, rfl, h_17⟩ := h_17
      have hPD := pd_as [zzG cy 3 qmB rB, zzI cy (rB 0) 4 (bkR tA 0), zzI cy (rB 1) 4 (bkR tA 1), zzI cy (rB 2) 4 (bkR tA 2), zzI cy (rB 3) 4 (bkR tA 3), zzI cy (rB 4) 4 (bkR tA 4), zzI cy (rB 5) 4 (bkR tA 5), zzI cy (rB 6) 4 (bkR tA 6), zzI cy (rB 7) 4 (bkR tA 7), zzG cy 3 qmO rO, zzI cy (rO 0) 5 (onR tA 0), zzI cy (rO 1) 5 (onR tA 1), zzI cy (rO 2) 5 (onR tA 2), zzI cy (rO 3) 5 (onR tA 3), zzI cy (rO 4) 5 (onR tA 4), zzI cy (rO 5) 5 (onR tA 5), zzI cy (rO 6) 5 (onR tA 6), zzI cy (rO 7) 5 (onR tA 7), zzG cy 3 qmK rK, zzI cy (rK 0) 8 (T_kn tA 0), zzI cy (rK 1) 8 (T_kn tA 1), zzI cy (rK 2) 8 (T_kn tA 2), zzI cy (rK 3) 8 (T_kn tA 3), zzI cy (rK 4) 8 (T_kn tA 4), zzI cy (rK 5) 8 (T_kn tA 5), zzI cy (rK 6) 8 (T_kn tA 6), zzI cy (rK 7) 8 (T_kn tA 7), zzO qm 5 [.ref qmh, .ref qmo, .ref qmz, .ref qmR, .ref qmv, .ref qmk, .ref qma, .ref qmt, .int (nI kZ), .ref qmr, .int (nI (T_nb tA)), .ref qmB, .int (nI (T_np tA)), .ref qmO, .ref qmK, .int iEn, .int iTk, .int (T_sd tA), ov uP, ov uU, .int (nI kAt), .int iTo, .int iFr, .long JFi, .int iFa, .ref qm3, .int iSt, .int iLv, .int iWs, vLa, .ref qmu, .ref qmy, .ref qmb, .ref qms, .int iOm], zzI cy qmr 8 fX_19] hP hD rfl
      clear hP hD
      obtain ⟨hP, hD⟩ := hPD
      subst h_17
      exact endW (u := [zzO qm 5 [.ref qmh, .ref qmo, .ref qmz, .ref qmR, .ref qmv, .ref qmk, .ref qma, .ref qmt, .int (nI kZ), .ref qmr, .int (nI (T_nb tA)), .ref qmB, .int (nI (T_np tA)), .ref qmO, .ref qmK, .int iEn, .int iTk, .int (T_sd tA), ov uP, ov uU, .int (nI kAt), .int iTo, .int iFr, .long JFi, .int iFa, .ref qm3, .int iSt, .int iLv, .int iWs, vLa, .ref qmu, .ref qmy, .ref qmb, .ref qms, .int iOm], zzG cy 3 qmB rB, zzI cy (rB 0) 4 (bkR tA 0), zzI cy (rB 1) 4 (bkR tA 1), zzI cy (rB 2) 4 (bkR tA 2), zzI cy (rB 3) 4 (bkR tA 3), zzI cy (rB 4) 4 (bkR tA 4), zzI cy (rB 5) 4 (bkR tA 5), zzI cy (rB 6) 4 (bkR tA 6), zzI cy (rB 7) 4 (bkR tA 7), zzG cy 3 qmO rO, zzI cy (rO 0) 5 (onR tA 0), zzI cy (rO 1) 5 (onR tA 1), zzI cy (rO 2) 5 (onR tA 2), zzI cy (rO 3) 5 (onR tA 3), zzI cy (rO 4) 5 (onR tA 4), zzI cy (rO 5) 5 (onR tA 5), zzI cy (rO 6) 5 (onR tA 6), zzI cy (rO 7) 5 (onR tA 7), zzG cy 3 qmK rK, zzI cy (rK 0) 8 (T_kn tA 0), zzI cy (rK 1) 8 (T_kn tA 1), zzI cy (rK 2) 8 (T_kn tA 2), zzI cy (rK 3) 8 (T_kn tA 3), zzI cy (rK 4) 8 (T_kn tA 4), zzI cy (rK 5) 8 (T_kn tA 5), zzI cy (rK 6) 8 (T_kn tA 6), zzI cy (rK 7) 8 (T_kn tA 7), zzI cy qmr 8 fX_19]) hx hb hr hlocks rfl (hP.sub [27, 0, 1, 2, 3, 4, 5, 6, 7, 8, 9, 10, 11, 12, 13, 14, 15, 16, 17, 18, 19, 20, 21, 22, 23, 24, 25, 26, 28] rfl) (hD.sub [27, 0, 1, 2, 3, 4, 5, 6, 7, 8, 9, 10, 11, 12, 13, 14, 15, 16, 17, 18, 19, 20, 21, 22, 23, 24, 25, 26, 28] (by decide +kernel) rfl) hS ⟨fX_19, rfl, trivial⟩ dX6_two_38
  · refine lv_if_eq (tgt := 32) hx hb dX6_two_6 (by decide) (fun _ => ?_) (fun h9 => absurd (by decide) h9)
    refine lv_aload_n hx hb dX6_two_32 rfl (lv_at hl 0 rfl) ?_
    refine lv_bipush (v := (-2)) hx hb dX6_two_33 (by decide) ?_
    refine cVi (As := [.int (-2)]) (rest := []) (b := qm) (q := (RX6, TX6, 35)) ⟨hx, hb, hml, hown, hts⟩ (c_X6_refuse2 l G cy (s.heap).size qm (.ref qmh) (.ref qmo) (.ref qmz) (.ref qmR) (.ref qmv) (.ref qmk) (.ref qma) (.ref qmt) (.int (nI kZ)) qmr tA qmB qmO qmK iEn iTk (ov uP) (ov uU) (.int (nI kAt)) (.int iTo) (.int iFr) (.long JFi) (.int iFa) (.ref qm3) (.int iSt) iLv iWs vLa (.ref qmu) (.ref qmy) (.ref qmb) (.ref qms) (.int iOm) fMr) L_X6_91 hN hP hD hS hA [0, 28] [false, true, true, true, true, true, true, true, true, true, true, true, true, true, true, true, true, true, true, true, true, true, true, true, true, true, true, true, false] rfl (by decide +kernel) rfl 0 5 rfl rfl rfl ⟨Nat.le_of_ble_eq_true rfl, Nat.le_of_ble_eq_true rfl⟩ hl.1 (Nat.le_of_ble_eq_true rfl) dX6_two_35 ⟨Nat.le_of_ble_eq_true rfl, Nat.le_of_ble_eq_true rfl⟩ (fun r_21 u_23 H locs h_22 => ?_)
    clear hP hD hS
    intro hP hD hS
    obtain ⟨fX_24, rfl, h_22⟩ := h_22
    have hPD := pd_as [zzG cy 3 qmB rB, zzI cy (rB 0) 4 (bkR tA 0), zzI cy (rB 1) 4 (bkR tA 1), zzI cy (rB 2) 4 (bkR tA 2), zzI cy (rB 3) 4 (bkR tA 3), zzI cy (rB 4) 4 (bkR tA 4), zzI cy (rB 5) 4 (bkR tA 5), zzI cy (rB 6) 4 (bkR tA 6), zzI cy (rB 7) 4 (bkR tA 7), zzG cy 3 qmO rO, zzI cy (rO 0) 5 (onR tA 0), zzI cy (rO 1) 5 (onR tA 1), zzI cy (rO 2) 5 (onR tA 2), zzI cy (rO 3) 5 (onR tA 3), zzI cy (rO 4) 5 (onR tA 4), zzI cy (rO 5) 5 (onR tA 5), zzI cy (rO 6) 5 (onR tA 6), zzI cy (rO 7) 5 (onR tA 7), zzG cy 3 qmK rK, zzI cy (rK 0) 8 (T_kn tA 0), zzI cy (rK 1) 8 (T_kn tA 1), zzI cy (rK 2) 8 (T_kn tA 2), zzI cy (rK 3) 8 (T_kn tA 3), zzI cy (rK 4) 8 (T_kn tA 4), zzI cy (rK 5) 8 (T_kn tA 5), zzI cy (rK 6) 8 (T_kn tA 6), zzI cy (rK 7) 8 (T_kn tA 7), zzO qm 5 [.ref qmh, .ref qmo, .ref qmz, .ref qmR, .ref qmv, .ref qmk, .ref qma, .ref qmt, .int (nI kZ), .ref qmr, .int (nI (T_nb tA)), .ref qmB, .int (nI (T_np tA)), .ref qmO, .ref qmK, .int iEn, .int iTk, .int (T_sd tA), ov uP, ov uU, .int (nI kAt), .int iTo, .int iFr, .long JFi, .int iFa, .ref qm3, .int iSt, .int iLv, .int iWs, vLa, .ref qmu, .ref qmy, .ref qmb, .ref qms, .int iOm], zzI cy qmr 8 fX_24] hP hD rfl
    clear hP hD
    obtain ⟨hP, hD⟩ := hPD
    subst h_22
    exact endW (u := [zzO qm 5 [.ref qmh, .ref qmo, .ref qmz, .ref qmR, .ref qmv, .ref qmk, .ref qma, .ref qmt, .int (nI kZ), .ref qmr, .int (nI (T_nb tA)), .ref qmB, .int (nI (T_np tA)), .ref qmO, .ref qmK, .int iEn, .int iTk, .int (T_sd tA), ov uP, ov uU, .int (nI kAt), .int iTo, .int iFr, .long JFi, .int iFa, .ref qm3, .int iSt, .int iLv, .int iWs, vLa, .ref qmu, .ref qmy, .ref qmb, .ref qms, .int iOm], zzG cy 3 qmB rB, zzI cy (rB 0) 4 (bkR tA 0), zzI cy (rB 1) 4 (bkR tA 1), zzI cy (rB 2) 4 (bkR tA 2), zzI cy (rB 3) 4 (bkR tA 3), zzI cy (rB 4) 4 (bkR tA 4), zzI cy (rB 5) 4 (bkR tA 5), zzI cy (rB 6) 4 (bkR tA 6), zzI cy (rB 7) 4 (bkR tA 7), zzG cy 3 qmO rO, zzI cy (rO 0) 5 (onR tA 0), zzI cy (rO 1) 5 (onR tA 1), zzI cy (rO 2) 5 (onR tA 2), zzI cy (rO 3) 5 (onR tA 3), zzI cy (rO 4) 5 (onR tA 4), zzI cy (rO 5) 5 (onR tA 5), zzI cy (rO 6) 5 (onR tA 6), zzI cy (rO 7) 5 (onR tA 7), zzG cy 3 qmK rK, zzI cy (rK 0) 8 (T_kn tA 0), zzI cy (rK 1) 8 (T_kn tA 1), zzI cy (rK 2) 8 (T_kn tA 2), zzI cy (rK 3) 8 (T_kn tA 3), zzI cy (rK 4) 8 (T_kn tA 4), zzI cy (rK 5) 8 (T_kn tA 5), zzI cy (rK 6) 8 (T_kn tA 6), zzI cy (rK 7) 8 (T_kn tA 7), zzI cy qmr 8 fX_24]) hx hb hr hlocks rfl (hP.sub [27, 0, 1, 2, 3, 4, 5, 6, 7, 8, 9, 10, 11, 12, 13, 14, 15, 16, 17, 18, 19, 20, 21, 22, 23, 24, 25, 26, 28] rfl) (hD.sub [27, 0, 1, 2, 3, 4, 5, 6, 7, 8, 9, 10, 11, 12, 13, 14, 15, 16, 17, 18, 19, 20, 21, 22, 23, 24, 25, 26, 28] (by decide +kernel) rfl) hS ⟨fX_24, rfl, trivial⟩ dX6_two_38
set_option maxHeartbeats 4000000 in
set_option maxRecDepth 100000 in
theorem p_X6_youngest (l : Launch) (G : va_G) (cy : Nat → ClassId) (sz : Nat) (qm : Nat) (qmh : Nat) (qmo : Nat) (qmz : Nat) (qmR : Nat) (qmv : Nat) (qmk : Nat) (qma : Nat) (qmt : Nat) (kZ : Nat) (qmr : Nat) (tA : TA) (qmB : Nat) (qmO : Nat) (qmK : Nat) (iEn : Int32) (iTk : Int32) (uP : UM) (uU : UM) (kAt : Nat) (iTo : Int32) (iFr : Int32) (JFi : Int64) (iFa : Int32) (qm3 : Nat) (iSt : Int32) (iLv : Int32) (iWs : Int32) (vLa : Value) (qmu : Nat) (qmy : Nat) (qmb : Nat) (qms : Nat) (iOm : Int32) (rB : Nat → Nat) (rO : Nat → Nat) (rK : Nat → Nat) (fMr : Nat → Int32) (iA : Int32)  (hB : T_nb tA ≤ 8) (hPp : T_np tA ≤ 8) (hTI : TI tA) : MW l yX6_youngest cX6_youngest 2 (some .int) 16 0 0 G cy [zzO qm 5 [.ref qmh, .ref qmo, .ref qmz, .ref qmR, .ref qmv, .ref qmk, .ref qma, .ref qmt, .int (nI kZ), .ref qmr, .int (nI (T_nb tA)), .ref qmB, .int (nI (T_np tA)), .ref qmO, .ref qmK, .int iEn, .int iTk, .int (T_sd tA), ov uP, ov uU, .int (nI kAt), .int iTo, .int iFr, .long JFi, .int iFa, .ref qm3, .int iSt, .int iLv, .int iWs, vLa, .ref qmu, .ref qmy, .ref qmb, .ref qms, .int iOm], zzG cy 3 qmB rB, zzI cy (rB 0) 4 (bkR tA 0), zzI cy (rB 1) 4 (bkR tA 1), zzI cy (rB 2) 4 (bkR tA 2), zzI cy (rB 3) 4 (bkR tA 3), zzI cy (rB 4) 4 (bkR tA 4), zzI cy (rB 5) 4 (bkR tA 5), zzI cy (rB 6) 4 (bkR tA 6), zzI cy (rB 7) 4 (bkR tA 7), zzG cy 3 qmO rO, zzI cy (rO 0) 5 (onR tA 0), zzI cy (rO 1) 5 (onR tA 1), zzI cy (rO 2) 5 (onR tA 2), zzI cy (rO 3) 5 (onR tA 3), zzI cy (rO 4) 5 (onR tA 4), zzI cy (rO 5) 5 (onR tA 5), zzI cy (rO 6) 5 (onR tA 6), zzI cy (rO 7) 5 (onR tA 7), zzG cy 3 qmK rK, zzI cy (rK 0) 8 (T_kn tA 0), zzI cy (rK 1) 8 (T_kn tA 1), zzI cy (rK 2) 8 (T_kn tA 2), zzI cy (rK 3) 8 (T_kn tA 3), zzI cy (rK 4) 8 (T_kn tA 4), zzI cy (rK 5) 8 (T_kn tA 5), zzI cy (rK 6) 8 (T_kn tA 6), zzI cy (rK 7) 8 (T_kn tA 7), zzI cy qmr 8 fMr] sz [.ref qm, .int iA] (Wi G (fun r u => ∃ (fNr : Nat → Int32), u = [zzO qm 5 [.ref qmh, .ref qmo, .ref qmz, .ref qmR, .ref qmv, .ref qmk, .ref qma, .ref qmt, .int (nI kZ), .ref qmr, .int (nI (T_nb tA)), .ref qmB, .int (nI (T_np tA)), .ref qmO, .ref qmK, .int iEn, .int iTk, .int (T_sd tA), ov uP, ov uU, .int (nI kAt), .int iTo, .int iFr, .long JFi, .int iFa, .ref qm3, .int iSt, .int iLv, .int iWs, vLa, .ref qmu, .ref qmy, .ref qmb, .ref qms, .int iOm], zzG cy 3 qmB rB, zzI cy (rB 0) 4 (bkR tA 0), zzI cy (rB 1) 4 (bkR tA 1), zzI cy (rB 2) 4 (bkR tA 2), zzI cy (rB 3) 4 (bkR tA 3), zzI cy (rB 4) 4 (bkR tA 4), zzI cy (rB 5) 4 (bkR tA 5), zzI cy (rB 6) 4 (bkR tA 6), zzI cy (rB 7) 4 (bkR tA 7), zzG cy 3 qmO rO, zzI cy (rO 0) 5 (onR tA 0), zzI cy (rO 1) 5 (onR tA 1), zzI cy (rO 2) 5 (onR tA 2), zzI cy (rO 3) 5 (onR tA 3), zzI cy (rO 4) 5 (onR tA 4), zzI cy (rO 5) 5 (onR tA 5), zzI cy (rO 6) 5 (onR tA 6), zzI cy (rO 7) 5 (onR tA 7), zzG cy 3 qmK rK, zzI cy (rK 0) 8 (T_kn tA 0), zzI cy (rK 1) 8 (T_kn tA 1), zzI cy (rK 2) 8 (T_kn tA 2), zzI cy (rK 3) 8 (T_kn tA 3), zzI cy (rK 4) 8 (T_kn tA 4), zzI cy (rK 5) 8 (T_kn tA 5), zzI cy (rK 6) 8 (T_kn tA 6), zzI cy (rK 7) 8 (T_kn tA 7), zzI cy qmr 8 fNr] ∧ (True))) := by
  refine enW RX6 (by decide) rfl (Nat.le_of_ble_eq_true rfl) (fun p e s m below meth c ls A hx hb hml hown hts hr hlocks hP hN hl hin hD hA hS => ?_)
  have hin : meth.name = _ := hin
  have hK := hN.1
  replace hl : lv_has ls 2 [(0, .ref qm), (1, .int iA)] := hl
  refine lv_aload_n hx hb dX6_youngest_0 rfl (lv_at hl 0 rfl) ?_
  refine lv_iload_n hx hb dX6_youngest_1 rfl (lv_at hl 1 rfl) ?_
  refine lv_i2l (v := iA.toInt64) hx hb dX6_youngest_2 rfl ?_
  refine kRi (rV (As := [.long iA.toInt64]) (rest := []) (b := qm) ⟨hx, hb, hml, hown, hts⟩ (c_X6_isOne l G cy qm (.ref qmh) (.ref qmo) (.ref qmz) (.ref qmR) (.ref qmv) (.ref qmk) (.ref qma) (.ref qmt) (.int (nI kZ)) (.ref qmr) tA qmB qmO qmK iEn iTk (ov uP) (ov uU) (.int (nI kAt)) (.int iTo) (.int iFr) (.long JFi) (.int iFa) (.ref qm3) (.int iSt) iLv iWs vLa (.ref qmu) (.ref qmy) (.ref qmb) (.ref qms) (.int iOm) iA hPp) L_X6_236 (preRV (q := (RX6, TX6, 35)) hN hP [0] rfl 0 5 rfl rfl) rfl ⟨Nat.le_of_ble_eq_true rfl, Nat.le_of_ble_eq_true rfl⟩ hl.1 (Nat.le_of_ble_eq_true rfl) dX6_youngest_3 ⟨Nat.le_of_ble_eq_true rfl, Nat.le_of_ble_eq_true rfl⟩) (fun r_1 h_2 => ?_)
  rcases h_2 with ⟨rfl, h_3⟩ | ⟨rfl, h_3⟩
  · obtain ⟨k_4, hk_5, rfl⟩ := h_3
    refine lv_if_eq (tgt := 17) hx hb dX6_youngest_6 (by decide) (fun h9 => absurd h9 (by decide)) (fun _ => ?_)
    refine lv_aload_n hx hb dX6_youngest_9 rfl (lv_at hl 0 rfl) ?_
    refine lv_iload_n hx hb dX6_youngest_10 rfl (lv_at hl 1 rfl) ?_
    refine kRi (rV (As := [.int (nI k_4)]) (rest := []) (b := qm) ⟨hx, hb, hml, hown, hts⟩ (c_X6_youngestBut l G cy qm (.ref qmh) (.ref qmo) (.ref qmz) (.ref qmR) (.ref qmv) (.ref qmk) (.ref qma) (.ref qmt) (.int (nI kZ)) (.ref qmr) tA qmB qmO qmK iEn iTk (ov uP) (ov uU) (.int (nI kAt)) (.int iTo) (.int iFr) (.long JFi) (.int iFa) (.ref qm3) (.int iSt) iLv iWs vLa (.ref qmu) (.ref qmy) (.ref qmb) (.ref qms) (.int iOm) rO (nI k_4) hPp) L_X6_269 (preRV (q := (RX6, TX6, 35)) hN hP [0, 10, 11, 12, 13, 14, 15, 16, 17, 18] rfl 0 5 rfl rfl) rfl ⟨Nat.le_of_ble_eq_true rfl, Nat.le_of_ble_eq_true rfl⟩ hl.1 (Nat.le_of_ble_eq_true rfl) dX6_youngest_11 ⟨Nat.le_of_ble_eq_true rfl, Nat.le_of_ble_eq_true rfl⟩) (fun r_7 h_8 => ?_)
    subst h_8
    refine lv_goto (tgt := 23) hx hb dX6_youngest_14 (by decide) ?_
    exact endW (u := [zzO qm 5 [.ref qmh, .ref qmo, .ref qmz, .ref qmR, .ref qmv, .ref qmk, .ref qma, .ref qmt, .int (nI kZ), .ref qmr, .int (nI (T_nb tA)), .ref qmB, .int (nI (T_np tA)), .ref qmO, .ref qmK, .int iEn, .int iTk, .int (T_sd tA), ov uP, ov uU, .int (nI kAt), .int iTo, .int iFr, .long JFi, .int iFa, .ref qm3, .int iSt, .int iLv, .int iWs, vLa, .ref qmu, .ref qmy, .ref qmb, .ref qms, .int iOm], zzG cy 3 qmB rB, zzI cy (rB 0) 4 (bkR tA 0), zzI cy (rB 1) 4 (bkR tA 1), zzI cy (rB 2) 4 (bkR tA 2), zzI cy (rB 3) 4 (bkR tA 3), zzI cy (rB 4) 4 (bkR tA 4), zzI cy (rB 5) 4 (bkR tA 5), zzI cy (rB 6) 4 (bkR tA 6), zzI cy (rB 7) 4 (bkR tA 7), zzG cy 3 qmO rO, zzI cy (rO 0) 5 (onR tA 0), zzI cy (rO 1) 5 (onR tA 1), zzI cy (rO 2) 5 (onR tA 2), zzI cy (rO 3) 5 (onR tA 3), zzI cy (rO 4) 5 (onR tA 4), zzI cy (rO 5) 5 (onR tA 5), zzI cy (rO 6) 5 (onR tA 6), zzI cy (rO 7) 5 (onR tA 7), zzG cy 3 qmK rK, zzI cy (rK 0) 8 (T_kn tA 0), zzI cy (rK 1) 8 (T_kn tA 1), zzI cy (rK 2) 8 (T_kn tA 2), zzI cy (rK 3) 8 (T_kn tA 3), zzI cy (rK 4) 8 (T_kn tA 4), zzI cy (rK 5) 8 (T_kn tA 5), zzI cy (rK 6) 8 (T_kn tA 6), zzI cy (rK 7) 8 (T_kn tA 7), zzI cy qmr 8 fMr]) hx hb hr hlocks rfl (hP.sub [0, 1, 2, 3, 4, 5, 6, 7, 8, 9, 10, 11, 12, 13, 14, 15, 16, 17, 18, 19, 20, 21, 22, 23, 24, 25, 26, 27, 28] rfl) (hD.sub [0, 1, 2, 3, 4, 5, 6, 7, 8, 9, 10, 11, 12, 13, 14, 15, 16, 17, 18, 19, 20, 21, 22, 23, 24, 25, 26, 27, 28] (by decide +kernel) rfl) hS ⟨fMr, rfl, trivial⟩ dX6_youngest_23
  · refine lv_if_eq (tgt := 17) hx hb dX6_youngest_6 (by decide) (fun _ => ?_) (fun h9 => absurd (by decide) h9)
    refine lv_aload_n hx hb dX6_youngest_17 rfl (lv_at hl 0 rfl) ?_
    refine lv_bipush (v := (-2)) hx hb dX6_youngest_18 (by decide) ?_
    refine cVi (As := [.int (-2)]) (rest := []) (b := qm) (q := (RX6, TX6, 35)) ⟨hx, hb, hml, hown, hts⟩ (c_X6_refuse2 l G cy (s.heap).size qm (.ref qmh) (.ref qmo) (.ref qmz) (.ref qmR) (.ref qmv) (.ref qmk) (.ref qma) (.ref qmt) (.int (nI kZ)) qmr tA qmB qmO qmK iEn iTk (ov uP) (ov uU) (.int (nI kAt)) (.int iTo) (.int iFr) (.long JFi) (.int iFa) (.ref qm3) (.int iSt) iLv iWs vLa (.ref qmu) (.ref qmy) (.ref qmb) (.ref qms) (.int iOm) fMr) L_X6_91 hN hP hD hS hA [0, 28] [false, true, true, true, true, true, true, true, true, true, true, true, true, true, true, true, true, true, true, true, true, true, true, true, true, true, true, true, false] rfl (by decide +kernel) rfl 0 5 rfl rfl rfl ⟨Nat.le_of_ble_eq_true rfl, Nat.le_of_ble_eq_true rfl⟩ hl.1 (Nat.le_of_ble_eq_true rfl) dX6_youngest_20 ⟨Nat.le_of_ble_eq_true rfl, Nat.le_of_ble_eq_true rfl⟩ (fun r_10 u_12 H locs h_11 => ?_)
    clear hP hD hS
    intro hP hD hS
    obtain ⟨fX_13, rfl, h_11⟩ := h_11
    have hPD := pd_as [zzG cy 3 qmB rB, zzI cy (rB 0) 4 (bkR tA 0), zzI cy (rB 1) 4 (bkR tA 1), zzI cy (rB 2) 4 (bkR tA 2), zzI cy (rB 3) 4 (bkR tA 3), zzI cy (rB 4) 4 (bkR tA 4), zzI cy (rB 5) 4 (bkR tA 5), zzI cy (rB 6) 4 (bkR tA 6), zzI cy (rB 7) 4 (bkR tA 7), zzG cy 3 qmO rO, zzI cy (rO 0) 5 (onR tA 0), zzI cy (rO 1) 5 (onR tA 1), zzI cy (rO 2) 5 (onR tA 2), zzI cy (rO 3) 5 (onR tA 3), zzI cy (rO 4) 5 (onR tA 4), zzI cy (rO 5) 5 (onR tA 5), zzI cy (rO 6) 5 (onR tA 6), zzI cy (rO 7) 5 (onR tA 7), zzG cy 3 qmK rK, zzI cy (rK 0) 8 (T_kn tA 0), zzI cy (rK 1) 8 (T_kn tA 1), zzI cy (rK 2) 8 (T_kn tA 2), zzI cy (rK 3) 8 (T_kn tA 3), zzI cy (rK 4) 8 (T_kn tA 4), zzI cy (rK 5) 8 (T_kn tA 5), zzI cy (rK 6) 8 (T_kn tA 6), zzI cy (rK 7) 8 (T_kn tA 7), zzO qm 5 [.ref qmh, .ref qmo, .ref qmz, .ref qmR, .ref qmv, .ref qmk, .ref qma, .ref qmt, .int (nI kZ), .ref qmr, .int (nI (T_nb tA)), .ref qmB, .int (nI (T_np tA)), .ref qmO, .ref qmK, .int iEn, .int iTk, .int (T_sd tA), ov uP, ov uU, .int (nI kAt), .int iTo, .int iFr, .long JFi, .int iFa, .ref qm3, .int iSt, .int iLv, .int iWs, vLa, .ref qmu, .ref qmy, .ref qmb, .ref qms, .int iOm], zzI cy qmr 8 fX_13] hP hD rfl
    clear hP hD
    obtain ⟨hP, hD⟩ := hPD
    subst h_11
    exact endW (u := [zzO qm 5 [.ref qmh, .ref qmo, .ref qmz, .ref qmR, .ref qmv, .ref qmk, .ref qma, .ref qmt, .int (nI kZ), .ref qmr, .int (nI (T_nb tA)), .ref qmB, .int (nI (T_np tA)), .ref qmO, .ref qmK, .int iEn, .int iTk, .int (T_sd tA), ov uP, ov uU, .int (nI kAt), .int iTo, .int iFr, .long JFi, .int iFa, .ref qm3, .int iSt, .int iLv, .int iWs, vLa, .ref qmu, .ref qmy, .ref qmb, .ref qms, .int iOm], zzG cy 3 qmB rB, zzI cy (rB 0) 4 (bkR tA 0), zzI cy (rB 1) 4 (bkR tA 1), zzI cy (rB 2) 4 (bkR tA 2), zzI cy (rB 3) 4 (bkR tA 3), zzI cy (rB 4) 4 (bkR tA 4), zzI cy (rB 5) 4 (bkR tA 5), zzI cy (rB 6) 4 (bkR tA 6), zzI cy (rB 7) 4 (bkR tA 7), zzG cy 3 qmO rO, zzI cy (rO 0) 5 (onR tA 0), zzI cy (rO 1) 5 (onR tA 1), zzI cy (rO 2) 5 (onR tA 2), zzI cy (rO 3) 5 (onR tA 3), zzI cy (rO 4) 5 (onR tA 4), zzI cy (rO 5) 5 (onR tA 5), zzI cy (rO 6) 5 (onR tA 6), zzI cy (rO 7) 5 (onR tA 7), zzG cy 3 qmK rK, zzI cy (rK 0) 8 (T_kn tA 0), zzI cy (rK 1) 8 (T_kn tA 1), zzI cy (rK 2) 8 (T_kn tA 2), zzI cy (rK 3) 8 (T_kn tA 3), zzI cy (rK 4) 8 (T_kn tA 4), zzI cy (rK 5) 8 (T_kn tA 5), zzI cy (rK 6) 8 (T_kn tA 6), zzI cy (rK 7) 8 (T_kn tA 7), zzI cy qmr 8 fX_13]) hx hb hr hlocks rfl (hP.sub [27, 0, 1, 2, 3, 4, 5, 6, 7, 8, 9, 10, 11, 12, 13, 14, 15, 16, 17, 18, 19, 20, 21, 22, 23, 24, 25, 26, 28] rfl) (hD.sub [27, 0, 1, 2, 3, 4, 5, 6, 7, 8, 9, 10, 11, 12, 13, 14, 15, 16, 17, 18, 19, 20, 21, 22, 23, 24, 25, 26, 28] (by decide +kernel) rfl) hS ⟨fX_13, rfl, trivial⟩ dX6_youngest_23
set_option maxHeartbeats 4000000 in
set_option maxRecDepth 100000 in
theorem p_X6_reader (l : Launch) (G : va_G) (cy : Nat → ClassId) (sz : Nat) (qm : Nat) (qmh : Nat) (qmo : Nat) (qmz : Nat) (qmR : Nat) (qmv : Nat) (qmk : Nat) (qma : Nat) (qmt : Nat) (kZ : Nat) (qmr : Nat) (tA : TA) (qmB : Nat) (qmO : Nat) (qmK : Nat) (iEn : Int32) (iTk : Int32) (uP : UM) (uU : UM) (kAt : Nat) (iTo : Int32) (iFr : Int32) (JFi : Int64) (iFa : Int32) (qm3 : Nat) (iSt : Int32) (iLv : Int32) (iWs : Int32) (vLa : Value) (qmu : Nat) (qmy : Nat) (qmb : Nat) (qms : Nat) (iOm : Int32) (rB : Nat → Nat) (rO : Nat → Nat) (rK : Nat → Nat) (fMr : Nat → Int32) (iA : Int32)  (hB : T_nb tA ≤ 8) (hPp : T_np tA ≤ 8) (hTI : TI tA) : MW l yX6_reader cX6_reader 2 (some .int) 16 0 0 G cy [zzO qm 5 [.ref qmh, .ref qmo, .ref qmz, .ref qmR, .ref qmv, .ref qmk, .ref qma, .ref qmt, .int (nI kZ), .ref qmr, .int (nI (T_nb tA)), .ref qmB, .int (nI (T_np tA)), .ref qmO, .ref qmK, .int iEn, .int iTk, .int (T_sd tA), ov uP, ov uU, .int (nI kAt), .int iTo, .int iFr, .long JFi, .int iFa, .ref qm3, .int iSt, .int iLv, .int iWs, vLa, .ref qmu, .ref qmy, .ref qmb, .ref qms, .int iOm], zzG cy 3 qmB rB, zzI cy (rB 0) 4 (bkR tA 0), zzI cy (rB 1) 4 (bkR tA 1), zzI cy (rB 2) 4 (bkR tA 2), zzI cy (rB 3) 4 (bkR tA 3), zzI cy (rB 4) 4 (bkR tA 4), zzI cy (rB 5) 4 (bkR tA 5), zzI cy (rB 6) 4 (bkR tA 6), zzI cy (rB 7) 4 (bkR tA 7), zzG cy 3 qmO rO, zzI cy (rO 0) 5 (onR tA 0), zzI cy (rO 1) 5 (onR tA 1), zzI cy (rO 2) 5 (onR tA 2), zzI cy (rO 3) 5 (onR tA 3), zzI cy (rO 4) 5 (onR tA 4), zzI cy (rO 5) 5 (onR tA 5), zzI cy (rO 6) 5 (onR tA 6), zzI cy (rO 7) 5 (onR tA 7), zzG cy 3 qmK rK, zzI cy (rK 0) 8 (T_kn tA 0), zzI cy (rK 1) 8 (T_kn tA 1), zzI cy (rK 2) 8 (T_kn tA 2), zzI cy (rK 3) 8 (T_kn tA 3), zzI cy (rK 4) 8 (T_kn tA 4), zzI cy (rK 5) 8 (T_kn tA 5), zzI cy (rK 6) 8 (T_kn tA 6), zzI cy (rK 7) 8 (T_kn tA 7), zzI cy qmr 8 fMr] sz [.ref qm, .int iA] (Wi G (fun r u => ∃ (fNr : Nat → Int32), u = [zzO qm 5 [.ref qmh, .ref qmo, .ref qmz, .ref qmR, .ref qmv, .ref qmk, .ref qma, .ref qmt, .int (nI kZ), .ref qmr, .int (nI (T_nb tA)), .ref qmB, .int (nI (T_np tA)), .ref qmO, .ref qmK, .int iEn, .int iTk, .int (T_sd tA), ov uP, ov uU, .int (nI kAt), .int iTo, .int iFr, .long JFi, .int iFa, .ref qm3, .int iSt, .int iLv, .int iWs, vLa, .ref qmu, .ref qmy, .ref qmb, .ref qms, .int iOm], zzG cy 3 qmB rB, zzI cy (rB 0) 4 (bkR tA 0), zzI cy (rB 1) 4 (bkR tA 1), zzI cy (rB 2) 4 (bkR tA 2), zzI cy (rB 3) 4 (bkR tA 3), zzI cy (rB 4) 4 (bkR tA 4), zzI cy (rB 5) 4 (bkR tA 5), zzI cy (rB 6) 4 (bkR tA 6), zzI cy (rB 7) 4 (bkR tA 7), zzG cy 3 qmO rO, zzI cy (rO 0) 5 (onR tA 0), zzI cy (rO 1) 5 (onR tA 1), zzI cy (rO 2) 5 (onR tA 2), zzI cy (rO 3) 5 (onR tA 3), zzI cy (rO 4) 5 (onR tA 4), zzI cy (rO 5) 5 (onR tA 5), zzI cy (rO 6) 5 (onR tA 6), zzI cy (rO 7) 5 (onR tA 7), zzG cy 3 qmK rK, zzI cy (rK 0) 8 (T_kn tA 0), zzI cy (rK 1) 8 (T_kn tA 1), zzI cy (rK 2) 8 (T_kn tA 2), zzI cy (rK 3) 8 (T_kn tA 3), zzI cy (rK 4) 8 (T_kn tA 4), zzI cy (rK 5) 8 (T_kn tA 5), zzI cy (rK 6) 8 (T_kn tA 6), zzI cy (rK 7) 8 (T_kn tA 7), zzI cy qmr 8 fNr] ∧ (True))) := by
  refine enW RX6 (by decide) rfl (Nat.le_of_ble_eq_true rfl) (fun p e s m below meth c ls A hx hb hml hown hts hr hlocks hP hN hl hin hD hA hS => ?_)
  have hin : meth.name = _ := hin
  have hK := hN.1
  replace hl : lv_has ls 2 [(0, .ref qm), (1, .int iA)] := hl
  refine lv_aload_n hx hb dX6_reader_0 rfl (lv_at hl 0 rfl) ?_
  refine lv_iload_n hx hb dX6_reader_1 rfl (lv_at hl 1 rfl) ?_
  refine lv_i2l (v := iA.toInt64) hx hb dX6_reader_2 rfl ?_
  refine kRi (rV (As := [.long iA.toInt64]) (rest := []) (b := qm) ⟨hx, hb, hml, hown, hts⟩ (c_X6_isBook l G cy qm (.ref qmh) (.ref qmo) (.ref qmz) (.ref qmR) (.ref qmv) (.ref qmk) (.ref qma) (.ref qmt) (.int (nI kZ)) (.ref qmr) tA qmB qmO qmK iEn iTk (ov uP) (ov uU) (.int (nI kAt)) (.int iTo) (.int iFr) (.long JFi) (.int iFa) (.ref qm3) (.int iSt) iLv iWs vLa (.ref qmu) (.ref qmy) (.ref qmb) (.ref qms) (.int iOm) iA hB) L_X6_229 (preRV (q := (RX6, TX6, 35)) hN hP [0] rfl 0 5 rfl rfl) rfl ⟨Nat.le_of_ble_eq_true rfl, Nat.le_of_ble_eq_true rfl⟩ hl.1 (Nat.le_of_ble_eq_true rfl) dX6_reader_3 ⟨Nat.le_of_ble_eq_true rfl, Nat.le_of_ble_eq_true rfl⟩) (fun r_1 h_2 => ?_)
  rcases h_2 with ⟨rfl, h_3⟩ | ⟨rfl, h_3⟩
  · obtain ⟨k_4, hk_5, rfl⟩ := h_3
    refine lv_if_ne (tgt := 16) hx hb dX6_reader_6 (by decide) (fun _ => ?_) (fun h9 => absurd h9 (by decide))
    refine lv_aload_n hx hb dX6_reader_16 rfl (lv_at hl 0 rfl) ?_
    refine lv_iload_n hx hb dX6_reader_17 rfl (lv_at hl 1 rfl) ?_
    refine kRi (rV (As := [.int (nI k_4)]) (rest := []) (b := qm) ⟨hx, hb, hml, hown, hts⟩ (c_X6_isWhite l G cy qm (.ref qmh) (.ref qmo) (.ref qmz) (.ref qmR) (.ref qmv) (.ref qmk) (.ref qma) (.ref qmt) (.int (nI kZ)) (.ref qmr) tA qmB qmO qmK iEn iTk (ov uP) (ov uU) (.int (nI kAt)) (.int iTo) (.int iFr) (.long JFi) (.int iFa) (.ref qm3) (.int iSt) iLv iWs vLa (.ref qmu) (.ref qmy) (.ref qmb) (.ref qms) (.int iOm) rB k_4 (by first | omega | (simp only [nb_sr, np_sr, nb_wr, np_wr, nb_rd, np_rd, nb_ch, np_ch, nb_zr, np_zr, nb_za, np_za, nb_ey, np_ey, nb_hf, np_hf, nb_dd, np_dd, nb_so, np_so, nb_skn, np_skn, nb_swh, np_swh, nb_sgn, np_sgn, nb_ssd, np_ssd, nb_sgo, np_sgo, nb_sag, np_sag]; omega))) L_X6_248 (preRV (q := (RX6, TX6, 35)) hN hP [0, 1, 2, 3, 4, 5, 6, 7, 8, 9] rfl 0 5 rfl rfl) rfl ⟨Nat.le_of_ble_eq_true rfl, Nat.le_of_ble_eq_true rfl⟩ hl.1 (Nat.le_of_ble_eq_true rfl) dX6_reader_18 ⟨Nat.le_of_ble_eq_true rfl, Nat.le_of_ble_eq_true rfl⟩) (fun r_7 h_8 => ?_)
    rcases h_8 with ⟨rfl, h_9⟩ | ⟨rfl, h_9⟩
    · refine lv_if_eq (tgt := 33) hx hb dX6_reader_21 (by decide) (fun h9 => absurd h9 (by decide)) (fun _ => ?_)
      refine lv_aload_n hx hb dX6_reader_24 rfl (lv_at hl 0 rfl) ?_
      refine lv_bipush (v := (-5)) hx hb dX6_reader_25 (by decide) ?_
      refine cVi (As := [.int (-5)]) (rest := []) (b := qm) (q := (RX6, TX6, 35)) ⟨hx, hb, hml, hown, hts⟩ (c_X6_refuse5 l G cy (s.heap).size qm (.ref qmh) (.ref qmo) (.ref qmz) (.ref qmR) (.ref qmv) (.ref qmk) (.ref qma) (.ref qmt) (.int (nI kZ)) qmr tA qmB qmO qmK iEn iTk (ov uP) (ov uU) (.int (nI kAt)) (.int iTo) (.int iFr) (.long JFi) (.int iFa) (.ref qm3) (.int iSt) iLv iWs vLa (.ref qmu) (.ref qmy) (.ref qmb) (.ref qms) (.int iOm) fMr) L_X6_91 hN hP hD hS hA [0, 28] [false, true, true, true, true, true, true, true, true, true, true, true, true, true, true, true, true, true, true, true, true, true, true, true, true, true, true, true, false] rfl (by decide +kernel) rfl 0 5 rfl rfl rfl ⟨Nat.le_of_ble_eq_true rfl, Nat.le_of_ble_eq_true rfl⟩ hl.1 (Nat.le_of_ble_eq_true rfl) dX6_reader_27 ⟨Nat.le_of_ble_eq_true rfl, Nat.le_of_ble_eq_true rfl⟩ (fun r_11 u_13 H locs h_12 => ?_)
      clear hP hD hS
      intro hP hD hS
      obtain ⟨fX_14, rfl, h_12⟩ := h_12
      have hPD := pd_as [zzG cy 3 qmB rB, zzI cy (rB 0) 4 (bkR tA 0), zzI cy (rB 1) 4 (bkR tA 1), zzI cy (rB 2) 4 (bkR tA 2), zzI cy (rB 3) 4 (bkR tA 3), zzI cy (rB 4) 4 (bkR tA 4), zzI cy (rB 5) 4 (bkR tA 5), zzI cy (rB 6) 4 (bkR tA 6), zzI cy (rB 7) 4 (bkR tA 7), zzG cy 3 qmO rO, zzI cy (rO 0) 5 (onR tA 0), zzI cy (rO 1) 5 (onR tA 1), zzI cy (rO 2) 5 (onR tA 2), zzI cy (rO 3) 5 (onR tA 3), zzI cy (rO 4) 5 (onR tA 4), zzI cy (rO 5) 5 (onR tA 5), zzI cy (rO 6) 5 (onR tA 6), zzI cy (rO 7) 5 (onR tA 7), zzG cy 3 qmK rK, zzI cy (rK 0) 8 (T_kn tA 0), zzI cy (rK 1) 8 (T_kn tA 1), zzI cy (rK 2) 8 (T_kn tA 2), zzI cy (rK 3) 8 (T_kn tA 3), zzI cy (rK 4) 8 (T_kn tA 4), zzI cy (rK 5) 8 (T_kn tA 5), zzI cy (rK 6) 8 (T_kn tA 6), zzI cy (rK 7) 8 (T_kn tA 7), zzO qm 5 [.ref qmh, .ref qmo, .ref qmz, .ref qmR, .ref qmv, .ref qmk, .ref qma, .ref qmt, .int (nI kZ), .ref qmr, .int (nI (T_nb tA)), .ref qmB, .int (nI (T_np tA)), .ref qmO, .ref qmK, .int iEn, .int iTk, .int (T_sd tA), ov uP, ov uU, .int (nI kAt), .int iTo, .int iFr, .long JFi, .int iFa, .ref qm3, .int iSt, .int iLv, .int iWs, vLa, .ref qmu, .ref qmy, .ref qmb, .ref qms, .int iOm], zzI cy qmr 8 fX_14] hP hD rfl
      clear hP hD
      obtain ⟨hP, hD⟩ := hPD
      subst h_12
      refine lv_goto (tgt := 38) hx hb dX6_reader_30 (by decide) ?_
      exact endW (u := [zzO qm 5 [.ref qmh, .ref qmo, .ref qmz, .ref qmR, .ref qmv, .ref qmk, .ref qma, .ref qmt, .int (nI kZ), .ref qmr, .int (nI (T_nb tA)), .ref qmB, .int (nI (T_np tA)), .ref qmO, .ref qmK, .int iEn, .int iTk, .int (T_sd tA), ov uP, ov uU, .int (nI kAt), .int iTo, .int iFr, .long JFi, .int iFa, .ref qm3, .int iSt, .int iLv, .int iWs, vLa, .ref qmu, .ref qmy, .ref qmb, .ref qms, .int iOm], zzG cy 3 qmB rB, zzI cy (rB 0) 4 (bkR tA 0), zzI cy (rB 1) 4 (bkR tA 1), zzI cy (rB 2) 4 (bkR tA 2), zzI cy (rB 3) 4 (bkR tA 3), zzI cy (rB 4) 4 (bkR tA 4), zzI cy (rB 5) 4 (bkR tA 5), zzI cy (rB 6) 4 (bkR tA 6), zzI cy (rB 7) 4 (bkR tA 7), zzG cy 3 qmO rO, zzI cy (rO 0) 5 (onR tA 0), zzI cy (rO 1) 5 (onR tA 1), zzI cy (rO 2) 5 (onR tA 2), zzI cy (rO 3) 5 (onR tA 3), zzI cy (rO 4) 5 (onR tA 4), zzI cy (rO 5) 5 (onR tA 5), zzI cy (rO 6) 5 (onR tA 6), zzI cy (rO 7) 5 (onR tA 7), zzG cy 3 qmK rK, zzI cy (rK 0) 8 (T_kn tA 0), zzI cy (rK 1) 8 (T_kn tA 1), zzI cy (rK 2) 8 (T_kn tA 2), zzI cy (rK 3) 8 (T_kn tA 3), zzI cy (rK 4) 8 (T_kn tA 4), zzI cy (rK 5) 8 (T_kn tA 5), zzI cy (rK 6) 8 (T_kn tA 6), zzI cy (rK 7) 8 (T_kn tA 7), zzI cy qmr 8 fX_14]) hx hb hr hlocks rfl (hP.sub [27, 0, 1, 2, 3, 4, 5, 6, 7, 8, 9, 10, 11, 12, 13, 14, 15, 16, 17, 18, 19, 20, 21, 22, 23, 24, 25, 26, 28] rfl) (hD.sub [27, 0, 1, 2, 3, 4, 5, 6, 7, 8, 9, 10, 11, 12, 13, 14, 15, 16, 17, 18, 19, 20, 21, 22, 23, 24, 25, 26, 28] (by decide +kernel) rfl) hS ⟨fX_14, rfl, trivial⟩ dX6_reader_38
    · refine lv_if_eq (tgt := 33) hx hb dX6_reader_21 (by decide) (fun _ => ?_) (fun h9 => absurd (by decide) h9)
      refine lv_aload_n hx hb dX6_reader_33 rfl (lv_at hl 0 rfl) ?_
      refine lv_iload_n hx hb dX6_reader_34 rfl (lv_at hl 1 rfl) ?_
      refine kRi (rV (As := [.int (nI k_4)]) (rest := []) (b := qm) ⟨hx, hb, hml, hown, hts⟩ (c_X6_readerOf l G cy qm (.ref qmh) (.ref qmo) (.ref qmz) (.ref qmR) (.ref qmv) (.ref qmk) (.ref qma) (.ref qmt) (.int (nI kZ)) (.ref qmr) tA qmB qmO qmK iEn iTk (ov uP) (ov uU) (.int (nI kAt)) (.int iTo) (.int iFr) (.long JFi) (.int iFa) (.ref qm3) (.int iSt) iLv iWs vLa (.ref qmu) (.ref qmy) (.ref qmb) (.ref qms) (.int iOm) rB rO rK k_4 hPp (by first | omega | (simp only [nb_sr, np_sr, nb_wr, np_wr, nb_rd, np_rd, nb_ch, np_ch, nb_zr, np_zr, nb_za, np_za, nb_ey, np_ey, nb_hf, np_hf, nb_dd, np_dd, nb_so, np_so, nb_skn, np_skn, nb_swh, np_swh, nb_sgn, np_sgn, nb_ssd, np_ssd, nb_sgo, np_sgo, nb_sag, np_sag]; omega)) hTI) L_X6_272 (preRV (q := (RX6, TX6, 35)) hN hP [0, 1, 2, 3, 4, 5, 6, 7, 8, 9, 10, 11, 12, 13, 14, 15, 16, 17, 18, 19, 20, 21, 22, 23, 24, 25, 26, 27] rfl 0 5 rfl rfl) rfl ⟨Nat.le_of_ble_eq_true rfl, Nat.le_of_ble_eq_true rfl⟩ hl.1 (Nat.le_of_ble_eq_true rfl) dX6_reader_35 ⟨Nat.le_of_ble_eq_true rfl, Nat.le_of_ble_eq_true rfl⟩) (fun r_16 h_17 => ?_)
      subst h_17
      exact endW (u := [zzO qm 5 [.ref qmh, .ref qmo, .ref qmz, .ref qmR, .ref qmv, .ref qmk, .ref qma, .ref qmt, .int (nI kZ), .ref qmr, .int (nI (T_nb tA)), .ref qmB, .int (nI (T_np tA)), .ref qmO, .ref qmK, .int iEn, .int iTk, .int (T_sd tA), ov uP, ov uU, .int (nI kAt), .int iTo, .int iFr, .long JFi, .int iFa, .ref qm3, .int iSt, .int iLv, .int iWs, vLa, .ref qmu, .ref qmy, .ref qmb, .ref qms, .int iOm], zzG cy 3 qmB rB, zzI cy (rB 0) 4 (bkR tA 0), zzI cy (rB 1) 4 (bkR tA 1), zzI cy (rB 2) 4 (bkR tA 2), zzI cy (rB 3) 4 (bkR tA 3), zzI cy (rB 4) 4 (bkR tA 4), zzI cy (rB 5) 4 (bkR tA 5), zzI cy (rB 6) 4 (bkR tA 6), zzI cy (rB 7) 4 (bkR tA 7), zzG cy 3 qmO rO, zzI cy (rO 0) 5 (onR tA 0), zzI cy (rO 1) 5 (onR tA 1), zzI cy (rO 2) 5 (onR tA 2), zzI cy (rO 3) 5 (onR tA 3), zzI cy (rO 4) 5 (onR tA 4), zzI cy (rO 5) 5 (onR tA 5), zzI cy (rO 6) 5 (onR tA 6), zzI cy (rO 7) 5 (onR tA 7), zzG cy 3 qmK rK, zzI cy (rK 0) 8 (T_kn tA 0), zzI cy (rK 1) 8 (T_kn tA 1), zzI cy (rK 2) 8 (T_kn tA 2), zzI cy (rK 3) 8 (T_kn tA 3), zzI cy (rK 4) 8 (T_kn tA 4), zzI cy (rK 5) 8 (T_kn tA 5), zzI cy (rK 6) 8 (T_kn tA 6), zzI cy (rK 7) 8 (T_kn tA 7), zzI cy qmr 8 fMr]) hx hb hr hlocks rfl (hP.sub [0, 1, 2, 3, 4, 5, 6, 7, 8, 9, 10, 11, 12, 13, 14, 15, 16, 17, 18, 19, 20, 21, 22, 23, 24, 25, 26, 27, 28] rfl) (hD.sub [0, 1, 2, 3, 4, 5, 6, 7, 8, 9, 10, 11, 12, 13, 14, 15, 16, 17, 18, 19, 20, 21, 22, 23, 24, 25, 26, 27, 28] (by decide +kernel) rfl) hS ⟨fMr, rfl, trivial⟩ dX6_reader_38
  · refine lv_if_ne (tgt := 16) hx hb dX6_reader_6 (by decide) (fun h9 => absurd (by decide) h9) (fun _ => ?_)
    refine lv_aload_n hx hb dX6_reader_9 rfl (lv_at hl 0 rfl) ?_
    refine lv_bipush (v := (-2)) hx hb dX6_reader_10 (by decide) ?_
    refine cVi (As := [.int (-2)]) (rest := []) (b := qm) (q := (RX6, TX6, 35)) ⟨hx, hb, hml, hown, hts⟩ (c_X6_refuse2 l G cy (s.heap).size qm (.ref qmh) (.ref qmo) (.ref qmz) (.ref qmR) (.ref qmv) (.ref qmk) (.ref qma) (.ref qmt) (.int (nI kZ)) qmr tA qmB qmO qmK iEn iTk (ov uP) (ov uU) (.int (nI kAt)) (.int iTo) (.int iFr) (.long JFi) (.int iFa) (.ref qm3) (.int iSt) iLv iWs vLa (.ref qmu) (.ref qmy) (.ref qmb) (.ref qms) (.int iOm) fMr) L_X6_91 hN hP hD hS hA [0, 28] [false, true, true, true, true, true, true, true, true, true, true, true, true, true, true, true, true, true, true, true, true, true, true, true, true, true, true, true, false] rfl (by decide +kernel) rfl 0 5 rfl rfl rfl ⟨Nat.le_of_ble_eq_true rfl, Nat.le_of_ble_eq_true rfl⟩ hl.1 (Nat.le_of_ble_eq_true rfl) dX6_reader_12 ⟨Nat.le_of_ble_eq_true rfl, Nat.le_of_ble_eq_true rfl⟩ (fun r_19 u_21 H locs h_20 => ?_)
    clear hP hD hS
    intro hP hD hS
    obtain ⟨fX_22, rfl, h_20⟩ := h_20
    have hPD := pd_as [zzG cy 3 qmB rB, zzI cy (rB 0) 4 (bkR tA 0), zzI cy (rB 1) 4 (bkR tA 1), zzI cy (rB 2) 4 (bkR tA 2), zzI cy (rB 3) 4 (bkR tA 3), zzI cy (rB 4) 4 (bkR tA 4), zzI cy (rB 5) 4 (bkR tA 5), zzI cy (rB 6) 4 (bkR tA 6), zzI cy (rB 7) 4 (bkR tA 7), zzG cy 3 qmO rO, zzI cy (rO 0) 5 (onR tA 0), zzI cy (rO 1) 5 (onR tA 1), zzI cy (rO 2) 5 (onR tA 2), zzI cy (rO 3) 5 (onR tA 3), zzI cy (rO 4) 5 (onR tA 4), zzI cy (rO 5) 5 (onR tA 5), zzI cy (rO 6) 5 (onR tA 6), zzI cy (rO 7) 5 (onR tA 7), zzG cy 3 qmK rK, zzI cy (rK 0) 8 (T_kn tA 0), zzI cy (rK 1) 8 (T_kn tA 1), zzI cy (rK 2) 8 (T_kn tA 2), zzI cy (rK 3) 8 (T_kn tA 3), zzI cy (rK 4) 8 (T_kn tA 4), zzI cy (rK 5) 8 (T_kn tA 5), zzI cy (rK 6) 8 (T_kn tA 6), zzI cy (rK 7) 8 (T_kn tA 7), zzO qm 5 [.ref qmh, .ref qmo, .ref qmz, .ref qmR, .ref qmv, .ref qmk, .ref qma, .ref qmt, .int (nI kZ), .ref qmr, .int (nI (T_nb tA)), .ref qmB, .int (nI (T_np tA)), .ref qmO, .ref qmK, .int iEn, .int iTk, .int (T_sd tA), ov uP, ov uU, .int (nI kAt), .int iTo, .int iFr, .long JFi, .int iFa, .ref qm3, .int iSt, .int iLv, .int iWs, vLa, .ref qmu, .ref qmy, .ref qmb, .ref qms, .int iOm], zzI cy qmr 8 fX_22] hP hD rfl
    clear hP hD
    obtain ⟨hP, hD⟩ := hPD
    subst h_20
    exact endW (u := [zzO qm 5 [.ref qmh, .ref qmo, .ref qmz, .ref qmR, .ref qmv, .ref qmk, .ref qma, .ref qmt, .int (nI kZ), .ref qmr, .int (nI (T_nb tA)), .ref qmB, .int (nI (T_np tA)), .ref qmO, .ref qmK, .int iEn, .int iTk, .int (T_sd tA), ov uP, ov uU, .int (nI kAt), .int iTo, .int iFr, .long JFi, .int iFa, .ref qm3, .int iSt, .int iLv, .int iWs, vLa, .ref qmu, .ref qmy, .ref qmb, .ref qms, .int iOm], zzG cy 3 qmB rB, zzI cy (rB 0) 4 (bkR tA 0), zzI cy (rB 1) 4 (bkR tA 1), zzI cy (rB 2) 4 (bkR tA 2), zzI cy (rB 3) 4 (bkR tA 3), zzI cy (rB 4) 4 (bkR tA 4), zzI cy (rB 5) 4 (bkR tA 5), zzI cy (rB 6) 4 (bkR tA 6), zzI cy (rB 7) 4 (bkR tA 7), zzG cy 3 qmO rO, zzI cy (rO 0) 5 (onR tA 0), zzI cy (rO 1) 5 (onR tA 1), zzI cy (rO 2) 5 (onR tA 2), zzI cy (rO 3) 5 (onR tA 3), zzI cy (rO 4) 5 (onR tA 4), zzI cy (rO 5) 5 (onR tA 5), zzI cy (rO 6) 5 (onR tA 6), zzI cy (rO 7) 5 (onR tA 7), zzG cy 3 qmK rK, zzI cy (rK 0) 8 (T_kn tA 0), zzI cy (rK 1) 8 (T_kn tA 1), zzI cy (rK 2) 8 (T_kn tA 2), zzI cy (rK 3) 8 (T_kn tA 3), zzI cy (rK 4) 8 (T_kn tA 4), zzI cy (rK 5) 8 (T_kn tA 5), zzI cy (rK 6) 8 (T_kn tA 6), zzI cy (rK 7) 8 (T_kn tA 7), zzI cy qmr 8 fX_22]) hx hb hr hlocks rfl (hP.sub [27, 0, 1, 2, 3, 4, 5, 6, 7, 8, 9, 10, 11, 12, 13, 14, 15, 16, 17, 18, 19, 20, 21, 22, 23, 24, 25, 26, 28] rfl) (hD.sub [27, 0, 1, 2, 3, 4, 5, 6, 7, 8, 9, 10, 11, 12, 13, 14, 15, 16, 17, 18, 19, 20, 21, 22, 23, 24, 25, 26, 28] (by decide +kernel) rfl) hS ⟨fX_22, rfl, trivial⟩ dX6_reader_15
