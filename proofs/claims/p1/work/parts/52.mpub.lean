theorem dX6_aloud_0 : decode cX6_aloud 0 = .ok (.aload_n 0, 1) := by decide +kernel
theorem dX6_aloud_1 : decode cX6_aloud 1 = .ok (.iload_n 1, 1) := by decide +kernel
theorem dX6_aloud_2 : decode cX6_aloud 2 = .ok (.i2l, 1) := by decide +kernel
theorem dX6_aloud_3 : decode cX6_aloud 3 = .ok (.invokevirtual 236, 3) := by decide +kernel
theorem dX6_aloud_6 : decode cX6_aloud 6 = .ok (.ifCond .eq 30, 3) := by decide +kernel
theorem dX6_aloud_36 : decode cX6_aloud 36 = .ok (.aload_n 0, 1) := by decide +kernel
theorem dX6_aloud_37 : decode cX6_aloud 37 = .ok (.bipush (-2), 2) := by decide +kernel
theorem dX6_aloud_39 : decode cX6_aloud 39 = .ok (.invokevirtual 91, 3) := by decide +kernel
theorem dX6_aloud_42 : decode cX6_aloud 42 = .ok (.ireturn, 1) := by decide +kernel
theorem dX6_alter_0 : decode cX6_alter 0 = .ok (.aload_n 0, 1) := by decide +kernel
theorem dX6_alter_1 : decode cX6_alter 1 = .ok (.iload_n 1, 1) := by decide +kernel
theorem dX6_alter_2 : decode cX6_alter 2 = .ok (.i2l, 1) := by decide +kernel
theorem dX6_alter_3 : decode cX6_alter 3 = .ok (.invokevirtual 236, 3) := by decide +kernel
theorem dX6_alter_6 : decode cX6_alter 6 = .ok (.ifCond .eq 24, 3) := by decide +kernel
theorem dX6_alter_30 : decode cX6_alter 30 = .ok (.aload_n 0, 1) := by decide +kernel
theorem dX6_alter_31 : decode cX6_alter 31 = .ok (.bipush (-2), 2) := by decide +kernel
theorem dX6_alter_33 : decode cX6_alter 33 = .ok (.invokevirtual 91, 3) := by decide +kernel
theorem dX6_alter_36 : decode cX6_alter 36 = .ok (.ireturn, 1) := by decide +kernel
theorem dX6_book_0 : decode cX6_book 0 = .ok (.iload_n 1, 1) := by decide +kernel
theorem dX6_book_1 : decode cX6_book 1 = .ok (.i2l, 1) := by decide +kernel
theorem dX6_book_2 : decode cX6_book 2 = .ok (.lconst 1, 1) := by decide +kernel
theorem dX6_book_3 : decode cX6_book 3 = .ok (.ldc2_w 104, 3) := by decide +kernel
theorem dX6_book_6 : decode cX6_book 6 = .ok (.invokestatic 74, 3) := by decide +kernel
theorem dX6_book_9 : decode cX6_book 9 = .ok (.ifCond .eq 21, 3) := by decide +kernel
theorem dX6_book_12 : decode cX6_book 12 = .ok (.iload_n 2, 1) := by decide +kernel
theorem dX6_book_13 : decode cX6_book 13 = .ok (.i2l, 1) := by decide +kernel
theorem dX6_book_14 : decode cX6_book 14 = .ok (.lconst 0, 1) := by decide +kernel
theorem dX6_book_15 : decode cX6_book 15 = .ok (.iconst 1, 1) := by decide +kernel
theorem dX6_book_16 : decode cX6_book 16 = .ok (.aload_n 0, 1) := by decide +kernel
theorem dX6_book_17 : decode cX6_book 17 = .ok (.getfield 71, 3) := by decide +kernel
theorem dX6_book_20 : decode cX6_book 20 = .ok (.ishl, 1) := by decide +kernel
theorem dX6_book_21 : decode cX6_book 21 = .ok (.iconst 1, 1) := by decide +kernel
theorem dX6_book_22 : decode cX6_book 22 = .ok (.isub, 1) := by decide +kernel
theorem dX6_book_23 : decode cX6_book 23 = .ok (.i2l, 1) := by decide +kernel
theorem dX6_book_24 : decode cX6_book 24 = .ok (.invokestatic 74, 3) := by decide +kernel
theorem dX6_book_27 : decode cX6_book 27 = .ok (.ifCond .ne 10, 3) := by decide +kernel
theorem dX6_book_30 : decode cX6_book 30 = .ok (.aload_n 0, 1) := by decide +kernel
theorem dX6_book_31 : decode cX6_book 31 = .ok (.bipush (-2), 2) := by decide +kernel
theorem dX6_book_33 : decode cX6_book 33 = .ok (.invokevirtual 91, 3) := by decide +kernel
theorem dX6_book_36 : decode cX6_book 36 = .ok (.ireturn, 1) := by decide +kernel
theorem dX6_book_37 : decode cX6_book 37 = .ok (.aload_n 0, 1) := by decide +kernel
theorem dX6_book_38 : decode cX6_book 38 = .ok (.getfield 71, 3) := by decide +kernel
theorem dX6_book_41 : decode cX6_book 41 = .ok (.bipush 8, 2) := by decide +kernel
theorem dX6_book_43 : decode cX6_book 43 = .ok (.if_icmp .ne 10, 3) := by decide +kernel
theorem dX6_book_53 : decode cX6_book 53 = .ok (.aload_n 0, 1) := by decide +kernel
theorem dX6_book_54 : decode cX6_book 54 = .ok (.iload_n 1, 1) := by decide +kernel
theorem dX6_book_55 : decode cX6_book 55 = .ok (.invokevirtual 126, 3) := by decide +kernel
theorem dX6_book_58 : decode cX6_book 58 = .ok (.aload_n 0, 1) := by decide +kernel
theorem dX6_book_59 : decode cX6_book 59 = .ok (.getfield 42, 3) := by decide +kernel
theorem dX6_book_62 : decode cX6_book 62 = .ok (.aload_n 0, 1) := by decide +kernel
theorem dX6_book_63 : decode cX6_book 63 = .ok (.getfield 71, 3) := by decide +kernel
theorem dX6_book_66 : decode cX6_book 66 = .ok (.aaload, 1) := by decide +kernel
theorem dX6_book_67 : decode cX6_book 67 = .ok (.iconst 1, 1) := by decide +kernel
theorem dX6_book_68 : decode cX6_book 68 = .ok (.iload_n 2, 1) := by decide +kernel
theorem dX6_book_69 : decode cX6_book 69 = .ok (.iastore, 1) := by decide +kernel
theorem dX6_book_70 : decode cX6_book 70 = .ok (.aload_n 0, 1) := by decide +kernel
theorem dX6_book_71 : decode cX6_book 71 = .ok (.dup, 1) := by decide +kernel
theorem dX6_book_72 : decode cX6_book 72 = .ok (.getfield 71, 3) := by decide +kernel
theorem dX6_book_75 : decode cX6_book 75 = .ok (.dup_x1, 1) := by decide +kernel
theorem dX6_book_76 : decode cX6_book 76 = .ok (.iconst 1, 1) := by decide +kernel
theorem dX6_book_77 : decode cX6_book 77 = .ok (.iadd, 1) := by decide +kernel
theorem dX6_book_78 : decode cX6_book 78 = .ok (.putfield 71, 3) := by decide +kernel
theorem dX6_book_81 : decode cX6_book 81 = .ok (.ireturn, 1) := by decide +kernel
theorem dX6_bookOf_0 : decode cX6_bookOf 0 = .ok (.aload_n 0, 1) := by decide +kernel
theorem dX6_bookOf_1 : decode cX6_bookOf 1 = .ok (.iload_n 1, 1) := by decide +kernel
theorem dX6_bookOf_2 : decode cX6_bookOf 2 = .ok (.i2l, 1) := by decide +kernel
theorem dX6_bookOf_3 : decode cX6_bookOf 3 = .ok (.invokevirtual 229, 3) := by decide +kernel
theorem dX6_bookOf_6 : decode cX6_bookOf 6 = .ok (.ifCond .eq 15, 3) := by decide +kernel
theorem dX6_bookOf_21 : decode cX6_bookOf 21 = .ok (.aload_n 0, 1) := by decide +kernel
theorem dX6_bookOf_22 : decode cX6_bookOf 22 = .ok (.bipush (-2), 2) := by decide +kernel
theorem dX6_bookOf_24 : decode cX6_bookOf 24 = .ok (.invokevirtual 91, 3) := by decide +kernel
theorem dX6_bookOf_27 : decode cX6_bookOf 27 = .ok (.ireturn, 1) := by decide +kernel
theorem dX6_copy_0 : decode cX6_copy 0 = .ok (.iload_n 1, 1) := by decide +kernel
theorem dX6_copy_1 : decode cX6_copy 1 = .ok (.i2l, 1) := by decide +kernel
theorem dX6_copy_2 : decode cX6_copy 2 = .ok (.lconst 0, 1) := by decide +kernel
theorem dX6_copy_3 : decode cX6_copy 3 = .ok (.ldc2_w 85, 3) := by decide +kernel
theorem dX6_copy_6 : decode cX6_copy 6 = .ok (.invokestatic 74, 3) := by decide +kernel
theorem dX6_copy_9 : decode cX6_copy 9 = .ok (.ifCond .eq 15, 3) := by decide +kernel
theorem dX6_copy_12 : decode cX6_copy 12 = .ok (.iload_n 2, 1) := by decide +kernel
theorem dX6_copy_13 : decode cX6_copy 13 = .ok (.i2l, 1) := by decide +kernel
theorem dX6_copy_14 : decode cX6_copy 14 = .ok (.lconst 0, 1) := by decide +kernel
theorem dX6_copy_15 : decode cX6_copy 15 = .ok (.ldc2_w 85, 3) := by decide +kernel
theorem dX6_copy_18 : decode cX6_copy 18 = .ok (.invokestatic 74, 3) := by decide +kernel
theorem dX6_copy_21 : decode cX6_copy 21 = .ok (.ifCond .ne 10, 3) := by decide +kernel
theorem dX6_copy_24 : decode cX6_copy 24 = .ok (.aload_n 0, 1) := by decide +kernel
theorem dX6_copy_25 : decode cX6_copy 25 = .ok (.bipush (-2), 2) := by decide +kernel
theorem dX6_copy_27 : decode cX6_copy 27 = .ok (.invokevirtual 91, 3) := by decide +kernel
theorem dX6_copy_30 : decode cX6_copy 30 = .ok (.ireturn, 1) := by decide +kernel
theorem dX6_copy_31 : decode cX6_copy 31 = .ok (.aload_n 0, 1) := by decide +kernel
theorem dX6_copy_32 : decode cX6_copy 32 = .ok (.getfield 7, 3) := by decide +kernel
theorem dX6_copy_35 : decode cX6_copy 35 = .ok (.iload_n 1, 1) := by decide +kernel
theorem dX6_copy_36 : decode cX6_copy 36 = .ok (.iaload, 1) := by decide +kernel
theorem dX6_copy_37 : decode cX6_copy 37 = .ok (.iconst 2, 1) := by decide +kernel
theorem dX6_copy_38 : decode cX6_copy 38 = .ok (.if_icmp .eq 48, 3) := by decide +kernel
theorem dX6_copy_41 : decode cX6_copy 41 = .ok (.aload_n 0, 1) := by decide +kernel
theorem dX6_copy_42 : decode cX6_copy 42 = .ok (.getfield 7, 3) := by decide +kernel
theorem dX6_copy_45 : decode cX6_copy 45 = .ok (.iload_n 2, 1) := by decide +kernel
theorem dX6_copy_46 : decode cX6_copy 46 = .ok (.iaload, 1) := by decide +kernel
theorem dX6_copy_47 : decode cX6_copy 47 = .ok (.iconst 2, 1) := by decide +kernel
theorem dX6_copy_48 : decode cX6_copy 48 = .ok (.if_icmp .eq 38, 3) := by decide +kernel
theorem dX6_copy_51 : decode cX6_copy 51 = .ok (.aload_n 0, 1) := by decide +kernel
theorem dX6_copy_52 : decode cX6_copy 52 = .ok (.getfield 7, 3) := by decide +kernel
theorem dX6_copy_55 : decode cX6_copy 55 = .ok (.iload_n 1, 1) := by decide +kernel
theorem dX6_copy_56 : decode cX6_copy 56 = .ok (.iaload, 1) := by decide +kernel
theorem dX6_copy_57 : decode cX6_copy 57 = .ok (.iconst 1, 1) := by decide +kernel
theorem dX6_copy_58 : decode cX6_copy 58 = .ok (.if_icmp .ne 35, 3) := by decide +kernel
theorem dX6_copy_93 : decode cX6_copy 93 = .ok (.aload_n 0, 1) := by decide +kernel
theorem dX6_copy_94 : decode cX6_copy 94 = .ok (.getfield 7, 3) := by decide +kernel
theorem dX6_copy_97 : decode cX6_copy 97 = .ok (.iload_n 1, 1) := by decide +kernel
theorem dX6_copy_98 : decode cX6_copy 98 = .ok (.iaload, 1) := by decide +kernel
theorem dX6_copy_99 : decode cX6_copy 99 = .ok (.ifCond .eq 12, 3) := by decide +kernel
theorem dX6_copy_111 : decode cX6_copy 111 = .ok (.aload_n 0, 1) := by decide +kernel
theorem dX6_copy_112 : decode cX6_copy 112 = .ok (.bipush (-4), 2) := by decide +kernel
theorem dX6_copy_114 : decode cX6_copy 114 = .ok (.invokevirtual 91, 3) := by decide +kernel
theorem dX6_copy_117 : decode cX6_copy 117 = .ok (.ireturn, 1) := by decide +kernel
theorem dX6_element_0 : decode cX6_element 0 = .ok (.iload_n 1, 1) := by decide +kernel
theorem dX6_element_1 : decode cX6_element 1 = .ok (.i2l, 1) := by decide +kernel
theorem dX6_element_2 : decode cX6_element 2 = .ok (.lconst 0, 1) := by decide +kernel
theorem dX6_element_3 : decode cX6_element 3 = .ok (.ldc2_w 85, 3) := by decide +kernel
theorem dX6_element_6 : decode cX6_element 6 = .ok (.invokestatic 74, 3) := by decide +kernel
theorem dX6_element_9 : decode cX6_element 9 = .ok (.ifCond .eq 42, 3) := by decide +kernel
theorem dX6_element_12 : decode cX6_element 12 = .ok (.aload_n 0, 1) := by decide +kernel
theorem dX6_element_13 : decode cX6_element 13 = .ok (.getfield 7, 3) := by decide +kernel
theorem dX6_element_16 : decode cX6_element 16 = .ok (.iload_n 1, 1) := by decide +kernel
theorem dX6_element_17 : decode cX6_element 17 = .ok (.iaload, 1) := by decide +kernel
theorem dX6_element_18 : decode cX6_element 18 = .ok (.iconst 1, 1) := by decide +kernel
theorem dX6_element_19 : decode cX6_element 19 = .ok (.if_icmp .ne 32, 3) := by decide +kernel
theorem dX6_element_51 : decode cX6_element 51 = .ok (.lconst 0, 1) := by decide +kernel
theorem dX6_element_52 : decode cX6_element 52 = .ok (.lreturn, 1) := by decide +kernel
theorem dX6_feed_0 : decode cX6_feed 0 = .ok (.iload_n 2, 1) := by decide +kernel
theorem dX6_feed_1 : decode cX6_feed 1 = .ok (.i2l, 1) := by decide +kernel
theorem dX6_feed_2 : decode cX6_feed 2 = .ok (.lconst 1, 1) := by decide +kernel
theorem dX6_feed_3 : decode cX6_feed 3 = .ok (.ldc2_w 87, 3) := by decide +kernel
theorem dX6_feed_6 : decode cX6_feed 6 = .ok (.invokestatic 74, 3) := by decide +kernel
theorem dX6_feed_9 : decode cX6_feed 9 = .ok (.ifCond .ne 10, 3) := by decide +kernel
theorem dX6_feed_12 : decode cX6_feed 12 = .ok (.aload_n 0, 1) := by decide +kernel
theorem dX6_feed_13 : decode cX6_feed 13 = .ok (.bipush (-2), 2) := by decide +kernel
theorem dX6_feed_15 : decode cX6_feed 15 = .ok (.invokevirtual 91, 3) := by decide +kernel
theorem dX6_feed_18 : decode cX6_feed 18 = .ok (.ireturn, 1) := by decide +kernel
theorem dX6_feed_19 : decode cX6_feed 19 = .ok (.iload_n 2, 1) := by decide +kernel
theorem dX6_feed_20 : decode cX6_feed 20 = .ok (.sipush 250, 3) := by decide +kernel
theorem dX6_feed_23 : decode cX6_feed 23 = .ok (.aload_n 0, 1) := by decide +kernel
theorem dX6_feed_24 : decode cX6_feed 24 = .ok (.getfield 141, 3) := by decide +kernel
theorem dX6_feed_27 : decode cX6_feed 27 = .ok (.isub, 1) := by decide +kernel
theorem dX6_feed_28 : decode cX6_feed 28 = .ok (.if_icmp .le 10, 3) := by decide +kernel
theorem dX6_feed_38 : decode cX6_feed 38 = .ok (.iload_n 2, 1) := by decide +kernel
theorem dX6_feed_39 : decode cX6_feed 39 = .ok (.iconst 1, 1) := by decide +kernel
theorem dX6_feed_40 : decode cX6_feed 40 = .ok (.isub, 1) := by decide +kernel
theorem dX6_feed_41 : decode cX6_feed 41 = .ok (.istore_n 3, 1) := by decide +kernel
theorem dX6_feed_42 : decode cX6_feed 42 = .ok (.iload_n 3, 1) := by decide +kernel
theorem dX6_feed_43 : decode cX6_feed 43 = .ok (.ifCond .lt 35, 3) := by decide +kernel
theorem dX6_feed_46 : decode cX6_feed 46 = .ok (.aload_n 0, 1) := by decide +kernel
theorem dX6_feed_47 : decode cX6_feed 47 = .ok (.getfield 34, 3) := by decide +kernel
theorem dX6_feed_50 : decode cX6_feed 50 = .ok (.aload_n 0, 1) := by decide +kernel
theorem dX6_feed_51 : decode cX6_feed 51 = .ok (.dup, 1) := by decide +kernel
theorem dX6_feed_52 : decode cX6_feed 52 = .ok (.getfield 141, 3) := by decide +kernel
theorem dX6_feed_55 : decode cX6_feed 55 = .ok (.dup_x1, 1) := by decide +kernel
theorem dX6_feed_56 : decode cX6_feed 56 = .ok (.iconst 1, 1) := by decide +kernel
theorem dX6_feed_57 : decode cX6_feed 57 = .ok (.iadd, 1) := by decide +kernel
theorem dX6_feed_58 : decode cX6_feed 58 = .ok (.putfield 141, 3) := by decide +kernel
theorem dX6_feed_61 : decode cX6_feed 61 = .ok (.iload_n 1, 1) := by decide +kernel
theorem dX6_feed_62 : decode cX6_feed 62 = .ok (.bipush 8, 2) := by decide +kernel
theorem dX6_feed_64 : decode cX6_feed 64 = .ok (.iload_n 3, 1) := by decide +kernel
theorem dX6_feed_65 : decode cX6_feed 65 = .ok (.imul, 1) := by decide +kernel
theorem dX6_feed_66 : decode cX6_feed 66 = .ok (.ishr, 1) := by decide +kernel
theorem dX6_feed_67 : decode cX6_feed 67 = .ok (.sipush 255, 3) := by decide +kernel
theorem dX6_feed_70 : decode cX6_feed 70 = .ok (.iand, 1) := by decide +kernel
theorem dX6_feed_71 : decode cX6_feed 71 = .ok (.iastore, 1) := by decide +kernel
theorem dX6_feed_72 : decode cX6_feed 72 = .ok (.iinc 3 (-1), 3) := by decide +kernel
theorem dX6_feed_75 : decode cX6_feed 75 = .ok (.goto (-33), 3) := by decide +kernel
theorem dX6_feed_78 : decode cX6_feed 78 = .ok (.aload_n 0, 1) := by decide +kernel
theorem dX6_feed_79 : decode cX6_feed 79 = .ok (.getfield 141, 3) := by decide +kernel
theorem dX6_feed_82 : decode cX6_feed 82 = .ok (.ireturn, 1) := by decide +kernel
theorem dX6_ground_0 : decode cX6_ground 0 = .ok (.aload_n 0, 1) := by decide +kernel
theorem dX6_ground_1 : decode cX6_ground 1 = .ok (.iload_n 1, 1) := by decide +kernel
theorem dX6_ground_2 : decode cX6_ground 2 = .ok (.i2l, 1) := by decide +kernel
theorem dX6_ground_3 : decode cX6_ground 3 = .ok (.invokevirtual 236, 3) := by decide +kernel
theorem dX6_ground_6 : decode cX6_ground 6 = .ok (.ifCond .eq 21, 3) := by decide +kernel
theorem dX6_ground_27 : decode cX6_ground 27 = .ok (.aload_n 0, 1) := by decide +kernel
theorem dX6_ground_28 : decode cX6_ground 28 = .ok (.bipush (-2), 2) := by decide +kernel
theorem dX6_ground_30 : decode cX6_ground 30 = .ok (.invokevirtual 91, 3) := by decide +kernel
theorem dX6_ground_33 : decode cX6_ground 33 = .ok (.ireturn, 1) := by decide +kernel
theorem dX6_holds_0 : decode cX6_holds 0 = .ok (.iload_n 1, 1) := by decide +kernel
theorem dX6_holds_1 : decode cX6_holds 1 = .ok (.i2l, 1) := by decide +kernel
theorem dX6_holds_2 : decode cX6_holds 2 = .ok (.lconst 0, 1) := by decide +kernel
theorem dX6_holds_3 : decode cX6_holds 3 = .ok (.ldc2_w 85, 3) := by decide +kernel
theorem dX6_holds_6 : decode cX6_holds 6 = .ok (.invokestatic 74, 3) := by decide +kernel
theorem dX6_holds_9 : decode cX6_holds 9 = .ok (.ifCond .eq 12, 3) := by decide +kernel
theorem dX6_holds_12 : decode cX6_holds 12 = .ok (.aload_n 0, 1) := by decide +kernel
theorem dX6_holds_13 : decode cX6_holds 13 = .ok (.getfield 7, 3) := by decide +kernel
theorem dX6_holds_16 : decode cX6_holds 16 = .ok (.iload_n 1, 1) := by decide +kernel
theorem dX6_holds_17 : decode cX6_holds 17 = .ok (.iaload, 1) := by decide +kernel
theorem dX6_holds_18 : decode cX6_holds 18 = .ok (.ifCond .ne 5, 3) := by decide +kernel
theorem dX6_holds_21 : decode cX6_holds 21 = .ok (.iconst (-1), 1) := by decide +kernel
theorem dX6_holds_22 : decode cX6_holds 22 = .ok (.ireturn, 1) := by decide +kernel
theorem dX6_known_0 : decode cX6_known 0 = .ok (.aload_n 0, 1) := by decide +kernel
theorem dX6_known_1 : decode cX6_known 1 = .ok (.iload_n 1, 1) := by decide +kernel
theorem dX6_known_2 : decode cX6_known 2 = .ok (.i2l, 1) := by decide +kernel
theorem dX6_known_3 : decode cX6_known 3 = .ok (.invokevirtual 236, 3) := by decide +kernel
theorem dX6_known_6 : decode cX6_known 6 = .ok (.ifCond .eq 23, 3) := by decide +kernel
theorem dX6_known_29 : decode cX6_known 29 = .ok (.aload_n 0, 1) := by decide +kernel
theorem dX6_known_30 : decode cX6_known 30 = .ok (.bipush (-2), 2) := by decide +kernel
theorem dX6_known_32 : decode cX6_known 32 = .ok (.invokevirtual 91, 3) := by decide +kernel
theorem dX6_known_35 : decode cX6_known 35 = .ok (.ireturn, 1) := by decide +kernel
theorem dX6_one_0 : decode cX6_one 0 = .ok (.aload_n 0, 1) := by decide +kernel
theorem dX6_one_1 : decode cX6_one 1 = .ok (.iload_n 1, 1) := by decide +kernel
theorem dX6_one_2 : decode cX6_one 2 = .ok (.i2l, 1) := by decide +kernel
theorem dX6_one_3 : decode cX6_one 3 = .ok (.iload_n 2, 1) := by decide +kernel
theorem dX6_one_4 : decode cX6_one 4 = .ok (.i2l, 1) := by decide +kernel
theorem dX6_one_5 : decode cX6_one 5 = .ok (.iload_n 3, 1) := by decide +kernel
theorem dX6_one_6 : decode cX6_one 6 = .ok (.i2l, 1) := by decide +kernel
theorem dX6_one_7 : decode cX6_one 7 = .ok (.iload 4, 2) := by decide +kernel
theorem dX6_one_9 : decode cX6_one 9 = .ok (.i2l, 1) := by decide +kernel
theorem dX6_one_10 : decode cX6_one 10 = .ok (.invokevirtual 137, 3) := by decide +kernel
theorem dX6_one_13 : decode cX6_one 13 = .ok (.istore 5, 2) := by decide +kernel
theorem dX6_one_15 : decode cX6_one 15 = .ok (.iload 5, 2) := by decide +kernel
theorem dX6_one_17 : decode cX6_one 17 = .ok (.ifCond .ge 12, 3) := by decide +kernel
theorem dX6_one_20 : decode cX6_one 20 = .ok (.aload_n 0, 1) := by decide +kernel
theorem dX6_one_21 : decode cX6_one 21 = .ok (.iload 5, 2) := by decide +kernel
theorem dX6_one_23 : decode cX6_one 23 = .ok (.invokevirtual 91, 3) := by decide +kernel
theorem dX6_one_26 : decode cX6_one 26 = .ok (.goto 5, 3) := by decide +kernel
theorem dX6_one_29 : decode cX6_one 29 = .ok (.iload 5, 2) := by decide +kernel
theorem dX6_one_31 : decode cX6_one 31 = .ok (.ireturn, 1) := by decide +kernel
theorem dX6_oneOf_0 : decode cX6_oneOf 0 = .ok (.aload_n 0, 1) := by decide +kernel
theorem dX6_oneOf_1 : decode cX6_oneOf 1 = .ok (.iload_n 1, 1) := by decide +kernel
theorem dX6_oneOf_2 : decode cX6_oneOf 2 = .ok (.i2l, 1) := by decide +kernel
theorem dX6_oneOf_3 : decode cX6_oneOf 3 = .ok (.invokevirtual 236, 3) := by decide +kernel
theorem dX6_oneOf_6 : decode cX6_oneOf 6 = .ok (.ifCond .eq 26, 3) := by decide +kernel
theorem dX6_oneOf_32 : decode cX6_oneOf 32 = .ok (.aload_n 0, 1) := by decide +kernel
theorem dX6_oneOf_33 : decode cX6_oneOf 33 = .ok (.bipush (-2), 2) := by decide +kernel
theorem dX6_oneOf_35 : decode cX6_oneOf 35 = .ok (.invokevirtual 91, 3) := by decide +kernel
theorem dX6_oneOf_38 : decode cX6_oneOf 38 = .ok (.ireturn, 1) := by decide +kernel
theorem dX6_ones_0 : decode cX6_ones 0 = .ok (.aload_n 0, 1) := by decide +kernel
theorem dX6_ones_1 : decode cX6_ones 1 = .ok (.iload_n 1, 1) := by decide +kernel
theorem dX6_ones_2 : decode cX6_ones 2 = .ok (.invokevirtual 95, 3) := by decide +kernel
theorem dX6_ones_5 : decode cX6_ones 5 = .ok (.istore_n 3, 1) := by decide +kernel
theorem dX6_ones_6 : decode cX6_ones 6 = .ok (.iload_n 3, 1) := by decide +kernel
theorem dX6_ones_7 : decode cX6_ones 7 = .ok (.ifCond .eq 5, 3) := by decide +kernel
theorem dX6_ones_10 : decode cX6_ones 10 = .ok (.iload_n 3, 1) := by decide +kernel
theorem dX6_ones_11 : decode cX6_ones 11 = .ok (.ireturn, 1) := by decide +kernel
theorem dX6_read_0 : decode cX6_read 0 = .ok (.aload_n 0, 1) := by decide +kernel
theorem dX6_read_1 : decode cX6_read 1 = .ok (.iload_n 1, 1) := by decide +kernel
theorem dX6_read_2 : decode cX6_read 2 = .ok (.iload_n 2, 1) := by decide +kernel
theorem dX6_read_3 : decode cX6_read 3 = .ok (.invokevirtual 251, 3) := by decide +kernel
theorem dX6_read_6 : decode cX6_read 6 = .ok (.istore_n 3, 1) := by decide +kernel
theorem dX6_read_7 : decode cX6_read 7 = .ok (.iload_n 3, 1) := by decide +kernel
theorem dX6_read_8 : decode cX6_read 8 = .ok (.ifCond .eq 5, 3) := by decide +kernel
theorem dX6_read_11 : decode cX6_read 11 = .ok (.iload_n 3, 1) := by decide +kernel
theorem dX6_read_12 : decode cX6_read 12 = .ok (.ireturn, 1) := by decide +kernel
theorem dX6_reader_0 : decode cX6_reader 0 = .ok (.aload_n 0, 1) := by decide +kernel
theorem dX6_reader_1 : decode cX6_reader 1 = .ok (.iload_n 1, 1) := by decide +kernel
theorem dX6_reader_2 : decode cX6_reader 2 = .ok (.i2l, 1) := by decide +kernel
theorem dX6_reader_3 : decode cX6_reader 3 = .ok (.invokevirtual 229, 3) := by decide +kernel
theorem dX6_reader_6 : decode cX6_reader 6 = .ok (.ifCond .ne 10, 3) := by decide +kernel
theorem dX6_reader_9 : decode cX6_reader 9 = .ok (.aload_n 0, 1) := by decide +kernel
theorem dX6_reader_10 : decode cX6_reader 10 = .ok (.bipush (-2), 2) := by decide +kernel
theorem dX6_reader_12 : decode cX6_reader 12 = .ok (.invokevirtual 91, 3) := by decide +kernel
theorem dX6_reader_15 : decode cX6_reader 15 = .ok (.ireturn, 1) := by decide +kernel
theorem dX6_row_0 : decode cX6_row 0 = .ok (.iload_n 1, 1) := by decide +kernel
theorem dX6_row_1 : decode cX6_row 1 = .ok (.i2l, 1) := by decide +kernel
theorem dX6_row_2 : decode cX6_row 2 = .ok (.lconst 0, 1) := by decide +kernel
theorem dX6_row_3 : decode cX6_row 3 = .ok (.ldc2_w 85, 3) := by decide +kernel
theorem dX6_row_6 : decode cX6_row 6 = .ok (.invokestatic 74, 3) := by decide +kernel
theorem dX6_row_9 : decode cX6_row 9 = .ok (.ifCond .eq 27, 3) := by decide +kernel
theorem dX6_row_12 : decode cX6_row 12 = .ok (.iload_n 2, 1) := by decide +kernel
theorem dX6_row_13 : decode cX6_row 13 = .ok (.i2l, 1) := by decide +kernel
theorem dX6_row_14 : decode cX6_row 14 = .ok (.lconst 0, 1) := by decide +kernel
theorem dX6_row_15 : decode cX6_row 15 = .ok (.ldc2_w 87, 3) := by decide +kernel
theorem dX6_row_18 : decode cX6_row 18 = .ok (.invokestatic 74, 3) := by decide +kernel
theorem dX6_row_21 : decode cX6_row 21 = .ok (.ifCond .eq 15, 3) := by decide +kernel
theorem dX6_row_24 : decode cX6_row 24 = .ok (.iload_n 3, 1) := by decide +kernel
theorem dX6_row_25 : decode cX6_row 25 = .ok (.i2l, 1) := by decide +kernel
theorem dX6_row_26 : decode cX6_row 26 = .ok (.lconst 0, 1) := by decide +kernel
theorem dX6_row_27 : decode cX6_row 27 = .ok (.ldc2_w 89, 3) := by decide +kernel
theorem dX6_row_30 : decode cX6_row 30 = .ok (.invokestatic 74, 3) := by decide +kernel
theorem dX6_row_33 : decode cX6_row 33 = .ok (.ifCond .ne 10, 3) := by decide +kernel
theorem dX6_row_36 : decode cX6_row 36 = .ok (.aload_n 0, 1) := by decide +kernel
theorem dX6_row_37 : decode cX6_row 37 = .ok (.bipush (-2), 2) := by decide +kernel
theorem dX6_row_39 : decode cX6_row 39 = .ok (.invokevirtual 91, 3) := by decide +kernel
theorem dX6_row_42 : decode cX6_row 42 = .ok (.ireturn, 1) := by decide +kernel
theorem dX6_row_43 : decode cX6_row 43 = .ok (.aload_n 0, 1) := by decide +kernel
theorem dX6_row_44 : decode cX6_row 44 = .ok (.getfield 7, 3) := by decide +kernel
theorem dX6_row_47 : decode cX6_row 47 = .ok (.iload_n 1, 1) := by decide +kernel
theorem dX6_row_48 : decode cX6_row 48 = .ok (.iconst 1, 1) := by decide +kernel
theorem dX6_row_49 : decode cX6_row 49 = .ok (.iastore, 1) := by decide +kernel
theorem dX6_row_50 : decode cX6_row 50 = .ok (.aload_n 0, 1) := by decide +kernel
theorem dX6_row_51 : decode cX6_row 51 = .ok (.getfield 13, 3) := by decide +kernel
theorem dX6_row_54 : decode cX6_row 54 = .ok (.iload_n 1, 1) := by decide +kernel
theorem dX6_row_55 : decode cX6_row 55 = .ok (.iload_n 2, 1) := by decide +kernel
theorem dX6_row_56 : decode cX6_row 56 = .ok (.iastore, 1) := by decide +kernel
theorem dX6_row_57 : decode cX6_row 57 = .ok (.aload_n 0, 1) := by decide +kernel
theorem dX6_row_58 : decode cX6_row 58 = .ok (.getfield 16, 3) := by decide +kernel
theorem dX6_row_61 : decode cX6_row 61 = .ok (.iload_n 1, 1) := by decide +kernel
theorem dX6_row_62 : decode cX6_row 62 = .ok (.iload_n 3, 1) := by decide +kernel
theorem dX6_row_63 : decode cX6_row 63 = .ok (.iastore, 1) := by decide +kernel
theorem dX6_row_64 : decode cX6_row 64 = .ok (.iconst 0, 1) := by decide +kernel
theorem dX6_row_65 : decode cX6_row 65 = .ok (.istore 4, 2) := by decide +kernel
theorem dX6_row_67 : decode cX6_row 67 = .ok (.iload 4, 2) := by decide +kernel
theorem dX6_row_69 : decode cX6_row 69 = .ok (.bipush 40, 2) := by decide +kernel
theorem dX6_row_71 : decode cX6_row 71 = .ok (.if_icmp .ge 19, 3) := by decide +kernel
theorem dX6_row_74 : decode cX6_row 74 = .ok (.aload_n 0, 1) := by decide +kernel
theorem dX6_row_75 : decode cX6_row 75 = .ok (.getfield 21, 3) := by decide +kernel
theorem dX6_row_78 : decode cX6_row 78 = .ok (.iload_n 1, 1) := by decide +kernel
theorem dX6_row_79 : decode cX6_row 79 = .ok (.aaload, 1) := by decide +kernel
theorem dX6_row_80 : decode cX6_row 80 = .ok (.iload 4, 2) := by decide +kernel
theorem dX6_row_82 : decode cX6_row 82 = .ok (.lconst 0, 1) := by decide +kernel
theorem dX6_row_83 : decode cX6_row 83 = .ok (.lastore, 1) := by decide +kernel
theorem dX6_row_84 : decode cX6_row 84 = .ok (.iinc 4 1, 3) := by decide +kernel
theorem dX6_row_87 : decode cX6_row 87 = .ok (.goto (-20), 3) := by decide +kernel
theorem dX6_row_90 : decode cX6_row 90 = .ok (.iconst 1, 1) := by decide +kernel
theorem dX6_row_91 : decode cX6_row 91 = .ok (.ireturn, 1) := by decide +kernel
theorem dX6_rule_0 : decode cX6_rule 0 = .ok (.iload_n 1, 1) := by decide +kernel
theorem dX6_rule_1 : decode cX6_rule 1 = .ok (.i2l, 1) := by decide +kernel
theorem dX6_rule_2 : decode cX6_rule 2 = .ok (.lconst 0, 1) := by decide +kernel
theorem dX6_rule_3 : decode cX6_rule 3 = .ok (.ldc2_w 85, 3) := by decide +kernel
theorem dX6_rule_6 : decode cX6_rule 6 = .ok (.invokestatic 74, 3) := by decide +kernel
theorem dX6_rule_9 : decode cX6_rule 9 = .ok (.ifCond .eq 27, 3) := by decide +kernel
theorem dX6_rule_12 : decode cX6_rule 12 = .ok (.iload_n 2, 1) := by decide +kernel
theorem dX6_rule_13 : decode cX6_rule 13 = .ok (.i2l, 1) := by decide +kernel
theorem dX6_rule_14 : decode cX6_rule 14 = .ok (.lconst 1, 1) := by decide +kernel
theorem dX6_rule_15 : decode cX6_rule 15 = .ok (.ldc2_w 102, 3) := by decide +kernel
theorem dX6_rule_18 : decode cX6_rule 18 = .ok (.invokestatic 74, 3) := by decide +kernel
theorem dX6_rule_21 : decode cX6_rule 21 = .ok (.ifCond .eq 15, 3) := by decide +kernel
theorem dX6_rule_24 : decode cX6_rule 24 = .ok (.iload_n 3, 1) := by decide +kernel
theorem dX6_rule_25 : decode cX6_rule 25 = .ok (.i2l, 1) := by decide +kernel
theorem dX6_rule_26 : decode cX6_rule 26 = .ok (.lconst 0, 1) := by decide +kernel
theorem dX6_rule_27 : decode cX6_rule 27 = .ok (.ldc2_w 104, 3) := by decide +kernel
theorem dX6_rule_30 : decode cX6_rule 30 = .ok (.invokestatic 74, 3) := by decide +kernel
theorem dX6_rule_33 : decode cX6_rule 33 = .ok (.ifCond .ne 10, 3) := by decide +kernel
theorem dX6_rule_36 : decode cX6_rule 36 = .ok (.aload_n 0, 1) := by decide +kernel
theorem dX6_rule_37 : decode cX6_rule 37 = .ok (.bipush (-2), 2) := by decide +kernel
theorem dX6_rule_39 : decode cX6_rule 39 = .ok (.invokevirtual 91, 3) := by decide +kernel
theorem dX6_rule_42 : decode cX6_rule 42 = .ok (.ireturn, 1) := by decide +kernel
theorem dX6_rule_43 : decode cX6_rule 43 = .ok (.aload_n 0, 1) := by decide +kernel
theorem dX6_rule_44 : decode cX6_rule 44 = .ok (.getfield 7, 3) := by decide +kernel
theorem dX6_rule_47 : decode cX6_rule 47 = .ok (.iload_n 1, 1) := by decide +kernel
theorem dX6_rule_48 : decode cX6_rule 48 = .ok (.iconst 2, 1) := by decide +kernel
theorem dX6_rule_49 : decode cX6_rule 49 = .ok (.iastore, 1) := by decide +kernel
theorem dX6_rule_50 : decode cX6_rule 50 = .ok (.aload_n 0, 1) := by decide +kernel
theorem dX6_rule_51 : decode cX6_rule 51 = .ok (.getfield 28, 3) := by decide +kernel
theorem dX6_rule_54 : decode cX6_rule 54 = .ok (.iload_n 1, 1) := by decide +kernel
theorem dX6_rule_55 : decode cX6_rule 55 = .ok (.iload_n 2, 1) := by decide +kernel
theorem dX6_rule_56 : decode cX6_rule 56 = .ok (.iastore, 1) := by decide +kernel
theorem dX6_rule_57 : decode cX6_rule 57 = .ok (.aload_n 0, 1) := by decide +kernel
theorem dX6_rule_58 : decode cX6_rule 58 = .ok (.getfield 31, 3) := by decide +kernel
theorem dX6_rule_61 : decode cX6_rule 61 = .ok (.iload_n 1, 1) := by decide +kernel
theorem dX6_rule_62 : decode cX6_rule 62 = .ok (.iload_n 3, 1) := by decide +kernel
theorem dX6_rule_63 : decode cX6_rule 63 = .ok (.iastore, 1) := by decide +kernel
theorem dX6_rule_64 : decode cX6_rule 64 = .ok (.iconst 1, 1) := by decide +kernel
theorem dX6_rule_65 : decode cX6_rule 65 = .ok (.ireturn, 1) := by decide +kernel
theorem dX6_says_0 : decode cX6_says 0 = .ok (.iload_n 1, 1) := by decide +kernel
theorem dX6_says_1 : decode cX6_says 1 = .ok (.i2l, 1) := by decide +kernel
theorem dX6_says_2 : decode cX6_says 2 = .ok (.lconst 0, 1) := by decide +kernel
theorem dX6_says_3 : decode cX6_says 3 = .ok (.ldc2_w 85, 3) := by decide +kernel
theorem dX6_says_6 : decode cX6_says 6 = .ok (.invokestatic 74, 3) := by decide +kernel
theorem dX6_says_9 : decode cX6_says 9 = .ok (.ifCond .eq 15, 3) := by decide +kernel
theorem dX6_says_12 : decode cX6_says 12 = .ok (.iload_n 2, 1) := by decide +kernel
theorem dX6_says_13 : decode cX6_says 13 = .ok (.i2l, 1) := by decide +kernel
theorem dX6_says_14 : decode cX6_says 14 = .ok (.lconst 0, 1) := by decide +kernel
theorem dX6_says_15 : decode cX6_says 15 = .ok (.ldc2_w 102, 3) := by decide +kernel
theorem dX6_says_18 : decode cX6_says 18 = .ok (.invokestatic 74, 3) := by decide +kernel
theorem dX6_says_21 : decode cX6_says 21 = .ok (.ifCond .ne 10, 3) := by decide +kernel
theorem dX6_says_24 : decode cX6_says 24 = .ok (.aload_n 0, 1) := by decide +kernel
theorem dX6_says_25 : decode cX6_says 25 = .ok (.bipush (-2), 2) := by decide +kernel
theorem dX6_says_27 : decode cX6_says 27 = .ok (.invokevirtual 91, 3) := by decide +kernel
theorem dX6_says_30 : decode cX6_says 30 = .ok (.ireturn, 1) := by decide +kernel
theorem dX6_says_31 : decode cX6_says 31 = .ok (.aload_n 0, 1) := by decide +kernel
theorem dX6_says_32 : decode cX6_says 32 = .ok (.getfield 7, 3) := by decide +kernel
theorem dX6_says_35 : decode cX6_says 35 = .ok (.iload_n 1, 1) := by decide +kernel
theorem dX6_says_36 : decode cX6_says 36 = .ok (.iaload, 1) := by decide +kernel
theorem dX6_says_37 : decode cX6_says 37 = .ok (.iconst 1, 1) := by decide +kernel
theorem dX6_says_38 : decode cX6_says 38 = .ok (.if_icmp .eq 26, 3) := by decide +kernel
theorem dX6_says_41 : decode cX6_says 41 = .ok (.aload_n 0, 1) := by decide +kernel
theorem dX6_says_42 : decode cX6_says 42 = .ok (.getfield 7, 3) := by decide +kernel
theorem dX6_says_45 : decode cX6_says 45 = .ok (.iload_n 1, 1) := by decide +kernel
theorem dX6_says_46 : decode cX6_says 46 = .ok (.iaload, 1) := by decide +kernel
theorem dX6_says_47 : decode cX6_says 47 = .ok (.iconst 2, 1) := by decide +kernel
theorem dX6_says_48 : decode cX6_says 48 = .ok (.if_icmp .ne 23, 3) := by decide +kernel
theorem dX6_says_71 : decode cX6_says 71 = .ok (.aload_n 0, 1) := by decide +kernel
theorem dX6_says_72 : decode cX6_says 72 = .ok (.getfield 7, 3) := by decide +kernel
theorem dX6_says_75 : decode cX6_says 75 = .ok (.iload_n 1, 1) := by decide +kernel
theorem dX6_says_76 : decode cX6_says 76 = .ok (.iaload, 1) := by decide +kernel
theorem dX6_says_77 : decode cX6_says 77 = .ok (.ifCond .ne 10, 3) := by decide +kernel
theorem dX6_says_80 : decode cX6_says 80 = .ok (.aload_n 0, 1) := by decide +kernel
theorem dX6_says_81 : decode cX6_says 81 = .ok (.bipush (-4), 2) := by decide +kernel
theorem dX6_says_83 : decode cX6_says 83 = .ok (.invokevirtual 91, 3) := by decide +kernel
theorem dX6_says_86 : decode cX6_says 86 = .ok (.ireturn, 1) := by decide +kernel
theorem dX6_set_0 : decode cX6_set 0 = .ok (.aload_n 0, 1) := by decide +kernel
theorem dX6_set_1 : decode cX6_set 1 = .ok (.iload_n 1, 1) := by decide +kernel
theorem dX6_set_2 : decode cX6_set 2 = .ok (.invokevirtual 95, 3) := by decide +kernel
theorem dX6_set_5 : decode cX6_set 5 = .ok (.istore 5, 2) := by decide +kernel
theorem dX6_set_7 : decode cX6_set 7 = .ok (.iload 5, 2) := by decide +kernel
theorem dX6_set_9 : decode cX6_set 9 = .ok (.ifCond .eq 6, 3) := by decide +kernel
theorem dX6_set_12 : decode cX6_set 12 = .ok (.iload 5, 2) := by decide +kernel
theorem dX6_set_14 : decode cX6_set 14 = .ok (.ireturn, 1) := by decide +kernel
theorem dX6_tell_0 : decode cX6_tell 0 = .ok (.aload_n 0, 1) := by decide +kernel
theorem dX6_tell_1 : decode cX6_tell 1 = .ok (.iload_n 1, 1) := by decide +kernel
theorem dX6_tell_2 : decode cX6_tell 2 = .ok (.i2l, 1) := by decide +kernel
theorem dX6_tell_3 : decode cX6_tell 3 = .ok (.invokevirtual 236, 3) := by decide +kernel
theorem dX6_tell_6 : decode cX6_tell 6 = .ok (.ifCond .eq 26, 3) := by decide +kernel
theorem dX6_tell_32 : decode cX6_tell 32 = .ok (.aload_n 0, 1) := by decide +kernel
theorem dX6_tell_33 : decode cX6_tell 33 = .ok (.bipush (-2), 2) := by decide +kernel
theorem dX6_tell_35 : decode cX6_tell 35 = .ok (.invokevirtual 91, 3) := by decide +kernel
theorem dX6_tell_38 : decode cX6_tell 38 = .ok (.ireturn, 1) := by decide +kernel
theorem dX6_wipe_0 : decode cX6_wipe 0 = .ok (.aload_n 0, 1) := by decide +kernel
theorem dX6_wipe_1 : decode cX6_wipe 1 = .ok (.getfield 141, 3) := by decide +kernel
theorem dX6_wipe_4 : decode cX6_wipe 4 = .ok (.istore_n 1, 1) := by decide +kernel
theorem dX6_wipe_5 : decode cX6_wipe 5 = .ok (.aload_n 0, 1) := by decide +kernel
theorem dX6_wipe_6 : decode cX6_wipe 6 = .ok (.iconst 0, 1) := by decide +kernel
theorem dX6_wipe_7 : decode cX6_wipe 7 = .ok (.putfield 141, 3) := by decide +kernel
theorem dX6_wipe_10 : decode cX6_wipe 10 = .ok (.iload_n 1, 1) := by decide +kernel
theorem dX6_wipe_11 : decode cX6_wipe 11 = .ok (.ireturn, 1) := by decide +kernel
theorem dX6_would_0 : decode cX6_would 0 = .ok (.aload_n 0, 1) := by decide +kernel
theorem dX6_would_1 : decode cX6_would 1 = .ok (.iload_n 1, 1) := by decide +kernel
theorem dX6_would_2 : decode cX6_would 2 = .ok (.iload_n 2, 1) := by decide +kernel
theorem dX6_would_3 : decode cX6_would 3 = .ok (.invokevirtual 251, 3) := by decide +kernel
theorem dX6_would_6 : decode cX6_would 6 = .ok (.istore_n 3, 1) := by decide +kernel
theorem dX6_would_7 : decode cX6_would 7 = .ok (.iload_n 3, 1) := by decide +kernel
theorem dX6_would_8 : decode cX6_would 8 = .ok (.ifCond .eq 7, 3) := by decide +kernel
theorem dX6_would_11 : decode cX6_would 11 = .ok (.iload_n 3, 1) := by decide +kernel
theorem dX6_would_12 : decode cX6_would 12 = .ok (.goto 9, 3) := by decide +kernel
theorem dX6_would_21 : decode cX6_would 21 = .ok (.ireturn, 1) := by decide +kernel
theorem dX6_write_0 : decode cX6_write 0 = .ok (.aload_n 0, 1) := by decide +kernel
theorem dX6_write_1 : decode cX6_write 1 = .ok (.iload_n 1, 1) := by decide +kernel
theorem dX6_write_2 : decode cX6_write 2 = .ok (.i2l, 1) := by decide +kernel
theorem dX6_write_3 : decode cX6_write 3 = .ok (.invokevirtual 236, 3) := by decide +kernel
theorem dX6_write_6 : decode cX6_write 6 = .ok (.ifCond .eq 12, 3) := by decide +kernel
theorem dX6_write_18 : decode cX6_write 18 = .ok (.aload_n 0, 1) := by decide +kernel
theorem dX6_write_19 : decode cX6_write 19 = .ok (.bipush (-2), 2) := by decide +kernel
theorem dX6_write_21 : decode cX6_write 21 = .ok (.invokevirtual 91, 3) := by decide +kernel
theorem dX6_write_24 : decode cX6_write 24 = .ok (.ireturn, 1) := by decide +kernel
set_option maxHeartbeats 4000000 in
set_option maxRecDepth 100000 in
theorem p_X6_row (l : Launch) (G : va_G) (cy : Nat → ClassId) (sz : Nat) (qm : Nat) (qms : Nat) (qmo : Nat) (qmz : Nat) (qmR : Nat) (qmv : Nat) (qmk : Nat) (qmb : Nat) (qmt : Nat) (qmr : Nat) (qmB : Nat) (qmO : Nat) (qmK : Nat) (qm_three : Nat) (qm_unread : Nat) (qm_tryRow : Nat) (qm_bestRow : Nat) (qm_steps : Nat) (rR : Nat → Nat) (iA : Int32) (iB : Int32) (iC : Int32)   : MW l yX6_row cX6_row 5 (some .int) 6 0 0 G cy [(qm, .inr (5, [.ref qms, .ref qmo, .ref qmz, .ref qmR, .ref qmv, .ref qmk, .ref qmb, .ref qmt, .int 0, .ref qmr, .int 0, .ref qmB, .int 0, .ref qmO, .ref qmK, .int 0, .int 0, .int 1, .null, .null, .int 0, .int 0, .int 0, .long 0, .int 0, .ref qm_three, .int 0, .int 0, .int 0, .null, .ref qm_unread, .ref qm_tryRow, .ref qm_bestRow, .ref qm_steps, .int 0])), (qms, .inl (cy 0, 8, .inl (fun _ => 0))), (qmo, .inl (cy 0, 8, .inl (fun _ => 0))), (qmz, .inl (cy 0, 8, .inl (fun _ => 0))), (qmr, .inl (cy 0, 8, .inl (fun _ => 0))), (qmR, .inl (cy 4, 8, .inr (.inr (.inr (.inr (fun i => if i < 8 then some (rR i) else none)))))), (rR 0, .inl (cy 1, 40, .inr (.inl (fun _ => 0)))), (rR 1, .inl (cy 1, 40, .inr (.inl (fun _ => 0)))), (rR 2, .inl (cy 1, 40, .inr (.inl (fun _ => 0)))), (rR 3, .inl (cy 1, 40, .inr (.inl (fun _ => 0)))), (rR 4, .inl (cy 1, 40, .inr (.inl (fun _ => 0)))), (rR 5, .inl (cy 1, 40, .inr (.inl (fun _ => 0)))), (rR 6, .inl (cy 1, 40, .inr (.inl (fun _ => 0)))), (rR 7, .inl (cy 1, 40, .inr (.inl (fun _ => 0))))] sz [.ref qm, .int iA, .int iB, .int iC] (Wi G (fun r u => u = [] ∧ ((r = (sp_row iA iB iC))))) := by
  refine enW RX6 (by decide) rfl (Nat.le_of_ble_eq_true rfl) (fun p e s m below meth c ls A hx hb hml hown hts hr hlocks hP hN hl hin hD hA hS => ?_)
  have hin : meth.name = _ := hin
  have hK := hN.1
  have hl : lv_has ls 5 [(0, .ref qm), (1, .int iA), (2, .int iB), (3, .int iC)] := hl
  refine lv_iload_n hx hb dX6_row_0 rfl (lv_at hl 1 rfl) ?_
  refine lv_i2l (v := iA.toInt64) hx hb dX6_row_1 rfl ?_
  refine lv_lconst (v := 0) hx hb dX6_row_2 (by decide) ?_
  refine lv_ldc2 hx hb hown (hts _ m_t960) dX6_row_3 ?_
  refine kRi (rS (As := [.long iA.toInt64, .long 0, .long 7]) (rest := []) ⟨hx, hb, hml, hown, hts⟩ (c_X6_in l G cy iA.toInt64 0 7) L_X6_74 (preRS hN hP [] rfl) rfl ⟨Nat.le_of_ble_eq_true rfl, Nat.le_of_ble_eq_true rfl⟩ hl.1 (Nat.le_of_ble_eq_true rfl) dX6_row_6 ⟨Nat.le_of_ble_eq_true rfl, Nat.le_of_ble_eq_true rfl⟩) (fun r_1 h_2 => ?_)
  rcases h_2 with ⟨rfl, h_3⟩ | ⟨rfl, h_3⟩
  · refine lv_if_eq (tgt := 36) hx hb dX6_row_9 (by decide) (fun h9 => absurd h9 (by decide)) (fun _ => ?_)
    refine lv_iload_n hx hb dX6_row_12 rfl (lv_at hl 2 rfl) ?_
    refine lv_i2l (v := iB.toInt64) hx hb dX6_row_13 rfl ?_
    refine lv_lconst (v := 0) hx hb dX6_row_14 (by decide) ?_
    refine lv_ldc2 hx hb hown (hts _ m_t964) dX6_row_15 ?_
    refine kRi (rS (As := [.long iB.toInt64, .long 0, .long 4]) (rest := []) ⟨hx, hb, hml, hown, hts⟩ (c_X6_in l G cy iB.toInt64 0 4) L_X6_74 (preRS hN hP [] rfl) rfl ⟨Nat.le_of_ble_eq_true rfl, Nat.le_of_ble_eq_true rfl⟩ hl.1 (Nat.le_of_ble_eq_true rfl) dX6_row_18 ⟨Nat.le_of_ble_eq_true rfl, Nat.le_of_ble_eq_true rfl⟩) (fun r_5 h_6 => ?_)
    rcases h_6 with ⟨rfl, h_7⟩ | ⟨rfl, h_7⟩
    · refine lv_if_eq (tgt := 36) hx hb dX6_row_21 (by decide) (fun h9 => absurd h9 (by decide)) (fun _ => ?_)
      refine lv_iload_n hx hb dX6_row_24 rfl (lv_at hl 3 rfl) ?_
      refine lv_i2l (v := iC.toInt64) hx hb dX6_row_25 rfl ?_
      refine lv_lconst (v := 0) hx hb dX6_row_26 (by decide) ?_
      refine lv_ldc2 hx hb hown (hts _ m_t965) dX6_row_27 ?_
      refine kRi (rS (As := [.long iC.toInt64, .long 0, .long 40]) (rest := []) ⟨hx, hb, hml, hown, hts⟩ (c_X6_in l G cy iC.toInt64 0 40) L_X6_74 (preRS hN hP [] rfl) rfl ⟨Nat.le_of_ble_eq_true rfl, Nat.le_of_ble_eq_true rfl⟩ hl.1 (Nat.le_of_ble_eq_true rfl) dX6_row_30 ⟨Nat.le_of_ble_eq_true rfl, Nat.le_of_ble_eq_true rfl⟩) (fun r_9 h_10 => ?_)
      rcases h_10 with ⟨rfl, h_11⟩ | ⟨rfl, h_11⟩
      · refine lv_if_ne (tgt := 43) hx hb dX6_row_33 (by decide) (fun _ => ?_) (fun h9 => absurd h9 (by decide))
        rcases in07 h_3 with rfl | rfl | rfl | rfl | rfl | rfl | rfl | rfl
        · refine lv_aload_n hx hb dX6_row_43 rfl (lv_at hl 0 rfl) ?_
          refine va_get (D := G) (ci := 5) (v := .ref qms) (C := RX6) (T := TX6) (N := 35) hx hb hts iX_X6 hown hK hP 0 rfl rfl 0 (by decide) (hts _ m_t850) (fun _ h9 => h9) rfl dX6_row_44 ?_
          refine lv_iload_n hx hb dX6_row_47 rfl (lv_at hl 1 rfl) ?_
          refine lv_iconst (v := 1) hx hb dX6_row_48 (by decide) ?_
          refine va_iast hx hb hK hP hD hS 1 0 rfl rfl (in_c rfl) dX6_row_49 (fun H locs hP hD hS => ?_)
          have hP : va_P G CL [(qm, .inr (5, [.ref qms, .ref qmo, .ref qmz, .ref qmR, .ref qmv, .ref qmk, .ref qmb, .ref qmt, .int 0, .ref qmr, .int 0, .ref qmB, .int 0, .ref qmO, .ref qmK, .int 0, .int 0, .int 1, .null, .null, .int 0, .int 0, .int 0, .long 0, .int 0, .ref qm_three, .int 0, .int 0, .int 0, .null, .ref qm_unread, .ref qm_tryRow, .ref qm_bestRow, .ref qm_steps, .int 0])), (qms, .inl (cy 0, 8, .inl (upd (fun _ => 0) 0 1))), (qmo, .inl (cy 0, 8, .inl (fun _ => 0))), (qmz, .inl (cy 0, 8, .inl (fun _ => 0))), (qmr, .inl (cy 0, 8, .inl (fun _ => 0))), (qmR, .inl (cy 4, 8, .inr (.inr (.inr (.inr (fun i => if i < 8 then some (rR i) else none)))))), (rR 0, .inl (cy 1, 40, .inr (.inl (fun _ => 0)))), (rR 1, .inl (cy 1, 40, .inr (.inl (fun _ => 0)))), (rR 2, .inl (cy 1, 40, .inr (.inl (fun _ => 0)))), (rR 3, .inl (cy 1, 40, .inr (.inl (fun _ => 0)))), (rR 4, .inl (cy 1, 40, .inr (.inl (fun _ => 0)))), (rR 5, .inl (cy 1, 40, .inr (.inl (fun _ => 0)))), (rR 6, .inl (cy 1, 40, .inr (.inl (fun _ => 0)))), (rR 7, .inl (cy 1, 40, .inr (.inl (fun _ => 0))))] H := hP
          have hD : va_D A [(qm, .inr (5, [.ref qms, .ref qmo, .ref qmz, .ref qmR, .ref qmv, .ref qmk, .ref qmb, .ref qmt, .int 0, .ref qmr, .int 0, .ref qmB, .int 0, .ref qmO, .ref qmK, .int 0, .int 0, .int 1, .null, .null, .int 0, .int 0, .int 0, .long 0, .int 0, .ref qm_three, .int 0, .int 0, .int 0, .null, .ref qm_unread, .ref qm_tryRow, .ref qm_bestRow, .ref qm_steps, .int 0])), (qms, .inl (cy 0, 8, .inl (upd (fun _ => 0) 0 1))), (qmo, .inl (cy 0, 8, .inl (fun _ => 0))), (qmz, .inl (cy 0, 8, .inl (fun _ => 0))), (qmr, .inl (cy 0, 8, .inl (fun _ => 0))), (qmR, .inl (cy 4, 8, .inr (.inr (.inr (.inr (fun i => if i < 8 then some (rR i) else none)))))), (rR 0, .inl (cy 1, 40, .inr (.inl (fun _ => 0)))), (rR 1, .inl (cy 1, 40, .inr (.inl (fun _ => 0)))), (rR 2, .inl (cy 1, 40, .inr (.inl (fun _ => 0)))), (rR 3, .inl (cy 1, 40, .inr (.inl (fun _ => 0)))), (rR 4, .inl (cy 1, 40, .inr (.inl (fun _ => 0)))), (rR 5, .inl (cy 1, 40, .inr (.inl (fun _ => 0)))), (rR 6, .inl (cy 1, 40, .inr (.inl (fun _ => 0)))), (rR 7, .inl (cy 1, 40, .inr (.inl (fun _ => 0))))] := hD
          refine lv_aload_n hx hb dX6_row_50 rfl (lv_at hl 0 rfl) ?_
          refine va_get (D := G) (ci := 5) (v := .ref qmo) (C := RX6) (T := TX6) (N := 35) hx hb hts iX_X6 hown hK hP 0 rfl rfl 1 (by decide) (hts _ m_t851) (fun _ h9 => h9) rfl dX6_row_51 ?_
          refine lv_iload_n hx hb dX6_row_54 rfl (lv_at hl 1 rfl) ?_
          refine lv_iload_n hx hb dX6_row_55 rfl (lv_at hl 2 rfl) ?_
          refine va_iast hx hb hK hP hD hS 2 0 rfl rfl (in_c rfl) dX6_row_56 (fun H locs hP hD hS => ?_)
          have hP : va_P G CL [(qm, .inr (5, [.ref qms, .ref qmo, .ref qmz, .ref qmR, .ref qmv, .ref qmk, .ref qmb, .ref qmt, .int 0, .ref qmr, .int 0, .ref qmB, .int 0, .ref qmO, .ref qmK, .int 0, .int 0, .int 1, .null, .null, .int 0, .int 0, .int 0, .long 0, .int 0, .ref qm_three, .int 0, .int 0, .int 0, .null, .ref qm_unread, .ref qm_tryRow, .ref qm_bestRow, .ref qm_steps, .int 0])), (qms, .inl (cy 0, 8, .inl (upd (fun _ => 0) 0 1))), (qmo, .inl (cy 0, 8, .inl (upd (fun _ => 0) 0 iB))), (qmz, .inl (cy 0, 8, .inl (fun _ => 0))), (qmr, .inl (cy 0, 8, .inl (fun _ => 0))), (qmR, .inl (cy 4, 8, .inr (.inr (.inr (.inr (fun i => if i < 8 then some (rR i) else none)))))), (rR 0, .inl (cy 1, 40, .inr (.inl (fun _ => 0)))), (rR 1, .inl (cy 1, 40, .inr (.inl (fun _ => 0)))), (rR 2, .inl (cy 1, 40, .inr (.inl (fun _ => 0)))), (rR 3, .inl (cy 1, 40, .inr (.inl (fun _ => 0)))), (rR 4, .inl (cy 1, 40, .inr (.inl (fun _ => 0)))), (rR 5, .inl (cy 1, 40, .inr (.inl (fun _ => 0)))), (rR 6, .inl (cy 1, 40, .inr (.inl (fun _ => 0)))), (rR 7, .inl (cy 1, 40, .inr (.inl (fun _ => 0))))] H := hP
          have hD : va_D A [(qm, .inr (5, [.ref qms, .ref qmo, .ref qmz, .ref qmR, .ref qmv, .ref qmk, .ref qmb, .ref qmt, .int 0, .ref qmr, .int 0, .ref qmB, .int 0, .ref qmO, .ref qmK, .int 0, .int 0, .int 1, .null, .null, .int 0, .int 0, .int 0, .long 0, .int 0, .ref qm_three, .int 0, .int 0, .int 0, .null, .ref qm_unread, .ref qm_tryRow, .ref qm_bestRow, .ref qm_steps, .int 0])), (qms, .inl (cy 0, 8, .inl (upd (fun _ => 0) 0 1))), (qmo, .inl (cy 0, 8, .inl (upd (fun _ => 0) 0 iB))), (qmz, .inl (cy 0, 8, .inl (fun _ => 0))), (qmr, .inl (cy 0, 8, .inl (fun _ => 0))), (qmR, .inl (cy 4, 8, .inr (.inr (.inr (.inr (fun i => if i < 8 then some (rR i) else none)))))), (rR 0, .inl (cy 1, 40, .inr (.inl (fun _ => 0)))), (rR 1, .inl (cy 1, 40, .inr (.inl (fun _ => 0)))), (rR 2, .inl (cy 1, 40, .inr (.inl (fun _ => 0)))), (rR 3, .inl (cy 1, 40, .inr (.inl (fun _ => 0)))), (rR 4, .inl (cy 1, 40, .inr (.inl (fun _ => 0)))), (rR 5, .inl (cy 1, 40, .inr (.inl (fun _ => 0)))), (rR 6, .inl (cy 1, 40, .inr (.inl (fun _ => 0)))), (rR 7, .inl (cy 1, 40, .inr (.inl (fun _ => 0))))] := hD
          refine lv_aload_n hx hb dX6_row_57 rfl (lv_at hl 0 rfl) ?_
          refine va_get (D := G) (ci := 5) (v := .ref qmz) (C := RX6) (T := TX6) (N := 35) hx hb hts iX_X6 hown hK hP 0 rfl rfl 2 (by decide) (hts _ m_t852) (fun _ h9 => h9) rfl dX6_row_58 ?_
          refine lv_iload_n hx hb dX6_row_61 rfl (lv_at hl 1 rfl) ?_
          refine lv_iload_n hx hb dX6_row_62 rfl (lv_at hl 3 rfl) ?_
          refine va_iast hx hb hK hP hD hS 3 0 rfl rfl (in_c rfl) dX6_row_63 (fun H locs hP hD hS => ?_)
          have hP : va_P G CL [(qm, .inr (5, [.ref qms, .ref qmo, .ref qmz, .ref qmR, .ref qmv, .ref qmk, .ref qmb, .ref qmt, .int 0, .ref qmr, .int 0, .ref qmB, .int 0, .ref qmO, .ref qmK, .int 0, .int 0, .int 1, .null, .null, .int 0, .int 0, .int 0, .long 0, .int 0, .ref qm_three, .int 0, .int 0, .int 0, .null, .ref qm_unread, .ref qm_tryRow, .ref qm_bestRow, .ref qm_steps, .int 0])), (qms, .inl (cy 0, 8, .inl (upd (fun _ => 0) 0 1))), (qmo, .inl (cy 0, 8, .inl (upd (fun _ => 0) 0 iB))), (qmz, .inl (cy 0, 8, .inl (upd (fun _ => 0) 0 iC))), (qmr, .inl (cy 0, 8, .inl (fun _ => 0))), (qmR, .inl (cy 4, 8, .inr (.inr (.inr (.inr (fun i => if i < 8 then some (rR i) else none)))))), (rR 0, .inl (cy 1, 40, .inr (.inl (fun _ => 0)))), (rR 1, .inl (cy 1, 40, .inr (.inl (fun _ => 0)))), (rR 2, .inl (cy 1, 40, .inr (.inl (fun _ => 0)))), (rR 3, .inl (cy 1, 40, .inr (.inl (fun _ => 0)))), (rR 4, .inl (cy 1, 40, .inr (.inl (fun _ => 0)))), (rR 5, .inl (cy 1, 40, .inr (.inl (fun _ => 0)))), (rR 6, .inl (cy 1, 40, .inr (.inl (fun _ => 0)))), (rR 7, .inl (cy 1, 40, .inr (.inl (fun _ => 0))))] H := hP
          have hD : va_D A [(qm, .inr (5, [.ref qms, .ref qmo, .ref qmz, .ref qmR, .ref qmv, .ref qmk, .ref qmb, .ref qmt, .int 0, .ref qmr, .int 0, .ref qmB, .int 0, .ref qmO, .ref qmK, .int 0, .int 0, .int 1, .null, .null, .int 0, .int 0, .int 0, .long 0, .int 0, .ref qm_three, .int 0, .int 0, .int 0, .null, .ref qm_unread, .ref qm_tryRow, .ref qm_bestRow, .ref qm_steps, .int 0])), (qms, .inl (cy 0, 8, .inl (upd (fun _ => 0) 0 1))), (qmo, .inl (cy 0, 8, .inl (upd (fun _ => 0) 0 iB))), (qmz, .inl (cy 0, 8, .inl (upd (fun _ => 0) 0 iC))), (qmr, .inl (cy 0, 8, .inl (fun _ => 0))), (qmR, .inl (cy 4, 8, .inr (.inr (.inr (.inr (fun i => if i < 8 then some (rR i) else none)))))), (rR 0, .inl (cy 1, 40, .inr (.inl (fun _ => 0)))), (rR 1, .inl (cy 1, 40, .inr (.inl (fun _ => 0)))), (rR 2, .inl (cy 1, 40, .inr (.inl (fun _ => 0)))), (rR 3, .inl (cy 1, 40, .inr (.inl (fun _ => 0)))), (rR 4, .inl (cy 1, 40, .inr (.inl (fun _ => 0)))), (rR 5, .inl (cy 1, 40, .inr (.inl (fun _ => 0)))), (rR 6, .inl (cy 1, 40, .inr (.inl (fun _ => 0)))), (rR 7, .inl (cy 1, 40, .inr (.inl (fun _ => 0))))] := hD
          refine lv_iconst (v := 0) hx hb dX6_row_64 (by decide) ?_
          refine lv_istore (lv' := [(4, .int 0), (0, .ref qm), (1, .int 0), (2, .int iB), (3, .int iC)]) hx hb dX6_row_65 hl (by decide) rfl (fun ls hl => ?_)
          have lp_13 : ∀ (n_14 : Nat) (j_16 : Nat) (xJ_17 : Int32) (fT_18 : Nat → Int64), 40 - j_16 < n_14 → xJ_17 = nI j_16 → j_16 ≤ 40 → ∀ (H : Heap) (locs : List Loc) (ls : Array Slot), va_P G CL [(qm, .inr (5, [.ref qms, .ref qmo, .ref qmz, .ref qmR, .ref qmv, .ref qmk, .ref qmb, .ref qmt, .int 0, .ref qmr, .int 0, .ref qmB, .int 0, .ref qmO, .ref qmK, .int 0, .int 0, .int 1, .null, .null, .int 0, .int 0, .int 0, .long 0, .int 0, .ref qm_three, .int 0, .int 0, .int 0, .null, .ref qm_unread, .ref qm_tryRow, .ref qm_bestRow, .ref qm_steps, .int 0])), (qms, .inl (cy 0, 8, .inl (upd (fun _ => 0) 0 1))), (qmo, .inl (cy 0, 8, .inl (upd (fun _ => 0) 0 iB))), (qmz, .inl (cy 0, 8, .inl (upd (fun _ => 0) 0 iC))), (qmr, .inl (cy 0, 8, .inl (fun _ => 0))), (qmR, .inl (cy 4, 8, .inr (.inr (.inr (.inr (fun i => if i < 8 then some (rR i) else none)))))), (rR 0, .inl (cy 1, 40, .inr (.inl fT_18))), (rR 1, .inl (cy 1, 40, .inr (.inl (fun _ => 0)))), (rR 2, .inl (cy 1, 40, .inr (.inl (fun _ => 0)))), (rR 3, .inl (cy 1, 40, .inr (.inl (fun _ => 0)))), (rR 4, .inl (cy 1, 40, .inr (.inl (fun _ => 0)))), (rR 5, .inl (cy 1, 40, .inr (.inl (fun _ => 0)))), (rR 6, .inl (cy 1, 40, .inr (.inl (fun _ => 0)))), (rR 7, .inl (cy 1, 40, .inr (.inl (fun _ => 0))))] H → va_D A [(qm, .inr (5, [.ref qms, .ref qmo, .ref qmz, .ref qmR, .ref qmv, .ref qmk, .ref qmb, .ref qmt, .int 0, .ref qmr, .int 0, .ref qmB, .int 0, .ref qmO, .ref qmK, .int 0, .int 0, .int 1, .null, .null, .int 0, .int 0, .int 0, .long 0, .int 0, .ref qm_three, .int 0, .int 0, .int 0, .null, .ref qm_unread, .ref qm_tryRow, .ref qm_bestRow, .ref qm_steps, .int 0])), (qms, .inl (cy 0, 8, .inl (upd (fun _ => 0) 0 1))), (qmo, .inl (cy 0, 8, .inl (upd (fun _ => 0) 0 iB))), (qmz, .inl (cy 0, 8, .inl (upd (fun _ => 0) 0 iC))), (qmr, .inl (cy 0, 8, .inl (fun _ => 0))), (qmR, .inl (cy 4, 8, .inr (.inr (.inr (.inr (fun i => if i < 8 then some (rR i) else none)))))), (rR 0, .inl (cy 1, 40, .inr (.inl fT_18))), (rR 1, .inl (cy 1, 40, .inr (.inl (fun _ => 0)))), (rR 2, .inl (cy 1, 40, .inr (.inl (fun _ => 0)))), (rR 3, .inl (cy 1, 40, .inr (.inl (fun _ => 0)))), (rR 4, .inl (cy 1, 40, .inr (.inl (fun _ => 0)))), (rR 5, .inl (cy 1, 40, .inr (.inl (fun _ => 0)))), (rR 6, .inl (cy 1, 40, .inr (.inl (fun _ => 0)))), (rR 7, .inl (cy 1, 40, .inr (.inl (fun _ => 0))))] → va_S A s.heap H locs → lv_has ls 5 [(4, .int xJ_17), (0, .ref qm), (1, .int 0), (2, .int iB), (3, .int iC)] → W p l e (Rm 6 0 0) s m (List.toArray (α := Value) [.ref qm, .int 0, .int iB, .int iC]) below meth c H locs 0 0 (MQ below ((Wi G (fun r u => u = [] ∧ ((r = (sp_row 0 iB iC))))) A) (List.toArray (α := Value) [.ref qm, .int 0, .int iB, .int iC]) s 0 0 A) (F0 m 67 ls []) := by
            intro n_14
            induction n_14 with
            | zero => intro j_16 xJ_17 fT_18 hm9; exact absurd hm9 (Nat.not_lt_zero _)
            | succ n_14 ih_15 =>
              intro j_16 xJ_17 fT_18 hm_21 hxJ_19 hj_20 H locs ls hP hD hS hl
              refine lv_iload hx hb dX6_row_67 (lv_at hl 0 rfl) ?_
              refine lv_bipush (v := 40) hx hb dX6_row_69 (by decide) ?_
              refine lv_icmp_ge (tgt := 90) hx hb dX6_row_71 (by decide) (fun c_22 => ?_) (fun c_22 => ?_)
              · refine lv_iconst (v := 1) hx hb dX6_row_90 (by decide) ?_
                exact endW (u := []) hx hb hr hlocks rfl va_P0 va_D0 hS ⟨rfl, (by first | (simp [sp_row, Iv, h_3, h_7, h_11]; done) | (rw [sp_row, if_pos ⟨h_3, h_7, h_11⟩]))⟩ dX6_row_91
              · have hlt_23 : j_16 < 40 := lp_lt hxJ_19 (rfl : (40 : Int32) = nI 40) (by omega) (by omega) c_22
                refine lv_aload_n hx hb dX6_row_74 rfl (lv_at hl 1 rfl) ?_
                refine va_get (D := G) (ci := 5) (v := .ref qmR) (C := RX6) (T := TX6) (N := 35) hx hb hts iX_X6 hown hK hP 0 rfl rfl 3 (by decide) (hts _ m_t853) (fun _ h9 => h9) rfl dX6_row_75 ?_
                refine lv_iload_n hx hb dX6_row_78 rfl (lv_at hl 2 rfl) ?_
                refine va_alda hx hb hK hP 5 4 rfl rfl (in_c rfl) dX6_row_79 ?_
                refine lv_setv (v := .ref (rR 0)) (rfl) ?_
                refine lv_iload hx hb dX6_row_80 (lv_at hl 0 rfl) ?_
                refine lv_lconst (v := 0) hx hb dX6_row_82 (by decide) ?_
                refine va_last hx hb hK hP hD hS 6 1 rfl rfl (in_nI hxJ_19 hlt_23 (by omega)) dX6_row_83 (fun H locs hP hD hS => ?_)
                have hP : va_P G CL [(qm, .inr (5, [.ref qms, .ref qmo, .ref qmz, .ref qmR, .ref qmv, .ref qmk, .ref qmb, .ref qmt, .int 0, .ref qmr, .int 0, .ref qmB, .int 0, .ref qmO, .ref qmK, .int 0, .int 0, .int 1, .null, .null, .int 0, .int 0, .int 0, .long 0, .int 0, .ref qm_three, .int 0, .int 0, .int 0, .null, .ref qm_unread, .ref qm_tryRow, .ref qm_bestRow, .ref qm_steps, .int 0])), (qms, .inl (cy 0, 8, .inl (upd (fun _ => 0) 0 1))), (qmo, .inl (cy 0, 8, .inl (upd (fun _ => 0) 0 iB))), (qmz, .inl (cy 0, 8, .inl (upd (fun _ => 0) 0 iC))), (qmr, .inl (cy 0, 8, .inl (fun _ => 0))), (qmR, .inl (cy 4, 8, .inr (.inr (.inr (.inr (fun i => if i < 8 then some (rR i) else none)))))), (rR 0, .inl (cy 1, 40, .inr (.inl (vp_updL fT_18 xJ_17.toNatClampNeg 0)))), (rR 1, .inl (cy 1, 40, .inr (.inl (fun _ => 0)))), (rR 2, .inl (cy 1, 40, .inr (.inl (fun _ => 0)))), (rR 3, .inl (cy 1, 40, .inr (.inl (fun _ => 0)))), (rR 4, .inl (cy 1, 40, .inr (.inl (fun _ => 0)))), (rR 5, .inl (cy 1, 40, .inr (.inl (fun _ => 0)))), (rR 6, .inl (cy 1, 40, .inr (.inl (fun _ => 0)))), (rR 7, .inl (cy 1, 40, .inr (.inl (fun _ => 0))))] H := hP
                have hD : va_D A [(qm, .inr (5, [.ref qms, .ref qmo, .ref qmz, .ref qmR, .ref qmv, .ref qmk, .ref qmb, .ref qmt, .int 0, .ref qmr, .int 0, .ref qmB, .int 0, .ref qmO, .ref qmK, .int 0, .int 0, .int 1, .null, .null, .int 0, .int 0, .int 0, .long 0, .int 0, .ref qm_three, .int 0, .int 0, .int 0, .null, .ref qm_unread, .ref qm_tryRow, .ref qm_bestRow, .ref qm_steps, .int 0])), (qms, .inl (cy 0, 8, .inl (upd (fun _ => 0) 0 1))), (qmo, .inl (cy 0, 8, .inl (upd (fun _ => 0) 0 iB))), (qmz, .inl (cy 0, 8, .inl (upd (fun _ => 0) 0 iC))), (qmr, .inl (cy 0, 8, .inl (fun _ => 0))), (qmR, .inl (cy 4, 8, .inr (.inr (.inr (.inr (fun i => if i < 8 then some (rR i) else none)))))), (rR 0, .inl (cy 1, 40, .inr (.inl (vp_updL fT_18 xJ_17.toNatClampNeg 0)))), (rR 1, .inl (cy 1, 40, .inr (.inl (fun _ => 0)))), (rR 2, .inl (cy 1, 40, .inr (.inl (fun _ => 0)))), (rR 3, .inl (cy 1, 40, .inr (.inl (fun _ => 0)))), (rR 4, .inl (cy 1, 40, .inr (.inl (fun _ => 0)))), (rR 5, .inl (cy 1, 40, .inr (.inl (fun _ => 0)))), (rR 6, .inl (cy 1, 40, .inr (.inl (fun _ => 0)))), (rR 7, .inl (cy 1, 40, .inr (.inl (fun _ => 0))))] := hD
                refine lv_iinc (v := xJ_17 + 1) (lv' := [(4, .int (xJ_17 + 1)), (0, .ref qm), (1, .int 0), (2, .int iB), (3, .int iC)]) hx hb dX6_row_84 hl (k := 0) rfl (rfl) (by decide) rfl (fun ls hl => ?_)
                refine lv_goto (tgt := 67) hx hb dX6_row_87 (by decide) ?_
                exact ih_15 (j_16 + 1) (xJ_17 + 1) (vp_updL fT_18 xJ_17.toNatClampNeg 0) (by omega) (by rw [hxJ_19]; exact nI_1 _) (by omega) _ _ _ hP hD hS (lv_sub hl [0, 1, 2, 3, 4] rfl)
          exact lp_13 ((40 - 0) + 1) 0 0 (fun _ => 0) (Nat.lt_succ_self _) rfl (Nat.zero_le _) _ _ ls hP hD hS (lv_sub hl [0, 1, 2, 3, 4] rfl)
        · refine lv_aload_n hx hb dX6_row_43 rfl (lv_at hl 0 rfl) ?_
          refine va_get (D := G) (ci := 5) (v := .ref qms) (C := RX6) (T := TX6) (N := 35) hx hb hts iX_X6 hown hK hP 0 rfl rfl 0 (by decide) (hts _ m_t850) (fun _ h9 => h9) rfl dX6_row_44 ?_
          refine lv_iload_n hx hb dX6_row_47 rfl (lv_at hl 1 rfl) ?_
          refine lv_iconst (v := 1) hx hb dX6_row_48 (by decide) ?_
          refine va_iast hx hb hK hP hD hS 1 0 rfl rfl (in_c rfl) dX6_row_49 (fun H locs hP hD hS => ?_)
          have hP : va_P G CL [(qm, .inr (5, [.ref qms, .ref qmo, .ref qmz, .ref qmR, .ref qmv, .ref qmk, .ref qmb, .ref qmt, .int 0, .ref qmr, .int 0, .ref qmB, .int 0, .ref qmO, .ref qmK, .int 0, .int 0, .int 1, .null, .null, .int 0, .int 0, .int 0, .long 0, .int 0, .ref qm_three, .int 0, .int 0, .int 0, .null, .ref qm_unread, .ref qm_tryRow, .ref qm_bestRow, .ref qm_steps, .int 0])), (qms, .inl (cy 0, 8, .inl (upd (fun _ => 0) 1 1))), (qmo, .inl (cy 0, 8, .inl (fun _ => 0))), (qmz, .inl (cy 0, 8, .inl (fun _ => 0))), (qmr, .inl (cy 0, 8, .inl (fun _ => 0))), (qmR, .inl (cy 4, 8, .inr (.inr (.inr (.inr (fun i => if i < 8 then some (rR i) else none)))))), (rR 0, .inl (cy 1, 40, .inr (.inl (fun _ => 0)))), (rR 1, .inl (cy 1, 40, .inr (.inl (fun _ => 0)))), (rR 2, .inl (cy 1, 40, .inr (.inl (fun _ => 0)))), (rR 3, .inl (cy 1, 40, .inr (.inl (fun _ => 0)))), (rR 4, .inl (cy 1, 40, .inr (.inl (fun _ => 0)))), (rR 5, .inl (cy 1, 40, .inr (.inl (fun _ => 0)))), (rR 6, .inl (cy 1, 40, .inr (.inl (fun _ => 0)))), (rR 7, .inl (cy 1, 40, .inr (.inl (fun _ => 0))))] H := hP
          have hD : va_D A [(qm, .inr (5, [.ref qms, .ref qmo, .ref qmz, .ref qmR, .ref qmv, .ref qmk, .ref qmb, .ref qmt, .int 0, .ref qmr, .int 0, .ref qmB, .int 0, .ref qmO, .ref qmK, .int 0, .int 0, .int 1, .null, .null, .int 0, .int 0, .int 0, .long 0, .int 0, .ref qm_three, .int 0, .int 0, .int 0, .null, .ref qm_unread, .ref qm_tryRow, .ref qm_bestRow, .ref qm_steps, .int 0])), (qms, .inl (cy 0, 8, .inl (upd (fun _ => 0) 1 1))), (qmo, .inl (cy 0, 8, .inl (fun _ => 0))), (qmz, .inl (cy 0, 8, .inl (fun _ => 0))), (qmr, .inl (cy 0, 8, .inl (fun _ => 0))), (qmR, .inl (cy 4, 8, .inr (.inr (.inr (.inr (fun i => if i < 8 then some (rR i) else none)))))), (rR 0, .inl (cy 1, 40, .inr (.inl (fun _ => 0)))), (rR 1, .inl (cy 1, 40, .inr (.inl (fun _ => 0)))), (rR 2, .inl (cy 1, 40, .inr (.inl (fun _ => 0)))), (rR 3, .inl (cy 1, 40, .inr (.inl (fun _ => 0)))), (rR 4, .inl (cy 1, 40, .inr (.inl (fun _ => 0)))), (rR 5, .inl (cy 1, 40, .inr (.inl (fun _ => 0)))), (rR 6, .inl (cy 1, 40, .inr (.inl (fun _ => 0)))), (rR 7, .inl (cy 1, 40, .inr (.inl (fun _ => 0))))] := hD
          refine lv_aload_n hx hb dX6_row_50 rfl (lv_at hl 0 rfl) ?_
          refine va_get (D := G) (ci := 5) (v := .ref qmo) (C := RX6) (T := TX6) (N := 35) hx hb hts iX_X6 hown hK hP 0 rfl rfl 1 (by decide) (hts _ m_t851) (fun _ h9 => h9) rfl dX6_row_51 ?_
          refine lv_iload_n hx hb dX6_row_54 rfl (lv_at hl 1 rfl) ?_
          refine lv_iload_n hx hb dX6_row_55 rfl (lv_at hl 2 rfl) ?_
          refine va_iast hx hb hK hP hD hS 2 0 rfl rfl (in_c rfl) dX6_row_56 (fun H locs hP hD hS => ?_)
          have hP : va_P G CL [(qm, .inr (5, [.ref qms, .ref qmo, .ref qmz, .ref qmR, .ref qmv, .ref qmk, .ref qmb, .ref qmt, .int 0, .ref qmr, .int 0, .ref qmB, .int 0, .ref qmO, .ref qmK, .int 0, .int 0, .int 1, .null, .null, .int 0, .int 0, .int 0, .long 0, .int 0, .ref qm_three, .int 0, .int 0, .int 0, .null, .ref qm_unread, .ref qm_tryRow, .ref qm_bestRow, .ref qm_steps, .int 0])), (qms, .inl (cy 0, 8, .inl (upd (fun _ => 0) 1 1))), (qmo, .inl (cy 0, 8, .inl (upd (fun _ => 0) 1 iB))), (qmz, .inl (cy 0, 8, .inl (fun _ => 0))), (qmr, .inl (cy 0, 8, .inl (fun _ => 0))), (qmR, .inl (cy 4, 8, .inr (.inr (.inr (.inr (fun i => if i < 8 then some (rR i) else none)))))), (rR 0, .inl (cy 1, 40, .inr (.inl (fun _ => 0)))), (rR 1, .inl (cy 1, 40, .inr (.inl (fun _ => 0)))), (rR 2, .inl (cy 1, 40, .inr (.inl (fun _ => 0)))), (rR 3, .inl (cy 1, 40, .inr (.inl (fun _ => 0)))), (rR 4, .inl (cy 1, 40, .inr (.inl (fun _ => 0)))), (rR 5, .inl (cy 1, 40, .inr (.inl (fun _ => 0)))), (rR 6, .inl (cy 1, 40, .inr (.inl (fun _ => 0)))), (rR 7, .inl (cy 1, 40, .inr (.inl (fun _ => 0))))] H := hP
          have hD : va_D A [(qm, .inr (5, [.ref qms, .ref qmo, .ref qmz, .ref qmR, .ref qmv, .ref qmk, .ref qmb, .ref qmt, .int 0, .ref qmr, .int 0, .ref qmB, .int 0, .ref qmO, .ref qmK, .int 0, .int 0, .int 1, .null, .null, .int 0, .int 0, .int 0, .long 0, .int 0, .ref qm_three, .int 0, .int 0, .int 0, .null, .ref qm_unread, .ref qm_tryRow, .ref qm_bestRow, .ref qm_steps, .int 0])), (qms, .inl (cy 0, 8, .inl (upd (fun _ => 0) 1 1))), (qmo, .inl (cy 0, 8, .inl (upd (fun _ => 0) 1 iB))), (qmz, .inl (cy 0, 8, .inl (fun _ => 0))), (qmr, .inl (cy 0, 8, .inl (fun _ => 0))), (qmR, .inl (cy 4, 8, .inr (.inr (.inr (.inr (fun i => if i < 8 then some (rR i) else none)))))), (rR 0, .inl (cy 1, 40, .inr (.inl (fun _ => 0)))), (rR 1, .inl (cy 1, 40, .inr (.inl (fun _ => 0)))), (rR 2, .inl (cy 1, 40, .inr (.inl (fun _ => 0)))), (rR 3, .inl (cy 1, 40, .inr (.inl (fun _ => 0)))), (rR 4, .inl (cy 1, 40, .inr (.inl (fun _ => 0)))), (rR 5, .inl (cy 1, 40, .inr (.inl (fun _ => 0)))), (rR 6, .inl (cy 1, 40, .inr (.inl (fun _ => 0)))), (rR 7, .inl (cy 1, 40, .inr (.inl (fun _ => 0))))] := hD
          refine lv_aload_n hx hb dX6_row_57 rfl (lv_at hl 0 rfl) ?_
          refine va_get (D := G) (ci := 5) (v := .ref qmz) (C := RX6) (T := TX6) (N := 35) hx hb hts iX_X6 hown hK hP 0 rfl rfl 2 (by decide) (hts _ m_t852) (fun _ h9 => h9) rfl dX6_row_58 ?_
          refine lv_iload_n hx hb dX6_row_61 rfl (lv_at hl 1 rfl) ?_
          refine lv_iload_n hx hb dX6_row_62 rfl (lv_at hl 3 rfl) ?_
          refine va_iast hx hb hK hP hD hS 3 0 rfl rfl (in_c rfl) dX6_row_63 (fun H locs hP hD hS => ?_)
          have hP : va_P G CL [(qm, .inr (5, [.ref qms, .ref qmo, .ref qmz, .ref qmR, .ref qmv, .ref qmk, .ref qmb, .ref qmt, .int 0, .ref qmr, .int 0, .ref qmB, .int 0, .ref qmO, .ref qmK, .int 0, .int 0, .int 1, .null, .null, .int 0, .int 0, .int 0, .long 0, .int 0, .ref qm_three, .int 0, .int 0, .int 0, .null, .ref qm_unread, .ref qm_tryRow, .ref qm_bestRow, .ref qm_steps, .int 0])), (qms, .inl (cy 0, 8, .inl (upd (fun _ => 0) 1 1))), (qmo, .inl (cy 0, 8, .inl (upd (fun _ => 0) 1 iB))), (qmz, .inl (cy 0, 8, .inl (upd (fun _ => 0) 1 iC))), (qmr, .inl (cy 0, 8, .inl (fun _ => 0))), (qmR, .inl (cy 4, 8, .inr (.inr (.inr (.inr (fun i => if i < 8 then some (rR i) else none)))))), (rR 0, .inl (cy 1, 40, .inr (.inl (fun _ => 0)))), (rR 1, .inl (cy 1, 40, .inr (.inl (fun _ => 0)))), (rR 2, .inl (cy 1, 40, .inr (.inl (fun _ => 0)))), (rR 3, .inl (cy 1, 40, .inr (.inl (fun _ => 0)))), (rR 4, .inl (cy 1, 40, .inr (.inl (fun _ => 0)))), (rR 5, .inl (cy 1, 40, .inr (.inl (fun _ => 0)))), (rR 6, .inl (cy 1, 40, .inr (.inl (fun _ => 0)))), (rR 7, .inl (cy 1, 40, .inr (.inl (fun _ => 0))))] H := hP
          have hD : va_D A [(qm, .inr (5, [.ref qms, .ref qmo, .ref qmz, .ref qmR, .ref qmv, .ref qmk, .ref qmb, .ref qmt, .int 0, .ref qmr, .int 0, .ref qmB, .int 0, .ref qmO, .ref qmK, .int 0, .int 0, .int 1, .null, .null, .int 0, .int 0, .int 0, .long 0, .int 0, .ref qm_three, .int 0, .int 0, .int 0, .null, .ref qm_unread, .ref qm_tryRow, .ref qm_bestRow, .ref qm_steps, .int 0])), (qms, .inl (cy 0, 8, .inl (upd (fun _ => 0) 1 1))), (qmo, .inl (cy 0, 8, .inl (upd (fun _ => 0) 1 iB))), (qmz, .inl (cy 0, 8, .inl (upd (fun _ => 0) 1 iC))), (qmr, .inl (cy 0, 8, .inl (fun _ => 0))), (qmR, .inl (cy 4, 8, .inr (.inr (.inr (.inr (fun i => if i < 8 then some (rR i) else none)))))), (rR 0, .inl (cy 1, 40, .inr (.inl (fun _ => 0)))), (rR 1, .inl (cy 1, 40, .inr (.inl (fun _ => 0)))), (rR 2, .inl (cy 1, 40, .inr (.inl (fun _ => 0)))), (rR 3, .inl (cy 1, 40, .inr (.inl (fun _ => 0)))), (rR 4, .inl (cy 1, 40, .inr (.inl (fun _ => 0)))), (rR 5, .inl (cy 1, 40, .inr (.inl (fun _ => 0)))), (rR 6, .inl (cy 1, 40, .inr (.inl (fun _ => 0)))), (rR 7, .inl (cy 1, 40, .inr (.inl (fun _ => 0))))] := hD
          refine lv_iconst (v := 0) hx hb dX6_row_64 (by decide) ?_
          refine lv_istore (lv' := [(4, .int 0), (0, .ref qm), (1, .int 1), (2, .int iB), (3, .int iC)]) hx hb dX6_row_65 hl (by decide) rfl (fun ls hl => ?_)
          have lp_24 : ∀ (n_25 : Nat) (j_27 : Nat) (xJ_28 : Int32) (fT_29 : Nat → Int64), 40 - j_27 < n_25 → xJ_28 = nI j_27 → j_27 ≤ 40 → ∀ (H : Heap) (locs : List Loc) (ls : Array Slot), va_P G CL [(qm, .inr (5, [.ref qms, .ref qmo, .ref qmz, .ref qmR, .ref qmv, .ref qmk, .ref qmb, .ref qmt, .int 0, .ref qmr, .int 0, .ref qmB, .int 0, .ref qmO, .ref qmK, .int 0, .int 0, .int 1, .null, .null, .int 0, .int 0, .int 0, .long 0, .int 0, .ref qm_three, .int 0, .int 0, .int 0, .null, .ref qm_unread, .ref qm_tryRow, .ref qm_bestRow, .ref qm_steps, .int 0])), (qms, .inl (cy 0, 8, .inl (upd (fun _ => 0) 1 1))), (qmo, .inl (cy 0, 8, .inl (upd (fun _ => 0) 1 iB))), (qmz, .inl (cy 0, 8, .inl (upd (fun _ => 0) 1 iC))), (qmr, .inl (cy 0, 8, .inl (fun _ => 0))), (qmR, .inl (cy 4, 8, .inr (.inr (.inr (.inr (fun i => if i < 8 then some (rR i) else none)))))), (rR 0, .inl (cy 1, 40, .inr (.inl (fun _ => 0)))), (rR 1, .inl (cy 1, 40, .inr (.inl fT_29))), (rR 2, .inl (cy 1, 40, .inr (.inl (fun _ => 0)))), (rR 3, .inl (cy 1, 40, .inr (.inl (fun _ => 0)))), (rR 4, .inl (cy 1, 40, .inr (.inl (fun _ => 0)))), (rR 5, .inl (cy 1, 40, .inr (.inl (fun _ => 0)))), (rR 6, .inl (cy 1, 40, .inr (.inl (fun _ => 0)))), (rR 7, .inl (cy 1, 40, .inr (.inl (fun _ => 0))))] H → va_D A [(qm, .inr (5, [.ref qms, .ref qmo, .ref qmz, .ref qmR, .ref qmv, .ref qmk, .ref qmb, .ref qmt, .int 0, .ref qmr, .int 0, .ref qmB, .int 0, .ref qmO, .ref qmK, .int 0, .int 0, .int 1, .null, .null, .int 0, .int 0, .int 0, .long 0, .int 0, .ref qm_three, .int 0, .int 0, .int 0, .null, .ref qm_unread, .ref qm_tryRow, .ref qm_bestRow, .ref qm_steps, .int 0])), (qms, .inl (cy 0, 8, .inl (upd (fun _ => 0) 1 1))), (qmo, .inl (cy 0, 8, .inl (upd (fun _ => 0) 1 iB))), (qmz, .inl (cy 0, 8, .inl (upd (fun _ => 0) 1 iC))), (qmr, .inl (cy 0, 8, .inl (fun _ => 0))), (qmR, .inl (cy 4, 8, .inr (.inr (.inr (.inr (fun i => if i < 8 then some (rR i) else none)))))), (rR 0, .inl (cy 1, 40, .inr (.inl (fun _ => 0)))), (rR 1, .inl (cy 1, 40, .inr (.inl fT_29))), (rR 2, .inl (cy 1, 40, .inr (.inl (fun _ => 0)))), (rR 3, .inl (cy 1, 40, .inr (.inl (fun _ => 0)))), (rR 4, .inl (cy 1, 40, .inr (.inl (fun _ => 0)))), (rR 5, .inl (cy 1, 40, .inr (.inl (fun _ => 0)))), (rR 6, .inl (cy 1, 40, .inr (.inl (fun _ => 0)))), (rR 7, .inl (cy 1, 40, .inr (.inl (fun _ => 0))))] → va_S A s.heap H locs → lv_has ls 5 [(4, .int xJ_28), (0, .ref qm), (1, .int 1), (2, .int iB), (3, .int iC)] → W p l e (Rm 6 0 0) s m (List.toArray (α := Value) [.ref qm, .int 1, .int iB, .int iC]) below meth c H locs 0 0 (MQ below ((Wi G (fun r u => u = [] ∧ ((r = (sp_row 1 iB iC))))) A) (List.toArray (α := Value) [.ref qm, .int 1, .int iB, .int iC]) s 0 0 A) (F0 m 67 ls []) := by
            intro n_25
            induction n_25 with
            | zero => intro j_27 xJ_28 fT_29 hm9; exact absurd hm9 (Nat.not_lt_zero _)
            | succ n_25 ih_26 =>
              intro j_27 xJ_28 fT_29 hm_32 hxJ_30 hj_31 H locs ls hP hD hS hl
              refine lv_iload hx hb dX6_row_67 (lv_at hl 0 rfl) ?_
              refine lv_bipush (v := 40) hx hb dX6_row_69 (by decide) ?_
              refine lv_icmp_ge (tgt := 90) hx hb dX6_row_71 (by decide) (fun c_33 => ?_) (fun c_33 => ?_)
              · refine lv_iconst (v := 1) hx hb dX6_row_90 (by decide) ?_
                exact endW (u := []) hx hb hr hlocks rfl va_P0 va_D0 hS ⟨rfl, (by first | (simp [sp_row, Iv, h_3, h_7, h_11]; done) | (rw [sp_row, if_pos ⟨h_3, h_7, h_11⟩]))⟩ dX6_row_91
              · have hlt_34 : j_27 < 40 := lp_lt hxJ_30 (rfl : (40 : Int32) = nI 40) (by omega) (by omega) c_33
                refine lv_aload_n hx hb dX6_row_74 rfl (lv_at hl 1 rfl) ?_
                refine va_get (D := G) (ci := 5) (v := .ref qmR) (C := RX6) (T := TX6) (N := 35) hx hb hts iX_X6 hown hK hP 0 rfl rfl 3 (by decide) (hts _ m_t853) (fun _ h9 => h9) rfl dX6_row_75 ?_
                refine lv_iload_n hx hb dX6_row_78 rfl (lv_at hl 2 rfl) ?_
                refine va_alda hx hb hK hP 5 4 rfl rfl (in_c rfl) dX6_row_79 ?_
                refine lv_setv (v := .ref (rR 1)) (rfl) ?_
                refine lv_iload hx hb dX6_row_80 (lv_at hl 0 rfl) ?_
                refine lv_lconst (v := 0) hx hb dX6_row_82 (by decide) ?_
                refine va_last hx hb hK hP hD hS 7 1 rfl rfl (in_nI hxJ_30 hlt_34 (by omega)) dX6_row_83 (fun H locs hP hD hS => ?_)
                have hP : va_P G CL [(qm, .inr (5, [.ref qms, .ref qmo, .ref qmz, .ref qmR, .ref qmv, .ref qmk, .ref qmb, .ref qmt, .int 0, .ref qmr, .int 0, .ref qmB, .int 0, .ref qmO, .ref qmK, .int 0, .int 0, .int 1, .null, .null, .int 0, .int 0, .int 0, .long 0, .int 0, .ref qm_three, .int 0, .int 0, .int 0, .null, .ref qm_unread, .ref qm_tryRow, .ref qm_bestRow, .ref qm_steps, .int 0])), (qms, .inl (cy 0, 8, .inl (upd (fun _ => 0) 1 1))), (qmo, .inl (cy 0, 8, .inl (upd (fun _ => 0) 1 iB))), (qmz, .inl (cy 0, 8, .inl (upd (fun _ => 0) 1 iC))), (qmr, .inl (cy 0, 8, .inl (fun _ => 0))), (qmR, .inl (cy 4, 8, .inr (.inr (.inr (.inr (fun i => if i < 8 then some (rR i) else none)))))), (rR 0, .inl (cy 1, 40, .inr (.inl (fun _ => 0)))), (rR 1, .inl (cy 1, 40, .inr (.inl (vp_updL fT_29 xJ_28.toNatClampNeg 0)))), (rR 2, .inl (cy 1, 40, .inr (.inl (fun _ => 0)))), (rR 3, .inl (cy 1, 40, .inr (.inl (fun _ => 0)))), (rR 4, .inl (cy 1, 40, .inr (.inl (fun _ => 0)))), (rR 5, .inl (cy 1, 40, .inr (.inl (fun _ => 0)))), (rR 6, .inl (cy 1, 40, .inr (.inl (fun _ => 0)))), (rR 7, .inl (cy 1, 40, .inr (.inl (fun _ => 0))))] H := hP
                have hD : va_D A [(qm, .inr (5, [.ref qms, .ref qmo, .ref qmz, .ref qmR, .ref qmv, .ref qmk, .ref qmb, .ref qmt, .int 0, .ref qmr, .int 0, .ref qmB, .int 0, .ref qmO, .ref qmK, .int 0, .int 0, .int 1, .null, .null, .int 0, .int 0, .int 0, .long 0, .int 0, .ref qm_three, .int 0, .int 0, .int 0, .null, .ref qm_unread, .ref qm_tryRow, .ref qm_bestRow, .ref qm_steps, .int 0])), (qms, .inl (cy 0, 8, .inl (upd (fun _ => 0) 1 1))), (qmo, .inl (cy 0, 8, .inl (upd (fun _ => 0) 1 iB))), (qmz, .inl (cy 0, 8, .inl (upd (fun _ => 0) 1 iC))), (qmr, .inl (cy 0, 8, .inl (fun _ => 0))), (qmR, .inl (cy 4, 8, .inr (.inr (.inr (.inr (fun i => if i < 8 then some (rR i) else none)))))), (rR 0, .inl (cy 1, 40, .inr (.inl (fun _ => 0)))), (rR 1, .inl (cy 1, 40, .inr (.inl (vp_updL fT_29 xJ_28.toNatClampNeg 0)))), (rR 2, .inl (cy 1, 40, .inr (.inl (fun _ => 0)))), (rR 3, .inl (cy 1, 40, .inr (.inl (fun _ => 0)))), (rR 4, .inl (cy 1, 40, .inr (.inl (fun _ => 0)))), (rR 5, .inl (cy 1, 40, .inr (.inl (fun _ => 0)))), (rR 6, .inl (cy 1, 40, .inr (.inl (fun _ => 0)))), (rR 7, .inl (cy 1, 40, .inr (.inl (fun _ => 0))))] := hD
                refine lv_iinc (v := xJ_28 + 1) (lv' := [(4, .int (xJ_28 + 1)), (0, .ref qm), (1, .int 1), (2, .int iB), (3, .int iC)]) hx hb dX6_row_84 hl (k := 0) rfl (rfl) (by decide) rfl (fun ls hl => ?_)
                refine lv_goto (tgt := 67) hx hb dX6_row_87 (by decide) ?_
                exact ih_26 (j_27 + 1) (xJ_28 + 1) (vp_updL fT_29 xJ_28.toNatClampNeg 0) (by omega) (by rw [hxJ_30]; exact nI_1 _) (by omega) _ _ _ hP hD hS (lv_sub hl [0, 1, 2, 3, 4] rfl)
          exact lp_24 ((40 - 0) + 1) 0 0 (fun _ => 0) (Nat.lt_succ_self _) rfl (Nat.zero_le _) _ _ ls hP hD hS (lv_sub hl [0, 1, 2, 3, 4] rfl)
        · refine lv_aload_n hx hb dX6_row_43 rfl (lv_at hl 0 rfl) ?_
          refine va_get (D := G) (ci := 5) (v := .ref qms) (C := RX6) (T := TX6) (N := 35) hx hb hts iX_X6 hown hK hP 0 rfl rfl 0 (by decide) (hts _ m_t850) (fun _ h9 => h9) rfl dX6_row_44 ?_
          refine lv_iload_n hx hb dX6_row_47 rfl (lv_at hl 1 rfl) ?_
          refine lv_iconst (v := 1) hx hb dX6_row_48 (by decide) ?_
          refine va_iast hx hb hK hP hD hS 1 0 rfl rfl (in_c rfl) dX6_row_49 (fun H locs hP hD hS => ?_)
          have hP : va_P G CL [(qm, .inr (5, [.ref qms, .ref qmo, .ref qmz, .ref qmR, .ref qmv, .ref qmk, .ref qmb, .ref qmt, .int 0, .ref qmr, .int 0, .ref qmB, .int 0, .ref qmO, .ref qmK, .int 0, .int 0, .int 1, .null, .null, .int 0, .int 0, .int 0, .long 0, .int 0, .ref qm_three, .int 0, .int 0, .int 0, .null, .ref qm_unread, .ref qm_tryRow, .ref qm_bestRow, .ref qm_steps, .int 0])), (qms, .inl (cy 0, 8, .inl (upd (fun _ => 0) 2 1))), (qmo, .inl (cy 0, 8, .inl (fun _ => 0))), (qmz, .inl (cy 0, 8, .inl (fun _ => 0))), (qmr, .inl (cy 0, 8, .inl (fun _ => 0))), (qmR, .inl (cy 4, 8, .inr (.inr (.inr (.inr (fun i => if i < 8 then some (rR i) else none)))))), (rR 0, .inl (cy 1, 40, .inr (.inl (fun _ => 0)))), (rR 1, .inl (cy 1, 40, .inr (.inl (fun _ => 0)))), (rR 2, .inl (cy 1, 40, .inr (.inl (fun _ => 0)))), (rR 3, .inl (cy 1, 40, .inr (.inl (fun _ => 0)))), (rR 4, .inl (cy 1, 40, .inr (.inl (fun _ => 0)))), (rR 5, .inl (cy 1, 40, .inr (.inl (fun _ => 0)))), (rR 6, .inl (cy 1, 40, .inr (.inl (fun _ => 0)))), (rR 7, .inl (cy 1, 40, .inr (.inl (fun _ => 0))))] H := hP
          have hD : va_D A [(qm, .inr (5, [.ref qms, .ref qmo, .ref qmz, .ref qmR, .ref qmv, .ref qmk, .ref qmb, .ref qmt, .int 0, .ref qmr, .int 0, .ref qmB, .int 0, .ref qmO, .ref qmK, .int 0, .int 0, .int 1, .null, .null, .int 0, .int 0, .int 0, .long 0, .int 0, .ref qm_three, .int 0, .int 0, .int 0, .null, .ref qm_unread, .ref qm_tryRow, .ref qm_bestRow, .ref qm_steps, .int 0])), (qms, .inl (cy 0, 8, .inl (upd (fun _ => 0) 2 1))), (qmo, .inl (cy 0, 8, .inl (fun _ => 0))), (qmz, .inl (cy 0, 8, .inl (fun _ => 0))), (qmr, .inl (cy 0, 8, .inl (fun _ => 0))), (qmR, .inl (cy 4, 8, .inr (.inr (.inr (.inr (fun i => if i < 8 then some (rR i) else none)))))), (rR 0, .inl (cy 1, 40, .inr (.inl (fun _ => 0)))), (rR 1, .inl (cy 1, 40, .inr (.inl (fun _ => 0)))), (rR 2, .inl (cy 1, 40, .inr (.inl (fun _ => 0)))), (rR 3, .inl (cy 1, 40, .inr (.inl (fun _ => 0)))), (rR 4, .inl (cy 1, 40, .inr (.inl (fun _ => 0)))), (rR 5, .inl (cy 1, 40, .inr (.inl (fun _ => 0)))), (rR 6, .inl (cy 1, 40, .inr (.inl (fun _ => 0)))), (rR 7, .inl (cy 1, 40, .inr (.inl (fun _ => 0))))] := hD
          refine lv_aload_n hx hb dX6_row_50 rfl (lv_at hl 0 rfl) ?_
          refine va_get (D := G) (ci := 5) (v := .ref qmo) (C := RX6) (T := TX6) (N := 35) hx hb hts iX_X6 hown hK hP 0 rfl rfl 1 (by decide) (hts _ m_t851) (fun _ h9 => h9) rfl dX6_row_51 ?_
          refine lv_iload_n hx hb dX6_row_54 rfl (lv_at hl 1 rfl) ?_
          refine lv_iload_n hx hb dX6_row_55 rfl (lv_at hl 2 rfl) ?_
          refine va_iast hx hb hK hP hD hS 2 0 rfl rfl (in_c rfl) dX6_row_56 (fun H locs hP hD hS => ?_)
          have hP : va_P G CL [(qm, .inr (5, [.ref qms, .ref qmo, .ref qmz, .ref qmR, .ref qmv, .ref qmk, .ref qmb, .ref qmt, .int 0, .ref qmr, .int 0, .ref qmB, .int 0, .ref qmO, .ref qmK, .int 0, .int 0, .int 1, .null, .null, .int 0, .int 0, .int 0, .long 0, .int 0, .ref qm_three, .int 0, .int 0, .int 0, .null, .ref qm_unread, .ref qm_tryRow, .ref qm_bestRow, .ref qm_steps, .int 0])), (qms, .inl (cy 0, 8, .inl (upd (fun _ => 0) 2 1))), (qmo, .inl (cy 0, 8, .inl (upd (fun _ => 0) 2 iB))), (qmz, .inl (cy 0, 8, .inl (fun _ => 0))), (qmr, .inl (cy 0, 8, .inl (fun _ => 0))), (qmR, .inl (cy 4, 8, .inr (.inr (.inr (.inr (fun i => if i < 8 then some (rR i) else none)))))), (rR 0, .inl (cy 1, 40, .inr (.inl (fun _ => 0)))), (rR 1, .inl (cy 1, 40, .inr (.inl (fun _ => 0)))), (rR 2, .inl (cy 1, 40, .inr (.inl (fun _ => 0)))), (rR 3, .inl (cy 1, 40, .inr (.inl (fun _ => 0)))), (rR 4, .inl (cy 1, 40, .inr (.inl (fun _ => 0)))), (rR 5, .inl (cy 1, 40, .inr (.inl (fun _ => 0)))), (rR 6, .inl (cy 1, 40, .inr (.inl (fun _ => 0)))), (rR 7, .inl (cy 1, 40, .inr (.inl (fun _ => 0))))] H := hP
          have hD : va_D A [(qm, .inr (5, [.ref qms, .ref qmo, .ref qmz, .ref qmR, .ref qmv, .ref qmk, .ref qmb, .ref qmt, .int 0, .ref qmr, .int 0, .ref qmB, .int 0, .ref qmO, .ref qmK, .int 0, .int 0, .int 1, .null, .null, .int 0, .int 0, .int 0, .long 0, .int 0, .ref qm_three, .int 0, .int 0, .int 0, .null, .ref qm_unread, .ref qm_tryRow, .ref qm_bestRow, .ref qm_steps, .int 0])), (qms, .inl (cy 0, 8, .inl (upd (fun _ => 0) 2 1))), (qmo, .inl (cy 0, 8, .inl (upd (fun _ => 0) 2 iB))), (qmz, .inl (cy 0, 8, .inl (fun _ => 0))), (qmr, .inl (cy 0, 8, .inl (fun _ => 0))), (qmR, .inl (cy 4, 8, .inr (.inr (.inr (.inr (fun i => if i < 8 then some (rR i) else none)))))), (rR 0, .inl (cy 1, 40, .inr (.inl (fun _ => 0)))), (rR 1, .inl (cy 1, 40, .inr (.inl (fun _ => 0)))), (rR 2, .inl (cy 1, 40, .inr (.inl (fun _ => 0)))), (rR 3, .inl (cy 1, 40, .inr (.inl (fun _ => 0)))), (rR 4, .inl (cy 1, 40, .inr (.inl (fun _ => 0)))), (rR 5, .inl (cy 1, 40, .inr (.inl (fun _ => 0)))), (rR 6, .inl (cy 1, 40, .inr (.inl (fun _ => 0)))), (rR 7, .inl (cy 1, 40, .inr (.inl (fun _ => 0))))] := hD
          refine lv_aload_n hx hb dX6_row_57 rfl (lv_at hl 0 rfl) ?_
          refine va_get (D := G) (ci := 5) (v := .ref qmz) (C := RX6) (T := TX6) (N := 35) hx hb hts iX_X6 hown hK hP 0 rfl rfl 2 (by decide) (hts _ m_t852) (fun _ h9 => h9) rfl dX6_row_58 ?_
          refine lv_iload_n hx hb dX6_row_61 rfl (lv_at hl 1 rfl) ?_
          refine lv_iload_n hx hb dX6_row_62 rfl (lv_at hl 3 rfl) ?_
          refine va_iast hx hb hK hP hD hS 3 0 rfl rfl (in_c rfl) dX6_row_63 (fun H locs hP hD hS => ?_)
          have hP : va_P G CL [(qm, .inr (5, [.ref qms, .ref qmo, .ref qmz, .ref qmR, .ref qmv, .ref qmk, .ref qmb, .ref qmt, .int 0, .ref qmr, .int 0, .ref qmB, .int 0, .ref qmO, .ref qmK, .int 0, .int 0, .int 1, .null, .null, .int 0, .int 0, .int 0, .long 0, .int 0, .ref qm_three, .int 0, .int 0, .int 0, .null, .ref qm_unread, .ref qm_tryRow, .ref qm_bestRow, .ref qm_steps, .int 0])), (qms, .inl (cy 0, 8, .inl (upd (fun _ => 0) 2 1))), (qmo, .inl (cy 0, 8, .inl (upd (fun _ => 0) 2 iB))), (qmz, .inl (cy 0, 8, .inl (upd (fun _ => 0) 2 iC))), (qmr, .inl (cy 0, 8, .inl (fun _ => 0))), (qmR, .inl (cy 4, 8, .inr (.inr (.inr (.inr (fun i => if i < 8 then some (rR i) else none)))))), (rR 0, .inl (cy 1, 40, .inr (.inl (fun _ => 0)))), (rR 1, .inl (cy 1, 40, .inr (.inl (fun _ => 0)))), (rR 2, .inl (cy 1, 40, .inr (.inl (fun _ => 0)))), (rR 3, .inl (cy 1, 40, .inr (.inl (fun _ => 0)))), (rR 4, .inl (cy 1, 40, .inr (.inl (fun _ => 0)))), (rR 5, .inl (cy 1, 40, .inr (.inl (fun _ => 0)))), (rR 6, .inl (cy 1, 40, .inr (.inl (fun _ => 0)))), (rR 7, .inl (cy 1, 40, .inr (.inl (fun _ => 0))))] H := hP
          have hD : va_D A [(qm, .inr (5, [.ref qms, .ref qmo, .ref qmz, .ref qmR, .ref qmv, .ref qmk, .ref qmb, .ref qmt, .int 0, .ref qmr, .int 0, .ref qmB, .int 0, .ref qmO, .ref qmK, .int 0, .int 0, .int 1, .null, .null, .int 0, .int 0, .int 0, .long 0, .int 0, .ref qm_three, .int 0, .int 0, .int 0, .null, .ref qm_unread, .ref qm_tryRow, .ref qm_bestRow, .ref qm_steps, .int 0])), (qms, .inl (cy 0, 8, .inl (upd (fun _ => 0) 2 1))), (qmo, .inl (cy 0, 8, .inl (upd (fun _ => 0) 2 iB))), (qmz, .inl (cy 0, 8, .inl (upd (fun _ => 0) 2 iC))), (qmr, .inl (cy 0, 8, .inl (fun _ => 0))), (qmR, .inl (cy 4, 8, .inr (.inr (.inr (.inr (fun i => if i < 8 then some (rR i) else none)))))), (rR 0, .inl (cy 1, 40, .inr (.inl (fun _ => 0)))), (rR 1, .inl (cy 1, 40, .inr (.inl (fun _ => 0)))), (rR 2, .inl (cy 1, 40, .inr (.inl (fun _ => 0)))), (rR 3, .inl (cy 1, 40, .inr (.inl (fun _ => 0)))), (rR 4, .inl (cy 1, 40, .inr (.inl (fun _ => 0)))), (rR 5, .inl (cy 1, 40, .inr (.inl (fun _ => 0)))), (rR 6, .inl (cy 1, 40, .inr (.inl (fun _ => 0)))), (rR 7, .inl (cy 1, 40, .inr (.inl (fun _ => 0))))] := hD
          refine lv_iconst (v := 0) hx hb dX6_row_64 (by decide) ?_
          refine lv_istore (lv' := [(4, .int 0), (0, .ref qm), (1, .int 2), (2, .int iB), (3, .int iC)]) hx hb dX6_row_65 hl (by decide) rfl (fun ls hl => ?_)
          have lp_35 : ∀ (n_36 : Nat) (j_38 : Nat) (xJ_39 : Int32) (fT_40 : Nat → Int64), 40 - j_38 < n_36 → xJ_39 = nI j_38 → j_38 ≤ 40 → ∀ (H : Heap) (locs : List Loc) (ls : Array Slot), va_P G CL [(qm, .inr (5, [.ref qms, .ref qmo, .ref qmz, .ref qmR, .ref qmv, .ref qmk, .ref qmb, .ref qmt, .int 0, .ref qmr, .int 0, .ref qmB, .int 0, .ref qmO, .ref qmK, .int 0, .int 0, .int 1, .null, .null, .int 0, .int 0, .int 0, .long 0, .int 0, .ref qm_three, .int 0, .int 0, .int 0, .null, .ref qm_unread, .ref qm_tryRow, .ref qm_bestRow, .ref qm_steps, .int 0])), (qms, .inl (cy 0, 8, .inl (upd (fun _ => 0) 2 1))), (qmo, .inl (cy 0, 8, .inl (upd (fun _ => 0) 2 iB))), (qmz, .inl (cy 0, 8, .inl (upd (fun _ => 0) 2 iC))), (qmr, .inl (cy 0, 8, .inl (fun _ => 0))), (qmR, .inl (cy 4, 8, .inr (.inr (.inr (.inr (fun i => if i < 8 then some (rR i) else none)))))), (rR 0, .inl (cy 1, 40, .inr (.inl (fun _ => 0)))), (rR 1, .inl (cy 1, 40, .inr (.inl (fun _ => 0)))), (rR 2, .inl (cy 1, 40, .inr (.inl fT_40))), (rR 3, .inl (cy 1, 40, .inr (.inl (fun _ => 0)))), (rR 4, .inl (cy 1, 40, .inr (.inl (fun _ => 0)))), (rR 5, .inl (cy 1, 40, .inr (.inl (fun _ => 0)))), (rR 6, .inl (cy 1, 40, .inr (.inl (fun _ => 0)))), (rR 7, .inl (cy 1, 40, .inr (.inl (fun _ => 0))))] H → va_D A [(qm, .inr (5, [.ref qms, .ref qmo, .ref qmz, .ref qmR, .ref qmv, .ref qmk, .ref qmb, .ref qmt, .int 0, .ref qmr, .int 0, .ref qmB, .int 0, .ref qmO, .ref qmK, .int 0, .int 0, .int 1, .null, .null, .int 0, .int 0, .int 0, .long 0, .int 0, .ref qm_three, .int 0, .int 0, .int 0, .null, .ref qm_unread, .ref qm_tryRow, .ref qm_bestRow, .ref qm_steps, .int 0])), (qms, .inl (cy 0, 8, .inl (upd (fun _ => 0) 2 1))), (qmo, .inl (cy 0, 8, .inl (upd (fun _ => 0) 2 iB))), (qmz, .inl (cy 0, 8, .inl (upd (fun _ => 0) 2 iC))), (qmr, .inl (cy 0, 8, .inl (fun _ => 0))), (qmR, .inl (cy 4, 8, .inr (.inr (.inr (.inr (fun i => if i < 8 then some (rR i) else none)))))), (rR 0, .inl (cy 1, 40, .inr (.inl (fun _ => 0)))), (rR 1, .inl (cy 1, 40, .inr (.inl (fun _ => 0)))), (rR 2, .inl (cy 1, 40, .inr (.inl fT_40))), (rR 3, .inl (cy 1, 40, .inr (.inl (fun _ => 0)))), (rR 4, .inl (cy 1, 40, .inr (.inl (fun _ => 0)))), (rR 5, .inl (cy 1, 40, .inr (.inl (fun _ => 0)))), (rR 6, .inl (cy 1, 40, .inr (.inl (fun _ => 0)))), (rR 7, .inl (cy 1, 40, .inr (.inl (fun _ => 0))))] → va_S A s.heap H locs → lv_has ls 5 [(4, .int xJ_39), (0, .ref qm), (1, .int 2), (2, .int iB), (3, .int iC)] → W p l e (Rm 6 0 0) s m (List.toArray (α := Value) [.ref qm, .int 2, .int iB, .int iC]) below meth c H locs 0 0 (MQ below ((Wi G (fun r u => u = [] ∧ ((r = (sp_row 2 iB iC))))) A) (List.toArray (α := Value) [.ref qm, .int 2, .int iB, .int iC]) s 0 0 A) (F0 m 67 ls []) := by
            intro n_36
            induction n_36 with
            | zero => intro j_38 xJ_39 fT_40 hm9; exact absurd hm9 (Nat.not_lt_zero _)
            | succ n_36 ih_37 =>
              intro j_38 xJ_39 fT_40 hm_43 hxJ_41 hj_42 H locs ls hP hD hS hl
              refine lv_iload hx hb dX6_row_67 (lv_at hl 0 rfl) ?_
              refine lv_bipush (v := 40) hx hb dX6_row_69 (by decide) ?_
              refine lv_icmp_ge (tgt := 90) hx hb dX6_row_71 (by decide) (fun c_44 => ?_) (fun c_44 => ?_)
              · refine lv_iconst (v := 1) hx hb dX6_row_90 (by decide) ?_
                exact endW (u := []) hx hb hr hlocks rfl va_P0 va_D0 hS ⟨rfl, (by first | (simp [sp_row, Iv, h_3, h_7, h_11]; done) | (rw [sp_row, if_pos ⟨h_3, h_7, h_11⟩]))⟩ dX6_row_91
              · have hlt_45 : j_38 < 40 := lp_lt hxJ_41 (rfl : (40 : Int32) = nI 40) (by omega) (by omega) c_44
                refine lv_aload_n hx hb dX6_row_74 rfl (lv_at hl 1 rfl) ?_
                refine va_get (D := G) (ci := 5) (v := .ref qmR) (C := RX6) (T := TX6) (N := 35) hx hb hts iX_X6 hown hK hP 0 rfl rfl 3 (by decide) (hts _ m_t853) (fun _ h9 => h9) rfl dX6_row_75 ?_
                refine lv_iload_n hx hb dX6_row_78 rfl (lv_at hl 2 rfl) ?_
                refine va_alda hx hb hK hP 5 4 rfl rfl (in_c rfl) dX6_row_79 ?_
                refine lv_setv (v := .ref (rR 2)) (rfl) ?_
                refine lv_iload hx hb dX6_row_80 (lv_at hl 0 rfl) ?_
                refine lv_lconst (v := 0) hx hb dX6_row_82 (by decide) ?_
                refine va_last hx hb hK hP hD hS 8 1 rfl rfl (in_nI hxJ_41 hlt_45 (by omega)) dX6_row_83 (fun H locs hP hD hS => ?_)
                have hP : va_P G CL [(qm, .inr (5, [.ref qms, .ref qmo, .ref qmz, .ref qmR, .ref qmv, .ref qmk, .ref qmb, .ref qmt, .int 0, .ref qmr, .int 0, .ref qmB, .int 0, .ref qmO, .ref qmK, .int 0, .int 0, .int 1, .null, .null, .int 0, .int 0, .int 0, .long 0, .int 0, .ref qm_three, .int 0, .int 0, .int 0, .null, .ref qm_unread, .ref qm_tryRow, .ref qm_bestRow, .ref qm_steps, .int 0])), (qms, .inl (cy 0, 8, .inl (upd (fun _ => 0) 2 1))), (qmo, .inl (cy 0, 8, .inl (upd (fun _ => 0) 2 iB))), (qmz, .inl (cy 0, 8, .inl (upd (fun _ => 0) 2 iC))), (qmr, .inl (cy 0, 8, .inl (fun _ => 0))), (qmR, .inl (cy 4, 8, .inr (.inr (.inr (.inr (fun i => if i < 8 then some (rR i) else none)))))), (rR 0, .inl (cy 1, 40, .inr (.inl (fun _ => 0)))), (rR 1, .inl (cy 1, 40, .inr (.inl (fun _ => 0)))), (rR 2, .inl (cy 1, 40, .inr (.inl (vp_updL fT_40 xJ_39.toNatClampNeg 0)))), (rR 3, .inl (cy 1, 40, .inr (.inl (fun _ => 0)))), (rR 4, .inl (cy 1, 40, .inr (.inl (fun _ => 0)))), (rR 5, .inl (cy 1, 40, .inr (.inl (fun _ => 0)))), (rR 6, .inl (cy 1, 40, .inr (.inl (fun _ => 0)))), (rR 7, .inl (cy 1, 40, .inr (.inl (fun _ => 0))))] H := hP
                have hD : va_D A [(qm, .inr (5, [.ref qms, .ref qmo, .ref qmz, .ref qmR, .ref qmv, .ref qmk, .ref qmb, .ref qmt, .int 0, .ref qmr, .int 0, .ref qmB, .int 0, .ref qmO, .ref qmK, .int 0, .int 0, .int 1, .null, .null, .int 0, .int 0, .int 0, .long 0, .int 0, .ref qm_three, .int 0, .int 0, .int 0, .null, .ref qm_unread, .ref qm_tryRow, .ref qm_bestRow, .ref qm_steps, .int 0])), (qms, .inl (cy 0, 8, .inl (upd (fun _ => 0) 2 1))), (qmo, .inl (cy 0, 8, .inl (upd (fun _ => 0) 2 iB))), (qmz, .inl (cy 0, 8, .inl (upd (fun _ => 0) 2 iC))), (qmr, .inl (cy 0, 8, .inl (fun _ => 0))), (qmR, .inl (cy 4, 8, .inr (.inr (.inr (.inr (fun i => if i < 8 then some (rR i) else none)))))), (rR 0, .inl (cy 1, 40, .inr (.inl (fun _ => 0)))), (rR 1, .inl (cy 1, 40, .inr (.inl (fun _ => 0)))), (rR 2, .inl (cy 1, 40, .inr (.inl (vp_updL fT_40 xJ_39.toNatClampNeg 0)))), (rR 3, .inl (cy 1, 40, .inr (.inl (fun _ => 0)))), (rR 4, .inl (cy 1, 40, .inr (.inl (fun _ => 0)))), (rR 5, .inl (cy 1, 40, .inr (.inl (fun _ => 0)))), (rR 6, .inl (cy 1, 40, .inr (.inl (fun _ => 0)))), (rR 7, .inl (cy 1, 40, .inr (.inl (fun _ => 0))))] := hD
                refine lv_iinc (v := xJ_39 + 1) (lv' := [(4, .int (xJ_39 + 1)), (0, .ref qm), (1, .int 2), (2, .int iB), (3, .int iC)]) hx hb dX6_row_84 hl (k := 0) rfl (rfl) (by decide) rfl (fun ls hl => ?_)
                refine lv_goto (tgt := 67) hx hb dX6_row_87 (by decide) ?_
                exact ih_37 (j_38 + 1) (xJ_39 + 1) (vp_updL fT_40 xJ_39.toNatClampNeg 0) (by omega) (by rw [hxJ_41]; exact nI_1 _) (by omega) _ _ _ hP hD hS (lv_sub hl [0, 1, 2, 3, 4] rfl)
          exact lp_35 ((40 - 0) + 1) 0 0 (fun _ => 0) (Nat.lt_succ_self _) rfl (Nat.zero_le _) _ _ ls hP hD hS (lv_sub hl [0, 1, 2, 3, 4] rfl)
        · refine lv_aload_n hx hb dX6_row_43 rfl (lv_at hl 0 rfl) ?_
          refine va_get (D := G) (ci := 5) (v := .ref qms) (C := RX6) (T := TX6) (N := 35) hx hb hts iX_X6 hown hK hP 0 rfl rfl 0 (by decide) (hts _ m_t850) (fun _ h9 => h9) rfl dX6_row_44 ?_
          refine lv_iload_n hx hb dX6_row_47 rfl (lv_at hl 1 rfl) ?_
          refine lv_iconst (v := 1) hx hb dX6_row_48 (by decide) ?_
          refine va_iast hx hb hK hP hD hS 1 0 rfl rfl (in_c rfl) dX6_row_49 (fun H locs hP hD hS => ?_)
          have hP : va_P G CL [(qm, .inr (5, [.ref qms, .ref qmo, .ref qmz, .ref qmR, .ref qmv, .ref qmk, .ref qmb, .ref qmt, .int 0, .ref qmr, .int 0, .ref qmB, .int 0, .ref qmO, .ref qmK, .int 0, .int 0, .int 1, .null, .null, .int 0, .int 0, .int 0, .long 0, .int 0, .ref qm_three, .int 0, .int 0, .int 0, .null, .ref qm_unread, .ref qm_tryRow, .ref qm_bestRow, .ref qm_steps, .int 0])), (qms, .inl (cy 0, 8, .inl (upd (fun _ => 0) 3 1))), (qmo, .inl (cy 0, 8, .inl (fun _ => 0))), (qmz, .inl (cy 0, 8, .inl (fun _ => 0))), (qmr, .inl (cy 0, 8, .inl (fun _ => 0))), (qmR, .inl (cy 4, 8, .inr (.inr (.inr (.inr (fun i => if i < 8 then some (rR i) else none)))))), (rR 0, .inl (cy 1, 40, .inr (.inl (fun _ => 0)))), (rR 1, .inl (cy 1, 40, .inr (.inl (fun _ => 0)))), (rR 2, .inl (cy 1, 40, .inr (.inl (fun _ => 0)))), (rR 3, .inl (cy 1, 40, .inr (.inl (fun _ => 0)))), (rR 4, .inl (cy 1, 40, .inr (.inl (fun _ => 0)))), (rR 5, .inl (cy 1, 40, .inr (.inl (fun _ => 0)))), (rR 6, .inl (cy 1, 40, .inr (.inl (fun _ => 0)))), (rR 7, .inl (cy 1, 40, .inr (.inl (fun _ => 0))))] H := hP
          have hD : va_D A [(qm, .inr (5, [.ref qms, .ref qmo, .ref qmz, .ref qmR, .ref qmv, .ref qmk, .ref qmb, .ref qmt, .int 0, .ref qmr, .int 0, .ref qmB, .int 0, .ref qmO, .ref qmK, .int 0, .int 0, .int 1, .null, .null, .int 0, .int 0, .int 0, .long 0, .int 0, .ref qm_three, .int 0, .int 0, .int 0, .null, .ref qm_unread, .ref qm_tryRow, .ref qm_bestRow, .ref qm_steps, .int 0])), (qms, .inl (cy 0, 8, .inl (upd (fun _ => 0) 3 1))), (qmo, .inl (cy 0, 8, .inl (fun _ => 0))), (qmz, .inl (cy 0, 8, .inl (fun _ => 0))), (qmr, .inl (cy 0, 8, .inl (fun _ => 0))), (qmR, .inl (cy 4, 8, .inr (.inr (.inr (.inr (fun i => if i < 8 then some (rR i) else none)))))), (rR 0, .inl (cy 1, 40, .inr (.inl (fun _ => 0)))), (rR 1, .inl (cy 1, 40, .inr (.inl (fun _ => 0)))), (rR 2, .inl (cy 1, 40, .inr (.inl (fun _ => 0)))), (rR 3, .inl (cy 1, 40, .inr (.inl (fun _ => 0)))), (rR 4, .inl (cy 1, 40, .inr (.inl (fun _ => 0)))), (rR 5, .inl (cy 1, 40, .inr (.inl (fun _ => 0)))), (rR 6, .inl (cy 1, 40, .inr (.inl (fun _ => 0)))), (rR 7, .inl (cy 1, 40, .inr (.inl (fun _ => 0))))] := hD
          refine lv_aload_n hx hb dX6_row_50 rfl (lv_at hl 0 rfl) ?_
          refine va_get (D := G) (ci := 5) (v := .ref qmo) (C := RX6) (T := TX6) (N := 35) hx hb hts iX_X6 hown hK hP 0 rfl rfl 1 (by decide) (hts _ m_t851) (fun _ h9 => h9) rfl dX6_row_51 ?_
          refine lv_iload_n hx hb dX6_row_54 rfl (lv_at hl 1 rfl) ?_
          refine lv_iload_n hx hb dX6_row_55 rfl (lv_at hl 2 rfl) ?_
          refine va_iast hx hb hK hP hD hS 2 0 rfl rfl (in_c rfl) dX6_row_56 (fun H locs hP hD hS => ?_)
          have hP : va_P G CL [(qm, .inr (5, [.ref qms, .ref qmo, .ref qmz, .ref qmR, .ref qmv, .ref qmk, .ref qmb, .ref qmt, .int 0, .ref qmr, .int 0, .ref qmB, .int 0, .ref qmO, .ref qmK, .int 0, .int 0, .int 1, .null, .null, .int 0, .int 0, .int 0, .long 0, .int 0, .ref qm_three, .int 0, .int 0, .int 0, .null, .ref qm_unread, .ref qm_tryRow, .ref qm_bestRow, .ref qm_steps, .int 0])), (qms, .inl (cy 0, 8, .inl (upd (fun _ => 0) 3 1))), (qmo, .inl (cy 0, 8, .inl (upd (fun _ => 0) 3 iB))), (qmz, .inl (cy 0, 8, .inl (fun _ => 0))), (qmr, .inl (cy 0, 8, .inl (fun _ => 0))), (qmR, .inl (cy 4, 8, .inr (.inr (.inr (.inr (fun i => if i < 8 then some (rR i) else none)))))), (rR 0, .inl (cy 1, 40, .inr (.inl (fun _ => 0)))), (rR 1, .inl (cy 1, 40, .inr (.inl (fun _ => 0)))), (rR 2, .inl (cy 1, 40, .inr (.inl (fun _ => 0)))), (rR 3, .inl (cy 1, 40, .inr (.inl (fun _ => 0)))), (rR 4, .inl (cy 1, 40, .inr (.inl (fun _ => 0)))), (rR 5, .inl (cy 1, 40, .inr (.inl (fun _ => 0)))), (rR 6, .inl (cy 1, 40, .inr (.inl (fun _ => 0)))), (rR 7, .inl (cy 1, 40, .inr (.inl (fun _ => 0))))] H := hP
          have hD : va_D A [(qm, .inr (5, [.ref qms, .ref qmo, .ref qmz, .ref qmR, .ref qmv, .ref qmk, .ref qmb, .ref qmt, .int 0, .ref qmr, .int 0, .ref qmB, .int 0, .ref qmO, .ref qmK, .int 0, .int 0, .int 1, .null, .null, .int 0, .int 0, .int 0, .long 0, .int 0, .ref qm_three, .int 0, .int 0, .int 0, .null, .ref qm_unread, .ref qm_tryRow, .ref qm_bestRow, .ref qm_steps, .int 0])), (qms, .inl (cy 0, 8, .inl (upd (fun _ => 0) 3 1))), (qmo, .inl (cy 0, 8, .inl (upd (fun _ => 0) 3 iB))), (qmz, .inl (cy 0, 8, .inl (fun _ => 0))), (qmr, .inl (cy 0, 8, .inl (fun _ => 0))), (qmR, .inl (cy 4, 8, .inr (.inr (.inr (.inr (fun i => if i < 8 then some (rR i) else none)))))), (rR 0, .inl (cy 1, 40, .inr (.inl (fun _ => 0)))), (rR 1, .inl (cy 1, 40, .inr (.inl (fun _ => 0)))), (rR 2, .inl (cy 1, 40, .inr (.inl (fun _ => 0)))), (rR 3, .inl (cy 1, 40, .inr (.inl (fun _ => 0)))), (rR 4, .inl (cy 1, 40, .inr (.inl (fun _ => 0)))), (rR 5, .inl (cy 1, 40, .inr (.inl (fun _ => 0)))), (rR 6, .inl (cy 1, 40, .inr (.inl (fun _ => 0)))), (rR 7, .inl (cy 1, 40, .inr (.inl (fun _ => 0))))] := hD
          refine lv_aload_n hx hb dX6_row_57 rfl (lv_at hl 0 rfl) ?_
          refine va_get (D := G) (ci := 5) (v := .ref qmz) (C := RX6) (T := TX6) (N := 35) hx hb hts iX_X6 hown hK hP 0 rfl rfl 2 (by decide) (hts _ m_t852) (fun _ h9 => h9) rfl dX6_row_58 ?_
          refine lv_iload_n hx hb dX6_row_61 rfl (lv_at hl 1 rfl) ?_
          refine lv_iload_n hx hb dX6_row_62 rfl (lv_at hl 3 rfl) ?_
          refine va_iast hx hb hK hP hD hS 3 0 rfl rfl (in_c rfl) dX6_row_63 (fun H locs hP hD hS => ?_)
          have hP : va_P G CL [(qm, .inr (5, [.ref qms, .ref qmo, .ref qmz, .ref qmR, .ref qmv, .ref qmk, .ref qmb, .ref qmt, .int 0, .ref qmr, .int 0, .ref qmB, .int 0, .ref qmO, .ref qmK, .int 0, .int 0, .int 1, .null, .null, .int 0, .int 0, .int 0, .long 0, .int 0, .ref qm_three, .int 0, .int 0, .int 0, .null, .ref qm_unread, .ref qm_tryRow, .ref qm_bestRow, .ref qm_steps, .int 0])), (qms, .inl (cy 0, 8, .inl (upd (fun _ => 0) 3 1))), (qmo, .inl (cy 0, 8, .inl (upd (fun _ => 0) 3 iB))), (qmz, .inl (cy 0, 8, .inl (upd (fun _ => 0) 3 iC))), (qmr, .inl (cy 0, 8, .inl (fun _ => 0))), (qmR, .inl (cy 4, 8, .inr (.inr (.inr (.inr (fun i => if i < 8 then some (rR i) else none)))))), (rR 0, .inl (cy 1, 40, .inr (.inl (fun _ => 0)))), (rR 1, .inl (cy 1, 40, .inr (.inl (fun _ => 0)))), (rR 2, .inl (cy 1, 40, .inr (.inl (fun _ => 0)))), (rR 3, .inl (cy 1, 40, .inr (.inl (fun _ => 0)))), (rR 4, .inl (cy 1, 40, .inr (.inl (fun _ => 0)))), (rR 5, .inl (cy 1, 40, .inr (.inl (fun _ => 0)))), (rR 6, .inl (cy 1, 40, .inr (.inl (fun _ => 0)))), (rR 7, .inl (cy 1, 40, .inr (.inl (fun _ => 0))))] H := hP
          have hD : va_D A [(qm, .inr (5, [.ref qms, .ref qmo, .ref qmz, .ref qmR, .ref qmv, .ref qmk, .ref qmb, .ref qmt, .int 0, .ref qmr, .int 0, .ref qmB, .int 0, .ref qmO, .ref qmK, .int 0, .int 0, .int 1, .null, .null, .int 0, .int 0, .int 0, .long 0, .int 0, .ref qm_three, .int 0, .int 0, .int 0, .null, .ref qm_unread, .ref qm_tryRow, .ref qm_bestRow, .ref qm_steps, .int 0])), (qms, .inl (cy 0, 8, .inl (upd (fun _ => 0) 3 1))), (qmo, .inl (cy 0, 8, .inl (upd (fun _ => 0) 3 iB))), (qmz, .inl (cy 0, 8, .inl (upd (fun _ => 0) 3 iC))), (qmr, .inl (cy 0, 8, .inl (fun _ => 0))), (qmR, .inl (cy 4, 8, .inr (.inr (.inr (.inr (fun i => if i < 8 then some (rR i) else none)))))), (rR 0, .inl (cy 1, 40, .inr (.inl (fun _ => 0)))), (rR 1, .inl (cy 1, 40, .inr (.inl (fun _ => 0)))), (rR 2, .inl (cy 1, 40, .inr (.inl (fun _ => 0)))), (rR 3, .inl (cy 1, 40, .inr (.inl (fun _ => 0)))), (rR 4, .inl (cy 1, 40, .inr (.inl (fun _ => 0)))), (rR 5, .inl (cy 1, 40, .inr (.inl (fun _ => 0)))), (rR 6, .inl (cy 1, 40, .inr (.inl (fun _ => 0)))), (rR 7, .inl (cy 1, 40, .inr (.inl (fun _ => 0))))] := hD
          refine lv_iconst (v := 0) hx hb dX6_row_64 (by decide) ?_
          refine lv_istore (lv' := [(4, .int 0), (0, .ref qm), (1, .int 3), (2, .int iB), (3, .int iC)]) hx hb dX6_row_65 hl (by decide) rfl (fun ls hl => ?_)
          have lp_46 : ∀ (n_47 : Nat) (j_49 : Nat) (xJ_50 : Int32) (fT_51 : Nat → Int64), 40 - j_49 < n_47 → xJ_50 = nI j_49 → j_49 ≤ 40 → ∀ (H : Heap) (locs : List Loc) (ls : Array Slot), va_P G CL [(qm, .inr (5, [.ref qms, .ref qmo, .ref qmz, .ref qmR, .ref qmv, .ref qmk, .ref qmb, .ref qmt, .int 0, .ref qmr, .int 0, .ref qmB, .int 0, .ref qmO, .ref qmK, .int 0, .int 0, .int 1, .null, .null, .int 0, .int 0, .int 0, .long 0, .int 0, .ref qm_three, .int 0, .int 0, .int 0, .null, .ref qm_unread, .ref qm_tryRow, .ref qm_bestRow, .ref qm_steps, .int 0])), (qms, .inl (cy 0, 8, .inl (upd (fun _ => 0) 3 1))), (qmo, .inl (cy 0, 8, .inl (upd (fun _ => 0) 3 iB))), (qmz, .inl (cy 0, 8, .inl (upd (fun _ => 0) 3 iC))), (qmr, .inl (cy 0, 8, .inl (fun _ => 0))), (qmR, .inl (cy 4, 8, .inr (.inr (.inr (.inr (fun i => if i < 8 then some (rR i) else none)))))), (rR 0, .inl (cy 1, 40, .inr (.inl (fun _ => 0)))), (rR 1, .inl (cy 1, 40, .inr (.inl (fun _ => 0)))), (rR 2, .inl (cy 1, 40, .inr (.inl (fun _ => 0)))), (rR 3, .inl (cy 1, 40, .inr (.inl fT_51))), (rR 4, .inl (cy 1, 40, .inr (.inl (fun _ => 0)))), (rR 5, .inl (cy 1, 40, .inr (.inl (fun _ => 0)))), (rR 6, .inl (cy 1, 40, .inr (.inl (fun _ => 0)))), (rR 7, .inl (cy 1, 40, .inr (.inl (fun _ => 0))))] H → va_D A [(qm, .inr (5, [.ref qms, .ref qmo, .ref qmz, .ref qmR, .ref qmv, .ref qmk, .ref qmb, .ref qmt, .int 0, .ref qmr, .int 0, .ref qmB, .int 0, .ref qmO, .ref qmK, .int 0, .int 0, .int 1, .null, .null, .int 0, .int 0, .int 0, .long 0, .int 0, .ref qm_three, .int 0, .int 0, .int 0, .null, .ref qm_unread, .ref qm_tryRow, .ref qm_bestRow, .ref qm_steps, .int 0])), (qms, .inl (cy 0, 8, .inl (upd (fun _ => 0) 3 1))), (qmo, .inl (cy 0, 8, .inl (upd (fun _ => 0) 3 iB))), (qmz, .inl (cy 0, 8, .inl (upd (fun _ => 0) 3 iC))), (qmr, .inl (cy 0, 8, .inl (fun _ => 0))), (qmR, .inl (cy 4, 8, .inr (.inr (.inr (.inr (fun i => if i < 8 then some (rR i) else none)))))), (rR 0, .inl (cy 1, 40, .inr (.inl (fun _ => 0)))), (rR 1, .inl (cy 1, 40, .inr (.inl (fun _ => 0)))), (rR 2, .inl (cy 1, 40, .inr (.inl (fun _ => 0)))), (rR 3, .inl (cy 1, 40, .inr (.inl fT_51))), (rR 4, .inl (cy 1, 40, .inr (.inl (fun _ => 0)))), (rR 5, .inl (cy 1, 40, .inr (.inl (fun _ => 0)))), (rR 6, .inl (cy 1, 40, .inr (.inl (fun _ => 0)))), (rR 7, .inl (cy 1, 40, .inr (.inl (fun _ => 0))))] → va_S A s.heap H locs → lv_has ls 5 [(4, .int xJ_50), (0, .ref qm), (1, .int 3), (2, .int iB), (3, .int iC)] → W p l e (Rm 6 0 0) s m (List.toArray (α := Value) [.ref qm, .int 3, .int iB, .int iC]) below meth c H locs 0 0 (MQ below ((Wi G (fun r u => u = [] ∧ ((r = (sp_row 3 iB iC))))) A) (List.toArray (α := Value) [.ref qm, .int 3, .int iB, .int iC]) s 0 0 A) (F0 m 67 ls []) := by
            intro n_47
            induction n_47 with
            | zero => intro j_49 xJ_50 fT_51 hm9; exact absurd hm9 (Nat.not_lt_zero _)
            | succ n_47 ih_48 =>
              intro j_49 xJ_50 fT_51 hm_54 hxJ_52 hj_53 H locs ls hP hD hS hl
              refine lv_iload hx hb dX6_row_67 (lv_at hl 0 rfl) ?_
              refine lv_bipush (v := 40) hx hb dX6_row_69 (by decide) ?_
              refine lv_icmp_ge (tgt := 90) hx hb dX6_row_71 (by decide) (fun c_55 => ?_) (fun c_55 => ?_)
              · refine lv_iconst (v := 1) hx hb dX6_row_90 (by decide) ?_
                exact endW (u := []) hx hb hr hlocks rfl va_P0 va_D0 hS ⟨rfl, (by first | (simp [sp_row, Iv, h_3, h_7, h_11]; done) | (rw [sp_row, if_pos ⟨h_3, h_7, h_11⟩]))⟩ dX6_row_91
              · have hlt_56 : j_49 < 40 := lp_lt hxJ_52 (rfl : (40 : Int32) = nI 40) (by omega) (by omega) c_55
                refine lv_aload_n hx hb dX6_row_74 rfl (lv_at hl 1 rfl) ?_
                refine va_get (D := G) (ci := 5) (v := .ref qmR) (C := RX6) (T := TX6) (N := 35) hx hb hts iX_X6 hown hK hP 0 rfl rfl 3 (by decide) (hts _ m_t853) (fun _ h9 => h9) rfl dX6_row_75 ?_
                refine lv_iload_n hx hb dX6_row_78 rfl (lv_at hl 2 rfl) ?_
                refine va_alda hx hb hK hP 5 4 rfl rfl (in_c rfl) dX6_row_79 ?_
                refine lv_setv (v := .ref (rR 3)) (rfl) ?_
                refine lv_iload hx hb dX6_row_80 (lv_at hl 0 rfl) ?_
                refine lv_lconst (v := 0) hx hb dX6_row_82 (by decide) ?_
                refine va_last hx hb hK hP hD hS 9 1 rfl rfl (in_nI hxJ_52 hlt_56 (by omega)) dX6_row_83 (fun H locs hP hD hS => ?_)
                have hP : va_P G CL [(qm, .inr (5, [.ref qms, .ref qmo, .ref qmz, .ref qmR, .ref qmv, .ref qmk, .ref qmb, .ref qmt, .int 0, .ref qmr, .int 0, .ref qmB, .int 0, .ref qmO, .ref qmK, .int 0, .int 0, .int 1, .null, .null, .int 0, .int 0, .int 0, .long 0, .int 0, .ref qm_three, .int 0, .int 0, .int 0, .null, .ref qm_unread, .ref qm_tryRow, .ref qm_bestRow, .ref qm_steps, .int 0])), (qms, .inl (cy 0, 8, .inl (upd (fun _ => 0) 3 1))), (qmo, .inl (cy 0, 8, .inl (upd (fun _ => 0) 3 iB))), (qmz, .inl (cy 0, 8, .inl (upd (fun _ => 0) 3 iC))), (qmr, .inl (cy 0, 8, .inl (fun _ => 0))), (qmR, .inl (cy 4, 8, .inr (.inr (.inr (.inr (fun i => if i < 8 then some (rR i) else none)))))), (rR 0, .inl (cy 1, 40, .inr (.inl (fun _ => 0)))), (rR 1, .inl (cy 1, 40, .inr (.inl (fun _ => 0)))), (rR 2, .inl (cy 1, 40, .inr (.inl (fun _ => 0)))), (rR 3, .inl (cy 1, 40, .inr (.inl (vp_updL fT_51 xJ_50.toNatClampNeg 0)))), (rR 4, .inl (cy 1, 40, .inr (.inl (fun _ => 0)))), (rR 5, .inl (cy 1, 40, .inr (.inl (fun _ => 0)))), (rR 6, .inl (cy 1, 40, .inr (.inl (fun _ => 0)))), (rR 7, .inl (cy 1, 40, .inr (.inl (fun _ => 0))))] H := hP
                have hD : va_D A [(qm, .inr (5, [.ref qms, .ref qmo, .ref qmz, .ref qmR, .ref qmv, .ref qmk, .ref qmb, .ref qmt, .int 0, .ref qmr, .int 0, .ref qmB, .int 0, .ref qmO, .ref qmK, .int 0, .int 0, .int 1, .null, .null, .int 0, .int 0, .int 0, .long 0, .int 0, .ref qm_three, .int 0, .int 0, .int 0, .null, .ref qm_unread, .ref qm_tryRow, .ref qm_bestRow, .ref qm_steps, .int 0])), (qms, .inl (cy 0, 8, .inl (upd (fun _ => 0) 3 1))), (qmo, .inl (cy 0, 8, .inl (upd (fun _ => 0) 3 iB))), (qmz, .inl (cy 0, 8, .inl (upd (fun _ => 0) 3 iC))), (qmr, .inl (cy 0, 8, .inl (fun _ => 0))), (qmR, .inl (cy 4, 8, .inr (.inr (.inr (.inr (fun i => if i < 8 then some (rR i) else none)))))), (rR 0, .inl (cy 1, 40, .inr (.inl (fun _ => 0)))), (rR 1, .inl (cy 1, 40, .inr (.inl (fun _ => 0)))), (rR 2, .inl (cy 1, 40, .inr (.inl (fun _ => 0)))), (rR 3, .inl (cy 1, 40, .inr (.inl (vp_updL fT_51 xJ_50.toNatClampNeg 0)))), (rR 4, .inl (cy 1, 40, .inr (.inl (fun _ => 0)))), (rR 5, .inl (cy 1, 40, .inr (.inl (fun _ => 0)))), (rR 6, .inl (cy 1, 40, .inr (.inl (fun _ => 0)))), (rR 7, .inl (cy 1, 40, .inr (.inl (fun _ => 0))))] := hD
                refine lv_iinc (v := xJ_50 + 1) (lv' := [(4, .int (xJ_50 + 1)), (0, .ref qm), (1, .int 3), (2, .int iB), (3, .int iC)]) hx hb dX6_row_84 hl (k := 0) rfl (rfl) (by decide) rfl (fun ls hl => ?_)
                refine lv_goto (tgt := 67) hx hb dX6_row_87 (by decide) ?_
                exact ih_48 (j_49 + 1) (xJ_50 + 1) (vp_updL fT_51 xJ_50.toNatClampNeg 0) (by omega) (by rw [hxJ_52]; exact nI_1 _) (by omega) _ _ _ hP hD hS (lv_sub hl [0, 1, 2, 3, 4] rfl)
          exact lp_46 ((40 - 0) + 1) 0 0 (fun _ => 0) (Nat.lt_succ_self _) rfl (Nat.zero_le _) _ _ ls hP hD hS (lv_sub hl [0, 1, 2, 3, 4] rfl)
        · refine lv_aload_n hx hb dX6_row_43 rfl (lv_at hl 0 rfl) ?_
          refine va_get (D := G) (ci := 5) (v := .ref qms) (C := RX6) (T := TX6) (N := 35) hx hb hts iX_X6 hown hK hP 0 rfl rfl 0 (by decide) (hts _ m_t850) (fun _ h9 => h9) rfl dX6_row_44 ?_
          refine lv_iload_n hx hb dX6_row_47 rfl (lv_at hl 1 rfl) ?_
          refine lv_iconst (v := 1) hx hb dX6_row_48 (by decide) ?_
          refine va_iast hx hb hK hP hD hS 1 0 rfl rfl (in_c rfl) dX6_row_49 (fun H locs hP hD hS => ?_)
          have hP : va_P G CL [(qm, .inr (5, [.ref qms, .ref qmo, .ref qmz, .ref qmR, .ref qmv, .ref qmk, .ref qmb, .ref qmt, .int 0, .ref qmr, .int 0, .ref qmB, .int 0, .ref qmO, .ref qmK, .int 0, .int 0, .int 1, .null, .null, .int 0, .int 0, .int 0, .long 0, .int 0, .ref qm_three, .int 0, .int 0, .int 0, .null, .ref qm_unread, .ref qm_tryRow, .ref qm_bestRow, .ref qm_steps, .int 0])), (qms, .inl (cy 0, 8, .inl (upd (fun _ => 0) 4 1))), (qmo, .inl (cy 0, 8, .inl (fun _ => 0))), (qmz, .inl (cy 0, 8, .inl (fun _ => 0))), (qmr, .inl (cy 0, 8, .inl (fun _ => 0))), (qmR, .inl (cy 4, 8, .inr (.inr (.inr (.inr (fun i => if i < 8 then some (rR i) else none)))))), (rR 0, .inl (cy 1, 40, .inr (.inl (fun _ => 0)))), (rR 1, .inl (cy 1, 40, .inr (.inl (fun _ => 0)))), (rR 2, .inl (cy 1, 40, .inr (.inl (fun _ => 0)))), (rR 3, .inl (cy 1, 40, .inr (.inl (fun _ => 0)))), (rR 4, .inl (cy 1, 40, .inr (.inl (fun _ => 0)))), (rR 5, .inl (cy 1, 40, .inr (.inl (fun _ => 0)))), (rR 6, .inl (cy 1, 40, .inr (.inl (fun _ => 0)))), (rR 7, .inl (cy 1, 40, .inr (.inl (fun _ => 0))))] H := hP
          have hD : va_D A [(qm, .inr (5, [.ref qms, .ref qmo, .ref qmz, .ref qmR, .ref qmv, .ref qmk, .ref qmb, .ref qmt, .int 0, .ref qmr, .int 0, .ref qmB, .int 0, .ref qmO, .ref qmK, .int 0, .int 0, .int 1, .null, .null, .int 0, .int 0, .int 0, .long 0, .int 0, .ref qm_three, .int 0, .int 0, .int 0, .null, .ref qm_unread, .ref qm_tryRow, .ref qm_bestRow, .ref qm_steps, .int 0])), (qms, .inl (cy 0, 8, .inl (upd (fun _ => 0) 4 1))), (qmo, .inl (cy 0, 8, .inl (fun _ => 0))), (qmz, .inl (cy 0, 8, .inl (fun _ => 0))), (qmr, .inl (cy 0, 8, .inl (fun _ => 0))), (qmR, .inl (cy 4, 8, .inr (.inr (.inr (.inr (fun i => if i < 8 then some (rR i) else none)))))), (rR 0, .inl (cy 1, 40, .inr (.inl (fun _ => 0)))), (rR 1, .inl (cy 1, 40, .inr (.inl (fun _ => 0)))), (rR 2, .inl (cy 1, 40, .inr (.inl (fun _ => 0)))), (rR 3, .inl (cy 1, 40, .inr (.inl (fun _ => 0)))), (rR 4, .inl (cy 1, 40, .inr (.inl (fun _ => 0)))), (rR 5, .inl (cy 1, 40, .inr (.inl (fun _ => 0)))), (rR 6, .inl (cy 1, 40, .inr (.inl (fun _ => 0)))), (rR 7, .inl (cy 1, 40, .inr (.inl (fun _ => 0))))] := hD
          refine lv_aload_n hx hb dX6_row_50 rfl (lv_at hl 0 rfl) ?_
          refine va_get (D := G) (ci := 5) (v := .ref qmo) (C := RX6) (T := TX6) (N := 35) hx hb hts iX_X6 hown hK hP 0 rfl rfl 1 (by decide) (hts _ m_t851) (fun _ h9 => h9) rfl dX6_row_51 ?_
          refine lv_iload_n hx hb dX6_row_54 rfl (lv_at hl 1 rfl) ?_
          refine lv_iload_n hx hb dX6_row_55 rfl (lv_at hl 2 rfl) ?_
          refine va_iast hx hb hK hP hD hS 2 0 rfl rfl (in_c rfl) dX6_row_56 (fun H locs hP hD hS => ?_)
          have hP : va_P G CL [(qm, .inr (5, [.ref qms, .ref qmo, .ref qmz, .ref qmR, .ref qmv, .ref qmk, .ref qmb, .ref qmt, .int 0, .ref qmr, .int 0, .ref qmB, .int 0, .ref qmO, .ref qmK, .int 0, .int 0, .int 1, .null, .null, .int 0, .int 0, .int 0, .long 0, .int 0, .ref qm_three, .int 0, .int 0, .int 0, .null, .ref qm_unread, .ref qm_tryRow, .ref qm_bestRow, .ref qm_steps, .int 0])), (qms, .inl (cy 0, 8, .inl (upd (fun _ => 0) 4 1))), (qmo, .inl (cy 0, 8, .inl (upd (fun _ => 0) 4 iB))), (qmz, .inl (cy 0, 8, .inl (fun _ => 0))), (qmr, .inl (cy 0, 8, .inl (fun _ => 0))), (qmR, .inl (cy 4, 8, .inr (.inr (.inr (.inr (fun i => if i < 8 then some (rR i) else none)))))), (rR 0, .inl (cy 1, 40, .inr (.inl (fun _ => 0)))), (rR 1, .inl (cy 1, 40, .inr (.inl (fun _ => 0)))), (rR 2, .inl (cy 1, 40, .inr (.inl (fun _ => 0)))), (rR 3, .inl (cy 1, 40, .inr (.inl (fun _ => 0)))), (rR 4, .inl (cy 1, 40, .inr (.inl (fun _ => 0)))), (rR 5, .inl (cy 1, 40, .inr (.inl (fun _ => 0)))), (rR 6, .inl (cy 1, 40, .inr (.inl (fun _ => 0)))), (rR 7, .inl (cy 1, 40, .inr (.inl (fun _ => 0))))] H := hP
          have hD : va_D A [(qm, .inr (5, [.ref qms, .ref qmo, .ref qmz, .ref qmR, .ref qmv, .ref qmk, .ref qmb, .ref qmt, .int 0, .ref qmr, .int 0, .ref qmB, .int 0, .ref qmO, .ref qmK, .int 0, .int 0, .int 1, .null, .null, .int 0, .int 0, .int 0, .long 0, .int 0, .ref qm_three, .int 0, .int 0, .int 0, .null, .ref qm_unread, .ref qm_tryRow, .ref qm_bestRow, .ref qm_steps, .int 0])), (qms, .inl (cy 0, 8, .inl (upd (fun _ => 0) 4 1))), (qmo, .inl (cy 0, 8, .inl (upd (fun _ => 0) 4 iB))), (qmz, .inl (cy 0, 8, .inl (fun _ => 0))), (qmr, .inl (cy 0, 8, .inl (fun _ => 0))), (qmR, .inl (cy 4, 8, .inr (.inr (.inr (.inr (fun i => if i < 8 then some (rR i) else none)))))), (rR 0, .inl (cy 1, 40, .inr (.inl (fun _ => 0)))), (rR 1, .inl (cy 1, 40, .inr (.inl (fun _ => 0)))), (rR 2, .inl (cy 1, 40, .inr (.inl (fun _ => 0)))), (rR 3, .inl (cy 1, 40, .inr (.inl (fun _ => 0)))), (rR 4, .inl (cy 1, 40, .inr (.inl (fun _ => 0)))), (rR 5, .inl (cy 1, 40, .inr (.inl (fun _ => 0)))), (rR 6, .inl (cy 1, 40, .inr (.inl (fun _ => 0)))), (rR 7, .inl (cy 1, 40, .inr (.inl (fun _ => 0))))] := hD
          refine lv_aload_n hx hb dX6_row_57 rfl (lv_at hl 0 rfl) ?_
          refine va_get (D := G) (ci := 5) (v := .ref qmz) (C := RX6) (T := TX6) (N := 35) hx hb hts iX_X6 hown hK hP 0 rfl rfl 2 (by decide) (hts _ m_t852) (fun _ h9 => h9) rfl dX6_row_58 ?_
          refine lv_iload_n hx hb dX6_row_61 rfl (lv_at hl 1 rfl) ?_
          refine lv_iload_n hx hb dX6_row_62 rfl (lv_at hl 3 rfl) ?_
          refine va_iast hx hb hK hP hD hS 3 0 rfl rfl (in_c rfl) dX6_row_63 (fun H locs hP hD hS => ?_)
          have hP : va_P G CL [(qm, .inr (5, [.ref qms, .ref qmo, .ref qmz, .ref qmR, .ref qmv, .ref qmk, .ref qmb, .ref qmt, .int 0, .ref qmr, .int 0, .ref qmB, .int 0, .ref qmO, .ref qmK, .int 0, .int 0, .int 1, .null, .null, .int 0, .int 0, .int 0, .long 0, .int 0, .ref qm_three, .int 0, .int 0, .int 0, .null, .ref qm_unread, .ref qm_tryRow, .ref qm_bestRow, .ref qm_steps, .int 0])), (qms, .inl (cy 0, 8, .inl (upd (fun _ => 0) 4 1))), (qmo, .inl (cy 0, 8, .inl (upd (fun _ => 0) 4 iB))), (qmz, .inl (cy 0, 8, .inl (upd (fun _ => 0) 4 iC))), (qmr, .inl (cy 0, 8, .inl (fun _ => 0))), (qmR, .inl (cy 4, 8, .inr (.inr (.inr (.inr (fun i => if i < 8 then some (rR i) else none)))))), (rR 0, .inl (cy 1, 40, .inr (.inl (fun _ => 0)))), (rR 1, .inl (cy 1, 40, .inr (.inl (fun _ => 0)))), (rR 2, .inl (cy 1, 40, .inr (.inl (fun _ => 0)))), (rR 3, .inl (cy 1, 40, .inr (.inl (fun _ => 0)))), (rR 4, .inl (cy 1, 40, .inr (.inl (fun _ => 0)))), (rR 5, .inl (cy 1, 40, .inr (.inl (fun _ => 0)))), (rR 6, .inl (cy 1, 40, .inr (.inl (fun _ => 0)))), (rR 7, .inl (cy 1, 40, .inr (.inl (fun _ => 0))))] H := hP
          have hD : va_D A [(qm, .inr (5, [.ref qms, .ref qmo, .ref qmz, .ref qmR, .ref qmv, .ref qmk, .ref qmb, .ref qmt, .int 0, .ref qmr, .int 0, .ref qmB, .int 0, .ref qmO, .ref qmK, .int 0, .int 0, .int 1, .null, .null, .int 0, .int 0, .int 0, .long 0, .int 0, .ref qm_three, .int 0, .int 0, .int 0, .null, .ref qm_unread, .ref qm_tryRow, .ref qm_bestRow, .ref qm_steps, .int 0])), (qms, .inl (cy 0, 8, .inl (upd (fun _ => 0) 4 1))), (qmo, .inl (cy 0, 8, .inl (upd (fun _ => 0) 4 iB))), (qmz, .inl (cy 0, 8, .inl (upd (fun _ => 0) 4 iC))), (qmr, .inl (cy 0, 8, .inl (fun _ => 0))), (qmR, .inl (cy 4, 8, .inr (.inr (.inr (.inr (fun i => if i < 8 then some (rR i) else none)))))), (rR 0, .inl (cy 1, 40, .inr (.inl (fun _ => 0)))), (rR 1, .inl (cy 1, 40, .inr (.inl (fun _ => 0)))), (rR 2, .inl (cy 1, 40, .inr (.inl (fun _ => 0)))), (rR 3, .inl (cy 1, 40, .inr (.inl (fun _ => 0)))), (rR 4, .inl (cy 1, 40, .inr (.inl (fun _ => 0)))), (rR 5, .inl (cy 1, 40, .inr (.inl (fun _ => 0)))), (rR 6, .inl (cy 1, 40, .inr (.inl (fun _ => 0)))), (rR 7, .inl (cy 1, 40, .inr (.inl (fun _ => 0))))] := hD
          refine lv_iconst (v := 0) hx hb dX6_row_64 (by decide) ?_
          refine lv_istore (lv' := [(4, .int 0), (0, .ref qm), (1, .int 4), (2, .int iB), (3, .int iC)]) hx hb dX6_row_65 hl (by decide) rfl (fun ls hl => ?_)
          have lp_57 : ∀ (n_58 : Nat) (j_60 : Nat) (xJ_61 : Int32) (fT_62 : Nat → Int64), 40 - j_60 < n_58 → xJ_61 = nI j_60 → j_60 ≤ 40 → ∀ (H : Heap) (locs : List Loc) (ls : Array Slot), va_P G CL [(qm, .inr (5, [.ref qms, .ref qmo, .ref qmz, .ref qmR, .ref qmv, .ref qmk, .ref qmb, .ref qmt, .int 0, .ref qmr, .int 0, .ref qmB, .int 0, .ref qmO, .ref qmK, .int 0, .int 0, .int 1, .null, .null, .int 0, .int 0, .int 0, .long 0, .int 0, .ref qm_three, .int 0, .int 0, .int 0, .null, .ref qm_unread, .ref qm_tryRow, .ref qm_bestRow, .ref qm_steps, .int 0])), (qms, .inl (cy 0, 8, .inl (upd (fun _ => 0) 4 1))), (qmo, .inl (cy 0, 8, .inl (upd (fun _ => 0) 4 iB))), (qmz, .inl (cy 0, 8, .inl (upd (fun _ => 0) 4 iC))), (qmr, .inl (cy 0, 8, .inl (fun _ => 0))), (qmR, .inl (cy 4, 8, .inr (.inr (.inr (.inr (fun i => if i < 8 then some (rR i) else none)))))), (rR 0, .inl (cy 1, 40, .inr (.inl (fun _ => 0)))), (rR 1, .inl (cy 1, 40, .inr (.inl (fun _ => 0)))), (rR 2, .inl (cy 1, 40, .inr (.inl (fun _ => 0)))), (rR 3, .inl (cy 1, 40, .inr (.inl (fun _ => 0)))), (rR 4, .inl (cy 1, 40, .inr (.inl fT_62))), (rR 5, .inl (cy 1, 40, .inr (.inl (fun _ => 0)))), (rR 6, .inl (cy 1, 40, .inr (.inl (fun _ => 0)))), (rR 7, .inl (cy 1, 40, .inr (.inl (fun _ => 0))))] H → va_D A [(qm, .inr (5, [.ref qms, .ref qmo, .ref qmz, .ref qmR, .ref qmv, .ref qmk, .ref qmb, .ref qmt, .int 0, .ref qmr, .int 0, .ref qmB, .int 0, .ref qmO, .ref qmK, .int 0, .int 0, .int 1, .null, .null, .int 0, .int 0, .int 0, .long 0, .int 0, .ref qm_three, .int 0, .int 0, .int 0, .null, .ref qm_unread, .ref qm_tryRow, .ref qm_bestRow, .ref qm_steps, .int 0])), (qms, .inl (cy 0, 8, .inl (upd (fun _ => 0) 4 1))), (qmo, .inl (cy 0, 8, .inl (upd (fun _ => 0) 4 iB))), (qmz, .inl (cy 0, 8, .inl (upd (fun _ => 0) 4 iC))), (qmr, .inl (cy 0, 8, .inl (fun _ => 0))), (qmR, .inl (cy 4, 8, .inr (.inr (.inr (.inr (fun i => if i < 8 then some (rR i) else none)))))), (rR 0, .inl (cy 1, 40, .inr (.inl (fun _ => 0)))), (rR 1, .inl (cy 1, 40, .inr (.inl (fun _ => 0)))), (rR 2, .inl (cy 1, 40, .inr (.inl (fun _ => 0)))), (rR 3, .inl (cy 1, 40, .inr (.inl (fun _ => 0)))), (rR 4, .inl (cy 1, 40, .inr (.inl fT_62))), (rR 5, .inl (cy 1, 40, .inr (.inl (fun _ => 0)))), (rR 6, .inl (cy 1, 40, .inr (.inl (fun _ => 0)))), (rR 7, .inl (cy 1, 40, .inr (.inl (fun _ => 0))))] → va_S A s.heap H locs → lv_has ls 5 [(4, .int xJ_61), (0, .ref qm), (1, .int 4), (2, .int iB), (3, .int iC)] → W p l e (Rm 6 0 0) s m (List.toArray (α := Value) [.ref qm, .int 4, .int iB, .int iC]) below meth c H locs 0 0 (MQ below ((Wi G (fun r u => u = [] ∧ ((r = (sp_row 4 iB iC))))) A) (List.toArray (α := Value) [.ref qm, .int 4, .int iB, .int iC]) s 0 0 A) (F0 m 67 ls []) := by
            intro n_58
            induction n_58 with
            | zero => intro j_60 xJ_61 fT_62 hm9; exact absurd hm9 (Nat.not_lt_zero _)
            | succ n_58 ih_59 =>
              intro j_60 xJ_61 fT_62 hm_65 hxJ_63 hj_64 H locs ls hP hD hS hl
              refine lv_iload hx hb dX6_row_67 (lv_at hl 0 rfl) ?_
              refine lv_bipush (v := 40) hx hb dX6_row_69 (by decide) ?_
              refine lv_icmp_ge (tgt := 90) hx hb dX6_row_71 (by decide) (fun c_66 => ?_) (fun c_66 => ?_)
              · refine lv_iconst (v := 1) hx hb dX6_row_90 (by decide) ?_
                exact endW (u := []) hx hb hr hlocks rfl va_P0 va_D0 hS ⟨rfl, (by first | (simp [sp_row, Iv, h_3, h_7, h_11]; done) | (rw [sp_row, if_pos ⟨h_3, h_7, h_11⟩]))⟩ dX6_row_91
              · have hlt_67 : j_60 < 40 := lp_lt hxJ_63 (rfl : (40 : Int32) = nI 40) (by omega) (by omega) c_66
                refine lv_aload_n hx hb dX6_row_74 rfl (lv_at hl 1 rfl) ?_
                refine va_get (D := G) (ci := 5) (v := .ref qmR) (C := RX6) (T := TX6) (N := 35) hx hb hts iX_X6 hown hK hP 0 rfl rfl 3 (by decide) (hts _ m_t853) (fun _ h9 => h9) rfl dX6_row_75 ?_
                refine lv_iload_n hx hb dX6_row_78 rfl (lv_at hl 2 rfl) ?_
                refine va_alda hx hb hK hP 5 4 rfl rfl (in_c rfl) dX6_row_79 ?_
                refine lv_setv (v := .ref (rR 4)) (rfl) ?_
                refine lv_iload hx hb dX6_row_80 (lv_at hl 0 rfl) ?_
                refine lv_lconst (v := 0) hx hb dX6_row_82 (by decide) ?_
                refine va_last hx hb hK hP hD hS 10 1 rfl rfl (in_nI hxJ_63 hlt_67 (by omega)) dX6_row_83 (fun H locs hP hD hS => ?_)
                have hP : va_P G CL [(qm, .inr (5, [.ref qms, .ref qmo, .ref qmz, .ref qmR, .ref qmv, .ref qmk, .ref qmb, .ref qmt, .int 0, .ref qmr, .int 0, .ref qmB, .int 0, .ref qmO, .ref qmK, .int 0, .int 0, .int 1, .null, .null, .int 0, .int 0, .int 0, .long 0, .int 0, .ref qm_three, .int 0, .int 0, .int 0, .null, .ref qm_unread, .ref qm_tryRow, .ref qm_bestRow, .ref qm_steps, .int 0])), (qms, .inl (cy 0, 8, .inl (upd (fun _ => 0) 4 1))), (qmo, .inl (cy 0, 8, .inl (upd (fun _ => 0) 4 iB))), (qmz, .inl (cy 0, 8, .inl (upd (fun _ => 0) 4 iC))), (qmr, .inl (cy 0, 8, .inl (fun _ => 0))), (qmR, .inl (cy 4, 8, .inr (.inr (.inr (.inr (fun i => if i < 8 then some (rR i) else none)))))), (rR 0, .inl (cy 1, 40, .inr (.inl (fun _ => 0)))), (rR 1, .inl (cy 1, 40, .inr (.inl (fun _ => 0)))), (rR 2, .inl (cy 1, 40, .inr (.inl (fun _ => 0)))), (rR 3, .inl (cy 1, 40, .inr (.inl (fun _ => 0)))), (rR 4, .inl (cy 1, 40, .inr (.inl (vp_updL fT_62 xJ_61.toNatClampNeg 0)))), (rR 5, .inl (cy 1, 40, .inr (.inl (fun _ => 0)))), (rR 6, .inl (cy 1, 40, .inr (.inl (fun _ => 0)))), (rR 7, .inl (cy 1, 40, .inr (.inl (fun _ => 0))))] H := hP
                have hD : va_D A [(qm, .inr (5, [.ref qms, .ref qmo, .ref qmz, .ref qmR, .ref qmv, .ref qmk, .ref qmb, .ref qmt, .int 0, .ref qmr, .int 0, .ref qmB, .int 0, .ref qmO, .ref qmK, .int 0, .int 0, .int 1, .null, .null, .int 0, .int 0, .int 0, .long 0, .int 0, .ref qm_three, .int 0, .int 0, .int 0, .null, .ref qm_unread, .ref qm_tryRow, .ref qm_bestRow, .ref qm_steps, .int 0])), (qms, .inl (cy 0, 8, .inl (upd (fun _ => 0) 4 1))), (qmo, .inl (cy 0, 8, .inl (upd (fun _ => 0) 4 iB))), (qmz, .inl (cy 0, 8, .inl (upd (fun _ => 0) 4 iC))), (qmr, .inl (cy 0, 8, .inl (fun _ => 0))), (qmR, .inl (cy 4, 8, .inr (.inr (.inr (.inr (fun i => if i < 8 then some (rR i) else none)))))), (rR 0, .inl (cy 1, 40, .inr (.inl (fun _ => 0)))), (rR 1, .inl (cy 1, 40, .inr (.inl (fun _ => 0)))), (rR 2, .inl (cy 1, 40, .inr (.inl (fun _ => 0)))), (rR 3, .inl (cy 1, 40, .inr (.inl (fun _ => 0)))), (rR 4, .inl (cy 1, 40, .inr (.inl (vp_updL fT_62 xJ_61.toNatClampNeg 0)))), (rR 5, .inl (cy 1, 40, .inr (.inl (fun _ => 0)))), (rR 6, .inl (cy 1, 40, .inr (.inl (fun _ => 0)))), (rR 7, .inl (cy 1, 40, .inr (.inl (fun _ => 0))))] := hD
                refine lv_iinc (v := xJ_61 + 1) (lv' := [(4, .int (xJ_61 + 1)), (0, .ref qm), (1, .int 4), (2, .int iB), (3, .int iC)]) hx hb dX6_row_84 hl (k := 0) rfl (rfl) (by decide) rfl (fun ls hl => ?_)
                refine lv_goto (tgt := 67) hx hb dX6_row_87 (by decide) ?_
                exact ih_59 (j_60 + 1) (xJ_61 + 1) (vp_updL fT_62 xJ_61.toNatClampNeg 0) (by omega) (by rw [hxJ_63]; exact nI_1 _) (by omega) _ _ _ hP hD hS (lv_sub hl [0, 1, 2, 3, 4] rfl)
          exact lp_57 ((40 - 0) + 1) 0 0 (fun _ => 0) (Nat.lt_succ_self _) rfl (Nat.zero_le _) _ _ ls hP hD hS (lv_sub hl [0, 1, 2, 3, 4] rfl)
        · refine lv_aload_n hx hb dX6_row_43 rfl (lv_at hl 0 rfl) ?_
          refine va_get (D := G) (ci := 5) (v := .ref qms) (C := RX6) (T := TX6) (N := 35) hx hb hts iX_X6 hown hK hP 0 rfl rfl 0 (by decide) (hts _ m_t850) (fun _ h9 => h9) rfl dX6_row_44 ?_
          refine lv_iload_n hx hb dX6_row_47 rfl (lv_at hl 1 rfl) ?_
          refine lv_iconst (v := 1) hx hb dX6_row_48 (by decide) ?_
          refine va_iast hx hb hK hP hD hS 1 0 rfl rfl (in_c rfl) dX6_row_49 (fun H locs hP hD hS => ?_)
          have hP : va_P G CL [(qm, .inr (5, [.ref qms, .ref qmo, .ref qmz, .ref qmR, .ref qmv, .ref qmk, .ref qmb, .ref qmt, .int 0, .ref qmr, .int 0, .ref qmB, .int 0, .ref qmO, .ref qmK, .int 0, .int 0, .int 1, .null, .null, .int 0, .int 0, .int 0, .long 0, .int 0, .ref qm_three, .int 0, .int 0, .int 0, .null, .ref qm_unread, .ref qm_tryRow, .ref qm_bestRow, .ref qm_steps, .int 0])), (qms, .inl (cy 0, 8, .inl (upd (fun _ => 0) 5 1))), (qmo, .inl (cy 0, 8, .inl (fun _ => 0))), (qmz, .inl (cy 0, 8, .inl (fun _ => 0))), (qmr, .inl (cy 0, 8, .inl (fun _ => 0))), (qmR, .inl (cy 4, 8, .inr (.inr (.inr (.inr (fun i => if i < 8 then some (rR i) else none)))))), (rR 0, .inl (cy 1, 40, .inr (.inl (fun _ => 0)))), (rR 1, .inl (cy 1, 40, .inr (.inl (fun _ => 0)))), (rR 2, .inl (cy 1, 40, .inr (.inl (fun _ => 0)))), (rR 3, .inl (cy 1, 40, .inr (.inl (fun _ => 0)))), (rR 4, .inl (cy 1, 40, .inr (.inl (fun _ => 0)))), (rR 5, .inl (cy 1, 40, .inr (.inl (fun _ => 0)))), (rR 6, .inl (cy 1, 40, .inr (.inl (fun _ => 0)))), (rR 7, .inl (cy 1, 40, .inr (.inl (fun _ => 0))))] H := hP
          have hD : va_D A [(qm, .inr (5, [.ref qms, .ref qmo, .ref qmz, .ref qmR, .ref qmv, .ref qmk, .ref qmb, .ref qmt, .int 0, .ref qmr, .int 0, .ref qmB, .int 0, .ref qmO, .ref qmK, .int 0, .int 0, .int 1, .null, .null, .int 0, .int 0, .int 0, .long 0, .int 0, .ref qm_three, .int 0, .int 0, .int 0, .null, .ref qm_unread, .ref qm_tryRow, .ref qm_bestRow, .ref qm_steps, .int 0])), (qms, .inl (cy 0, 8, .inl (upd (fun _ => 0) 5 1))), (qmo, .inl (cy 0, 8, .inl (fun _ => 0))), (qmz, .inl (cy 0, 8, .inl (fun _ => 0))), (qmr, .inl (cy 0, 8, .inl (fun _ => 0))), (qmR, .inl (cy 4, 8, .inr (.inr (.inr (.inr (fun i => if i < 8 then some (rR i) else none)))))), (rR 0, .inl (cy 1, 40, .inr (.inl (fun _ => 0)))), (rR 1, .inl (cy 1, 40, .inr (.inl (fun _ => 0)))), (rR 2, .inl (cy 1, 40, .inr (.inl (fun _ => 0)))), (rR 3, .inl (cy 1, 40, .inr (.inl (fun _ => 0)))), (rR 4, .inl (cy 1, 40, .inr (.inl (fun _ => 0)))), (rR 5, .inl (cy 1, 40, .inr (.inl (fun _ => 0)))), (rR 6, .inl (cy 1, 40, .inr (.inl (fun _ => 0)))), (rR 7, .inl (cy 1, 40, .inr (.inl (fun _ => 0))))] := hD
          refine lv_aload_n hx hb dX6_row_50 rfl (lv_at hl 0 rfl) ?_
          refine va_get (D := G) (ci := 5) (v := .ref qmo) (C := RX6) (T := TX6) (N := 35) hx hb hts iX_X6 hown hK hP 0 rfl rfl 1 (by decide) (hts _ m_t851) (fun _ h9 => h9) rfl dX6_row_51 ?_
          refine lv_iload_n hx hb dX6_row_54 rfl (lv_at hl 1 rfl) ?_
          refine lv_iload_n hx hb dX6_row_55 rfl (lv_at hl 2 rfl) ?_
          refine va_iast hx hb hK hP hD hS 2 0 rfl rfl (in_c rfl) dX6_row_56 (fun H locs hP hD hS => ?_)
          have hP : va_P G CL [(qm, .inr (5, [.ref qms, .ref qmo, .ref qmz, .ref qmR, .ref qmv, .ref qmk, .ref qmb, .ref qmt, .int 0, .ref qmr, .int 0, .ref qmB, .int 0, .ref qmO, .ref qmK, .int 0, .int 0, .int 1, .null, .null, .int 0, .int 0, .int 0, .long 0, .int 0, .ref qm_three, .int 0, .int 0, .int 0, .null, .ref qm_unread, .ref qm_tryRow, .ref qm_bestRow, .ref qm_steps, .int 0])), (qms, .inl (cy 0, 8, .inl (upd (fun _ => 0) 5 1))), (qmo, .inl (cy 0, 8, .inl (upd (fun _ => 0) 5 iB))), (qmz, .inl (cy 0, 8, .inl (fun _ => 0))), (qmr, .inl (cy 0, 8, .inl (fun _ => 0))), (qmR, .inl (cy 4, 8, .inr (.inr (.inr (.inr (fun i => if i < 8 then some (rR i) else none)))))), (rR 0, .inl (cy 1, 40, .inr (.inl (fun _ => 0)))), (rR 1, .inl (cy 1, 40, .inr (.inl (fun _ => 0)))), (rR 2, .inl (cy 1, 40, .inr (.inl (fun _ => 0)))), (rR 3, .inl (cy 1, 40, .inr (.inl (fun _ => 0)))), (rR 4, .inl (cy 1, 40, .inr (.inl (fun _ => 0)))), (rR 5, .inl (cy 1, 40, .inr (.inl (fun _ => 0)))), (rR 6, .inl (cy 1, 40, .inr (.inl (fun _ => 0)))), (rR 7, .inl (cy 1, 40, .inr (.inl (fun _ => 0))))] H := hP
          have hD : va_D A [(qm, .inr (5, [.ref qms, .ref qmo, .ref qmz, .ref qmR, .ref qmv, .ref qmk, .ref qmb, .ref qmt, .int 0, .ref qmr, .int 0, .ref qmB, .int 0, .ref qmO, .ref qmK, .int 0, .int 0, .int 1, .null, .null, .int 0, .int 0, .int 0, .long 0, .int 0, .ref qm_three, .int 0, .int 0, .int 0, .null, .ref qm_unread, .ref qm_tryRow, .ref qm_bestRow, .ref qm_steps, .int 0])), (qms, .inl (cy 0, 8, .inl (upd (fun _ => 0) 5 1))), (qmo, .inl (cy 0, 8, .inl (upd (fun _ => 0) 5 iB))), (qmz, .inl (cy 0, 8, .inl (fun _ => 0))), (qmr, .inl (cy 0, 8, .inl (fun _ => 0))), (qmR, .inl (cy 4, 8, .inr (.inr (.inr (.inr (fun i => if i < 8 then some (rR i) else none)))))), (rR 0, .inl (cy 1, 40, .inr (.inl (fun _ => 0)))), (rR 1, .inl (cy 1, 40, .inr (.inl (fun _ => 0)))), (rR 2, .inl (cy 1, 40, .inr (.inl (fun _ => 0)))), (rR 3, .inl (cy 1, 40, .inr (.inl (fun _ => 0)))), (rR 4, .inl (cy 1, 40, .inr (.inl (fun _ => 0)))), (rR 5, .inl (cy 1, 40, .inr (.inl (fun _ => 0)))), (rR 6, .inl (cy 1, 40, .inr (.inl (fun _ => 0)))), (rR 7, .inl (cy 1, 40, .inr (.inl (fun _ => 0))))] := hD
          refine lv_aload_n hx hb dX6_row_57 rfl (lv_at hl 0 rfl) ?_
          refine va_get (D := G) (ci := 5) (v := .ref qmz) (C := RX6) (T := TX6) (N := 35) hx hb hts iX_X6 hown hK hP 0 rfl rfl 2 (by decide) (hts _ m_t852) (fun _ h9 => h9) rfl dX6_row_58 ?_
          refine lv_iload_n hx hb dX6_row_61 rfl (lv_at hl 1 rfl) ?_
          refine lv_iload_n hx hb dX6_row_62 rfl (lv_at hl 3 rfl) ?_
          refine va_iast hx hb hK hP hD hS 3 0 rfl rfl (in_c rfl) dX6_row_63 (fun H locs hP hD hS => ?_)
          have hP : va_P G CL [(qm, .inr (5, [.ref qms, .ref qmo, .ref qmz, .ref qmR, .ref qmv, .ref qmk, .ref qmb, .ref qmt, .int 0, .ref qmr, .int 0, .ref qmB, .int 0, .ref qmO, .ref qmK, .int 0, .int 0, .int 1, .null, .null, .int 0, .int 0, .int 0, .long 0, .int 0, .ref qm_three, .int 0, .int 0, .int 0, .null, .ref qm_unread, .ref qm_tryRow, .ref qm_bestRow, .ref qm_steps, .int 0])), (qms, .inl (cy 0, 8, .inl (upd (fun _ => 0) 5 1))), (qmo, .inl (cy 0, 8, .inl (upd (fun _ => 0) 5 iB))), (qmz, .inl (cy 0, 8, .inl (upd (fun _ => 0) 5 iC))), (qmr, .inl (cy 0, 8, .inl (fun _ => 0))), (qmR, .inl (cy 4, 8, .inr (.inr (.inr (.inr (fun i => if i < 8 then some (rR i) else none)))))), (rR 0, .inl (cy 1, 40, .inr (.inl (fun _ => 0)))), (rR 1, .inl (cy 1, 40, .inr (.inl (fun _ => 0)))), (rR 2, .inl (cy 1, 40, .inr (.inl (fun _ => 0)))), (rR 3, .inl (cy 1, 40, .inr (.inl (fun _ => 0)))), (rR 4, .inl (cy 1, 40, .inr (.inl (fun _ => 0)))), (rR 5, .inl (cy 1, 40, .inr (.inl (fun _ => 0)))), (rR 6, .inl (cy 1, 40, .inr (.inl (fun _ => 0)))), (rR 7, .inl (cy 1, 40, .inr (.inl (fun _ => 0))))] H := hP
          have hD : va_D A [(qm, .inr (5, [.ref qms, .ref qmo, .ref qmz, .ref qmR, .ref qmv, .ref qmk, .ref qmb, .ref qmt, .int 0, .ref qmr, .int 0, .ref qmB, .int 0, .ref qmO, .ref qmK, .int 0, .int 0, .int 1, .null, .null, .int 0, .int 0, .int 0, .long 0, .int 0, .ref qm_three, .int 0, .int 0, .int 0, .null, .ref qm_unread, .ref qm_tryRow, .ref qm_bestRow, .ref qm_steps, .int 0])), (qms, .inl (cy 0, 8, .inl (upd (fun _ => 0) 5 1))), (qmo, .inl (cy 0, 8, .inl (upd (fun _ => 0) 5 iB))), (qmz, .inl (cy 0, 8, .inl (upd (fun _ => 0) 5 iC))), (qmr, .inl (cy 0, 8, .inl (fun _ => 0))), (qmR, .inl (cy 4, 8, .inr (.inr (.inr (.inr (fun i => if i < 8 then some (rR i) else none)))))), (rR 0, .inl (cy 1, 40, .inr (.inl (fun _ => 0)))), (rR 1, .inl (cy 1, 40, .inr (.inl (fun _ => 0)))), (rR 2, .inl (cy 1, 40, .inr (.inl (fun _ => 0)))), (rR 3, .inl (cy 1, 40, .inr (.inl (fun _ => 0)))), (rR 4, .inl (cy 1, 40, .inr (.inl (fun _ => 0)))), (rR 5, .inl (cy 1, 40, .inr (.inl (fun _ => 0)))), (rR 6, .inl (cy 1, 40, .inr (.inl (fun _ => 0)))), (rR 7, .inl (cy 1, 40, .inr (.inl (fun _ => 0))))] := hD
          refine lv_iconst (v := 0) hx hb dX6_row_64 (by decide) ?_
          refine lv_istore (lv' := [(4, .int 0), (0, .ref qm), (1, .int 5), (2, .int iB), (3, .int iC)]) hx hb dX6_row_65 hl (by decide) rfl (fun ls hl => ?_)
          have lp_68 : ∀ (n_69 : Nat) (j_71 : Nat) (xJ_72 : Int32) (fT_73 : Nat → Int64), 40 - j_71 < n_69 → xJ_72 = nI j_71 → j_71 ≤ 40 → ∀ (H : Heap) (locs : List Loc) (ls : Array Slot), va_P G CL [(qm, .inr (5, [.ref qms, .ref qmo, .ref qmz, .ref qmR, .ref qmv, .ref qmk, .ref qmb, .ref qmt, .int 0, .ref qmr, .int 0, .ref qmB, .int 0, .ref qmO, .ref qmK, .int 0, .int 0, .int 1, .null, .null, .int 0, .int 0, .int 0, .long 0, .int 0, .ref qm_three, .int 0, .int 0, .int 0, .null, .ref qm_unread, .ref qm_tryRow, .ref qm_bestRow, .ref qm_steps, .int 0])), (qms, .inl (cy 0, 8, .inl (upd (fun _ => 0) 5 1))), (qmo, .inl (cy 0, 8, .inl (upd (fun _ => 0) 5 iB))), (qmz, .inl (cy 0, 8, .inl (upd (fun _ => 0) 5 iC))), (qmr, .inl (cy 0, 8, .inl (fun _ => 0))), (qmR, .inl (cy 4, 8, .inr (.inr (.inr (.inr (fun i => if i < 8 then some (rR i) else none)))))), (rR 0, .inl (cy 1, 40, .inr (.inl (fun _ => 0)))), (rR 1, .inl (cy 1, 40, .inr (.inl (fun _ => 0)))), (rR 2, .inl (cy 1, 40, .inr (.inl (fun _ => 0)))), (rR 3, .inl (cy 1, 40, .inr (.inl (fun _ => 0)))), (rR 4, .inl (cy 1, 40, .inr (.inl (fun _ => 0)))), (rR 5, .inl (cy 1, 40, .inr (.inl fT_73))), (rR 6, .inl (cy 1, 40, .inr (.inl (fun _ => 0)))), (rR 7, .inl (cy 1, 40, .inr (.inl (fun _ => 0))))] H → va_D A [(qm, .inr (5, [.ref qms, .ref qmo, .ref qmz, .ref qmR, .ref qmv, .ref qmk, .ref qmb, .ref qmt, .int 0, .ref qmr, .int 0, .ref qmB, .int 0, .ref qmO, .ref qmK, .int 0, .int 0, .int 1, .null, .null, .int 0, .int 0, .int 0, .long 0, .int 0, .ref qm_three, .int 0, .int 0, .int 0, .null, .ref qm_unread, .ref qm_tryRow, .ref qm_bestRow, .ref qm_steps, .int 0])), (qms, .inl (cy 0, 8, .inl (upd (fun _ => 0) 5 1))), (qmo, .inl (cy 0, 8, .inl (upd (fun _ => 0) 5 iB))), (qmz, .inl (cy 0, 8, .inl (upd (fun _ => 0) 5 iC))), (qmr, .inl (cy 0, 8, .inl (fun _ => 0))), (qmR, .inl (cy 4, 8, .inr (.inr (.inr (.inr (fun i => if i < 8 then some (rR i) else none)))))), (rR 0, .inl (cy 1, 40, .inr (.inl (fun _ => 0)))), (rR 1, .inl (cy 1, 40, .inr (.inl (fun _ => 0)))), (rR 2, .inl (cy 1, 40, .inr (.inl (fun _ => 0)))), (rR 3, .inl (cy 1, 40, .inr (.inl (fun _ => 0)))), (rR 4, .inl (cy 1, 40, .inr (.inl (fun _ => 0)))), (rR 5, .inl (cy 1, 40, .inr (.inl fT_73))), (rR 6, .inl (cy 1, 40, .inr (.inl (fun _ => 0)))), (rR 7, .inl (cy 1, 40, .inr (.inl (fun _ => 0))))] → va_S A s.heap H locs → lv_has ls 5 [(4, .int xJ_72), (0, .ref qm), (1, .int 5), (2, .int iB), (3, .int iC)] → W p l e (Rm 6 0 0) s m (List.toArray (α := Value) [.ref qm, .int 5, .int iB, .int iC]) below meth c H locs 0 0 (MQ below ((Wi G (fun r u => u = [] ∧ ((r = (sp_row 5 iB iC))))) A) (List.toArray (α := Value) [.ref qm, .int 5, .int iB, .int iC]) s 0 0 A) (F0 m 67 ls []) := by
            intro n_69
            induction n_69 with
            | zero => intro j_71 xJ_72 fT_73 hm9; exact absurd hm9 (Nat.not_lt_zero _)
            | succ n_69 ih_70 =>
              intro j_71 xJ_72 fT_73 hm_76 hxJ_74 hj_75 H locs ls hP hD hS hl
              refine lv_iload hx hb dX6_row_67 (lv_at hl 0 rfl) ?_
              refine lv_bipush (v := 40) hx hb dX6_row_69 (by decide) ?_
              refine lv_icmp_ge (tgt := 90) hx hb dX6_row_71 (by decide) (fun c_77 => ?_) (fun c_77 => ?_)
              · refine lv_iconst (v := 1) hx hb dX6_row_90 (by decide) ?_
                exact endW (u := []) hx hb hr hlocks rfl va_P0 va_D0 hS ⟨rfl, (by first | (simp [sp_row, Iv, h_3, h_7, h_11]; done) | (rw [sp_row, if_pos ⟨h_3, h_7, h_11⟩]))⟩ dX6_row_91
              · have hlt_78 : j_71 < 40 := lp_lt hxJ_74 (rfl : (40 : Int32) = nI 40) (by omega) (by omega) c_77
                refine lv_aload_n hx hb dX6_row_74 rfl (lv_at hl 1 rfl) ?_
                refine va_get (D := G) (ci := 5) (v := .ref qmR) (C := RX6) (T := TX6) (N := 35) hx hb hts iX_X6 hown hK hP 0 rfl rfl 3 (by decide) (hts _ m_t853) (fun _ h9 => h9) rfl dX6_row_75 ?_
                refine lv_iload_n hx hb dX6_row_78 rfl (lv_at hl 2 rfl) ?_
                refine va_alda hx hb hK hP 5 4 rfl rfl (in_c rfl) dX6_row_79 ?_
                refine lv_setv (v := .ref (rR 5)) (rfl) ?_
                refine lv_iload hx hb dX6_row_80 (lv_at hl 0 rfl) ?_
                refine lv_lconst (v := 0) hx hb dX6_row_82 (by decide) ?_
                refine va_last hx hb hK hP hD hS 11 1 rfl rfl (in_nI hxJ_74 hlt_78 (by omega)) dX6_row_83 (fun H locs hP hD hS => ?_)
                have hP : va_P G CL [(qm, .inr (5, [.ref qms, .ref qmo, .ref qmz, .ref qmR, .ref qmv, .ref qmk, .ref qmb, .ref qmt, .int 0, .ref qmr, .int 0, .ref qmB, .int 0, .ref qmO, .ref qmK, .int 0, .int 0, .int 1, .null, .null, .int 0, .int 0, .int 0, .long 0, .int 0, .ref qm_three, .int 0, .int 0, .int 0, .null, .ref qm_unread, .ref qm_tryRow, .ref qm_bestRow, .ref qm_steps, .int 0])), (qms, .inl (cy 0, 8, .inl (upd (fun _ => 0) 5 1))), (qmo, .inl (cy 0, 8, .inl (upd (fun _ => 0) 5 iB))), (qmz, .inl (cy 0, 8, .inl (upd (fun _ => 0) 5 iC))), (qmr, .inl (cy 0, 8, .inl (fun _ => 0))), (qmR, .inl (cy 4, 8, .inr (.inr (.inr (.inr (fun i => if i < 8 then some (rR i) else none)))))), (rR 0, .inl (cy 1, 40, .inr (.inl (fun _ => 0)))), (rR 1, .inl (cy 1, 40, .inr (.inl (fun _ => 0)))), (rR 2, .inl (cy 1, 40, .inr (.inl (fun _ => 0)))), (rR 3, .inl (cy 1, 40, .inr (.inl (fun _ => 0)))), (rR 4, .inl (cy 1, 40, .inr (.inl (fun _ => 0)))), (rR 5, .inl (cy 1, 40, .inr (.inl (vp_updL fT_73 xJ_72.toNatClampNeg 0)))), (rR 6, .inl (cy 1, 40, .inr (.inl (fun _ => 0)))), (rR 7, .inl (cy 1, 40, .inr (.inl (fun _ => 0))))] H := hP
                have hD : va_D A [(qm, .inr (5, [.ref qms, .ref qmo, .ref qmz, .ref qmR, .ref qmv, .ref qmk, .ref qmb, .ref qmt, .int 0, .ref qmr, .int 0, .ref qmB, .int 0, .ref qmO, .ref qmK, .int 0, .int 0, .int 1, .null, .null, .int 0, .int 0, .int 0, .long 0, .int 0, .ref qm_three, .int 0, .int 0, .int 0, .null, .ref qm_unread, .ref qm_tryRow, .ref qm_bestRow, .ref qm_steps, .int 0])), (qms, .inl (cy 0, 8, .inl (upd (fun _ => 0) 5 1))), (qmo, .inl (cy 0, 8, .inl (upd (fun _ => 0) 5 iB))), (qmz, .inl (cy 0, 8, .inl (upd (fun _ => 0) 5 iC))), (qmr, .inl (cy 0, 8, .inl (fun _ => 0))), (qmR, .inl (cy 4, 8, .inr (.inr (.inr (.inr (fun i => if i < 8 then some (rR i) else none)))))), (rR 0, .inl (cy 1, 40, .inr (.inl (fun _ => 0)))), (rR 1, .inl (cy 1, 40, .inr (.inl (fun _ => 0)))), (rR 2, .inl (cy 1, 40, .inr (.inl (fun _ => 0)))), (rR 3, .inl (cy 1, 40, .inr (.inl (fun _ => 0)))), (rR 4, .inl (cy 1, 40, .inr (.inl (fun _ => 0)))), (rR 5, .inl (cy 1, 40, .inr (.inl (vp_updL fT_73 xJ_72.toNatClampNeg 0)))), (rR 6, .inl (cy 1, 40, .inr (.inl (fun _ => 0)))), (rR 7, .inl (cy 1, 40, .inr (.inl (fun _ => 0))))] := hD
                refine lv_iinc (v := xJ_72 + 1) (lv' := [(4, .int (xJ_72 + 1)), (0, .ref qm), (1, .int 5), (2, .int iB), (3, .int iC)]) hx hb dX6_row_84 hl (k := 0) rfl (rfl) (by decide) rfl (fun ls hl => ?_)
                refine lv_goto (tgt := 67) hx hb dX6_row_87 (by decide) ?_
                exact ih_70 (j_71 + 1) (xJ_72 + 1) (vp_updL fT_73 xJ_72.toNatClampNeg 0) (by omega) (by rw [hxJ_74]; exact nI_1 _) (by omega) _ _ _ hP hD hS (lv_sub hl [0, 1, 2, 3, 4] rfl)
          exact lp_68 ((40 - 0) + 1) 0 0 (fun _ => 0) (Nat.lt_succ_self _) rfl (Nat.zero_le _) _ _ ls hP hD hS (lv_sub hl [0, 1, 2, 3, 4] rfl)
        · refine lv_aload_n hx hb dX6_row_43 rfl (lv_at hl 0 rfl) ?_
          refine va_get (D := G) (ci := 5) (v := .ref qms) (C := RX6) (T := TX6) (N := 35) hx hb hts iX_X6 hown hK hP 0 rfl rfl 0 (by decide) (hts _ m_t850) (fun _ h9 => h9) rfl dX6_row_44 ?_
          refine lv_iload_n hx hb dX6_row_47 rfl (lv_at hl 1 rfl) ?_
          refine lv_iconst (v := 1) hx hb dX6_row_48 (by decide) ?_
          refine va_iast hx hb hK hP hD hS 1 0 rfl rfl (in_c rfl) dX6_row_49 (fun H locs hP hD hS => ?_)
          have hP : va_P G CL [(qm, .inr (5, [.ref qms, .ref qmo, .ref qmz, .ref qmR, .ref qmv, .ref qmk, .ref qmb, .ref qmt, .int 0, .ref qmr, .int 0, .ref qmB, .int 0, .ref qmO, .ref qmK, .int 0, .int 0, .int 1, .null, .null, .int 0, .int 0, .int 0, .long 0, .int 0, .ref qm_three, .int 0, .int 0, .int 0, .null, .ref qm_unread, .ref qm_tryRow, .ref qm_bestRow, .ref qm_steps, .int 0])), (qms, .inl (cy 0, 8, .inl (upd (fun _ => 0) 6 1))), (qmo, .inl (cy 0, 8, .inl (fun _ => 0))), (qmz, .inl (cy 0, 8, .inl (fun _ => 0))), (qmr, .inl (cy 0, 8, .inl (fun _ => 0))), (qmR, .inl (cy 4, 8, .inr (.inr (.inr (.inr (fun i => if i < 8 then some (rR i) else none)))))), (rR 0, .inl (cy 1, 40, .inr (.inl (fun _ => 0)))), (rR 1, .inl (cy 1, 40, .inr (.inl (fun _ => 0)))), (rR 2, .inl (cy 1, 40, .inr (.inl (fun _ => 0)))), (rR 3, .inl (cy 1, 40, .inr (.inl (fun _ => 0)))), (rR 4, .inl (cy 1, 40, .inr (.inl (fun _ => 0)))), (rR 5, .inl (cy 1, 40, .inr (.inl (fun _ => 0)))), (rR 6, .inl (cy 1, 40, .inr (.inl (fun _ => 0)))), (rR 7, .inl (cy 1, 40, .inr (.inl (fun _ => 0))))] H := hP
          have hD : va_D A [(qm, .inr (5, [.ref qms, .ref qmo, .ref qmz, .ref qmR, .ref qmv, .ref qmk, .ref qmb, .ref qmt, .int 0, .ref qmr, .int 0, .ref qmB, .int 0, .ref qmO, .ref qmK, .int 0, .int 0, .int 1, .null, .null, .int 0, .int 0, .int 0, .long 0, .int 0, .ref qm_three, .int 0, .int 0, .int 0, .null, .ref qm_unread, .ref qm_tryRow, .ref qm_bestRow, .ref qm_steps, .int 0])), (qms, .inl (cy 0, 8, .inl (upd (fun _ => 0) 6 1))), (qmo, .inl (cy 0, 8, .inl (fun _ => 0))), (qmz, .inl (cy 0, 8, .inl (fun _ => 0))), (qmr, .inl (cy 0, 8, .inl (fun _ => 0))), (qmR, .inl (cy 4, 8, .inr (.inr (.inr (.inr (fun i => if i < 8 then some (rR i) else none)))))), (rR 0, .inl (cy 1, 40, .inr (.inl (fun _ => 0)))), (rR 1, .inl (cy 1, 40, .inr (.inl (fun _ => 0)))), (rR 2, .inl (cy 1, 40, .inr (.inl (fun _ => 0)))), (rR 3, .inl (cy 1, 40, .inr (.inl (fun _ => 0)))), (rR 4, .inl (cy 1, 40, .inr (.inl (fun _ => 0)))), (rR 5, .inl (cy 1, 40, .inr (.inl (fun _ => 0)))), (rR 6, .inl (cy 1, 40, .inr (.inl (fun _ => 0)))), (rR 7, .inl (cy 1, 40, .inr (.inl (fun _ => 0))))] := hD
          refine lv_aload_n hx hb dX6_row_50 rfl (lv_at hl 0 rfl) ?_
          refine va_get (D := G) (ci := 5) (v := .ref qmo) (C := RX6) (T := TX6) (N := 35) hx hb hts iX_X6 hown hK hP 0 rfl rfl 1 (by decide) (hts _ m_t851) (fun _ h9 => h9) rfl dX6_row_51 ?_
          refine lv_iload_n hx hb dX6_row_54 rfl (lv_at hl 1 rfl) ?_
          refine lv_iload_n hx hb dX6_row_55 rfl (lv_at hl 2 rfl) ?_
          refine va_iast hx hb hK hP hD hS 2 0 rfl rfl (in_c rfl) dX6_row_56 (fun H locs hP hD hS => ?_)
          have hP : va_P G CL [(qm, .inr (5, [.ref qms, .ref qmo, .ref qmz, .ref qmR, .ref qmv, .ref qmk, .ref qmb, .ref qmt, .int 0, .ref qmr, .int 0, .ref qmB, .int 0, .ref qmO, .ref qmK, .int 0, .int 0, .int 1, .null, .null, .int 0, .int 0, .int 0, .long 0, .int 0, .ref qm_three, .int 0, .int 0, .int 0, .null, .ref qm_unread, .ref qm_tryRow, .ref qm_bestRow, .ref qm_steps, .int 0])), (qms, .inl (cy 0, 8, .inl (upd (fun _ => 0) 6 1))), (qmo, .inl (cy 0, 8, .inl (upd (fun _ => 0) 6 iB))), (qmz, .inl (cy 0, 8, .inl (fun _ => 0))), (qmr, .inl (cy 0, 8, .inl (fun _ => 0))), (qmR, .inl (cy 4, 8, .inr (.inr (.inr (.inr (fun i => if i < 8 then some (rR i) else none)))))), (rR 0, .inl (cy 1, 40, .inr (.inl (fun _ => 0)))), (rR 1, .inl (cy 1, 40, .inr (.inl (fun _ => 0)))), (rR 2, .inl (cy 1, 40, .inr (.inl (fun _ => 0)))), (rR 3, .inl (cy 1, 40, .inr (.inl (fun _ => 0)))), (rR 4, .inl (cy 1, 40, .inr (.inl (fun _ => 0)))), (rR 5, .inl (cy 1, 40, .inr (.inl (fun _ => 0)))), (rR 6, .inl (cy 1, 40, .inr (.inl (fun _ => 0)))), (rR 7, .inl (cy 1, 40, .inr (.inl (fun _ => 0))))] H := hP
          have hD : va_D A [(qm, .inr (5, [.ref qms, .ref qmo, .ref qmz, .ref qmR, .ref qmv, .ref qmk, .ref qmb, .ref qmt, .int 0, .ref qmr, .int 0, .ref qmB, .int 0, .ref qmO, .ref qmK, .int 0, .int 0, .int 1, .null, .null, .int 0, .int 0, .int 0, .long 0, .int 0, .ref qm_three, .int 0, .int 0, .int 0, .null, .ref qm_unread, .ref qm_tryRow, .ref qm_bestRow, .ref qm_steps, .int 0])), (qms, .inl (cy 0, 8, .inl (upd (fun _ => 0) 6 1))), (qmo, .inl (cy 0, 8, .inl (upd (fun _ => 0) 6 iB))), (qmz, .inl (cy 0, 8, .inl (fun _ => 0))), (qmr, .inl (cy 0, 8, .inl (fun _ => 0))), (qmR, .inl (cy 4, 8, .inr (.inr (.inr (.inr (fun i => if i < 8 then some (rR i) else none)))))), (rR 0, .inl (cy 1, 40, .inr (.inl (fun _ => 0)))), (rR 1, .inl (cy 1, 40, .inr (.inl (fun _ => 0)))), (rR 2, .inl (cy 1, 40, .inr (.inl (fun _ => 0)))), (rR 3, .inl (cy 1, 40, .inr (.inl (fun _ => 0)))), (rR 4, .inl (cy 1, 40, .inr (.inl (fun _ => 0)))), (rR 5, .inl (cy 1, 40, .inr (.inl (fun _ => 0)))), (rR 6, .inl (cy 1, 40, .inr (.inl (fun _ => 0)))), (rR 7, .inl (cy 1, 40, .inr (.inl (fun _ => 0))))] := hD
          refine lv_aload_n hx hb dX6_row_57 rfl (lv_at hl 0 rfl) ?_
          refine va_get (D := G) (ci := 5) (v := .ref qmz) (C := RX6) (T := TX6) (N := 35) hx hb hts iX_X6 hown hK hP 0 rfl rfl 2 (by decide) (hts _ m_t852) (fun _ h9 => h9) rfl dX6_row_58 ?_
          refine lv_iload_n hx hb dX6_row_61 rfl (lv_at hl 1 rfl) ?_
          refine lv_iload_n hx hb dX6_row_62 rfl (lv_at hl 3 rfl) ?_
          refine va_iast hx hb hK hP hD hS 3 0 rfl rfl (in_c rfl) dX6_row_63 (fun H locs hP hD hS => ?_)
          have hP : va_P G CL [(qm, .inr (5, [.ref qms, .ref qmo, .ref qmz, .ref qmR, .ref qmv, .ref qmk, .ref qmb, .ref qmt, .int 0, .ref qmr, .int 0, .ref qmB, .int 0, .ref qmO, .ref qmK, .int 0, .int 0, .int 1, .null, .null, .int 0, .int 0, .int 0, .long 0, .int 0, .ref qm_three, .int 0, .int 0, .int 0, .null, .ref qm_unread, .ref qm_tryRow, .ref qm_bestRow, .ref qm_steps, .int 0])), (qms, .inl (cy 0, 8, .inl (upd (fun _ => 0) 6 1))), (qmo, .inl (cy 0, 8, .inl (upd (fun _ => 0) 6 iB))), (qmz, .inl (cy 0, 8, .inl (upd (fun _ => 0) 6 iC))), (qmr, .inl (cy 0, 8, .inl (fun _ => 0))), (qmR, .inl (cy 4, 8, .inr (.inr (.inr (.inr (fun i => if i < 8 then some (rR i) else none)))))), (rR 0, .inl (cy 1, 40, .inr (.inl (fun _ => 0)))), (rR 1, .inl (cy 1, 40, .inr (.inl (fun _ => 0)))), (rR 2, .inl (cy 1, 40, .inr (.inl (fun _ => 0)))), (rR 3, .inl (cy 1, 40, .inr (.inl (fun _ => 0)))), (rR 4, .inl (cy 1, 40, .inr (.inl (fun _ => 0)))), (rR 5, .inl (cy 1, 40, .inr (.inl (fun _ => 0)))), (rR 6, .inl (cy 1, 40, .inr (.inl (fun _ => 0)))), (rR 7, .inl (cy 1, 40, .inr (.inl (fun _ => 0))))] H := hP
          have hD : va_D A [(qm, .inr (5, [.ref qms, .ref qmo, .ref qmz, .ref qmR, .ref qmv, .ref qmk, .ref qmb, .ref qmt, .int 0, .ref qmr, .int 0, .ref qmB, .int 0, .ref qmO, .ref qmK, .int 0, .int 0, .int 1, .null, .null, .int 0, .int 0, .int 0, .long 0, .int 0, .ref qm_three, .int 0, .int 0, .int 0, .null, .ref qm_unread, .ref qm_tryRow, .ref qm_bestRow, .ref qm_steps, .int 0])), (qms, .inl (cy 0, 8, .inl (upd (fun _ => 0) 6 1))), (qmo, .inl (cy 0, 8, .inl (upd (fun _ => 0) 6 iB))), (qmz, .inl (cy 0, 8, .inl (upd (fun _ => 0) 6 iC))), (qmr, .inl (cy 0, 8, .inl (fun _ => 0))), (qmR, .inl (cy 4, 8, .inr (.inr (.inr (.inr (fun i => if i < 8 then some (rR i) else none)))))), (rR 0, .inl (cy 1, 40, .inr (.inl (fun _ => 0)))), (rR 1, .inl (cy 1, 40, .inr (.inl (fun _ => 0)))), (rR 2, .inl (cy 1, 40, .inr (.inl (fun _ => 0)))), (rR 3, .inl (cy 1, 40, .inr (.inl (fun _ => 0)))), (rR 4, .inl (cy 1, 40, .inr (.inl (fun _ => 0)))), (rR 5, .inl (cy 1, 40, .inr (.inl (fun _ => 0)))), (rR 6, .inl (cy 1, 40, .inr (.inl (fun _ => 0)))), (rR 7, .inl (cy 1, 40, .inr (.inl (fun _ => 0))))] := hD
          refine lv_iconst (v := 0) hx hb dX6_row_64 (by decide) ?_
          refine lv_istore (lv' := [(4, .int 0), (0, .ref qm), (1, .int 6), (2, .int iB), (3, .int iC)]) hx hb dX6_row_65 hl (by decide) rfl (fun ls hl => ?_)
          have lp_79 : ∀ (n_80 : Nat) (j_82 : Nat) (xJ_83 : Int32) (fT_84 : Nat → Int64), 40 - j_82 < n_80 → xJ_83 = nI j_82 → j_82 ≤ 40 → ∀ (H : Heap) (locs : List Loc) (ls : Array Slot), va_P G CL [(qm, .inr (5, [.ref qms, .ref qmo, .ref qmz, .ref qmR, .ref qmv, .ref qmk, .ref qmb, .ref qmt, .int 0, .ref qmr, .int 0, .ref qmB, .int 0, .ref qmO, .ref qmK, .int 0, .int 0, .int 1, .null, .null, .int 0, .int 0, .int 0, .long 0, .int 0, .ref qm_three, .int 0, .int 0, .int 0, .null, .ref qm_unread, .ref qm_tryRow, .ref qm_bestRow, .ref qm_steps, .int 0])), (qms, .inl (cy 0, 8, .inl (upd (fun _ => 0) 6 1))), (qmo, .inl (cy 0, 8, .inl (upd (fun _ => 0) 6 iB))), (qmz, .inl (cy 0, 8, .inl (upd (fun _ => 0) 6 iC))), (qmr, .inl (cy 0, 8, .inl (fun _ => 0))), (qmR, .inl (cy 4, 8, .inr (.inr (.inr (.inr (fun i => if i < 8 then some (rR i) else none)))))), (rR 0, .inl (cy 1, 40, .inr (.inl (fun _ => 0)))), (rR 1, .inl (cy 1, 40, .inr (.inl (fun _ => 0)))), (rR 2, .inl (cy 1, 40, .inr (.inl (fun _ => 0)))), (rR 3, .inl (cy 1, 40, .inr (.inl (fun _ => 0)))), (rR 4, .inl (cy 1, 40, .inr (.inl (fun _ => 0)))), (rR 5, .inl (cy 1, 40, .inr (.inl (fun _ => 0)))), (rR 6, .inl (cy 1, 40, .inr (.inl fT_84))), (rR 7, .inl (cy 1, 40, .inr (.inl (fun _ => 0))))] H → va_D A [(qm, .inr (5, [.ref qms, .ref qmo, .ref qmz, .ref qmR, .ref qmv, .ref qmk, .ref qmb, .ref qmt, .int 0, .ref qmr, .int 0, .ref qmB, .int 0, .ref qmO, .ref qmK, .int 0, .int 0, .int 1, .null, .null, .int 0, .int 0, .int 0, .long 0, .int 0, .ref qm_three, .int 0, .int 0, .int 0, .null, .ref qm_unread, .ref qm_tryRow, .ref qm_bestRow, .ref qm_steps, .int 0])), (qms, .inl (cy 0, 8, .inl (upd (fun _ => 0) 6 1))), (qmo, .inl (cy 0, 8, .inl (upd (fun _ => 0) 6 iB))), (qmz, .inl (cy 0, 8, .inl (upd (fun _ => 0) 6 iC))), (qmr, .inl (cy 0, 8, .inl (fun _ => 0))), (qmR, .inl (cy 4, 8, .inr (.inr (.inr (.inr (fun i => if i < 8 then some (rR i) else none)))))), (rR 0, .inl (cy 1, 40, .inr (.inl (fun _ => 0)))), (rR 1, .inl (cy 1, 40, .inr (.inl (fun _ => 0)))), (rR 2, .inl (cy 1, 40, .inr (.inl (fun _ => 0)))), (rR 3, .inl (cy 1, 40, .inr (.inl (fun _ => 0)))), (rR 4, .inl (cy 1, 40, .inr (.inl (fun _ => 0)))), (rR 5, .inl (cy 1, 40, .inr (.inl (fun _ => 0)))), (rR 6, .inl (cy 1, 40, .inr (.inl fT_84))), (rR 7, .inl (cy 1, 40, .inr (.inl (fun _ => 0))))] → va_S A s.heap H locs → lv_has ls 5 [(4, .int xJ_83), (0, .ref qm), (1, .int 6), (2, .int iB), (3, .int iC)] → W p l e (Rm 6 0 0) s m (List.toArray (α := Value) [.ref qm, .int 6, .int iB, .int iC]) below meth c H locs 0 0 (MQ below ((Wi G (fun r u => u = [] ∧ ((r = (sp_row 6 iB iC))))) A) (List.toArray (α := Value) [.ref qm, .int 6, .int iB, .int iC]) s 0 0 A) (F0 m 67 ls []) := by
            intro n_80
            induction n_80 with
            | zero => intro j_82 xJ_83 fT_84 hm9; exact absurd hm9 (Nat.not_lt_zero _)
            | succ n_80 ih_81 =>
              intro j_82 xJ_83 fT_84 hm_87 hxJ_85 hj_86 H locs ls hP hD hS hl
              refine lv_iload hx hb dX6_row_67 (lv_at hl 0 rfl) ?_
              refine lv_bipush (v := 40) hx hb dX6_row_69 (by decide) ?_
              refine lv_icmp_ge (tgt := 90) hx hb dX6_row_71 (by decide) (fun c_88 => ?_) (fun c_88 => ?_)
              · refine lv_iconst (v := 1) hx hb dX6_row_90 (by decide) ?_
                exact endW (u := []) hx hb hr hlocks rfl va_P0 va_D0 hS ⟨rfl, (by first | (simp [sp_row, Iv, h_3, h_7, h_11]; done) | (rw [sp_row, if_pos ⟨h_3, h_7, h_11⟩]))⟩ dX6_row_91
              · have hlt_89 : j_82 < 40 := lp_lt hxJ_85 (rfl : (40 : Int32) = nI 40) (by omega) (by omega) c_88
                refine lv_aload_n hx hb dX6_row_74 rfl (lv_at hl 1 rfl) ?_
                refine va_get (D := G) (ci := 5) (v := .ref qmR) (C := RX6) (T := TX6) (N := 35) hx hb hts iX_X6 hown hK hP 0 rfl rfl 3 (by decide) (hts _ m_t853) (fun _ h9 => h9) rfl dX6_row_75 ?_
                refine lv_iload_n hx hb dX6_row_78 rfl (lv_at hl 2 rfl) ?_
                refine va_alda hx hb hK hP 5 4 rfl rfl (in_c rfl) dX6_row_79 ?_
                refine lv_setv (v := .ref (rR 6)) (rfl) ?_
                refine lv_iload hx hb dX6_row_80 (lv_at hl 0 rfl) ?_
                refine lv_lconst (v := 0) hx hb dX6_row_82 (by decide) ?_
                refine va_last hx hb hK hP hD hS 12 1 rfl rfl (in_nI hxJ_85 hlt_89 (by omega)) dX6_row_83 (fun H locs hP hD hS => ?_)
                have hP : va_P G CL [(qm, .inr (5, [.ref qms, .ref qmo, .ref qmz, .ref qmR, .ref qmv, .ref qmk, .ref qmb, .ref qmt, .int 0, .ref qmr, .int 0, .ref qmB, .int 0, .ref qmO, .ref qmK, .int 0, .int 0, .int 1, .null, .null, .int 0, .int 0, .int 0, .long 0, .int 0, .ref qm_three, .int 0, .int 0, .int 0, .null, .ref qm_unread, .ref qm_tryRow, .ref qm_bestRow, .ref qm_steps, .int 0])), (qms, .inl (cy 0, 8, .inl (upd (fun _ => 0) 6 1))), (qmo, .inl (cy 0, 8, .inl (upd (fun _ => 0) 6 iB))), (qmz, .inl (cy 0, 8, .inl (upd (fun _ => 0) 6 iC))), (qmr, .inl (cy 0, 8, .inl (fun _ => 0))), (qmR, .inl (cy 4, 8, .inr (.inr (.inr (.inr (fun i => if i < 8 then some (rR i) else none)))))), (rR 0, .inl (cy 1, 40, .inr (.inl (fun _ => 0)))), (rR 1, .inl (cy 1, 40, .inr (.inl (fun _ => 0)))), (rR 2, .inl (cy 1, 40, .inr (.inl (fun _ => 0)))), (rR 3, .inl (cy 1, 40, .inr (.inl (fun _ => 0)))), (rR 4, .inl (cy 1, 40, .inr (.inl (fun _ => 0)))), (rR 5, .inl (cy 1, 40, .inr (.inl (fun _ => 0)))), (rR 6, .inl (cy 1, 40, .inr (.inl (vp_updL fT_84 xJ_83.toNatClampNeg 0)))), (rR 7, .inl (cy 1, 40, .inr (.inl (fun _ => 0))))] H := hP
                have hD : va_D A [(qm, .inr (5, [.ref qms, .ref qmo, .ref qmz, .ref qmR, .ref qmv, .ref qmk, .ref qmb, .ref qmt, .int 0, .ref qmr, .int 0, .ref qmB, .int 0, .ref qmO, .ref qmK, .int 0, .int 0, .int 1, .null, .null, .int 0, .int 0, .int 0, .long 0, .int 0, .ref qm_three, .int 0, .int 0, .int 0, .null, .ref qm_unread, .ref qm_tryRow, .ref qm_bestRow, .ref qm_steps, .int 0])), (qms, .inl (cy 0, 8, .inl (upd (fun _ => 0) 6 1))), (qmo, .inl (cy 0, 8, .inl (upd (fun _ => 0) 6 iB))), (qmz, .inl (cy 0, 8, .inl (upd (fun _ => 0) 6 iC))), (qmr, .inl (cy 0, 8, .inl (fun _ => 0))), (qmR, .inl (cy 4, 8, .inr (.inr (.inr (.inr (fun i => if i < 8 then some (rR i) else none)))))), (rR 0, .inl (cy 1, 40, .inr (.inl (fun _ => 0)))), (rR 1, .inl (cy 1, 40, .inr (.inl (fun _ => 0)))), (rR 2, .inl (cy 1, 40, .inr (.inl (fun _ => 0)))), (rR 3, .inl (cy 1, 40, .inr (.inl (fun _ => 0)))), (rR 4, .inl (cy 1, 40, .inr (.inl (fun _ => 0)))), (rR 5, .inl (cy 1, 40, .inr (.inl (fun _ => 0)))), (rR 6, .inl (cy 1, 40, .inr (.inl (vp_updL fT_84 xJ_83.toNatClampNeg 0)))), (rR 7, .inl (cy 1, 40, .inr (.inl (fun _ => 0))))] := hD
                refine lv_iinc (v := xJ_83 + 1) (lv' := [(4, .int (xJ_83 + 1)), (0, .ref qm), (1, .int 6), (2, .int iB), (3, .int iC)]) hx hb dX6_row_84 hl (k := 0) rfl (rfl) (by decide) rfl (fun ls hl => ?_)
                refine lv_goto (tgt := 67) hx hb dX6_row_87 (by decide) ?_
                exact ih_81 (j_82 + 1) (xJ_83 + 1) (vp_updL fT_84 xJ_83.toNatClampNeg 0) (by omega) (by rw [hxJ_85]; exact nI_1 _) (by omega) _ _ _ hP hD hS (lv_sub hl [0, 1, 2, 3, 4] rfl)
          exact lp_79 ((40 - 0) + 1) 0 0 (fun _ => 0) (Nat.lt_succ_self _) rfl (Nat.zero_le _) _ _ ls hP hD hS (lv_sub hl [0, 1, 2, 3, 4] rfl)
        · refine lv_aload_n hx hb dX6_row_43 rfl (lv_at hl 0 rfl) ?_
          refine va_get (D := G) (ci := 5) (v := .ref qms) (C := RX6) (T := TX6) (N := 35) hx hb hts iX_X6 hown hK hP 0 rfl rfl 0 (by decide) (hts _ m_t850) (fun _ h9 => h9) rfl dX6_row_44 ?_
          refine lv_iload_n hx hb dX6_row_47 rfl (lv_at hl 1 rfl) ?_
          refine lv_iconst (v := 1) hx hb dX6_row_48 (by decide) ?_
          refine va_iast hx hb hK hP hD hS 1 0 rfl rfl (in_c rfl) dX6_row_49 (fun H locs hP hD hS => ?_)
          have hP : va_P G CL [(qm, .inr (5, [.ref qms, .ref qmo, .ref qmz, .ref qmR, .ref qmv, .ref qmk, .ref qmb, .ref qmt, .int 0, .ref qmr, .int 0, .ref qmB, .int 0, .ref qmO, .ref qmK, .int 0, .int 0, .int 1, .null, .null, .int 0, .int 0, .int 0, .long 0, .int 0, .ref qm_three, .int 0, .int 0, .int 0, .null, .ref qm_unread, .ref qm_tryRow, .ref qm_bestRow, .ref qm_steps, .int 0])), (qms, .inl (cy 0, 8, .inl (upd (fun _ => 0) 7 1))), (qmo, .inl (cy 0, 8, .inl (fun _ => 0))), (qmz, .inl (cy 0, 8, .inl (fun _ => 0))), (qmr, .inl (cy 0, 8, .inl (fun _ => 0))), (qmR, .inl (cy 4, 8, .inr (.inr (.inr (.inr (fun i => if i < 8 then some (rR i) else none)))))), (rR 0, .inl (cy 1, 40, .inr (.inl (fun _ => 0)))), (rR 1, .inl (cy 1, 40, .inr (.inl (fun _ => 0)))), (rR 2, .inl (cy 1, 40, .inr (.inl (fun _ => 0)))), (rR 3, .inl (cy 1, 40, .inr (.inl (fun _ => 0)))), (rR 4, .inl (cy 1, 40, .inr (.inl (fun _ => 0)))), (rR 5, .inl (cy 1, 40, .inr (.inl (fun _ => 0)))), (rR 6, .inl (cy 1, 40, .inr (.inl (fun _ => 0)))), (rR 7, .inl (cy 1, 40, .inr (.inl (fun _ => 0))))] H := hP
          have hD : va_D A [(qm, .inr (5, [.ref qms, .ref qmo, .ref qmz, .ref qmR, .ref qmv, .ref qmk, .ref qmb, .ref qmt, .int 0, .ref qmr, .int 0, .ref qmB, .int 0, .ref qmO, .ref qmK, .int 0, .int 0, .int 1, .null, .null, .int 0, .int 0, .int 0, .long 0, .int 0, .ref qm_three, .int 0, .int 0, .int 0, .null, .ref qm_unread, .ref qm_tryRow, .ref qm_bestRow, .ref qm_steps, .int 0])), (qms, .inl (cy 0, 8, .inl (upd (fun _ => 0) 7 1))), (qmo, .inl (cy 0, 8, .inl (fun _ => 0))), (qmz, .inl (cy 0, 8, .inl (fun _ => 0))), (qmr, .inl (cy 0, 8, .inl (fun _ => 0))), (qmR, .inl (cy 4, 8, .inr (.inr (.inr (.inr (fun i => if i < 8 then some (rR i) else none)))))), (rR 0, .inl (cy 1, 40, .inr (.inl (fun _ => 0)))), (rR 1, .inl (cy 1, 40, .inr (.inl (fun _ => 0)))), (rR 2, .inl (cy 1, 40, .inr (.inl (fun _ => 0)))), (rR 3, .inl (cy 1, 40, .inr (.inl (fun _ => 0)))), (rR 4, .inl (cy 1, 40, .inr (.inl (fun _ => 0)))), (rR 5, .inl (cy 1, 40, .inr (.inl (fun _ => 0)))), (rR 6, .inl (cy 1, 40, .inr (.inl (fun _ => 0)))), (rR 7, .inl (cy 1, 40, .inr (.inl (fun _ => 0))))] := hD
          refine lv_aload_n hx hb dX6_row_50 rfl (lv_at hl 0 rfl) ?_
          refine va_get (D := G) (ci := 5) (v := .ref qmo) (C := RX6) (T := TX6) (N := 35) hx hb hts iX_X6 hown hK hP 0 rfl rfl 1 (by decide) (hts _ m_t851) (fun _ h9 => h9) rfl dX6_row_51 ?_
          refine lv_iload_n hx hb dX6_row_54 rfl (lv_at hl 1 rfl) ?_
          refine lv_iload_n hx hb dX6_row_55 rfl (lv_at hl 2 rfl) ?_
          refine va_iast hx hb hK hP hD hS 2 0 rfl rfl (in_c rfl) dX6_row_56 (fun H locs hP hD hS => ?_)
          have hP : va_P G CL [(qm, .inr (5, [.ref qms, .ref qmo, .ref qmz, .ref qmR, .ref qmv, .ref qmk, .ref qmb, .ref qmt, .int 0, .ref qmr, .int 0, .ref qmB, .int 0, .ref qmO, .ref qmK, .int 0, .int 0, .int 1, .null, .null, .int 0, .int 0, .int 0, .long 0, .int 0, .ref qm_three, .int 0, .int 0, .int 0, .null, .ref qm_unread, .ref qm_tryRow, .ref qm_bestRow, .ref qm_steps, .int 0])), (qms, .inl (cy 0, 8, .inl (upd (fun _ => 0) 7 1))), (qmo, .inl (cy 0, 8, .inl (upd (fun _ => 0) 7 iB))), (qmz, .inl (cy 0, 8, .inl (fun _ => 0))), (qmr, .inl (cy 0, 8, .inl (fun _ => 0))), (qmR, .inl (cy 4, 8, .inr (.inr (.inr (.inr (fun i => if i < 8 then some (rR i) else none)))))), (rR 0, .inl (cy 1, 40, .inr (.inl (fun _ => 0)))), (rR 1, .inl (cy 1, 40, .inr (.inl (fun _ => 0)))), (rR 2, .inl (cy 1, 40, .inr (.inl (fun _ => 0)))), (rR 3, .inl (cy 1, 40, .inr (.inl (fun _ => 0)))), (rR 4, .inl (cy 1, 40, .inr (.inl (fun _ => 0)))), (rR 5, .inl (cy 1, 40, .inr (.inl (fun _ => 0)))), (rR 6, .inl (cy 1, 40, .inr (.inl (fun _ => 0)))), (rR 7, .inl (cy 1, 40, .inr (.inl (fun _ => 0))))] H := hP
          have hD : va_D A [(qm, .inr (5, [.ref qms, .ref qmo, .ref qmz, .ref qmR, .ref qmv, .ref qmk, .ref qmb, .ref qmt, .int 0, .ref qmr, .int 0, .ref qmB, .int 0, .ref qmO, .ref qmK, .int 0, .int 0, .int 1, .null, .null, .int 0, .int 0, .int 0, .long 0, .int 0, .ref qm_three, .int 0, .int 0, .int 0, .null, .ref qm_unread, .ref qm_tryRow, .ref qm_bestRow, .ref qm_steps, .int 0])), (qms, .inl (cy 0, 8, .inl (upd (fun _ => 0) 7 1))), (qmo, .inl (cy 0, 8, .inl (upd (fun _ => 0) 7 iB))), (qmz, .inl (cy 0, 8, .inl (fun _ => 0))), (qmr, .inl (cy 0, 8, .inl (fun _ => 0))), (qmR, .inl (cy 4, 8, .inr (.inr (.inr (.inr (fun i => if i < 8 then some (rR i) else none)))))), (rR 0, .inl (cy 1, 40, .inr (.inl (fun _ => 0)))), (rR 1, .inl (cy 1, 40, .inr (.inl (fun _ => 0)))), (rR 2, .inl (cy 1, 40, .inr (.inl (fun _ => 0)))), (rR 3, .inl (cy 1, 40, .inr (.inl (fun _ => 0)))), (rR 4, .inl (cy 1, 40, .inr (.inl (fun _ => 0)))), (rR 5, .inl (cy 1, 40, .inr (.inl (fun _ => 0)))), (rR 6, .inl (cy 1, 40, .inr (.inl (fun _ => 0)))), (rR 7, .inl (cy 1, 40, .inr (.inl (fun _ => 0))))] := hD
          refine lv_aload_n hx hb dX6_row_57 rfl (lv_at hl 0 rfl) ?_
          refine va_get (D := G) (ci := 5) (v := .ref qmz) (C := RX6) (T := TX6) (N := 35) hx hb hts iX_X6 hown hK hP 0 rfl rfl 2 (by decide) (hts _ m_t852) (fun _ h9 => h9) rfl dX6_row_58 ?_
          refine lv_iload_n hx hb dX6_row_61 rfl (lv_at hl 1 rfl) ?_
          refine lv_iload_n hx hb dX6_row_62 rfl (lv_at hl 3 rfl) ?_
          refine va_iast hx hb hK hP hD hS 3 0 rfl rfl (in_c rfl) dX6_row_63 (fun H locs hP hD hS => ?_)
          have hP : va_P G CL [(qm, .inr (5, [.ref qms, .ref qmo, .ref qmz, .ref qmR, .ref qmv, .ref qmk, .ref qmb, .ref qmt, .int 0, .ref qmr, .int 0, .ref qmB, .int 0, .ref qmO, .ref qmK, .int 0, .int 0, .int 1, .null, .null, .int 0, .int 0, .int 0, .long 0, .int 0, .ref qm_three, .int 0, .int 0, .int 0, .null, .ref qm_unread, .ref qm_tryRow, .ref qm_bestRow, .ref qm_steps, .int 0])), (qms, .inl (cy 0, 8, .inl (upd (fun _ => 0) 7 1))), (qmo, .inl (cy 0, 8, .inl (upd (fun _ => 0) 7 iB))), (qmz, .inl (cy 0, 8, .inl (upd (fun _ => 0) 7 iC))), (qmr, .inl (cy 0, 8, .inl (fun _ => 0))), (qmR, .inl (cy 4, 8, .inr (.inr (.inr (.inr (fun i => if i < 8 then some (rR i) else none)))))), (rR 0, .inl (cy 1, 40, .inr (.inl (fun _ => 0)))), (rR 1, .inl (cy 1, 40, .inr (.inl (fun _ => 0)))), (rR 2, .inl (cy 1, 40, .inr (.inl (fun _ => 0)))), (rR 3, .inl (cy 1, 40, .inr (.inl (fun _ => 0)))), (rR 4, .inl (cy 1, 40, .inr (.inl (fun _ => 0)))), (rR 5, .inl (cy 1, 40, .inr (.inl (fun _ => 0)))), (rR 6, .inl (cy 1, 40, .inr (.inl (fun _ => 0)))), (rR 7, .inl (cy 1, 40, .inr (.inl (fun _ => 0))))] H := hP
          have hD : va_D A [(qm, .inr (5, [.ref qms, .ref qmo, .ref qmz, .ref qmR, .ref qmv, .ref qmk, .ref qmb, .ref qmt, .int 0, .ref qmr, .int 0, .ref qmB, .int 0, .ref qmO, .ref qmK, .int 0, .int 0, .int 1, .null, .null, .int 0, .int 0, .int 0, .long 0, .int 0, .ref qm_three, .int 0, .int 0, .int 0, .null, .ref qm_unread, .ref qm_tryRow, .ref qm_bestRow, .ref qm_steps, .int 0])), (qms, .inl (cy 0, 8, .inl (upd (fun _ => 0) 7 1))), (qmo, .inl (cy 0, 8, .inl (upd (fun _ => 0) 7 iB))), (qmz, .inl (cy 0, 8, .inl (upd (fun _ => 0) 7 iC))), (qmr, .inl (cy 0, 8, .inl (fun _ => 0))), (qmR, .inl (cy 4, 8, .inr (.inr (.inr (.inr (fun i => if i < 8 then some (rR i) else none)))))), (rR 0, .inl (cy 1, 40, .inr (.inl (fun _ => 0)))), (rR 1, .inl (cy 1, 40, .inr (.inl (fun _ => 0)))), (rR 2, .inl (cy 1, 40, .inr (.inl (fun _ => 0)))), (rR 3, .inl (cy 1, 40, .inr (.inl (fun _ => 0)))), (rR 4, .inl (cy 1, 40, .inr (.inl (fun _ => 0)))), (rR 5, .inl (cy 1, 40, .inr (.inl (fun _ => 0)))), (rR 6, .inl (cy 1, 40, .inr (.inl (fun _ => 0)))), (rR 7, .inl (cy 1, 40, .inr (.inl (fun _ => 0))))] := hD
          refine lv_iconst (v := 0) hx hb dX6_row_64 (by decide) ?_
          refine lv_istore (lv' := [(4, .int 0), (0, .ref qm), (1, .int 7), (2, .int iB), (3, .int iC)]) hx hb dX6_row_65 hl (by decide) rfl (fun ls hl => ?_)
          have lp_90 : ∀ (n_91 : Nat) (j_93 : Nat) (xJ_94 : Int32) (fT_95 : Nat → Int64), 40 - j_93 < n_91 → xJ_94 = nI j_93 → j_93 ≤ 40 → ∀ (H : Heap) (locs : List Loc) (ls : Array Slot), va_P G CL [(qm, .inr (5, [.ref qms, .ref qmo, .ref qmz, .ref qmR, .ref qmv, .ref qmk, .ref qmb, .ref qmt, .int 0, .ref qmr, .int 0, .ref qmB, .int 0, .ref qmO, .ref qmK, .int 0, .int 0, .int 1, .null, .null, .int 0, .int 0, .int 0, .long 0, .int 0, .ref qm_three, .int 0, .int 0, .int 0, .null, .ref qm_unread, .ref qm_tryRow, .ref qm_bestRow, .ref qm_steps, .int 0])), (qms, .inl (cy 0, 8, .inl (upd (fun _ => 0) 7 1))), (qmo, .inl (cy 0, 8, .inl (upd (fun _ => 0) 7 iB))), (qmz, .inl (cy 0, 8, .inl (upd (fun _ => 0) 7 iC))), (qmr, .inl (cy 0, 8, .inl (fun _ => 0))), (qmR, .inl (cy 4, 8, .inr (.inr (.inr (.inr (fun i => if i < 8 then some (rR i) else none)))))), (rR 0, .inl (cy 1, 40, .inr (.inl (fun _ => 0)))), (rR 1, .inl (cy 1, 40, .inr (.inl (fun _ => 0)))), (rR 2, .inl (cy 1, 40, .inr (.inl (fun _ => 0)))), (rR 3, .inl (cy 1, 40, .inr (.inl (fun _ => 0)))), (rR 4, .inl (cy 1, 40, .inr (.inl (fun _ => 0)))), (rR 5, .inl (cy 1, 40, .inr (.inl (fun _ => 0)))), (rR 6, .inl (cy 1, 40, .inr (.inl (fun _ => 0)))), (rR 7, .inl (cy 1, 40, .inr (.inl fT_95)))] H → va_D A [(qm, .inr (5, [.ref qms, .ref qmo, .ref qmz, .ref qmR, .ref qmv, .ref qmk, .ref qmb, .ref qmt, .int 0, .ref qmr, .int 0, .ref qmB, .int 0, .ref qmO, .ref qmK, .int 0, .int 0, .int 1, .null, .null, .int 0, .int 0, .int 0, .long 0, .int 0, .ref qm_three, .int 0, .int 0, .int 0, .null, .ref qm_unread, .ref qm_tryRow, .ref qm_bestRow, .ref qm_steps, .int 0])), (qms, .inl (cy 0, 8, .inl (upd (fun _ => 0) 7 1))), (qmo, .inl (cy 0, 8, .inl (upd (fun _ => 0) 7 iB))), (qmz, .inl (cy 0, 8, .inl (upd (fun _ => 0) 7 iC))), (qmr, .inl (cy 0, 8, .inl (fun _ => 0))), (qmR, .inl (cy 4, 8, .inr (.inr (.inr (.inr (fun i => if i < 8 then some (rR i) else none)))))), (rR 0, .inl (cy 1, 40, .inr (.inl (fun _ => 0)))), (rR 1, .inl (cy 1, 40, .inr (.inl (fun _ => 0)))), (rR 2, .inl (cy 1, 40, .inr (.inl (fun _ => 0)))), (rR 3, .inl (cy 1, 40, .inr (.inl (fun _ => 0)))), (rR 4, .inl (cy 1, 40, .inr (.inl (fun _ => 0)))), (rR 5, .inl (cy 1, 40, .inr (.inl (fun _ => 0)))), (rR 6, .inl (cy 1, 40, .inr (.inl (fun _ => 0)))), (rR 7, .inl (cy 1, 40, .inr (.inl fT_95)))] → va_S A s.heap H locs → lv_has ls 5 [(4, .int xJ_94), (0, .ref qm), (1, .int 7), (2, .int iB), (3, .int iC)] → W p l e (Rm 6 0 0) s m (List.toArray (α := Value) [.ref qm, .int 7, .int iB, .int iC]) below meth c H locs 0 0 (MQ below ((Wi G (fun r u => u = [] ∧ ((r = (sp_row 7 iB iC))))) A) (List.toArray (α := Value) [.ref qm, .int 7, .int iB, .int iC]) s 0 0 A) (F0 m 67 ls []) := by
            intro n_91
            induction n_91 with
            | zero => intro j_93 xJ_94 fT_95 hm9; exact absurd hm9 (Nat.not_lt_zero _)
            | succ n_91 ih_92 =>
              intro j_93 xJ_94 fT_95 hm_98 hxJ_96 hj_97 H locs ls hP hD hS hl
              refine lv_iload hx hb dX6_row_67 (lv_at hl 0 rfl) ?_
              refine lv_bipush (v := 40) hx hb dX6_row_69 (by decide) ?_
              refine lv_icmp_ge (tgt := 90) hx hb dX6_row_71 (by decide) (fun c_99 => ?_) (fun c_99 => ?_)
              · refine lv_iconst (v := 1) hx hb dX6_row_90 (by decide) ?_
                exact endW (u := []) hx hb hr hlocks rfl va_P0 va_D0 hS ⟨rfl, (by first | (simp [sp_row, Iv, h_3, h_7, h_11]; done) | (rw [sp_row, if_pos ⟨h_3, h_7, h_11⟩]))⟩ dX6_row_91
              · have hlt_100 : j_93 < 40 := lp_lt hxJ_96 (rfl : (40 : Int32) = nI 40) (by omega) (by omega) c_99
                refine lv_aload_n hx hb dX6_row_74 rfl (lv_at hl 1 rfl) ?_
                refine va_get (D := G) (ci := 5) (v := .ref qmR) (C := RX6) (T := TX6) (N := 35) hx hb hts iX_X6 hown hK hP 0 rfl rfl 3 (by decide) (hts _ m_t853) (fun _ h9 => h9) rfl dX6_row_75 ?_
                refine lv_iload_n hx hb dX6_row_78 rfl (lv_at hl 2 rfl) ?_
                refine va_alda hx hb hK hP 5 4 rfl rfl (in_c rfl) dX6_row_79 ?_
                refine lv_setv (v := .ref (rR 7)) (rfl) ?_
                refine lv_iload hx hb dX6_row_80 (lv_at hl 0 rfl) ?_
                refine lv_lconst (v := 0) hx hb dX6_row_82 (by decide) ?_
                refine va_last hx hb hK hP hD hS 13 1 rfl rfl (in_nI hxJ_96 hlt_100 (by omega)) dX6_row_83 (fun H locs hP hD hS => ?_)
                have hP : va_P G CL [(qm, .inr (5, [.ref qms, .ref qmo, .ref qmz, .ref qmR, .ref qmv, .ref qmk, .ref qmb, .ref qmt, .int 0, .ref qmr, .int 0, .ref qmB, .int 0, .ref qmO, .ref qmK, .int 0, .int 0, .int 1, .null, .null, .int 0, .int 0, .int 0, .long 0, .int 0, .ref qm_three, .int 0, .int 0, .int 0, .null, .ref qm_unread, .ref qm_tryRow, .ref qm_bestRow, .ref qm_steps, .int 0])), (qms, .inl (cy 0, 8, .inl (upd (fun _ => 0) 7 1))), (qmo, .inl (cy 0, 8, .inl (upd (fun _ => 0) 7 iB))), (qmz, .inl (cy 0, 8, .inl (upd (fun _ => 0) 7 iC))), (qmr, .inl (cy 0, 8, .inl (fun _ => 0))), (qmR, .inl (cy 4, 8, .inr (.inr (.inr (.inr (fun i => if i < 8 then some (rR i) else none)))))), (rR 0, .inl (cy 1, 40, .inr (.inl (fun _ => 0)))), (rR 1, .inl (cy 1, 40, .inr (.inl (fun _ => 0)))), (rR 2, .inl (cy 1, 40, .inr (.inl (fun _ => 0)))), (rR 3, .inl (cy 1, 40, .inr (.inl (fun _ => 0)))), (rR 4, .inl (cy 1, 40, .inr (.inl (fun _ => 0)))), (rR 5, .inl (cy 1, 40, .inr (.inl (fun _ => 0)))), (rR 6, .inl (cy 1, 40, .inr (.inl (fun _ => 0)))), (rR 7, .inl (cy 1, 40, .inr (.inl (vp_updL fT_95 xJ_94.toNatClampNeg 0))))] H := hP
                have hD : va_D A [(qm, .inr (5, [.ref qms, .ref qmo, .ref qmz, .ref qmR, .ref qmv, .ref qmk, .ref qmb, .ref qmt, .int 0, .ref qmr, .int 0, .ref qmB, .int 0, .ref qmO, .ref qmK, .int 0, .int 0, .int 1, .null, .null, .int 0, .int 0, .int 0, .long 0, .int 0, .ref qm_three, .int 0, .int 0, .int 0, .null, .ref qm_unread, .ref qm_tryRow, .ref qm_bestRow, .ref qm_steps, .int 0])), (qms, .inl (cy 0, 8, .inl (upd (fun _ => 0) 7 1))), (qmo, .inl (cy 0, 8, .inl (upd (fun _ => 0) 7 iB))), (qmz, .inl (cy 0, 8, .inl (upd (fun _ => 0) 7 iC))), (qmr, .inl (cy 0, 8, .inl (fun _ => 0))), (qmR, .inl (cy 4, 8, .inr (.inr (.inr (.inr (fun i => if i < 8 then some (rR i) else none)))))), (rR 0, .inl (cy 1, 40, .inr (.inl (fun _ => 0)))), (rR 1, .inl (cy 1, 40, .inr (.inl (fun _ => 0)))), (rR 2, .inl (cy 1, 40, .inr (.inl (fun _ => 0)))), (rR 3, .inl (cy 1, 40, .inr (.inl (fun _ => 0)))), (rR 4, .inl (cy 1, 40, .inr (.inl (fun _ => 0)))), (rR 5, .inl (cy 1, 40, .inr (.inl (fun _ => 0)))), (rR 6, .inl (cy 1, 40, .inr (.inl (fun _ => 0)))), (rR 7, .inl (cy 1, 40, .inr (.inl (vp_updL fT_95 xJ_94.toNatClampNeg 0))))] := hD
                refine lv_iinc (v := xJ_94 + 1) (lv' := [(4, .int (xJ_94 + 1)), (0, .ref qm), (1, .int 7), (2, .int iB), (3, .int iC)]) hx hb dX6_row_84 hl (k := 0) rfl (rfl) (by decide) rfl (fun ls hl => ?_)
                refine lv_goto (tgt := 67) hx hb dX6_row_87 (by decide) ?_
                exact ih_92 (j_93 + 1) (xJ_94 + 1) (vp_updL fT_95 xJ_94.toNatClampNeg 0) (by omega) (by rw [hxJ_96]; exact nI_1 _) (by omega) _ _ _ hP hD hS (lv_sub hl [0, 1, 2, 3, 4] rfl)
          exact lp_90 ((40 - 0) + 1) 0 0 (fun _ => 0) (Nat.lt_succ_self _) rfl (Nat.zero_le _) _ _ ls hP hD hS (lv_sub hl [0, 1, 2, 3, 4] rfl)
      · refine lv_if_ne (tgt := 43) hx hb dX6_row_33 (by decide) (fun h9 => absurd (by decide) h9) (fun _ => ?_)
        refine lv_aload_n hx hb dX6_row_36 rfl (lv_at hl 0 rfl) ?_
        refine lv_bipush (v := (-2)) hx hb dX6_row_37 (by decide) ?_
        refine kWi (wr := [(qms, .inl (cy 0, 8, .inl (fun _ => 0))), (qmo, .inl (cy 0, 8, .inl (fun _ => 0))), (qmz, .inl (cy 0, 8, .inl (fun _ => 0))), (qmR, .inl (cy 4, 8, .inr (.inr (.inr (.inr (fun i => if i < 8 then some (rR i) else none)))))), (rR 0, .inl (cy 1, 40, .inr (.inl (fun _ => 0)))), (rR 1, .inl (cy 1, 40, .inr (.inl (fun _ => 0)))), (rR 2, .inl (cy 1, 40, .inr (.inl (fun _ => 0)))), (rR 3, .inl (cy 1, 40, .inr (.inl (fun _ => 0)))), (rR 4, .inl (cy 1, 40, .inr (.inl (fun _ => 0)))), (rR 5, .inl (cy 1, 40, .inr (.inl (fun _ => 0)))), (rR 6, .inl (cy 1, 40, .inr (.inl (fun _ => 0)))), (rR 7, .inl (cy 1, 40, .inr (.inl (fun _ => 0))))]) (rV (As := [.int (-2)]) (rest := []) (b := qm) ⟨hx, hb, hml, hown, hts⟩ (c_X6_refuse2 l G cy (s.heap).size qm (.ref qms) (.ref qmo) (.ref qmz) (.ref qmR) (.ref qmv) (.ref qmk) (.ref qmb) (.ref qmt) (.int 0) qmr (.int 0) (.ref qmB) (.int 0) (.ref qmO) (.ref qmK) (.int 0) (.int 0) (.int 1) .null .null (.int 0) (.int 0) (.int 0) (.long 0) (.int 0) (.ref qm_three) (.int 0) (.int 0) (.int 0) .null (.ref qm_unread) (.ref qm_tryRow) (.ref qm_bestRow) (.ref qm_steps) (.int 0) (fun _ => 0)) L_X6_91 (preWV (q := (RX6, TX6, 35)) hN hP hD [0, 4] rfl (by decide) 0 5 rfl rfl) rfl ⟨Nat.le_of_ble_eq_true rfl, Nat.le_of_ble_eq_true rfl⟩ hl.1 (Nat.le_of_ble_eq_true rfl) dX6_row_39 ⟨Nat.le_of_ble_eq_true rfl, Nat.le_of_ble_eq_true rfl⟩) hP hD hS hA [0, 4] [1, 2, 3, 5, 6, 7, 8, 9, 10, 11, 12, 13] rfl rfl (by decide) (by decide) (fun r_102 u_104 H locs h_103 hP hD hS => ?_)
        obtain ⟨rfl, h_103⟩ := h_103
        have hP : va_P G CL [(qms, .inl (cy 0, 8, .inl (fun _ => 0))), (qmo, .inl (cy 0, 8, .inl (fun _ => 0))), (qmz, .inl (cy 0, 8, .inl (fun _ => 0))), (qmR, .inl (cy 4, 8, .inr (.inr (.inr (.inr (fun i => if i < 8 then some (rR i) else none)))))), (rR 0, .inl (cy 1, 40, .inr (.inl (fun _ => 0)))), (rR 1, .inl (cy 1, 40, .inr (.inl (fun _ => 0)))), (rR 2, .inl (cy 1, 40, .inr (.inl (fun _ => 0)))), (rR 3, .inl (cy 1, 40, .inr (.inl (fun _ => 0)))), (rR 4, .inl (cy 1, 40, .inr (.inl (fun _ => 0)))), (rR 5, .inl (cy 1, 40, .inr (.inl (fun _ => 0)))), (rR 6, .inl (cy 1, 40, .inr (.inl (fun _ => 0)))), (rR 7, .inl (cy 1, 40, .inr (.inl (fun _ => 0)))), (qm, .inr (5, [.ref qms, .ref qmo, .ref qmz, .ref qmR, .ref qmv, .ref qmk, .ref qmb, .ref qmt, .int 0, .ref qmr, .int 0, .ref qmB, .int 0, .ref qmO, .ref qmK, .int 0, .int 0, .int 1, .null, .null, .int 0, .int 0, .int 0, .long 0, .int 0, .ref qm_three, .int 0, .int 0, .int 0, .null, .ref qm_unread, .ref qm_tryRow, .ref qm_bestRow, .ref qm_steps, .int 0]))] H := hP
        have hD : va_D A [(qms, .inl (cy 0, 8, .inl (fun _ => 0))), (qmo, .inl (cy 0, 8, .inl (fun _ => 0))), (qmz, .inl (cy 0, 8, .inl (fun _ => 0))), (qmR, .inl (cy 4, 8, .inr (.inr (.inr (.inr (fun i => if i < 8 then some (rR i) else none)))))), (rR 0, .inl (cy 1, 40, .inr (.inl (fun _ => 0)))), (rR 1, .inl (cy 1, 40, .inr (.inl (fun _ => 0)))), (rR 2, .inl (cy 1, 40, .inr (.inl (fun _ => 0)))), (rR 3, .inl (cy 1, 40, .inr (.inl (fun _ => 0)))), (rR 4, .inl (cy 1, 40, .inr (.inl (fun _ => 0)))), (rR 5, .inl (cy 1, 40, .inr (.inl (fun _ => 0)))), (rR 6, .inl (cy 1, 40, .inr (.inl (fun _ => 0)))), (rR 7, .inl (cy 1, 40, .inr (.inl (fun _ => 0)))), (qm, .inr (5, [.ref qms, .ref qmo, .ref qmz, .ref qmR, .ref qmv, .ref qmk, .ref qmb, .ref qmt, .int 0, .ref qmr, .int 0, .ref qmB, .int 0, .ref qmO, .ref qmK, .int 0, .int 0, .int 1, .null, .null, .int 0, .int 0, .int 0, .long 0, .int 0, .ref qm_three, .int 0, .int 0, .int 0, .null, .ref qm_unread, .ref qm_tryRow, .ref qm_bestRow, .ref qm_steps, .int 0]))] := hD
        subst h_103
        exact endW (u := []) hx hb hr hlocks rfl va_P0 va_D0 hS ⟨rfl, (by first | (simp [sp_row, Iv, h_3, h_7, h_11]; done) | (rw [sp_row, if_pos ⟨h_3, h_7, h_11⟩]))⟩ dX6_row_42
    · refine lv_if_eq (tgt := 36) hx hb dX6_row_21 (by decide) (fun _ => ?_) (fun h9 => absurd (by decide) h9)
      refine lv_aload_n hx hb dX6_row_36 rfl (lv_at hl 0 rfl) ?_
      refine lv_bipush (v := (-2)) hx hb dX6_row_37 (by decide) ?_
      refine kWi (wr := [(qms, .inl (cy 0, 8, .inl (fun _ => 0))), (qmo, .inl (cy 0, 8, .inl (fun _ => 0))), (qmz, .inl (cy 0, 8, .inl (fun _ => 0))), (qmR, .inl (cy 4, 8, .inr (.inr (.inr (.inr (fun i => if i < 8 then some (rR i) else none)))))), (rR 0, .inl (cy 1, 40, .inr (.inl (fun _ => 0)))), (rR 1, .inl (cy 1, 40, .inr (.inl (fun _ => 0)))), (rR 2, .inl (cy 1, 40, .inr (.inl (fun _ => 0)))), (rR 3, .inl (cy 1, 40, .inr (.inl (fun _ => 0)))), (rR 4, .inl (cy 1, 40, .inr (.inl (fun _ => 0)))), (rR 5, .inl (cy 1, 40, .inr (.inl (fun _ => 0)))), (rR 6, .inl (cy 1, 40, .inr (.inl (fun _ => 0)))), (rR 7, .inl (cy 1, 40, .inr (.inl (fun _ => 0))))]) (rV (As := [.int (-2)]) (rest := []) (b := qm) ⟨hx, hb, hml, hown, hts⟩ (c_X6_refuse2 l G cy (s.heap).size qm (.ref qms) (.ref qmo) (.ref qmz) (.ref qmR) (.ref qmv) (.ref qmk) (.ref qmb) (.ref qmt) (.int 0) qmr (.int 0) (.ref qmB) (.int 0) (.ref qmO) (.ref qmK) (.int 0) (.int 0) (.int 1) .null .null (.int 0) (.int 0) (.int 0) (.long 0) (.int 0) (.ref qm_three) (.int 0) (.int 0) (.int 0) .null (.ref qm_unread) (.ref qm_tryRow) (.ref qm_bestRow) (.ref qm_steps) (.int 0) (fun _ => 0)) L_X6_91 (preWV (q := (RX6, TX6, 35)) hN hP hD [0, 4] rfl (by decide) 0 5 rfl rfl) rfl ⟨Nat.le_of_ble_eq_true rfl, Nat.le_of_ble_eq_true rfl⟩ hl.1 (Nat.le_of_ble_eq_true rfl) dX6_row_39 ⟨Nat.le_of_ble_eq_true rfl, Nat.le_of_ble_eq_true rfl⟩) hP hD hS hA [0, 4] [1, 2, 3, 5, 6, 7, 8, 9, 10, 11, 12, 13] rfl rfl (by decide) (by decide) (fun r_106 u_108 H locs h_107 hP hD hS => ?_)
      obtain ⟨rfl, h_107⟩ := h_107
      have hP : va_P G CL [(qms, .inl (cy 0, 8, .inl (fun _ => 0))), (qmo, .inl (cy 0, 8, .inl (fun _ => 0))), (qmz, .inl (cy 0, 8, .inl (fun _ => 0))), (qmR, .inl (cy 4, 8, .inr (.inr (.inr (.inr (fun i => if i < 8 then some (rR i) else none)))))), (rR 0, .inl (cy 1, 40, .inr (.inl (fun _ => 0)))), (rR 1, .inl (cy 1, 40, .inr (.inl (fun _ => 0)))), (rR 2, .inl (cy 1, 40, .inr (.inl (fun _ => 0)))), (rR 3, .inl (cy 1, 40, .inr (.inl (fun _ => 0)))), (rR 4, .inl (cy 1, 40, .inr (.inl (fun _ => 0)))), (rR 5, .inl (cy 1, 40, .inr (.inl (fun _ => 0)))), (rR 6, .inl (cy 1, 40, .inr (.inl (fun _ => 0)))), (rR 7, .inl (cy 1, 40, .inr (.inl (fun _ => 0)))), (qm, .inr (5, [.ref qms, .ref qmo, .ref qmz, .ref qmR, .ref qmv, .ref qmk, .ref qmb, .ref qmt, .int 0, .ref qmr, .int 0, .ref qmB, .int 0, .ref qmO, .ref qmK, .int 0, .int 0, .int 1, .null, .null, .int 0, .int 0, .int 0, .long 0, .int 0, .ref qm_three, .int 0, .int 0, .int 0, .null, .ref qm_unread, .ref qm_tryRow, .ref qm_bestRow, .ref qm_steps, .int 0]))] H := hP
      have hD : va_D A [(qms, .inl (cy 0, 8, .inl (fun _ => 0))), (qmo, .inl (cy 0, 8, .inl (fun _ => 0))), (qmz, .inl (cy 0, 8, .inl (fun _ => 0))), (qmR, .inl (cy 4, 8, .inr (.inr (.inr (.inr (fun i => if i < 8 then some (rR i) else none)))))), (rR 0, .inl (cy 1, 40, .inr (.inl (fun _ => 0)))), (rR 1, .inl (cy 1, 40, .inr (.inl (fun _ => 0)))), (rR 2, .inl (cy 1, 40, .inr (.inl (fun _ => 0)))), (rR 3, .inl (cy 1, 40, .inr (.inl (fun _ => 0)))), (rR 4, .inl (cy 1, 40, .inr (.inl (fun _ => 0)))), (rR 5, .inl (cy 1, 40, .inr (.inl (fun _ => 0)))), (rR 6, .inl (cy 1, 40, .inr (.inl (fun _ => 0)))), (rR 7, .inl (cy 1, 40, .inr (.inl (fun _ => 0)))), (qm, .inr (5, [.ref qms, .ref qmo, .ref qmz, .ref qmR, .ref qmv, .ref qmk, .ref qmb, .ref qmt, .int 0, .ref qmr, .int 0, .ref qmB, .int 0, .ref qmO, .ref qmK, .int 0, .int 0, .int 1, .null, .null, .int 0, .int 0, .int 0, .long 0, .int 0, .ref qm_three, .int 0, .int 0, .int 0, .null, .ref qm_unread, .ref qm_tryRow, .ref qm_bestRow, .ref qm_steps, .int 0]))] := hD
      subst h_107
      exact endW (u := []) hx hb hr hlocks rfl va_P0 va_D0 hS ⟨rfl, (by first | (simp [sp_row, Iv, h_3, h_7]; done) | (rw [sp_row, if_pos ⟨h_3, h_7⟩]))⟩ dX6_row_42
  · refine lv_if_eq (tgt := 36) hx hb dX6_row_9 (by decide) (fun _ => ?_) (fun h9 => absurd (by decide) h9)
    refine lv_aload_n hx hb dX6_row_36 rfl (lv_at hl 0 rfl) ?_
    refine lv_bipush (v := (-2)) hx hb dX6_row_37 (by decide) ?_
    refine kWi (wr := [(qms, .inl (cy 0, 8, .inl (fun _ => 0))), (qmo, .inl (cy 0, 8, .inl (fun _ => 0))), (qmz, .inl (cy 0, 8, .inl (fun _ => 0))), (qmR, .inl (cy 4, 8, .inr (.inr (.inr (.inr (fun i => if i < 8 then some (rR i) else none)))))), (rR 0, .inl (cy 1, 40, .inr (.inl (fun _ => 0)))), (rR 1, .inl (cy 1, 40, .inr (.inl (fun _ => 0)))), (rR 2, .inl (cy 1, 40, .inr (.inl (fun _ => 0)))), (rR 3, .inl (cy 1, 40, .inr (.inl (fun _ => 0)))), (rR 4, .inl (cy 1, 40, .inr (.inl (fun _ => 0)))), (rR 5, .inl (cy 1, 40, .inr (.inl (fun _ => 0)))), (rR 6, .inl (cy 1, 40, .inr (.inl (fun _ => 0)))), (rR 7, .inl (cy 1, 40, .inr (.inl (fun _ => 0))))]) (rV (As := [.int (-2)]) (rest := []) (b := qm) ⟨hx, hb, hml, hown, hts⟩ (c_X6_refuse2 l G cy (s.heap).size qm (.ref qms) (.ref qmo) (.ref qmz) (.ref qmR) (.ref qmv) (.ref qmk) (.ref qmb) (.ref qmt) (.int 0) qmr (.int 0) (.ref qmB) (.int 0) (.ref qmO) (.ref qmK) (.int 0) (.int 0) (.int 1) .null .null (.int 0) (.int 0) (.int 0) (.long 0) (.int 0) (.ref qm_three) (.int 0) (.int 0) (.int 0) .null (.ref qm_unread) (.ref qm_tryRow) (.ref qm_bestRow) (.ref qm_steps) (.int 0) (fun _ => 0)) L_X6_91 (preWV (q := (RX6, TX6, 35)) hN hP hD [0, 4] rfl (by decide) 0 5 rfl rfl) rfl ⟨Nat.le_of_ble_eq_true rfl, Nat.le_of_ble_eq_true rfl⟩ hl.1 (Nat.le_of_ble_eq_true rfl) dX6_row_39 ⟨Nat.le_of_ble_eq_true rfl, Nat.le_of_ble_eq_true rfl⟩) hP hD hS hA [0, 4] [1, 2, 3, 5, 6, 7, 8, 9, 10, 11, 12, 13] rfl rfl (by decide) (by decide) (fun r_110 u_112 H locs h_111 hP hD hS => ?_)
    obtain ⟨rfl, h_111⟩ := h_111
    have hP : va_P G CL [(qms, .inl (cy 0, 8, .inl (fun _ => 0))), (qmo, .inl (cy 0, 8, .inl (fun _ => 0))), (qmz, .inl (cy 0, 8, .inl (fun _ => 0))), (qmR, .inl (cy 4, 8, .inr (.inr (.inr (.inr (fun i => if i < 8 then some (rR i) else none)))))), (rR 0, .inl (cy 1, 40, .inr (.inl (fun _ => 0)))), (rR 1, .inl (cy 1, 40, .inr (.inl (fun _ => 0)))), (rR 2, .inl (cy 1, 40, .inr (.inl (fun _ => 0)))), (rR 3, .inl (cy 1, 40, .inr (.inl (fun _ => 0)))), (rR 4, .inl (cy 1, 40, .inr (.inl (fun _ => 0)))), (rR 5, .inl (cy 1, 40, .inr (.inl (fun _ => 0)))), (rR 6, .inl (cy 1, 40, .inr (.inl (fun _ => 0)))), (rR 7, .inl (cy 1, 40, .inr (.inl (fun _ => 0)))), (qm, .inr (5, [.ref qms, .ref qmo, .ref qmz, .ref qmR, .ref qmv, .ref qmk, .ref qmb, .ref qmt, .int 0, .ref qmr, .int 0, .ref qmB, .int 0, .ref qmO, .ref qmK, .int 0, .int 0, .int 1, .null, .null, .int 0, .int 0, .int 0, .long 0, .int 0, .ref qm_three, .int 0, .int 0, .int 0, .null, .ref qm_unread, .ref qm_tryRow, .ref qm_bestRow, .ref qm_steps, .int 0]))] H := hP
    have hD : va_D A [(qms, .inl (cy 0, 8, .inl (fun _ => 0))), (qmo, .inl (cy 0, 8, .inl (fun _ => 0))), (qmz, .inl (cy 0, 8, .inl (fun _ => 0))), (qmR, .inl (cy 4, 8, .inr (.inr (.inr (.inr (fun i => if i < 8 then some (rR i) else none)))))), (rR 0, .inl (cy 1, 40, .inr (.inl (fun _ => 0)))), (rR 1, .inl (cy 1, 40, .inr (.inl (fun _ => 0)))), (rR 2, .inl (cy 1, 40, .inr (.inl (fun _ => 0)))), (rR 3, .inl (cy 1, 40, .inr (.inl (fun _ => 0)))), (rR 4, .inl (cy 1, 40, .inr (.inl (fun _ => 0)))), (rR 5, .inl (cy 1, 40, .inr (.inl (fun _ => 0)))), (rR 6, .inl (cy 1, 40, .inr (.inl (fun _ => 0)))), (rR 7, .inl (cy 1, 40, .inr (.inl (fun _ => 0)))), (qm, .inr (5, [.ref qms, .ref qmo, .ref qmz, .ref qmR, .ref qmv, .ref qmk, .ref qmb, .ref qmt, .int 0, .ref qmr, .int 0, .ref qmB, .int 0, .ref qmO, .ref qmK, .int 0, .int 0, .int 1, .null, .null, .int 0, .int 0, .int 0, .long 0, .int 0, .ref qm_three, .int 0, .int 0, .int 0, .null, .ref qm_unread, .ref qm_tryRow, .ref qm_bestRow, .ref qm_steps, .int 0]))] := hD
    subst h_111
    exact endW (u := []) hx hb hr hlocks rfl va_P0 va_D0 hS ⟨rfl, (by first | (simp [sp_row, Iv, h_3]; done) | (rw [sp_row, if_pos ⟨h_3⟩]))⟩ dX6_row_42
set_option maxHeartbeats 4000000 in
set_option maxRecDepth 100000 in
theorem p_X6_set (l : Launch) (G : va_G) (cy : Nat → ClassId) (sz : Nat) (qm : Nat) (qms : Nat) (qmo : Nat) (qmz : Nat) (qmR : Nat) (qmv : Nat) (qmk : Nat) (qmb : Nat) (qmt : Nat) (qmr : Nat) (qmB : Nat) (qmO : Nat) (qmK : Nat) (qm_three : Nat) (qm_unread : Nat) (qm_tryRow : Nat) (qm_bestRow : Nat) (qm_steps : Nat) (iA : Int32) (iB : Int32) (J1 : Int64)   : MW l yX6_set cX6_set 6 (some .int) 6 0 0 G cy [(qm, .inr (5, [.ref qms, .ref qmo, .ref qmz, .ref qmR, .ref qmv, .ref qmk, .ref qmb, .ref qmt, .int 0, .ref qmr, .int 0, .ref qmB, .int 0, .ref qmO, .ref qmK, .int 0, .int 0, .int 1, .null, .null, .int 0, .int 0, .int 0, .long 0, .int 0, .ref qm_three, .int 0, .int 0, .int 0, .null, .ref qm_unread, .ref qm_tryRow, .ref qm_bestRow, .ref qm_steps, .int 0])), (qms, .inl (cy 0, 8, .inl (fun _ => 0))), (qmr, .inl (cy 0, 8, .inl (fun _ => 0)))] sz [.ref qm, .int iA, .int iB, .long J1] (Wi G (fun r u => u = [] ∧ ((r = (sp_shelf iA))))) := by
  refine enW RX6 (by decide) rfl (Nat.le_of_ble_eq_true rfl) (fun p e s m below meth c ls A hx hb hml hown hts hr hlocks hP hN hl hin hD hA hS => ?_)
  have hin : meth.name = _ := hin
  have hK := hN.1
  have hl : lv_has ls 6 [(0, .ref qm), (1, .int iA), (2, .int iB), (3, .long J1)] := hl
  refine lv_aload_n hx hb dX6_set_0 rfl (lv_at hl 0 rfl) ?_
  refine lv_iload_n hx hb dX6_set_1 rfl (lv_at hl 1 rfl) ?_
  refine kWi (wr := []) (rV (As := [.int iA]) (rest := []) (b := qm) ⟨hx, hb, hml, hown, hts⟩ (c_X6_noRow l G cy (s.heap).size qm qms (.ref qmo) (.ref qmz) (.ref qmR) (.ref qmv) (.ref qmk) (.ref qmb) (.ref qmt) (.int 0) qmr (.int 0) (.ref qmB) (.int 0) (.ref qmO) (.ref qmK) (.int 0) (.int 0) (.int 1) .null .null (.int 0) (.int 0) (.int 0) (.long 0) (.int 0) (.ref qm_three) (.int 0) (.int 0) (.int 0) .null (.ref qm_unread) (.ref qm_tryRow) (.ref qm_bestRow) (.ref qm_steps) (.int 0) iA) L_X6_95 (preWV (q := (RX6, TX6, 35)) hN hP hD [0, 1, 2] rfl (by decide) 0 5 rfl rfl) rfl ⟨Nat.le_of_ble_eq_true rfl, Nat.le_of_ble_eq_true rfl⟩ hl.1 (Nat.le_of_ble_eq_true rfl) dX6_set_2 ⟨Nat.le_of_ble_eq_true rfl, Nat.le_of_ble_eq_true rfl⟩) hP hD hS hA [0, 1, 2] [] rfl rfl (by decide) (by decide) (fun r_1 u_3 H locs h_2 hP hD hS => ?_)
  obtain ⟨rfl, h_2⟩ := h_2
  have hP : va_P G CL [] H := hP
  have hD : va_D A [] := hD
  rcases h_2 with ⟨rfl, h_4⟩ | ⟨rfl, h_4⟩
  · refine lv_istore (lv' := [(5, .int (-2)), (0, .ref qm), (1, .int iA), (2, .int iB), (3, .long J1)]) hx hb dX6_set_5 hl (by decide) rfl (fun ls hl => ?_)
    refine lv_iload hx hb dX6_set_7 (lv_at hl 0 rfl) ?_
    refine lv_if_eq (tgt := 15) hx hb dX6_set_9 (by decide) (fun h9 => absurd h9 (by decide)) (fun _ => ?_)
    refine lv_iload hx hb dX6_set_12 (lv_at hl 0 rfl) ?_
    exact endW (u := []) hx hb hr hlocks rfl va_P0 va_D0 hS ⟨rfl, (by first | (simp [sp_shelf, Iv, h_4]; done) | (unfold sp_shelf; decide))⟩ dX6_set_14
  · refine lv_istore (lv' := [(5, .int (-4)), (0, .ref qm), (1, .int iA), (2, .int iB), (3, .long J1)]) hx hb dX6_set_5 hl (by decide) rfl (fun ls hl => ?_)
    refine lv_iload hx hb dX6_set_7 (lv_at hl 0 rfl) ?_
    refine lv_if_eq (tgt := 15) hx hb dX6_set_9 (by decide) (fun h9 => absurd h9 (by decide)) (fun _ => ?_)
    refine lv_iload hx hb dX6_set_12 (lv_at hl 0 rfl) ?_
    exact endW (u := []) hx hb hr hlocks rfl va_P0 va_D0 hS ⟨rfl, (by first | (simp [sp_shelf, Iv, h_4]; done) | (unfold sp_shelf; decide))⟩ dX6_set_14
set_option maxHeartbeats 4000000 in
set_option maxRecDepth 100000 in
theorem p_X6_copy (l : Launch) (G : va_G) (cy : Nat → ClassId) (sz : Nat) (qm : Nat) (qms : Nat) (qmo : Nat) (qmz : Nat) (qmR : Nat) (qmv : Nat) (qmk : Nat) (qmb : Nat) (qmt : Nat) (qmr : Nat) (qmB : Nat) (qmO : Nat) (qmK : Nat) (qm_three : Nat) (qm_unread : Nat) (qm_tryRow : Nat) (qm_bestRow : Nat) (qm_steps : Nat) (iA : Int32) (iB : Int32) (iC : Int32) (iD : Int32) (iE : Int32)   : MW l yX6_copy cX6_copy 7 (some .int) 6 0 0 G cy [(qm, .inr (5, [.ref qms, .ref qmo, .ref qmz, .ref qmR, .ref qmv, .ref qmk, .ref qmb, .ref qmt, .int 0, .ref qmr, .int 0, .ref qmB, .int 0, .ref qmO, .ref qmK, .int 0, .int 0, .int 1, .null, .null, .int 0, .int 0, .int 0, .long 0, .int 0, .ref qm_three, .int 0, .int 0, .int 0, .null, .ref qm_unread, .ref qm_tryRow, .ref qm_bestRow, .ref qm_steps, .int 0])), (qms, .inl (cy 0, 8, .inl (fun _ => 0))), (qmr, .inl (cy 0, 8, .inl (fun _ => 0)))] sz [.ref qm, .int iA, .int iB, .int iC, .int iD, .int iE] (Wi G (fun r u => u = [] ∧ ((r = (sp_copy iA iB))))) := by
  refine enW RX6 (by decide) rfl (Nat.le_of_ble_eq_true rfl) (fun p e s m below meth c ls A hx hb hml hown hts hr hlocks hP hN hl hin hD hA hS => ?_)
  have hin : meth.name = _ := hin
  have hK := hN.1
  have hl : lv_has ls 7 [(0, .ref qm), (1, .int iA), (2, .int iB), (3, .int iC), (4, .int iD), (5, .int iE)] := hl
  refine lv_iload_n hx hb dX6_copy_0 rfl (lv_at hl 1 rfl) ?_
  refine lv_i2l (v := iA.toInt64) hx hb dX6_copy_1 rfl ?_
  refine lv_lconst (v := 0) hx hb dX6_copy_2 (by decide) ?_
  refine lv_ldc2 hx hb hown (hts _ m_t960) dX6_copy_3 ?_
  refine kRi (rS (As := [.long iA.toInt64, .long 0, .long 7]) (rest := []) ⟨hx, hb, hml, hown, hts⟩ (c_X6_in l G cy iA.toInt64 0 7) L_X6_74 (preRS hN hP [] rfl) rfl ⟨Nat.le_of_ble_eq_true rfl, Nat.le_of_ble_eq_true rfl⟩ hl.1 (Nat.le_of_ble_eq_true rfl) dX6_copy_6 ⟨Nat.le_of_ble_eq_true rfl, Nat.le_of_ble_eq_true rfl⟩) (fun r_1 h_2 => ?_)
  rcases h_2 with ⟨rfl, h_3⟩ | ⟨rfl, h_3⟩
  · refine lv_if_eq (tgt := 24) hx hb dX6_copy_9 (by decide) (fun h9 => absurd h9 (by decide)) (fun _ => ?_)
    refine lv_iload_n hx hb dX6_copy_12 rfl (lv_at hl 2 rfl) ?_
    refine lv_i2l (v := iB.toInt64) hx hb dX6_copy_13 rfl ?_
    refine lv_lconst (v := 0) hx hb dX6_copy_14 (by decide) ?_
    refine lv_ldc2 hx hb hown (hts _ m_t960) dX6_copy_15 ?_
    refine kRi (rS (As := [.long iB.toInt64, .long 0, .long 7]) (rest := []) ⟨hx, hb, hml, hown, hts⟩ (c_X6_in l G cy iB.toInt64 0 7) L_X6_74 (preRS hN hP [] rfl) rfl ⟨Nat.le_of_ble_eq_true rfl, Nat.le_of_ble_eq_true rfl⟩ hl.1 (Nat.le_of_ble_eq_true rfl) dX6_copy_18 ⟨Nat.le_of_ble_eq_true rfl, Nat.le_of_ble_eq_true rfl⟩) (fun r_5 h_6 => ?_)
    rcases h_6 with ⟨rfl, h_7⟩ | ⟨rfl, h_7⟩
    · refine lv_if_ne (tgt := 31) hx hb dX6_copy_21 (by decide) (fun _ => ?_) (fun h9 => absurd h9 (by decide))
      refine lv_aload_n hx hb dX6_copy_31 rfl (lv_at hl 0 rfl) ?_
      refine va_get (D := G) (ci := 5) (v := .ref qms) (C := RX6) (T := TX6) (N := 35) hx hb hts iX_X6 hown hK hP 0 rfl rfl 0 (by decide) (hts _ m_t850) (fun _ h9 => h9) rfl dX6_copy_32 ?_
      refine lv_iload_n hx hb dX6_copy_35 rfl (lv_at hl 1 rfl) ?_
      refine va_iald hx hb hK hP 1 0 rfl rfl (in_shelf h_3) dX6_copy_36 ?_
      refine lv_seti (v := 0) rfl ?_
      refine lv_iconst (v := 2) hx hb dX6_copy_37 (by decide) ?_
      refine lv_icmp_eq (tgt := 86) hx hb dX6_copy_38 (by decide) (fun h9 => absurd h9 (by decide)) (fun _ => ?_)
      refine lv_aload_n hx hb dX6_copy_41 rfl (lv_at hl 0 rfl) ?_
      refine va_get (D := G) (ci := 5) (v := .ref qms) (C := RX6) (T := TX6) (N := 35) hx hb hts iX_X6 hown hK hP 0 rfl rfl 0 (by decide) (hts _ m_t850) (fun _ h9 => h9) rfl dX6_copy_42 ?_
      refine lv_iload_n hx hb dX6_copy_45 rfl (lv_at hl 2 rfl) ?_
      refine va_iald hx hb hK hP 1 0 rfl rfl (in_shelf h_7) dX6_copy_46 ?_
      refine lv_seti (v := 0) rfl ?_
      refine lv_iconst (v := 2) hx hb dX6_copy_47 (by decide) ?_
      refine lv_icmp_eq (tgt := 86) hx hb dX6_copy_48 (by decide) (fun h9 => absurd h9 (by decide)) (fun _ => ?_)
      refine lv_aload_n hx hb dX6_copy_51 rfl (lv_at hl 0 rfl) ?_
      refine va_get (D := G) (ci := 5) (v := .ref qms) (C := RX6) (T := TX6) (N := 35) hx hb hts iX_X6 hown hK hP 0 rfl rfl 0 (by decide) (hts _ m_t850) (fun _ h9 => h9) rfl dX6_copy_52 ?_
      refine lv_iload_n hx hb dX6_copy_55 rfl (lv_at hl 1 rfl) ?_
      refine va_iald hx hb hK hP 1 0 rfl rfl (in_shelf h_3) dX6_copy_56 ?_
      refine lv_seti (v := 0) rfl ?_
      refine lv_iconst (v := 1) hx hb dX6_copy_57 (by decide) ?_
      refine lv_icmp_ne (tgt := 93) hx hb dX6_copy_58 (by decide) (fun _ => ?_) (fun h9 => absurd h9 (by decide))
      refine lv_aload_n hx hb dX6_copy_93 rfl (lv_at hl 0 rfl) ?_
      refine va_get (D := G) (ci := 5) (v := .ref qms) (C := RX6) (T := TX6) (N := 35) hx hb hts iX_X6 hown hK hP 0 rfl rfl 0 (by decide) (hts _ m_t850) (fun _ h9 => h9) rfl dX6_copy_94 ?_
      refine lv_iload_n hx hb dX6_copy_97 rfl (lv_at hl 1 rfl) ?_
      refine va_iald hx hb hK hP 1 0 rfl rfl (in_shelf h_3) dX6_copy_98 ?_
      refine lv_seti (v := 0) rfl ?_
      refine lv_if_eq (tgt := 111) hx hb dX6_copy_99 (by decide) (fun _ => ?_) (fun h9 => absurd (by decide) h9)
      refine lv_aload_n hx hb dX6_copy_111 rfl (lv_at hl 0 rfl) ?_
      refine lv_bipush (v := (-4)) hx hb dX6_copy_112 (by decide) ?_
      refine kWi (wr := [(qms, .inl (cy 0, 8, .inl (fun _ => 0)))]) (rV (As := [.int (-4)]) (rest := []) (b := qm) ⟨hx, hb, hml, hown, hts⟩ (c_X6_refuse4 l G cy (s.heap).size qm (.ref qms) (.ref qmo) (.ref qmz) (.ref qmR) (.ref qmv) (.ref qmk) (.ref qmb) (.ref qmt) (.int 0) qmr (.int 0) (.ref qmB) (.int 0) (.ref qmO) (.ref qmK) (.int 0) (.int 0) (.int 1) .null .null (.int 0) (.int 0) (.int 0) (.long 0) (.int 0) (.ref qm_three) (.int 0) (.int 0) (.int 0) .null (.ref qm_unread) (.ref qm_tryRow) (.ref qm_bestRow) (.ref qm_steps) (.int 0) (fun _ => 0)) L_X6_91 (preWV (q := (RX6, TX6, 35)) hN hP hD [0, 2] rfl (by decide) 0 5 rfl rfl) rfl ⟨Nat.le_of_ble_eq_true rfl, Nat.le_of_ble_eq_true rfl⟩ hl.1 (Nat.le_of_ble_eq_true rfl) dX6_copy_114 ⟨Nat.le_of_ble_eq_true rfl, Nat.le_of_ble_eq_true rfl⟩) hP hD hS hA [0, 2] [1] rfl rfl (by decide) (by decide) (fun r_13 u_15 H locs h_14 hP hD hS => ?_)
      obtain ⟨rfl, h_14⟩ := h_14
      have hP : va_P G CL [(qms, .inl (cy 0, 8, .inl (fun _ => 0))), (qm, .inr (5, [.ref qms, .ref qmo, .ref qmz, .ref qmR, .ref qmv, .ref qmk, .ref qmb, .ref qmt, .int 0, .ref qmr, .int 0, .ref qmB, .int 0, .ref qmO, .ref qmK, .int 0, .int 0, .int 1, .null, .null, .int 0, .int 0, .int 0, .long 0, .int 0, .ref qm_three, .int 0, .int 0, .int 0, .null, .ref qm_unread, .ref qm_tryRow, .ref qm_bestRow, .ref qm_steps, .int 0]))] H := hP
      have hD : va_D A [(qms, .inl (cy 0, 8, .inl (fun _ => 0))), (qm, .inr (5, [.ref qms, .ref qmo, .ref qmz, .ref qmR, .ref qmv, .ref qmk, .ref qmb, .ref qmt, .int 0, .ref qmr, .int 0, .ref qmB, .int 0, .ref qmO, .ref qmK, .int 0, .int 0, .int 1, .null, .null, .int 0, .int 0, .int 0, .long 0, .int 0, .ref qm_three, .int 0, .int 0, .int 0, .null, .ref qm_unread, .ref qm_tryRow, .ref qm_bestRow, .ref qm_steps, .int 0]))] := hD
      subst h_14
      exact endW (u := []) hx hb hr hlocks rfl va_P0 va_D0 hS ⟨rfl, (by first | (simp [sp_copy, Iv, h_3, h_7]; done) | (unfold sp_copy; decide))⟩ dX6_copy_117
    · refine lv_if_ne (tgt := 31) hx hb dX6_copy_21 (by decide) (fun h9 => absurd (by decide) h9) (fun _ => ?_)
      refine lv_aload_n hx hb dX6_copy_24 rfl (lv_at hl 0 rfl) ?_
      refine lv_bipush (v := (-2)) hx hb dX6_copy_25 (by decide) ?_
      refine kWi (wr := [(qms, .inl (cy 0, 8, .inl (fun _ => 0)))]) (rV (As := [.int (-2)]) (rest := []) (b := qm) ⟨hx, hb, hml, hown, hts⟩ (c_X6_refuse2 l G cy (s.heap).size qm (.ref qms) (.ref qmo) (.ref qmz) (.ref qmR) (.ref qmv) (.ref qmk) (.ref qmb) (.ref qmt) (.int 0) qmr (.int 0) (.ref qmB) (.int 0) (.ref qmO) (.ref qmK) (.int 0) (.int 0) (.int 1) .null .null (.int 0) (.int 0) (.int 0) (.long 0) (.int 0) (.ref qm_three) (.int 0) (.int 0) (.int 0) .null (.ref qm_unread) (.ref qm_tryRow) (.ref qm_bestRow) (.ref qm_steps) (.int 0) (fun _ => 0)) L_X6_91 (preWV (q := (RX6, TX6, 35)) hN hP hD [0, 2] rfl (by decide) 0 5 rfl rfl) rfl ⟨Nat.le_of_ble_eq_true rfl, Nat.le_of_ble_eq_true rfl⟩ hl.1 (Nat.le_of_ble_eq_true rfl) dX6_copy_27 ⟨Nat.le_of_ble_eq_true rfl, Nat.le_of_ble_eq_true rfl⟩) hP hD hS hA [0, 2] [1] rfl rfl (by decide) (by decide) (fun r_17 u_19 H locs h_18 hP hD hS => ?_)
      obtain ⟨rfl, h_18⟩ := h_18
      have hP : va_P G CL [(qms, .inl (cy 0, 8, .inl (fun _ => 0))), (qm, .inr (5, [.ref qms, .ref qmo, .ref qmz, .ref qmR, .ref qmv, .ref qmk, .ref qmb, .ref qmt, .int 0, .ref qmr, .int 0, .ref qmB, .int 0, .ref qmO, .ref qmK, .int 0, .int 0, .int 1, .null, .null, .int 0, .int 0, .int 0, .long 0, .int 0, .ref qm_three, .int 0, .int 0, .int 0, .null, .ref qm_unread, .ref qm_tryRow, .ref qm_bestRow, .ref qm_steps, .int 0]))] H := hP
      have hD : va_D A [(qms, .inl (cy 0, 8, .inl (fun _ => 0))), (qm, .inr (5, [.ref qms, .ref qmo, .ref qmz, .ref qmR, .ref qmv, .ref qmk, .ref qmb, .ref qmt, .int 0, .ref qmr, .int 0, .ref qmB, .int 0, .ref qmO, .ref qmK, .int 0, .int 0, .int 1, .null, .null, .int 0, .int 0, .int 0, .long 0, .int 0, .ref qm_three, .int 0, .int 0, .int 0, .null, .ref qm_unread, .ref qm_tryRow, .ref qm_bestRow, .ref qm_steps, .int 0]))] := hD
      subst h_18
      exact endW (u := []) hx hb hr hlocks rfl va_P0 va_D0 hS ⟨rfl, (by first | (simp [sp_copy, Iv, h_3, h_7]; done) | (unfold sp_copy; decide))⟩ dX6_copy_30
  · refine lv_if_eq (tgt := 24) hx hb dX6_copy_9 (by decide) (fun _ => ?_) (fun h9 => absurd (by decide) h9)
    refine lv_aload_n hx hb dX6_copy_24 rfl (lv_at hl 0 rfl) ?_
    refine lv_bipush (v := (-2)) hx hb dX6_copy_25 (by decide) ?_
    refine kWi (wr := [(qms, .inl (cy 0, 8, .inl (fun _ => 0)))]) (rV (As := [.int (-2)]) (rest := []) (b := qm) ⟨hx, hb, hml, hown, hts⟩ (c_X6_refuse2 l G cy (s.heap).size qm (.ref qms) (.ref qmo) (.ref qmz) (.ref qmR) (.ref qmv) (.ref qmk) (.ref qmb) (.ref qmt) (.int 0) qmr (.int 0) (.ref qmB) (.int 0) (.ref qmO) (.ref qmK) (.int 0) (.int 0) (.int 1) .null .null (.int 0) (.int 0) (.int 0) (.long 0) (.int 0) (.ref qm_three) (.int 0) (.int 0) (.int 0) .null (.ref qm_unread) (.ref qm_tryRow) (.ref qm_bestRow) (.ref qm_steps) (.int 0) (fun _ => 0)) L_X6_91 (preWV (q := (RX6, TX6, 35)) hN hP hD [0, 2] rfl (by decide) 0 5 rfl rfl) rfl ⟨Nat.le_of_ble_eq_true rfl, Nat.le_of_ble_eq_true rfl⟩ hl.1 (Nat.le_of_ble_eq_true rfl) dX6_copy_27 ⟨Nat.le_of_ble_eq_true rfl, Nat.le_of_ble_eq_true rfl⟩) hP hD hS hA [0, 2] [1] rfl rfl (by decide) (by decide) (fun r_21 u_23 H locs h_22 hP hD hS => ?_)
    obtain ⟨rfl, h_22⟩ := h_22
    have hP : va_P G CL [(qms, .inl (cy 0, 8, .inl (fun _ => 0))), (qm, .inr (5, [.ref qms, .ref qmo, .ref qmz, .ref qmR, .ref qmv, .ref qmk, .ref qmb, .ref qmt, .int 0, .ref qmr, .int 0, .ref qmB, .int 0, .ref qmO, .ref qmK, .int 0, .int 0, .int 1, .null, .null, .int 0, .int 0, .int 0, .long 0, .int 0, .ref qm_three, .int 0, .int 0, .int 0, .null, .ref qm_unread, .ref qm_tryRow, .ref qm_bestRow, .ref qm_steps, .int 0]))] H := hP
    have hD : va_D A [(qms, .inl (cy 0, 8, .inl (fun _ => 0))), (qm, .inr (5, [.ref qms, .ref qmo, .ref qmz, .ref qmR, .ref qmv, .ref qmk, .ref qmb, .ref qmt, .int 0, .ref qmr, .int 0, .ref qmB, .int 0, .ref qmO, .ref qmK, .int 0, .int 0, .int 1, .null, .null, .int 0, .int 0, .int 0, .long 0, .int 0, .ref qm_three, .int 0, .int 0, .int 0, .null, .ref qm_unread, .ref qm_tryRow, .ref qm_bestRow, .ref qm_steps, .int 0]))] := hD
    subst h_22
    exact endW (u := []) hx hb hr hlocks rfl va_P0 va_D0 hS ⟨rfl, (by first | (simp [sp_copy, Iv, h_3]; done) | (unfold sp_copy; decide))⟩ dX6_copy_30
set_option maxHeartbeats 4000000 in
set_option maxRecDepth 100000 in
theorem p_X6_element (l : Launch) (G : va_G) (cy : Nat → ClassId) (qm : Nat) (qms : Nat) (qmo : Nat) (qmz : Nat) (qmR : Nat) (qmv : Nat) (qmk : Nat) (qmb : Nat) (qmt : Nat) (qmr : Nat) (qmB : Nat) (qmO : Nat) (qmK : Nat) (qm_three : Nat) (qm_unread : Nat) (qm_tryRow : Nat) (qm_bestRow : Nat) (qm_steps : Nat) (iA : Int32) (iB : Int32)   : MR l yX6_element cX6_element 3 (some .long) 6 G cy [(qm, .inr (5, [.ref qms, .ref qmo, .ref qmz, .ref qmR, .ref qmv, .ref qmk, .ref qmb, .ref qmt, .int 0, .ref qmr, .int 0, .ref qmB, .int 0, .ref qmO, .ref qmK, .int 0, .int 0, .int 1, .null, .null, .int 0, .int 0, .int 0, .long 0, .int 0, .ref qm_three, .int 0, .int 0, .int 0, .null, .ref qm_unread, .ref qm_tryRow, .ref qm_bestRow, .ref qm_steps, .int 0])), (qms, .inl (cy 0, 8, .inl (fun _ => 0)))] [.ref qm, .int iA, .int iB] (vp_Sl (fun r => (r = 0))) := by
  refine enR RX6 (by decide) rfl (Nat.le_of_ble_eq_true rfl) (fun p e s m below meth c ls hx hb hml hown hts hr hlocks hP hN hl => ?_)
  have hK := hN.1
  have hl : lv_has ls 3 [(0, .ref qm), (1, .int iA), (2, .int iB)] := hl
  refine lv_iload_n hx hb dX6_element_0 rfl (lv_at hl 1 rfl) ?_
  refine lv_i2l (v := iA.toInt64) hx hb dX6_element_1 rfl ?_
  refine lv_lconst (v := 0) hx hb dX6_element_2 (by decide) ?_
  refine lv_ldc2 hx hb hown (hts _ m_t960) dX6_element_3 ?_
  refine kRi (rS (As := [.long iA.toInt64, .long 0, .long 7]) (rest := []) ⟨hx, hb, hml, hown, hts⟩ (c_X6_in l G cy iA.toInt64 0 7) L_X6_74 (preRS hN hP [] rfl) rfl ⟨Nat.le_of_ble_eq_true rfl, Nat.le_of_ble_eq_true rfl⟩ hl.1 (Nat.le_of_ble_eq_true rfl) dX6_element_6 ⟨Nat.le_of_ble_eq_true rfl, Nat.le_of_ble_eq_true rfl⟩) (fun r_1 h_2 => ?_)
  rcases h_2 with ⟨rfl, h_3⟩ | ⟨rfl, h_3⟩
  · refine lv_if_eq (tgt := 51) hx hb dX6_element_9 (by decide) (fun h9 => absurd h9 (by decide)) (fun _ => ?_)
    refine lv_aload_n hx hb dX6_element_12 rfl (lv_at hl 0 rfl) ?_
    refine va_get (D := G) (ci := 5) (v := .ref qms) (C := RX6) (T := TX6) (N := 35) hx hb hts iX_X6 hown hK hP 0 rfl rfl 0 (by decide) (hts _ m_t850) (fun _ h9 => h9) rfl dX6_element_13 ?_
    refine lv_iload_n hx hb dX6_element_16 rfl (lv_at hl 1 rfl) ?_
    refine va_iald hx hb hK hP 1 0 rfl rfl (in_shelf h_3) dX6_element_17 ?_
    refine lv_seti (v := 0) rfl ?_
    refine lv_iconst (v := 1) hx hb dX6_element_18 (by decide) ?_
    refine lv_icmp_ne (tgt := 51) hx hb dX6_element_19 (by decide) (fun _ => ?_) (fun h9 => absurd h9 (by decide))
    refine lv_lconst (v := 0) hx hb dX6_element_51 (by decide) ?_
    exact endRl hx hb hr hlocks rfl dX6_element_52
  · refine lv_if_eq (tgt := 51) hx hb dX6_element_9 (by decide) (fun _ => ?_) (fun h9 => absurd (by decide) h9)
    refine lv_lconst (v := 0) hx hb dX6_element_51 (by decide) ?_
    exact endRl hx hb hr hlocks rfl dX6_element_52
set_option maxHeartbeats 4000000 in
set_option maxRecDepth 100000 in
theorem p_X6_holds (l : Launch) (G : va_G) (cy : Nat → ClassId) (qm : Nat) (qms : Nat) (qmo : Nat) (qmz : Nat) (qmR : Nat) (qmv : Nat) (qmk : Nat) (qmb : Nat) (qmt : Nat) (qmr : Nat) (qmB : Nat) (qmO : Nat) (qmK : Nat) (qm_three : Nat) (qm_unread : Nat) (qm_tryRow : Nat) (qm_bestRow : Nat) (qm_steps : Nat) (iA : Int32)   : MR l yX6_holds cX6_holds 2 (some .int) 6 G cy [(qm, .inr (5, [.ref qms, .ref qmo, .ref qmz, .ref qmR, .ref qmv, .ref qmk, .ref qmb, .ref qmt, .int 0, .ref qmr, .int 0, .ref qmB, .int 0, .ref qmO, .ref qmK, .int 0, .int 0, .int 1, .null, .null, .int 0, .int 0, .int 0, .long 0, .int 0, .ref qm_three, .int 0, .int 0, .int 0, .null, .ref qm_unread, .ref qm_tryRow, .ref qm_bestRow, .ref qm_steps, .int 0])), (qms, .inl (cy 0, 8, .inl (fun _ => 0)))] [.ref qm, .int iA] (vp_Si (fun r => (r = (-1)))) := by
  refine enR RX6 (by decide) rfl (Nat.le_of_ble_eq_true rfl) (fun p e s m below meth c ls hx hb hml hown hts hr hlocks hP hN hl => ?_)
  have hK := hN.1
  have hl : lv_has ls 2 [(0, .ref qm), (1, .int iA)] := hl
  refine lv_iload_n hx hb dX6_holds_0 rfl (lv_at hl 1 rfl) ?_
  refine lv_i2l (v := iA.toInt64) hx hb dX6_holds_1 rfl ?_
  refine lv_lconst (v := 0) hx hb dX6_holds_2 (by decide) ?_
  refine lv_ldc2 hx hb hown (hts _ m_t960) dX6_holds_3 ?_
  refine kRi (rS (As := [.long iA.toInt64, .long 0, .long 7]) (rest := []) ⟨hx, hb, hml, hown, hts⟩ (c_X6_in l G cy iA.toInt64 0 7) L_X6_74 (preRS hN hP [] rfl) rfl ⟨Nat.le_of_ble_eq_true rfl, Nat.le_of_ble_eq_true rfl⟩ hl.1 (Nat.le_of_ble_eq_true rfl) dX6_holds_6 ⟨Nat.le_of_ble_eq_true rfl, Nat.le_of_ble_eq_true rfl⟩) (fun r_1 h_2 => ?_)
  rcases h_2 with ⟨rfl, h_3⟩ | ⟨rfl, h_3⟩
  · refine lv_if_eq (tgt := 21) hx hb dX6_holds_9 (by decide) (fun h9 => absurd h9 (by decide)) (fun _ => ?_)
    refine lv_aload_n hx hb dX6_holds_12 rfl (lv_at hl 0 rfl) ?_
    refine va_get (D := G) (ci := 5) (v := .ref qms) (C := RX6) (T := TX6) (N := 35) hx hb hts iX_X6 hown hK hP 0 rfl rfl 0 (by decide) (hts _ m_t850) (fun _ h9 => h9) rfl dX6_holds_13 ?_
    refine lv_iload_n hx hb dX6_holds_16 rfl (lv_at hl 1 rfl) ?_
    refine va_iald hx hb hK hP 1 0 rfl rfl (in_shelf h_3) dX6_holds_17 ?_
    refine lv_seti (v := 0) rfl ?_
    refine lv_if_ne (tgt := 23) hx hb dX6_holds_18 (by decide) (fun h9 => absurd (by decide) h9) (fun _ => ?_)
    refine lv_iconst (v := (-1)) hx hb dX6_holds_21 (by decide) ?_
    exact endR hx hb hr hlocks rfl rfl dX6_holds_22
  · refine lv_if_eq (tgt := 21) hx hb dX6_holds_9 (by decide) (fun _ => ?_) (fun h9 => absurd (by decide) h9)
    refine lv_iconst (v := (-1)) hx hb dX6_holds_21 (by decide) ?_
    exact endR hx hb hr hlocks rfl rfl dX6_holds_22
set_option maxHeartbeats 4000000 in
set_option maxRecDepth 100000 in
theorem p_X6_rule (l : Launch) (G : va_G) (cy : Nat → ClassId) (sz : Nat) (qm : Nat) (qms : Nat) (qmo : Nat) (qmz : Nat) (qmR : Nat) (qmv : Nat) (qmk : Nat) (qmb : Nat) (qmt : Nat) (qmr : Nat) (qmB : Nat) (qmO : Nat) (qmK : Nat) (qm_three : Nat) (qm_unread : Nat) (qm_tryRow : Nat) (qm_bestRow : Nat) (qm_steps : Nat) (iA : Int32) (iB : Int32) (iC : Int32)   : MW l yX6_rule cX6_rule 4 (some .int) 6 0 0 G cy [(qm, .inr (5, [.ref qms, .ref qmo, .ref qmz, .ref qmR, .ref qmv, .ref qmk, .ref qmb, .ref qmt, .int 0, .ref qmr, .int 0, .ref qmB, .int 0, .ref qmO, .ref qmK, .int 0, .int 0, .int 1, .null, .null, .int 0, .int 0, .int 0, .long 0, .int 0, .ref qm_three, .int 0, .int 0, .int 0, .null, .ref qm_unread, .ref qm_tryRow, .ref qm_bestRow, .ref qm_steps, .int 0])), (qms, .inl (cy 0, 8, .inl (fun _ => 0))), (qmk, .inl (cy 0, 8, .inl (fun _ => 0))), (qmb, .inl (cy 0, 8, .inl (fun _ => 0))), (qmr, .inl (cy 0, 8, .inl (fun _ => 0)))] sz [.ref qm, .int iA, .int iB, .int iC] (Wi G (fun r u => u = [] ∧ ((r = (sp_rule iA iB iC))))) := by
  refine enW RX6 (by decide) rfl (Nat.le_of_ble_eq_true rfl) (fun p e s m below meth c ls A hx hb hml hown hts hr hlocks hP hN hl hin hD hA hS => ?_)
  have hin : meth.name = _ := hin
  have hK := hN.1
  have hl : lv_has ls 4 [(0, .ref qm), (1, .int iA), (2, .int iB), (3, .int iC)] := hl
  refine lv_iload_n hx hb dX6_rule_0 rfl (lv_at hl 1 rfl) ?_
  refine lv_i2l (v := iA.toInt64) hx hb dX6_rule_1 rfl ?_
  refine lv_lconst (v := 0) hx hb dX6_rule_2 (by decide) ?_
  refine lv_ldc2 hx hb hown (hts _ m_t960) dX6_rule_3 ?_
  refine kRi (rS (As := [.long iA.toInt64, .long 0, .long 7]) (rest := []) ⟨hx, hb, hml, hown, hts⟩ (c_X6_in l G cy iA.toInt64 0 7) L_X6_74 (preRS hN hP [] rfl) rfl ⟨Nat.le_of_ble_eq_true rfl, Nat.le_of_ble_eq_true rfl⟩ hl.1 (Nat.le_of_ble_eq_true rfl) dX6_rule_6 ⟨Nat.le_of_ble_eq_true rfl, Nat.le_of_ble_eq_true rfl⟩) (fun r_1 h_2 => ?_)
  rcases h_2 with ⟨rfl, h_3⟩ | ⟨rfl, h_3⟩
  · refine lv_if_eq (tgt := 36) hx hb dX6_rule_9 (by decide) (fun h9 => absurd h9 (by decide)) (fun _ => ?_)
    refine lv_iload_n hx hb dX6_rule_12 rfl (lv_at hl 2 rfl) ?_
    refine lv_i2l (v := iB.toInt64) hx hb dX6_rule_13 rfl ?_
    refine lv_lconst (v := 1) hx hb dX6_rule_14 (by decide) ?_
    refine lv_ldc2 hx hb hown (hts _ m_t997) dX6_rule_15 ?_
    refine kRi (rS (As := [.long iB.toInt64, .long 1, .long 6]) (rest := []) ⟨hx, hb, hml, hown, hts⟩ (c_X6_in l G cy iB.toInt64 1 6) L_X6_74 (preRS hN hP [] rfl) rfl ⟨Nat.le_of_ble_eq_true rfl, Nat.le_of_ble_eq_true rfl⟩ hl.1 (Nat.le_of_ble_eq_true rfl) dX6_rule_18 ⟨Nat.le_of_ble_eq_true rfl, Nat.le_of_ble_eq_true rfl⟩) (fun r_5 h_6 => ?_)
    rcases h_6 with ⟨rfl, h_7⟩ | ⟨rfl, h_7⟩
    · refine lv_if_eq (tgt := 36) hx hb dX6_rule_21 (by decide) (fun h9 => absurd h9 (by decide)) (fun _ => ?_)
      refine lv_iload_n hx hb dX6_rule_24 rfl (lv_at hl 3 rfl) ?_
      refine lv_i2l (v := iC.toInt64) hx hb dX6_rule_25 rfl ?_
      refine lv_lconst (v := 0) hx hb dX6_rule_26 (by decide) ?_
      refine lv_ldc2 hx hb hown (hts _ m_t998) dX6_rule_27 ?_
      refine kRi (rS (As := [.long iC.toInt64, .long 0, .long 99]) (rest := []) ⟨hx, hb, hml, hown, hts⟩ (c_X6_in l G cy iC.toInt64 0 99) L_X6_74 (preRS hN hP [] rfl) rfl ⟨Nat.le_of_ble_eq_true rfl, Nat.le_of_ble_eq_true rfl⟩ hl.1 (Nat.le_of_ble_eq_true rfl) dX6_rule_30 ⟨Nat.le_of_ble_eq_true rfl, Nat.le_of_ble_eq_true rfl⟩) (fun r_9 h_10 => ?_)
      rcases h_10 with ⟨rfl, h_11⟩ | ⟨rfl, h_11⟩
      · refine lv_if_ne (tgt := 43) hx hb dX6_rule_33 (by decide) (fun _ => ?_) (fun h9 => absurd h9 (by decide))
        refine lv_aload_n hx hb dX6_rule_43 rfl (lv_at hl 0 rfl) ?_
        refine va_get (D := G) (ci := 5) (v := .ref qms) (C := RX6) (T := TX6) (N := 35) hx hb hts iX_X6 hown hK hP 0 rfl rfl 0 (by decide) (hts _ m_t850) (fun _ h9 => h9) rfl dX6_rule_44 ?_
        refine lv_iload_n hx hb dX6_rule_47 rfl (lv_at hl 1 rfl) ?_
        refine lv_iconst (v := 2) hx hb dX6_rule_48 (by decide) ?_
        refine va_iast hx hb hK hP hD hS 1 0 rfl rfl (in_shelf h_3) dX6_rule_49 (fun H locs hP hD hS => ?_)
        have hP : va_P G CL [(qm, .inr (5, [.ref qms, .ref qmo, .ref qmz, .ref qmR, .ref qmv, .ref qmk, .ref qmb, .ref qmt, .int 0, .ref qmr, .int 0, .ref qmB, .int 0, .ref qmO, .ref qmK, .int 0, .int 0, .int 1, .null, .null, .int 0, .int 0, .int 0, .long 0, .int 0, .ref qm_three, .int 0, .int 0, .int 0, .null, .ref qm_unread, .ref qm_tryRow, .ref qm_bestRow, .ref qm_steps, .int 0])), (qms, .inl (cy 0, 8, .inl (upd (fun _ => 0) iA.toNatClampNeg 2))), (qmk, .inl (cy 0, 8, .inl (fun _ => 0))), (qmb, .inl (cy 0, 8, .inl (fun _ => 0))), (qmr, .inl (cy 0, 8, .inl (fun _ => 0)))] H := hP
        have hD : va_D A [(qm, .inr (5, [.ref qms, .ref qmo, .ref qmz, .ref qmR, .ref qmv, .ref qmk, .ref qmb, .ref qmt, .int 0, .ref qmr, .int 0, .ref qmB, .int 0, .ref qmO, .ref qmK, .int 0, .int 0, .int 1, .null, .null, .int 0, .int 0, .int 0, .long 0, .int 0, .ref qm_three, .int 0, .int 0, .int 0, .null, .ref qm_unread, .ref qm_tryRow, .ref qm_bestRow, .ref qm_steps, .int 0])), (qms, .inl (cy 0, 8, .inl (upd (fun _ => 0) iA.toNatClampNeg 2))), (qmk, .inl (cy 0, 8, .inl (fun _ => 0))), (qmb, .inl (cy 0, 8, .inl (fun _ => 0))), (qmr, .inl (cy 0, 8, .inl (fun _ => 0)))] := hD
        refine lv_aload_n hx hb dX6_rule_50 rfl (lv_at hl 0 rfl) ?_
        refine va_get (D := G) (ci := 5) (v := .ref qmk) (C := RX6) (T := TX6) (N := 35) hx hb hts iX_X6 hown hK hP 0 rfl rfl 5 (by decide) (hts _ m_t855) (fun _ h9 => h9) rfl dX6_rule_51 ?_
        refine lv_iload_n hx hb dX6_rule_54 rfl (lv_at hl 1 rfl) ?_
        refine lv_iload_n hx hb dX6_rule_55 rfl (lv_at hl 2 rfl) ?_
        refine va_iast hx hb hK hP hD hS 2 0 rfl rfl (in_shelf h_3) dX6_rule_56 (fun H locs hP hD hS => ?_)
        have hP : va_P G CL [(qm, .inr (5, [.ref qms, .ref qmo, .ref qmz, .ref qmR, .ref qmv, .ref qmk, .ref qmb, .ref qmt, .int 0, .ref qmr, .int 0, .ref qmB, .int 0, .ref qmO, .ref qmK, .int 0, .int 0, .int 1, .null, .null, .int 0, .int 0, .int 0, .long 0, .int 0, .ref qm_three, .int 0, .int 0, .int 0, .null, .ref qm_unread, .ref qm_tryRow, .ref qm_bestRow, .ref qm_steps, .int 0])), (qms, .inl (cy 0, 8, .inl (upd (fun _ => 0) iA.toNatClampNeg 2))), (qmk, .inl (cy 0, 8, .inl (upd (fun _ => 0) iA.toNatClampNeg iB))), (qmb, .inl (cy 0, 8, .inl (fun _ => 0))), (qmr, .inl (cy 0, 8, .inl (fun _ => 0)))] H := hP
        have hD : va_D A [(qm, .inr (5, [.ref qms, .ref qmo, .ref qmz, .ref qmR, .ref qmv, .ref qmk, .ref qmb, .ref qmt, .int 0, .ref qmr, .int 0, .ref qmB, .int 0, .ref qmO, .ref qmK, .int 0, .int 0, .int 1, .null, .null, .int 0, .int 0, .int 0, .long 0, .int 0, .ref qm_three, .int 0, .int 0, .int 0, .null, .ref qm_unread, .ref qm_tryRow, .ref qm_bestRow, .ref qm_steps, .int 0])), (qms, .inl (cy 0, 8, .inl (upd (fun _ => 0) iA.toNatClampNeg 2))), (qmk, .inl (cy 0, 8, .inl (upd (fun _ => 0) iA.toNatClampNeg iB))), (qmb, .inl (cy 0, 8, .inl (fun _ => 0))), (qmr, .inl (cy 0, 8, .inl (fun _ => 0)))] := hD
        refine lv_aload_n hx hb dX6_rule_57 rfl (lv_at hl 0 rfl) ?_
        refine va_get (D := G) (ci := 5) (v := .ref qmb) (C := RX6) (T := TX6) (N := 35) hx hb hts iX_X6 hown hK hP 0 rfl rfl 6 (by decide) (hts _ m_t856) (fun _ h9 => h9) rfl dX6_rule_58 ?_
        refine lv_iload_n hx hb dX6_rule_61 rfl (lv_at hl 1 rfl) ?_
        refine lv_iload_n hx hb dX6_rule_62 rfl (lv_at hl 3 rfl) ?_
        refine va_iast hx hb hK hP hD hS 3 0 rfl rfl (in_shelf h_3) dX6_rule_63 (fun H locs hP hD hS => ?_)
        have hP : va_P G CL [(qm, .inr (5, [.ref qms, .ref qmo, .ref qmz, .ref qmR, .ref qmv, .ref qmk, .ref qmb, .ref qmt, .int 0, .ref qmr, .int 0, .ref qmB, .int 0, .ref qmO, .ref qmK, .int 0, .int 0, .int 1, .null, .null, .int 0, .int 0, .int 0, .long 0, .int 0, .ref qm_three, .int 0, .int 0, .int 0, .null, .ref qm_unread, .ref qm_tryRow, .ref qm_bestRow, .ref qm_steps, .int 0])), (qms, .inl (cy 0, 8, .inl (upd (fun _ => 0) iA.toNatClampNeg 2))), (qmk, .inl (cy 0, 8, .inl (upd (fun _ => 0) iA.toNatClampNeg iB))), (qmb, .inl (cy 0, 8, .inl (upd (fun _ => 0) iA.toNatClampNeg iC))), (qmr, .inl (cy 0, 8, .inl (fun _ => 0)))] H := hP
        have hD : va_D A [(qm, .inr (5, [.ref qms, .ref qmo, .ref qmz, .ref qmR, .ref qmv, .ref qmk, .ref qmb, .ref qmt, .int 0, .ref qmr, .int 0, .ref qmB, .int 0, .ref qmO, .ref qmK, .int 0, .int 0, .int 1, .null, .null, .int 0, .int 0, .int 0, .long 0, .int 0, .ref qm_three, .int 0, .int 0, .int 0, .null, .ref qm_unread, .ref qm_tryRow, .ref qm_bestRow, .ref qm_steps, .int 0])), (qms, .inl (cy 0, 8, .inl (upd (fun _ => 0) iA.toNatClampNeg 2))), (qmk, .inl (cy 0, 8, .inl (upd (fun _ => 0) iA.toNatClampNeg iB))), (qmb, .inl (cy 0, 8, .inl (upd (fun _ => 0) iA.toNatClampNeg iC))), (qmr, .inl (cy 0, 8, .inl (fun _ => 0)))] := hD
        refine lv_iconst (v := 1) hx hb dX6_rule_64 (by decide) ?_
        exact endW (u := []) hx hb hr hlocks rfl va_P0 va_D0 hS ⟨rfl, (by first | (simp [sp_rule, Iv, h_3, h_7, h_11]; done) | (unfold sp_rule; decide))⟩ dX6_rule_65
      · refine lv_if_ne (tgt := 43) hx hb dX6_rule_33 (by decide) (fun h9 => absurd (by decide) h9) (fun _ => ?_)
        refine lv_aload_n hx hb dX6_rule_36 rfl (lv_at hl 0 rfl) ?_
        refine lv_bipush (v := (-2)) hx hb dX6_rule_37 (by decide) ?_
        refine kWi (wr := [(qms, .inl (cy 0, 8, .inl (fun _ => 0))), (qmk, .inl (cy 0, 8, .inl (fun _ => 0))), (qmb, .inl (cy 0, 8, .inl (fun _ => 0)))]) (rV (As := [.int (-2)]) (rest := []) (b := qm) ⟨hx, hb, hml, hown, hts⟩ (c_X6_refuse2 l G cy (s.heap).size qm (.ref qms) (.ref qmo) (.ref qmz) (.ref qmR) (.ref qmv) (.ref qmk) (.ref qmb) (.ref qmt) (.int 0) qmr (.int 0) (.ref qmB) (.int 0) (.ref qmO) (.ref qmK) (.int 0) (.int 0) (.int 1) .null .null (.int 0) (.int 0) (.int 0) (.long 0) (.int 0) (.ref qm_three) (.int 0) (.int 0) (.int 0) .null (.ref qm_unread) (.ref qm_tryRow) (.ref qm_bestRow) (.ref qm_steps) (.int 0) (fun _ => 0)) L_X6_91 (preWV (q := (RX6, TX6, 35)) hN hP hD [0, 4] rfl (by decide) 0 5 rfl rfl) rfl ⟨Nat.le_of_ble_eq_true rfl, Nat.le_of_ble_eq_true rfl⟩ hl.1 (Nat.le_of_ble_eq_true rfl) dX6_rule_39 ⟨Nat.le_of_ble_eq_true rfl, Nat.le_of_ble_eq_true rfl⟩) hP hD hS hA [0, 4] [1, 2, 3] rfl rfl (by decide) (by decide) (fun r_14 u_16 H locs h_15 hP hD hS => ?_)
        obtain ⟨rfl, h_15⟩ := h_15
        have hP : va_P G CL [(qms, .inl (cy 0, 8, .inl (fun _ => 0))), (qmk, .inl (cy 0, 8, .inl (fun _ => 0))), (qmb, .inl (cy 0, 8, .inl (fun _ => 0))), (qm, .inr (5, [.ref qms, .ref qmo, .ref qmz, .ref qmR, .ref qmv, .ref qmk, .ref qmb, .ref qmt, .int 0, .ref qmr, .int 0, .ref qmB, .int 0, .ref qmO, .ref qmK, .int 0, .int 0, .int 1, .null, .null, .int 0, .int 0, .int 0, .long 0, .int 0, .ref qm_three, .int 0, .int 0, .int 0, .null, .ref qm_unread, .ref qm_tryRow, .ref qm_bestRow, .ref qm_steps, .int 0]))] H := hP
        have hD : va_D A [(qms, .inl (cy 0, 8, .inl (fun _ => 0))), (qmk, .inl (cy 0, 8, .inl (fun _ => 0))), (qmb, .inl (cy 0, 8, .inl (fun _ => 0))), (qm, .inr (5, [.ref qms, .ref qmo, .ref qmz, .ref qmR, .ref qmv, .ref qmk, .ref qmb, .ref qmt, .int 0, .ref qmr, .int 0, .ref qmB, .int 0, .ref qmO, .ref qmK, .int 0, .int 0, .int 1, .null, .null, .int 0, .int 0, .int 0, .long 0, .int 0, .ref qm_three, .int 0, .int 0, .int 0, .null, .ref qm_unread, .ref qm_tryRow, .ref qm_bestRow, .ref qm_steps, .int 0]))] := hD
        subst h_15
        exact endW (u := []) hx hb hr hlocks rfl va_P0 va_D0 hS ⟨rfl, (by first | (simp [sp_rule, Iv, h_3, h_7, h_11]; done) | (unfold sp_rule; decide))⟩ dX6_rule_42
    · refine lv_if_eq (tgt := 36) hx hb dX6_rule_21 (by decide) (fun _ => ?_) (fun h9 => absurd (by decide) h9)
      refine lv_aload_n hx hb dX6_rule_36 rfl (lv_at hl 0 rfl) ?_
      refine lv_bipush (v := (-2)) hx hb dX6_rule_37 (by decide) ?_
      refine kWi (wr := [(qms, .inl (cy 0, 8, .inl (fun _ => 0))), (qmk, .inl (cy 0, 8, .inl (fun _ => 0))), (qmb, .inl (cy 0, 8, .inl (fun _ => 0)))]) (rV (As := [.int (-2)]) (rest := []) (b := qm) ⟨hx, hb, hml, hown, hts⟩ (c_X6_refuse2 l G cy (s.heap).size qm (.ref qms) (.ref qmo) (.ref qmz) (.ref qmR) (.ref qmv) (.ref qmk) (.ref qmb) (.ref qmt) (.int 0) qmr (.int 0) (.ref qmB) (.int 0) (.ref qmO) (.ref qmK) (.int 0) (.int 0) (.int 1) .null .null (.int 0) (.int 0) (.int 0) (.long 0) (.int 0) (.ref qm_three) (.int 0) (.int 0) (.int 0) .null (.ref qm_unread) (.ref qm_tryRow) (.ref qm_bestRow) (.ref qm_steps) (.int 0) (fun _ => 0)) L_X6_91 (preWV (q := (RX6, TX6, 35)) hN hP hD [0, 4] rfl (by decide) 0 5 rfl rfl) rfl ⟨Nat.le_of_ble_eq_true rfl, Nat.le_of_ble_eq_true rfl⟩ hl.1 (Nat.le_of_ble_eq_true rfl) dX6_rule_39 ⟨Nat.le_of_ble_eq_true rfl, Nat.le_of_ble_eq_true rfl⟩) hP hD hS hA [0, 4] [1, 2, 3] rfl rfl (by decide) (by decide) (fun r_18 u_20 H locs h_19 hP hD hS => ?_)
      obtain ⟨rfl, h_19⟩ := h_19
      have hP : va_P G CL [(qms, .inl (cy 0, 8, .inl (fun _ => 0))), (qmk, .inl (cy 0, 8, .inl (fun _ => 0))), (qmb, .inl (cy 0, 8, .inl (fun _ => 0))), (qm, .inr (5, [.ref qms, .ref qmo, .ref qmz, .ref qmR, .ref qmv, .ref qmk, .ref qmb, .ref qmt, .int 0, .ref qmr, .int 0, .ref qmB, .int 0, .ref qmO, .ref qmK, .int 0, .int 0, .int 1, .null, .null, .int 0, .int 0, .int 0, .long 0, .int 0, .ref qm_three, .int 0, .int 0, .int 0, .null, .ref qm_unread, .ref qm_tryRow, .ref qm_bestRow, .ref qm_steps, .int 0]))] H := hP
      have hD : va_D A [(qms, .inl (cy 0, 8, .inl (fun _ => 0))), (qmk, .inl (cy 0, 8, .inl (fun _ => 0))), (qmb, .inl (cy 0, 8, .inl (fun _ => 0))), (qm, .inr (5, [.ref qms, .ref qmo, .ref qmz, .ref qmR, .ref qmv, .ref qmk, .ref qmb, .ref qmt, .int 0, .ref qmr, .int 0, .ref qmB, .int 0, .ref qmO, .ref qmK, .int 0, .int 0, .int 1, .null, .null, .int 0, .int 0, .int 0, .long 0, .int 0, .ref qm_three, .int 0, .int 0, .int 0, .null, .ref qm_unread, .ref qm_tryRow, .ref qm_bestRow, .ref qm_steps, .int 0]))] := hD
      subst h_19
      exact endW (u := []) hx hb hr hlocks rfl va_P0 va_D0 hS ⟨rfl, (by first | (simp [sp_rule, Iv, h_3, h_7]; done) | (unfold sp_rule; decide))⟩ dX6_rule_42
  · refine lv_if_eq (tgt := 36) hx hb dX6_rule_9 (by decide) (fun _ => ?_) (fun h9 => absurd (by decide) h9)
    refine lv_aload_n hx hb dX6_rule_36 rfl (lv_at hl 0 rfl) ?_
    refine lv_bipush (v := (-2)) hx hb dX6_rule_37 (by decide) ?_
    refine kWi (wr := [(qms, .inl (cy 0, 8, .inl (fun _ => 0))), (qmk, .inl (cy 0, 8, .inl (fun _ => 0))), (qmb, .inl (cy 0, 8, .inl (fun _ => 0)))]) (rV (As := [.int (-2)]) (rest := []) (b := qm) ⟨hx, hb, hml, hown, hts⟩ (c_X6_refuse2 l G cy (s.heap).size qm (.ref qms) (.ref qmo) (.ref qmz) (.ref qmR) (.ref qmv) (.ref qmk) (.ref qmb) (.ref qmt) (.int 0) qmr (.int 0) (.ref qmB) (.int 0) (.ref qmO) (.ref qmK) (.int 0) (.int 0) (.int 1) .null .null (.int 0) (.int 0) (.int 0) (.long 0) (.int 0) (.ref qm_three) (.int 0) (.int 0) (.int 0) .null (.ref qm_unread) (.ref qm_tryRow) (.ref qm_bestRow) (.ref qm_steps) (.int 0) (fun _ => 0)) L_X6_91 (preWV (q := (RX6, TX6, 35)) hN hP hD [0, 4] rfl (by decide) 0 5 rfl rfl) rfl ⟨Nat.le_of_ble_eq_true rfl, Nat.le_of_ble_eq_true rfl⟩ hl.1 (Nat.le_of_ble_eq_true rfl) dX6_rule_39 ⟨Nat.le_of_ble_eq_true rfl, Nat.le_of_ble_eq_true rfl⟩) hP hD hS hA [0, 4] [1, 2, 3] rfl rfl (by decide) (by decide) (fun r_22 u_24 H locs h_23 hP hD hS => ?_)
    obtain ⟨rfl, h_23⟩ := h_23
    have hP : va_P G CL [(qms, .inl (cy 0, 8, .inl (fun _ => 0))), (qmk, .inl (cy 0, 8, .inl (fun _ => 0))), (qmb, .inl (cy 0, 8, .inl (fun _ => 0))), (qm, .inr (5, [.ref qms, .ref qmo, .ref qmz, .ref qmR, .ref qmv, .ref qmk, .ref qmb, .ref qmt, .int 0, .ref qmr, .int 0, .ref qmB, .int 0, .ref qmO, .ref qmK, .int 0, .int 0, .int 1, .null, .null, .int 0, .int 0, .int 0, .long 0, .int 0, .ref qm_three, .int 0, .int 0, .int 0, .null, .ref qm_unread, .ref qm_tryRow, .ref qm_bestRow, .ref qm_steps, .int 0]))] H := hP
    have hD : va_D A [(qms, .inl (cy 0, 8, .inl (fun _ => 0))), (qmk, .inl (cy 0, 8, .inl (fun _ => 0))), (qmb, .inl (cy 0, 8, .inl (fun _ => 0))), (qm, .inr (5, [.ref qms, .ref qmo, .ref qmz, .ref qmR, .ref qmv, .ref qmk, .ref qmb, .ref qmt, .int 0, .ref qmr, .int 0, .ref qmB, .int 0, .ref qmO, .ref qmK, .int 0, .int 0, .int 1, .null, .null, .int 0, .int 0, .int 0, .long 0, .int 0, .ref qm_three, .int 0, .int 0, .int 0, .null, .ref qm_unread, .ref qm_tryRow, .ref qm_bestRow, .ref qm_steps, .int 0]))] := hD
    subst h_23
    exact endW (u := []) hx hb hr hlocks rfl va_P0 va_D0 hS ⟨rfl, (by first | (simp [sp_rule, Iv, h_3]; done) | (unfold sp_rule; decide))⟩ dX6_rule_42
set_option maxHeartbeats 4000000 in
set_option maxRecDepth 100000 in
theorem p_X6_says (l : Launch) (G : va_G) (cy : Nat → ClassId) (sz : Nat) (qm : Nat) (qms : Nat) (qmo : Nat) (qmz : Nat) (qmR : Nat) (qmv : Nat) (qmk : Nat) (qmb : Nat) (qmt : Nat) (qmr : Nat) (qmB : Nat) (qmO : Nat) (qmK : Nat) (qm_three : Nat) (qm_unread : Nat) (qm_tryRow : Nat) (qm_bestRow : Nat) (qm_steps : Nat) (iA : Int32) (iB : Int32)   : MW l yX6_says cX6_says 4 (some .int) 6 0 0 G cy [(qm, .inr (5, [.ref qms, .ref qmo, .ref qmz, .ref qmR, .ref qmv, .ref qmk, .ref qmb, .ref qmt, .int 0, .ref qmr, .int 0, .ref qmB, .int 0, .ref qmO, .ref qmK, .int 0, .int 0, .int 1, .null, .null, .int 0, .int 0, .int 0, .long 0, .int 0, .ref qm_three, .int 0, .int 0, .int 0, .null, .ref qm_unread, .ref qm_tryRow, .ref qm_bestRow, .ref qm_steps, .int 0])), (qms, .inl (cy 0, 8, .inl (fun _ => 0))), (qmr, .inl (cy 0, 8, .inl (fun _ => 0)))] sz [.ref qm, .int iA, .int iB] (Wi G (fun r u => u = [] ∧ ((r = (sp_says iA iB))))) := by
  refine enW RX6 (by decide) rfl (Nat.le_of_ble_eq_true rfl) (fun p e s m below meth c ls A hx hb hml hown hts hr hlocks hP hN hl hin hD hA hS => ?_)
  have hin : meth.name = _ := hin
  have hK := hN.1
  have hl : lv_has ls 4 [(0, .ref qm), (1, .int iA), (2, .int iB)] := hl
  refine lv_iload_n hx hb dX6_says_0 rfl (lv_at hl 1 rfl) ?_
  refine lv_i2l (v := iA.toInt64) hx hb dX6_says_1 rfl ?_
  refine lv_lconst (v := 0) hx hb dX6_says_2 (by decide) ?_
  refine lv_ldc2 hx hb hown (hts _ m_t960) dX6_says_3 ?_
  refine kRi (rS (As := [.long iA.toInt64, .long 0, .long 7]) (rest := []) ⟨hx, hb, hml, hown, hts⟩ (c_X6_in l G cy iA.toInt64 0 7) L_X6_74 (preRS hN hP [] rfl) rfl ⟨Nat.le_of_ble_eq_true rfl, Nat.le_of_ble_eq_true rfl⟩ hl.1 (Nat.le_of_ble_eq_true rfl) dX6_says_6 ⟨Nat.le_of_ble_eq_true rfl, Nat.le_of_ble_eq_true rfl⟩) (fun r_1 h_2 => ?_)
  rcases h_2 with ⟨rfl, h_3⟩ | ⟨rfl, h_3⟩
  · refine lv_if_eq (tgt := 24) hx hb dX6_says_9 (by decide) (fun h9 => absurd h9 (by decide)) (fun _ => ?_)
    refine lv_iload_n hx hb dX6_says_12 rfl (lv_at hl 2 rfl) ?_
    refine lv_i2l (v := iB.toInt64) hx hb dX6_says_13 rfl ?_
    refine lv_lconst (v := 0) hx hb dX6_says_14 (by decide) ?_
    refine lv_ldc2 hx hb hown (hts _ m_t997) dX6_says_15 ?_
    refine kRi (rS (As := [.long iB.toInt64, .long 0, .long 6]) (rest := []) ⟨hx, hb, hml, hown, hts⟩ (c_X6_in l G cy iB.toInt64 0 6) L_X6_74 (preRS hN hP [] rfl) rfl ⟨Nat.le_of_ble_eq_true rfl, Nat.le_of_ble_eq_true rfl⟩ hl.1 (Nat.le_of_ble_eq_true rfl) dX6_says_18 ⟨Nat.le_of_ble_eq_true rfl, Nat.le_of_ble_eq_true rfl⟩) (fun r_5 h_6 => ?_)
    rcases h_6 with ⟨rfl, h_7⟩ | ⟨rfl, h_7⟩
    · refine lv_if_ne (tgt := 31) hx hb dX6_says_21 (by decide) (fun _ => ?_) (fun h9 => absurd h9 (by decide))
      refine lv_aload_n hx hb dX6_says_31 rfl (lv_at hl 0 rfl) ?_
      refine va_get (D := G) (ci := 5) (v := .ref qms) (C := RX6) (T := TX6) (N := 35) hx hb hts iX_X6 hown hK hP 0 rfl rfl 0 (by decide) (hts _ m_t850) (fun _ h9 => h9) rfl dX6_says_32 ?_
      refine lv_iload_n hx hb dX6_says_35 rfl (lv_at hl 1 rfl) ?_
      refine va_iald hx hb hK hP 1 0 rfl rfl (in_shelf h_3) dX6_says_36 ?_
      refine lv_seti (v := 0) rfl ?_
      refine lv_iconst (v := 1) hx hb dX6_says_37 (by decide) ?_
      refine lv_icmp_eq (tgt := 64) hx hb dX6_says_38 (by decide) (fun h9 => absurd h9 (by decide)) (fun _ => ?_)
      refine lv_aload_n hx hb dX6_says_41 rfl (lv_at hl 0 rfl) ?_
      refine va_get (D := G) (ci := 5) (v := .ref qms) (C := RX6) (T := TX6) (N := 35) hx hb hts iX_X6 hown hK hP 0 rfl rfl 0 (by decide) (hts _ m_t850) (fun _ h9 => h9) rfl dX6_says_42 ?_
      refine lv_iload_n hx hb dX6_says_45 rfl (lv_at hl 1 rfl) ?_
      refine va_iald hx hb hK hP 1 0 rfl rfl (in_shelf h_3) dX6_says_46 ?_
      refine lv_seti (v := 0) rfl ?_
      refine lv_iconst (v := 2) hx hb dX6_says_47 (by decide) ?_
      refine lv_icmp_ne (tgt := 71) hx hb dX6_says_48 (by decide) (fun _ => ?_) (fun h9 => absurd h9 (by decide))
      refine lv_aload_n hx hb dX6_says_71 rfl (lv_at hl 0 rfl) ?_
      refine va_get (D := G) (ci := 5) (v := .ref qms) (C := RX6) (T := TX6) (N := 35) hx hb hts iX_X6 hown hK hP 0 rfl rfl 0 (by decide) (hts _ m_t850) (fun _ h9 => h9) rfl dX6_says_72 ?_
      refine lv_iload_n hx hb dX6_says_75 rfl (lv_at hl 1 rfl) ?_
      refine va_iald hx hb hK hP 1 0 rfl rfl (in_shelf h_3) dX6_says_76 ?_
      refine lv_seti (v := 0) rfl ?_
      refine lv_if_ne (tgt := 87) hx hb dX6_says_77 (by decide) (fun h9 => absurd (by decide) h9) (fun _ => ?_)
      refine lv_aload_n hx hb dX6_says_80 rfl (lv_at hl 0 rfl) ?_
      refine lv_bipush (v := (-4)) hx hb dX6_says_81 (by decide) ?_
      refine kWi (wr := [(qms, .inl (cy 0, 8, .inl (fun _ => 0)))]) (rV (As := [.int (-4)]) (rest := []) (b := qm) ⟨hx, hb, hml, hown, hts⟩ (c_X6_refuse4 l G cy (s.heap).size qm (.ref qms) (.ref qmo) (.ref qmz) (.ref qmR) (.ref qmv) (.ref qmk) (.ref qmb) (.ref qmt) (.int 0) qmr (.int 0) (.ref qmB) (.int 0) (.ref qmO) (.ref qmK) (.int 0) (.int 0) (.int 1) .null .null (.int 0) (.int 0) (.int 0) (.long 0) (.int 0) (.ref qm_three) (.int 0) (.int 0) (.int 0) .null (.ref qm_unread) (.ref qm_tryRow) (.ref qm_bestRow) (.ref qm_steps) (.int 0) (fun _ => 0)) L_X6_91 (preWV (q := (RX6, TX6, 35)) hN hP hD [0, 2] rfl (by decide) 0 5 rfl rfl) rfl ⟨Nat.le_of_ble_eq_true rfl, Nat.le_of_ble_eq_true rfl⟩ hl.1 (Nat.le_of_ble_eq_true rfl) dX6_says_83 ⟨Nat.le_of_ble_eq_true rfl, Nat.le_of_ble_eq_true rfl⟩) hP hD hS hA [0, 2] [1] rfl rfl (by decide) (by decide) (fun r_12 u_14 H locs h_13 hP hD hS => ?_)
      obtain ⟨rfl, h_13⟩ := h_13
      have hP : va_P G CL [(qms, .inl (cy 0, 8, .inl (fun _ => 0))), (qm, .inr (5, [.ref qms, .ref qmo, .ref qmz, .ref qmR, .ref qmv, .ref qmk, .ref qmb, .ref qmt, .int 0, .ref qmr, .int 0, .ref qmB, .int 0, .ref qmO, .ref qmK, .int 0, .int 0, .int 1, .null, .null, .int 0, .int 0, .int 0, .long 0, .int 0, .ref qm_three, .int 0, .int 0, .int 0, .null, .ref qm_unread, .ref qm_tryRow, .ref qm_bestRow, .ref qm_steps, .int 0]))] H := hP
      have hD : va_D A [(qms, .inl (cy 0, 8, .inl (fun _ => 0))), (qm, .inr (5, [.ref qms, .ref qmo, .ref qmz, .ref qmR, .ref qmv, .ref qmk, .ref qmb, .ref qmt, .int 0, .ref qmr, .int 0, .ref qmB, .int 0, .ref qmO, .ref qmK, .int 0, .int 0, .int 1, .null, .null, .int 0, .int 0, .int 0, .long 0, .int 0, .ref qm_three, .int 0, .int 0, .int 0, .null, .ref qm_unread, .ref qm_tryRow, .ref qm_bestRow, .ref qm_steps, .int 0]))] := hD
      subst h_13
      exact endW (u := []) hx hb hr hlocks rfl va_P0 va_D0 hS ⟨rfl, (by first | (simp [sp_says, Iv, h_3, h_7]; done) | (unfold sp_says; decide))⟩ dX6_says_86
    · refine lv_if_ne (tgt := 31) hx hb dX6_says_21 (by decide) (fun h9 => absurd (by decide) h9) (fun _ => ?_)
      refine lv_aload_n hx hb dX6_says_24 rfl (lv_at hl 0 rfl) ?_
      refine lv_bipush (v := (-2)) hx hb dX6_says_25 (by decide) ?_
      refine kWi (wr := [(qms, .inl (cy 0, 8, .inl (fun _ => 0)))]) (rV (As := [.int (-2)]) (rest := []) (b := qm) ⟨hx, hb, hml, hown, hts⟩ (c_X6_refuse2 l G cy (s.heap).size qm (.ref qms) (.ref qmo) (.ref qmz) (.ref qmR) (.ref qmv) (.ref qmk) (.ref qmb) (.ref qmt) (.int 0) qmr (.int 0) (.ref qmB) (.int 0) (.ref qmO) (.ref qmK) (.int 0) (.int 0) (.int 1) .null .null (.int 0) (.int 0) (.int 0) (.long 0) (.int 0) (.ref qm_three) (.int 0) (.int 0) (.int 0) .null (.ref qm_unread) (.ref qm_tryRow) (.ref qm_bestRow) (.ref qm_steps) (.int 0) (fun _ => 0)) L_X6_91 (preWV (q := (RX6, TX6, 35)) hN hP hD [0, 2] rfl (by decide) 0 5 rfl rfl) rfl ⟨Nat.le_of_ble_eq_true rfl, Nat.le_of_ble_eq_true rfl⟩ hl.1 (Nat.le_of_ble_eq_true rfl) dX6_says_27 ⟨Nat.le_of_ble_eq_true rfl, Nat.le_of_ble_eq_true rfl⟩) hP hD hS hA [0, 2] [1] rfl rfl (by decide) (by decide) (fun r_16 u_18 H locs h_17 hP hD hS => ?_)
      obtain ⟨rfl, h_17⟩ := h_17
      have hP : va_P G CL [(qms, .inl (cy 0, 8, .inl (fun _ => 0))), (qm, .inr (5, [.ref qms, .ref qmo, .ref qmz, .ref qmR, .ref qmv, .ref qmk, .ref qmb, .ref qmt, .int 0, .ref qmr, .int 0, .ref qmB, .int 0, .ref qmO, .ref qmK, .int 0, .int 0, .int 1, .null, .null, .int 0, .int 0, .int 0, .long 0, .int 0, .ref qm_three, .int 0, .int 0, .int 0, .null, .ref qm_unread, .ref qm_tryRow, .ref qm_bestRow, .ref qm_steps, .int 0]))] H := hP
      have hD : va_D A [(qms, .inl (cy 0, 8, .inl (fun _ => 0))), (qm, .inr (5, [.ref qms, .ref qmo, .ref qmz, .ref qmR, .ref qmv, .ref qmk, .ref qmb, .ref qmt, .int 0, .ref qmr, .int 0, .ref qmB, .int 0, .ref qmO, .ref qmK, .int 0, .int 0, .int 1, .null, .null, .int 0, .int 0, .int 0, .long 0, .int 0, .ref qm_three, .int 0, .int 0, .int 0, .null, .ref qm_unread, .ref qm_tryRow, .ref qm_bestRow, .ref qm_steps, .int 0]))] := hD
      subst h_17
      exact endW (u := []) hx hb hr hlocks rfl va_P0 va_D0 hS ⟨rfl, (by first | (simp [sp_says, Iv, h_3, h_7]; done) | (unfold sp_says; decide))⟩ dX6_says_30
  · refine lv_if_eq (tgt := 24) hx hb dX6_says_9 (by decide) (fun _ => ?_) (fun h9 => absurd (by decide) h9)
    refine lv_aload_n hx hb dX6_says_24 rfl (lv_at hl 0 rfl) ?_
    refine lv_bipush (v := (-2)) hx hb dX6_says_25 (by decide) ?_
    refine kWi (wr := [(qms, .inl (cy 0, 8, .inl (fun _ => 0)))]) (rV (As := [.int (-2)]) (rest := []) (b := qm) ⟨hx, hb, hml, hown, hts⟩ (c_X6_refuse2 l G cy (s.heap).size qm (.ref qms) (.ref qmo) (.ref qmz) (.ref qmR) (.ref qmv) (.ref qmk) (.ref qmb) (.ref qmt) (.int 0) qmr (.int 0) (.ref qmB) (.int 0) (.ref qmO) (.ref qmK) (.int 0) (.int 0) (.int 1) .null .null (.int 0) (.int 0) (.int 0) (.long 0) (.int 0) (.ref qm_three) (.int 0) (.int 0) (.int 0) .null (.ref qm_unread) (.ref qm_tryRow) (.ref qm_bestRow) (.ref qm_steps) (.int 0) (fun _ => 0)) L_X6_91 (preWV (q := (RX6, TX6, 35)) hN hP hD [0, 2] rfl (by decide) 0 5 rfl rfl) rfl ⟨Nat.le_of_ble_eq_true rfl, Nat.le_of_ble_eq_true rfl⟩ hl.1 (Nat.le_of_ble_eq_true rfl) dX6_says_27 ⟨Nat.le_of_ble_eq_true rfl, Nat.le_of_ble_eq_true rfl⟩) hP hD hS hA [0, 2] [1] rfl rfl (by decide) (by decide) (fun r_20 u_22 H locs h_21 hP hD hS => ?_)
    obtain ⟨rfl, h_21⟩ := h_21
    have hP : va_P G CL [(qms, .inl (cy 0, 8, .inl (fun _ => 0))), (qm, .inr (5, [.ref qms, .ref qmo, .ref qmz, .ref qmR, .ref qmv, .ref qmk, .ref qmb, .ref qmt, .int 0, .ref qmr, .int 0, .ref qmB, .int 0, .ref qmO, .ref qmK, .int 0, .int 0, .int 1, .null, .null, .int 0, .int 0, .int 0, .long 0, .int 0, .ref qm_three, .int 0, .int 0, .int 0, .null, .ref qm_unread, .ref qm_tryRow, .ref qm_bestRow, .ref qm_steps, .int 0]))] H := hP
    have hD : va_D A [(qms, .inl (cy 0, 8, .inl (fun _ => 0))), (qm, .inr (5, [.ref qms, .ref qmo, .ref qmz, .ref qmR, .ref qmv, .ref qmk, .ref qmb, .ref qmt, .int 0, .ref qmr, .int 0, .ref qmB, .int 0, .ref qmO, .ref qmK, .int 0, .int 0, .int 1, .null, .null, .int 0, .int 0, .int 0, .long 0, .int 0, .ref qm_three, .int 0, .int 0, .int 0, .null, .ref qm_unread, .ref qm_tryRow, .ref qm_bestRow, .ref qm_steps, .int 0]))] := hD
    subst h_21
    exact endW (u := []) hx hb hr hlocks rfl va_P0 va_D0 hS ⟨rfl, (by first | (simp [sp_says, Iv, h_3]; done) | (unfold sp_says; decide))⟩ dX6_says_30
set_option maxHeartbeats 4000000 in
set_option maxRecDepth 100000 in
theorem p_X6_book (l : Launch) (G : va_G) (cy : Nat → ClassId) (sz : Nat) (qm : Nat) (qms : Nat) (qmo : Nat) (qmz : Nat) (qmR : Nat) (qmv : Nat) (qmk : Nat) (qmb : Nat) (qmt : Nat) (qmr : Nat) (qmB : Nat) (qmO : Nat) (qmK : Nat) (qm_three : Nat) (qm_unread : Nat) (qm_tryRow : Nat) (qm_bestRow : Nat) (qm_steps : Nat) (rB : Nat → Nat) (rK : Nat → Nat) (iA : Int32) (iB : Int32)   : MW l yX6_book cX6_book 3 (some .int) 6 0 0 G cy [(qm, .inr (5, [.ref qms, .ref qmo, .ref qmz, .ref qmR, .ref qmv, .ref qmk, .ref qmb, .ref qmt, .int 0, .ref qmr, .int 0, .ref qmB, .int 0, .ref qmO, .ref qmK, .int 0, .int 0, .int 1, .null, .null, .int 0, .int 0, .int 0, .long 0, .int 0, .ref qm_three, .int 0, .int 0, .int 0, .null, .ref qm_unread, .ref qm_tryRow, .ref qm_bestRow, .ref qm_steps, .int 0])), (qmB, .inl (cy 3, 8, .inr (.inr (.inr (.inr (fun i => if i < 8 then some (rB i) else none)))))), (rB 0, .inl (cy 0, 4, .inl (fun _ => 0))), (qmK, .inl (cy 3, 8, .inr (.inr (.inr (.inr (fun i => if i < 8 then some (rK i) else none)))))), (rK 0, .inl (cy 0, 8, .inl (fun _ => 0))), (rK 1, .inl (cy 0, 8, .inl (fun _ => 0))), (rK 2, .inl (cy 0, 8, .inl (fun _ => 0))), (rK 3, .inl (cy 0, 8, .inl (fun _ => 0))), (rK 4, .inl (cy 0, 8, .inl (fun _ => 0))), (rK 5, .inl (cy 0, 8, .inl (fun _ => 0))), (rK 6, .inl (cy 0, 8, .inl (fun _ => 0))), (rK 7, .inl (cy 0, 8, .inl (fun _ => 0))), (qmr, .inl (cy 0, 8, .inl (fun _ => 0)))] sz [.ref qm, .int iA, .int iB] (Wi G (fun r u => u = [] ∧ ((r = (sp_book iA iB))))) := by
  refine enW RX6 (by decide) rfl (Nat.le_of_ble_eq_true rfl) (fun p e s m below meth c ls A hx hb hml hown hts hr hlocks hP hN hl hin hD hA hS => ?_)
  have hin : meth.name = _ := hin
  have hK := hN.1
  have hl : lv_has ls 3 [(0, .ref qm), (1, .int iA), (2, .int iB)] := hl
  refine lv_iload_n hx hb dX6_book_0 rfl (lv_at hl 1 rfl) ?_
  refine lv_i2l (v := iA.toInt64) hx hb dX6_book_1 rfl ?_
  refine lv_lconst (v := 1) hx hb dX6_book_2 (by decide) ?_
  refine lv_ldc2 hx hb hown (hts _ m_t998) dX6_book_3 ?_
  refine kRi (rS (As := [.long iA.toInt64, .long 1, .long 99]) (rest := []) ⟨hx, hb, hml, hown, hts⟩ (c_X6_in l G cy iA.toInt64 1 99) L_X6_74 (preRS hN hP [] rfl) rfl ⟨Nat.le_of_ble_eq_true rfl, Nat.le_of_ble_eq_true rfl⟩ hl.1 (Nat.le_of_ble_eq_true rfl) dX6_book_6 ⟨Nat.le_of_ble_eq_true rfl, Nat.le_of_ble_eq_true rfl⟩) (fun r_1 h_2 => ?_)
  rcases h_2 with ⟨rfl, h_3⟩ | ⟨rfl, h_3⟩
  · refine lv_if_eq (tgt := 30) hx hb dX6_book_9 (by decide) (fun h9 => absurd h9 (by decide)) (fun _ => ?_)
    refine lv_iload_n hx hb dX6_book_12 rfl (lv_at hl 2 rfl) ?_
    refine lv_i2l (v := iB.toInt64) hx hb dX6_book_13 rfl ?_
    refine lv_lconst (v := 0) hx hb dX6_book_14 (by decide) ?_
    refine lv_iconst (v := 1) hx hb dX6_book_15 (by decide) ?_
    refine lv_aload_n hx hb dX6_book_16 rfl (lv_at hl 0 rfl) ?_
    refine va_get (D := G) (ci := 5) (v := .int 0) (C := RX6) (T := TX6) (N := 35) hx hb hts iX_X6 hown hK hP 0 rfl rfl 10 (by decide) (hts _ m_t860) (fun _ h9 => h9) rfl dX6_book_17 ?_
    refine lv_ishl hx hb dX6_book_20 ?_
    refine lv_seti (v := 1) (by decide) ?_
    refine lv_iconst (v := 1) hx hb dX6_book_21 (by decide) ?_
    refine lv_isub hx hb dX6_book_22 ?_
    refine lv_seti (v := 0) (by decide) ?_
    refine lv_i2l (v := 0) hx hb dX6_book_23 (by decide) ?_
    refine kRi (rS (As := [.long iB.toInt64, .long 0, .long 0]) (rest := []) ⟨hx, hb, hml, hown, hts⟩ (c_X6_in l G cy iB.toInt64 0 0) L_X6_74 (preRS hN hP [] rfl) rfl ⟨Nat.le_of_ble_eq_true rfl, Nat.le_of_ble_eq_true rfl⟩ hl.1 (Nat.le_of_ble_eq_true rfl) dX6_book_24 ⟨Nat.le_of_ble_eq_true rfl, Nat.le_of_ble_eq_true rfl⟩) (fun r_5 h_6 => ?_)
    rcases h_6 with ⟨rfl, h_7⟩ | ⟨rfl, h_7⟩
    · refine lv_if_ne (tgt := 37) hx hb dX6_book_27 (by decide) (fun _ => ?_) (fun h9 => absurd h9 (by decide))
      refine lv_aload_n hx hb dX6_book_37 rfl (lv_at hl 0 rfl) ?_
      refine va_get (D := G) (ci := 5) (v := .int 0) (C := RX6) (T := TX6) (N := 35) hx hb hts iX_X6 hown hK hP 0 rfl rfl 10 (by decide) (hts _ m_t860) (fun _ h9 => h9) rfl dX6_book_38 ?_
      refine lv_bipush (v := 8) hx hb dX6_book_41 (by decide) ?_
      refine lv_icmp_ne (tgt := 53) hx hb dX6_book_43 (by decide) (fun _ => ?_) (fun h9 => absurd h9 (by decide))
      refine lv_aload_n hx hb dX6_book_53 rfl (lv_at hl 0 rfl) ?_
      refine lv_iload_n hx hb dX6_book_54 rfl (lv_at hl 1 rfl) ?_
      refine kWv (wr := [(qmr, .inl (cy 0, 8, .inl (fun _ => 0)))]) (rV (As := [.int iA]) (rest := []) (b := qm) ⟨hx, hb, hml, hown, hts⟩ (c_X6_newBook l G cy (s.heap).size qm (.ref qms) (.ref qmo) (.ref qmz) (.ref qmR) (.ref qmv) (.ref qmk) (.ref qmb) (.ref qmt) (.int 0) (.ref qmr) qmB (.int 0) (.ref qmO) qmK (.int 0) (.int 0) (.int 1) .null .null (.int 0) (.int 0) (.int 0) (.long 0) (.int 0) (.ref qm_three) (.int 0) (.int 0) (.int 0) .null (.ref qm_unread) (.ref qm_tryRow) (.ref qm_bestRow) (.ref qm_steps) (.int 0) rB rK iA) L_X6_126 (preWV (q := (RX6, TX6, 35)) hN hP hD [0, 1, 2, 3, 4, 5, 6, 7, 8, 9, 10, 11] rfl (by decide) 0 5 rfl rfl) rfl ⟨Nat.le_of_ble_eq_true rfl, Nat.le_of_ble_eq_true rfl⟩ hl.1 (Nat.le_of_ble_eq_true rfl) dX6_book_55 ⟨Nat.le_of_ble_eq_true rfl, Nat.le_of_ble_eq_true rfl⟩) hP hD hS hA [0, 1, 2, 3, 4, 5, 6, 7, 8, 9, 10, 11] [12] rfl rfl (by decide) (by decide) (fun u_12 H locs h_11 hP hD hS => ?_)
      obtain ⟨fN_13, rfl⟩ := h_11
      have hP : va_P G CL [(qmr, .inl (cy 0, 8, .inl (fun _ => 0))), (qm, .inr (5, [.ref qms, .ref qmo, .ref qmz, .ref qmR, .ref qmv, .ref qmk, .ref qmb, .ref qmt, .int 0, .ref qmr, .int 0, .ref qmB, .int 0, .ref qmO, .ref qmK, .int 0, .int 0, .int 1, .null, .null, .int 0, .int 0, .int 0, .long 0, .int 0, .ref qm_three, .int 0, .int 0, .int 0, .null, .ref qm_unread, .ref qm_tryRow, .ref qm_bestRow, .ref qm_steps, .int 0])), (qmB, .inl (cy 3, 8, .inr (.inr (.inr (.inr (fun i => if i < 8 then some (rB i) else none)))))), (rB 0, .inl (cy 0, 4, .inl fN_13))] H := hP
      have hD : va_D A [(qmr, .inl (cy 0, 8, .inl (fun _ => 0))), (qm, .inr (5, [.ref qms, .ref qmo, .ref qmz, .ref qmR, .ref qmv, .ref qmk, .ref qmb, .ref qmt, .int 0, .ref qmr, .int 0, .ref qmB, .int 0, .ref qmO, .ref qmK, .int 0, .int 0, .int 1, .null, .null, .int 0, .int 0, .int 0, .long 0, .int 0, .ref qm_three, .int 0, .int 0, .int 0, .null, .ref qm_unread, .ref qm_tryRow, .ref qm_bestRow, .ref qm_steps, .int 0])), (qmB, .inl (cy 3, 8, .inr (.inr (.inr (.inr (fun i => if i < 8 then some (rB i) else none)))))), (rB 0, .inl (cy 0, 4, .inl fN_13))] := hD
      refine lv_aload_n hx hb dX6_book_58 rfl (lv_at hl 0 rfl) ?_
      refine va_get (D := G) (ci := 5) (v := .ref qmB) (C := RX6) (T := TX6) (N := 35) hx hb hts iX_X6 hown hK hP 1 rfl rfl 11 (by decide) (hts _ m_t861) (fun _ h9 => h9) rfl dX6_book_59 ?_
      refine lv_aload_n hx hb dX6_book_62 rfl (lv_at hl 0 rfl) ?_
      refine va_get (D := G) (ci := 5) (v := .int 0) (C := RX6) (T := TX6) (N := 35) hx hb hts iX_X6 hown hK hP 1 rfl rfl 10 (by decide) (hts _ m_t860) (fun _ h9 => h9) rfl dX6_book_63 ?_
      refine va_alda hx hb hK hP 2 3 rfl rfl (in_c rfl) dX6_book_66 ?_
      refine lv_setv (v := .ref (rB 0)) (rfl) ?_
      refine lv_iconst (v := 1) hx hb dX6_book_67 (by decide) ?_
      refine lv_iload_n hx hb dX6_book_68 rfl (lv_at hl 2 rfl) ?_
      refine va_iast hx hb hK hP hD hS 3 0 rfl rfl (in_c rfl) dX6_book_69 (fun H locs hP hD hS => ?_)
      have hP : va_P G CL [(qmr, .inl (cy 0, 8, .inl (fun _ => 0))), (qm, .inr (5, [.ref qms, .ref qmo, .ref qmz, .ref qmR, .ref qmv, .ref qmk, .ref qmb, .ref qmt, .int 0, .ref qmr, .int 0, .ref qmB, .int 0, .ref qmO, .ref qmK, .int 0, .int 0, .int 1, .null, .null, .int 0, .int 0, .int 0, .long 0, .int 0, .ref qm_three, .int 0, .int 0, .int 0, .null, .ref qm_unread, .ref qm_tryRow, .ref qm_bestRow, .ref qm_steps, .int 0])), (qmB, .inl (cy 3, 8, .inr (.inr (.inr (.inr (fun i => if i < 8 then some (rB i) else none)))))), (rB 0, .inl (cy 0, 4, .inl (upd fN_13 1 iB)))] H := hP
      have hD : va_D A [(qmr, .inl (cy 0, 8, .inl (fun _ => 0))), (qm, .inr (5, [.ref qms, .ref qmo, .ref qmz, .ref qmR, .ref qmv, .ref qmk, .ref qmb, .ref qmt, .int 0, .ref qmr, .int 0, .ref qmB, .int 0, .ref qmO, .ref qmK, .int 0, .int 0, .int 1, .null, .null, .int 0, .int 0, .int 0, .long 0, .int 0, .ref qm_three, .int 0, .int 0, .int 0, .null, .ref qm_unread, .ref qm_tryRow, .ref qm_bestRow, .ref qm_steps, .int 0])), (qmB, .inl (cy 3, 8, .inr (.inr (.inr (.inr (fun i => if i < 8 then some (rB i) else none)))))), (rB 0, .inl (cy 0, 4, .inl (upd fN_13 1 iB)))] := hD
      refine lv_aload_n hx hb dX6_book_70 rfl (lv_at hl 0 rfl) ?_
      refine lv_dup hx hb dX6_book_71 rfl ?_
      refine va_get (D := G) (ci := 5) (v := .int 0) (C := RX6) (T := TX6) (N := 35) hx hb hts iX_X6 hown hK hP 1 rfl rfl 10 (by decide) (hts _ m_t860) (fun _ h9 => h9) rfl dX6_book_72 ?_
      refine lv_dup_x1 hx hb dX6_book_75 rfl rfl ?_
      refine lv_iconst (v := 1) hx hb dX6_book_76 (by decide) ?_
      refine lv_iadd hx hb dX6_book_77 ?_
      refine lv_seti (v := 1) (by decide) ?_
      refine va_put (D := G) (ci := 5) (v := .int 1) (ty := .int) (C := RX6) (T := TX6) (N := 35) hx hb hts iX_X6 tyX6 tyX6_ok nmX6 hown hK hP hD hS 1 rfl rfl 10 (by decide) (hts _ m_t860) (fun _ h9 => h9) rfl (by decide +kernel) rfl rfl (Nat.le_of_ble_eq_true rfl) dX6_book_78 (fun H locs hP hD hS => ?_)
      have hP : va_P G CL [(qmr, .inl (cy 0, 8, .inl (fun _ => 0))), (qm, .inr (5, [.ref qms, .ref qmo, .ref qmz, .ref qmR, .ref qmv, .ref qmk, .ref qmb, .ref qmt, .int 0, .ref qmr, .int 1, .ref qmB, .int 0, .ref qmO, .ref qmK, .int 0, .int 0, .int 1, .null, .null, .int 0, .int 0, .int 0, .long 0, .int 0, .ref qm_three, .int 0, .int 0, .int 0, .null, .ref qm_unread, .ref qm_tryRow, .ref qm_bestRow, .ref qm_steps, .int 0])), (qmB, .inl (cy 3, 8, .inr (.inr (.inr (.inr (fun i => if i < 8 then some (rB i) else none)))))), (rB 0, .inl (cy 0, 4, .inl (upd fN_13 1 iB)))] H := hP
      have hD : va_D A [(qmr, .inl (cy 0, 8, .inl (fun _ => 0))), (qm, .inr (5, [.ref qms, .ref qmo, .ref qmz, .ref qmR, .ref qmv, .ref qmk, .ref qmb, .ref qmt, .int 0, .ref qmr, .int 1, .ref qmB, .int 0, .ref qmO, .ref qmK, .int 0, .int 0, .int 1, .null, .null, .int 0, .int 0, .int 0, .long 0, .int 0, .ref qm_three, .int 0, .int 0, .int 0, .null, .ref qm_unread, .ref qm_tryRow, .ref qm_bestRow, .ref qm_steps, .int 0])), (qmB, .inl (cy 3, 8, .inr (.inr (.inr (.inr (fun i => if i < 8 then some (rB i) else none)))))), (rB 0, .inl (cy 0, 4, .inl (upd fN_13 1 iB)))] := hD
      exact endW (u := []) hx hb hr hlocks rfl va_P0 va_D0 hS ⟨rfl, (by simp [sp_book, Iv, h_3, in00.mp h_7])⟩ dX6_book_81
    · refine lv_if_ne (tgt := 37) hx hb dX6_book_27 (by decide) (fun h9 => absurd (by decide) h9) (fun _ => ?_)
      refine lv_aload_n hx hb dX6_book_30 rfl (lv_at hl 0 rfl) ?_
      refine lv_bipush (v := (-2)) hx hb dX6_book_31 (by decide) ?_
      refine kWi (wr := [(qmB, .inl (cy 3, 8, .inr (.inr (.inr (.inr (fun i => if i < 8 then some (rB i) else none)))))), (rB 0, .inl (cy 0, 4, .inl (fun _ => 0))), (qmK, .inl (cy 3, 8, .inr (.inr (.inr (.inr (fun i => if i < 8 then some (rK i) else none)))))), (rK 0, .inl (cy 0, 8, .inl (fun _ => 0))), (rK 1, .inl (cy 0, 8, .inl (fun _ => 0))), (rK 2, .inl (cy 0, 8, .inl (fun _ => 0))), (rK 3, .inl (cy 0, 8, .inl (fun _ => 0))), (rK 4, .inl (cy 0, 8, .inl (fun _ => 0))), (rK 5, .inl (cy 0, 8, .inl (fun _ => 0))), (rK 6, .inl (cy 0, 8, .inl (fun _ => 0))), (rK 7, .inl (cy 0, 8, .inl (fun _ => 0)))]) (rV (As := [.int (-2)]) (rest := []) (b := qm) ⟨hx, hb, hml, hown, hts⟩ (c_X6_refuse2 l G cy (s.heap).size qm (.ref qms) (.ref qmo) (.ref qmz) (.ref qmR) (.ref qmv) (.ref qmk) (.ref qmb) (.ref qmt) (.int 0) qmr (.int 0) (.ref qmB) (.int 0) (.ref qmO) (.ref qmK) (.int 0) (.int 0) (.int 1) .null .null (.int 0) (.int 0) (.int 0) (.long 0) (.int 0) (.ref qm_three) (.int 0) (.int 0) (.int 0) .null (.ref qm_unread) (.ref qm_tryRow) (.ref qm_bestRow) (.ref qm_steps) (.int 0) (fun _ => 0)) L_X6_91 (preWV (q := (RX6, TX6, 35)) hN hP hD [0, 12] rfl (by decide) 0 5 rfl rfl) rfl ⟨Nat.le_of_ble_eq_true rfl, Nat.le_of_ble_eq_true rfl⟩ hl.1 (Nat.le_of_ble_eq_true rfl) dX6_book_33 ⟨Nat.le_of_ble_eq_true rfl, Nat.le_of_ble_eq_true rfl⟩) hP hD hS hA [0, 12] [1, 2, 3, 4, 5, 6, 7, 8, 9, 10, 11] rfl rfl (by decide) (by decide) (fun r_15 u_17 H locs h_16 hP hD hS => ?_)
      obtain ⟨rfl, h_16⟩ := h_16
      have hP : va_P G CL [(qmB, .inl (cy 3, 8, .inr (.inr (.inr (.inr (fun i => if i < 8 then some (rB i) else none)))))), (rB 0, .inl (cy 0, 4, .inl (fun _ => 0))), (qmK, .inl (cy 3, 8, .inr (.inr (.inr (.inr (fun i => if i < 8 then some (rK i) else none)))))), (rK 0, .inl (cy 0, 8, .inl (fun _ => 0))), (rK 1, .inl (cy 0, 8, .inl (fun _ => 0))), (rK 2, .inl (cy 0, 8, .inl (fun _ => 0))), (rK 3, .inl (cy 0, 8, .inl (fun _ => 0))), (rK 4, .inl (cy 0, 8, .inl (fun _ => 0))), (rK 5, .inl (cy 0, 8, .inl (fun _ => 0))), (rK 6, .inl (cy 0, 8, .inl (fun _ => 0))), (rK 7, .inl (cy 0, 8, .inl (fun _ => 0))), (qm, .inr (5, [.ref qms, .ref qmo, .ref qmz, .ref qmR, .ref qmv, .ref qmk, .ref qmb, .ref qmt, .int 0, .ref qmr, .int 0, .ref qmB, .int 0, .ref qmO, .ref qmK, .int 0, .int 0, .int 1, .null, .null, .int 0, .int 0, .int 0, .long 0, .int 0, .ref qm_three, .int 0, .int 0, .int 0, .null, .ref qm_unread, .ref qm_tryRow, .ref qm_bestRow, .ref qm_steps, .int 0]))] H := hP
      have hD : va_D A [(qmB, .inl (cy 3, 8, .inr (.inr (.inr (.inr (fun i => if i < 8 then some (rB i) else none)))))), (rB 0, .inl (cy 0, 4, .inl (fun _ => 0))), (qmK, .inl (cy 3, 8, .inr (.inr (.inr (.inr (fun i => if i < 8 then some (rK i) else none)))))), (rK 0, .inl (cy 0, 8, .inl (fun _ => 0))), (rK 1, .inl (cy 0, 8, .inl (fun _ => 0))), (rK 2, .inl (cy 0, 8, .inl (fun _ => 0))), (rK 3, .inl (cy 0, 8, .inl (fun _ => 0))), (rK 4, .inl (cy 0, 8, .inl (fun _ => 0))), (rK 5, .inl (cy 0, 8, .inl (fun _ => 0))), (rK 6, .inl (cy 0, 8, .inl (fun _ => 0))), (rK 7, .inl (cy 0, 8, .inl (fun _ => 0))), (qm, .inr (5, [.ref qms, .ref qmo, .ref qmz, .ref qmR, .ref qmv, .ref qmk, .ref qmb, .ref qmt, .int 0, .ref qmr, .int 0, .ref qmB, .int 0, .ref qmO, .ref qmK, .int 0, .int 0, .int 1, .null, .null, .int 0, .int 0, .int 0, .long 0, .int 0, .ref qm_three, .int 0, .int 0, .int 0, .null, .ref qm_unread, .ref qm_tryRow, .ref qm_bestRow, .ref qm_steps, .int 0]))] := hD
      subst h_16
      exact endW (u := []) hx hb hr hlocks rfl va_P0 va_D0 hS ⟨rfl, (by rw [sp_book, if_neg (fun q => h_7 (in00.mpr q.2))])⟩ dX6_book_36
  · refine lv_if_eq (tgt := 30) hx hb dX6_book_9 (by decide) (fun _ => ?_) (fun h9 => absurd (by decide) h9)
    refine lv_aload_n hx hb dX6_book_30 rfl (lv_at hl 0 rfl) ?_
    refine lv_bipush (v := (-2)) hx hb dX6_book_31 (by decide) ?_
    refine kWi (wr := [(qmB, .inl (cy 3, 8, .inr (.inr (.inr (.inr (fun i => if i < 8 then some (rB i) else none)))))), (rB 0, .inl (cy 0, 4, .inl (fun _ => 0))), (qmK, .inl (cy 3, 8, .inr (.inr (.inr (.inr (fun i => if i < 8 then some (rK i) else none)))))), (rK 0, .inl (cy 0, 8, .inl (fun _ => 0))), (rK 1, .inl (cy 0, 8, .inl (fun _ => 0))), (rK 2, .inl (cy 0, 8, .inl (fun _ => 0))), (rK 3, .inl (cy 0, 8, .inl (fun _ => 0))), (rK 4, .inl (cy 0, 8, .inl (fun _ => 0))), (rK 5, .inl (cy 0, 8, .inl (fun _ => 0))), (rK 6, .inl (cy 0, 8, .inl (fun _ => 0))), (rK 7, .inl (cy 0, 8, .inl (fun _ => 0)))]) (rV (As := [.int (-2)]) (rest := []) (b := qm) ⟨hx, hb, hml, hown, hts⟩ (c_X6_refuse2 l G cy (s.heap).size qm (.ref qms) (.ref qmo) (.ref qmz) (.ref qmR) (.ref qmv) (.ref qmk) (.ref qmb) (.ref qmt) (.int 0) qmr (.int 0) (.ref qmB) (.int 0) (.ref qmO) (.ref qmK) (.int 0) (.int 0) (.int 1) .null .null (.int 0) (.int 0) (.int 0) (.long 0) (.int 0) (.ref qm_three) (.int 0) (.int 0) (.int 0) .null (.ref qm_unread) (.ref qm_tryRow) (.ref qm_bestRow) (.ref qm_steps) (.int 0) (fun _ => 0)) L_X6_91 (preWV (q := (RX6, TX6, 35)) hN hP hD [0, 12] rfl (by decide) 0 5 rfl rfl) rfl ⟨Nat.le_of_ble_eq_true rfl, Nat.le_of_ble_eq_true rfl⟩ hl.1 (Nat.le_of_ble_eq_true rfl) dX6_book_33 ⟨Nat.le_of_ble_eq_true rfl, Nat.le_of_ble_eq_true rfl⟩) hP hD hS hA [0, 12] [1, 2, 3, 4, 5, 6, 7, 8, 9, 10, 11] rfl rfl (by decide) (by decide) (fun r_19 u_21 H locs h_20 hP hD hS => ?_)
    obtain ⟨rfl, h_20⟩ := h_20
    have hP : va_P G CL [(qmB, .inl (cy 3, 8, .inr (.inr (.inr (.inr (fun i => if i < 8 then some (rB i) else none)))))), (rB 0, .inl (cy 0, 4, .inl (fun _ => 0))), (qmK, .inl (cy 3, 8, .inr (.inr (.inr (.inr (fun i => if i < 8 then some (rK i) else none)))))), (rK 0, .inl (cy 0, 8, .inl (fun _ => 0))), (rK 1, .inl (cy 0, 8, .inl (fun _ => 0))), (rK 2, .inl (cy 0, 8, .inl (fun _ => 0))), (rK 3, .inl (cy 0, 8, .inl (fun _ => 0))), (rK 4, .inl (cy 0, 8, .inl (fun _ => 0))), (rK 5, .inl (cy 0, 8, .inl (fun _ => 0))), (rK 6, .inl (cy 0, 8, .inl (fun _ => 0))), (rK 7, .inl (cy 0, 8, .inl (fun _ => 0))), (qm, .inr (5, [.ref qms, .ref qmo, .ref qmz, .ref qmR, .ref qmv, .ref qmk, .ref qmb, .ref qmt, .int 0, .ref qmr, .int 0, .ref qmB, .int 0, .ref qmO, .ref qmK, .int 0, .int 0, .int 1, .null, .null, .int 0, .int 0, .int 0, .long 0, .int 0, .ref qm_three, .int 0, .int 0, .int 0, .null, .ref qm_unread, .ref qm_tryRow, .ref qm_bestRow, .ref qm_steps, .int 0]))] H := hP
    have hD : va_D A [(qmB, .inl (cy 3, 8, .inr (.inr (.inr (.inr (fun i => if i < 8 then some (rB i) else none)))))), (rB 0, .inl (cy 0, 4, .inl (fun _ => 0))), (qmK, .inl (cy 3, 8, .inr (.inr (.inr (.inr (fun i => if i < 8 then some (rK i) else none)))))), (rK 0, .inl (cy 0, 8, .inl (fun _ => 0))), (rK 1, .inl (cy 0, 8, .inl (fun _ => 0))), (rK 2, .inl (cy 0, 8, .inl (fun _ => 0))), (rK 3, .inl (cy 0, 8, .inl (fun _ => 0))), (rK 4, .inl (cy 0, 8, .inl (fun _ => 0))), (rK 5, .inl (cy 0, 8, .inl (fun _ => 0))), (rK 6, .inl (cy 0, 8, .inl (fun _ => 0))), (rK 7, .inl (cy 0, 8, .inl (fun _ => 0))), (qm, .inr (5, [.ref qms, .ref qmo, .ref qmz, .ref qmR, .ref qmv, .ref qmk, .ref qmb, .ref qmt, .int 0, .ref qmr, .int 0, .ref qmB, .int 0, .ref qmO, .ref qmK, .int 0, .int 0, .int 1, .null, .null, .int 0, .int 0, .int 0, .long 0, .int 0, .ref qm_three, .int 0, .int 0, .int 0, .null, .ref qm_unread, .ref qm_tryRow, .ref qm_bestRow, .ref qm_steps, .int 0]))] := hD
    subst h_20
    exact endW (u := []) hx hb hr hlocks rfl va_P0 va_D0 hS ⟨rfl, (by simp [sp_book, Iv, h_3])⟩ dX6_book_36
set_option maxHeartbeats 4000000 in
set_option maxRecDepth 100000 in
theorem p_X6_one (l : Launch) (G : va_G) (cy : Nat → ClassId) (sz : Nat) (qm : Nat) (qms : Nat) (qmo : Nat) (qmz : Nat) (qmR : Nat) (qmv : Nat) (qmk : Nat) (qmb : Nat) (qmt : Nat) (qmr : Nat) (qmB : Nat) (qmO : Nat) (qmK : Nat) (qm_three : Nat) (qm_unread : Nat) (qm_tryRow : Nat) (qm_bestRow : Nat) (qm_steps : Nat) (rO : Nat → Nat) (rK : Nat → Nat) (iA : Int32) (iB : Int32) (iC : Int32) (iD : Int32)   : MW l yX6_one cX6_one 6 (some .int) 6 0 0 G cy [(qm, .inr (5, [.ref qms, .ref qmo, .ref qmz, .ref qmR, .ref qmv, .ref qmk, .ref qmb, .ref qmt, .int 0, .ref qmr, .int 0, .ref qmB, .int 0, .ref qmO, .ref qmK, .int 0, .int 0, .int 1, .null, .null, .int 0, .int 0, .int 0, .long 0, .int 0, .ref qm_three, .int 0, .int 0, .int 0, .null, .ref qm_unread, .ref qm_tryRow, .ref qm_bestRow, .ref qm_steps, .int 0])), (qmO, .inl (cy 3, 8, .inr (.inr (.inr (.inr (fun i => if i < 8 then some (rO i) else none)))))), (rO 0, .inl (cy 0, 5, .inl (fun _ => 0))), (qmK, .inl (cy 3, 8, .inr (.inr (.inr (.inr (fun i => if i < 8 then some (rK i) else none)))))), (rK 0, .inl (cy 0, 8, .inl (fun _ => 0))), (qmr, .inl (cy 0, 8, .inl (fun _ => 0)))] sz [.ref qm, .int iA, .int iB, .int iC, .int iD] (Wi G (fun r u => u = [] ∧ ((r = (sp_one iA iB iC iD))))) := by
  refine enW RX6 (by decide) rfl (Nat.le_of_ble_eq_true rfl) (fun p e s m below meth c ls A hx hb hml hown hts hr hlocks hP hN hl hin hD hA hS => ?_)
  have hin : meth.name = _ := hin
  have hK := hN.1
  have hl : lv_has ls 6 [(0, .ref qm), (1, .int iA), (2, .int iB), (3, .int iC), (4, .int iD)] := hl
  refine lv_aload_n hx hb dX6_one_0 rfl (lv_at hl 0 rfl) ?_
  refine lv_iload_n hx hb dX6_one_1 rfl (lv_at hl 1 rfl) ?_
  refine lv_i2l (v := iA.toInt64) hx hb dX6_one_2 rfl ?_
  refine lv_iload_n hx hb dX6_one_3 rfl (lv_at hl 2 rfl) ?_
  refine lv_i2l (v := iB.toInt64) hx hb dX6_one_4 rfl ?_
  refine lv_iload_n hx hb dX6_one_5 rfl (lv_at hl 3 rfl) ?_
  refine lv_i2l (v := iC.toInt64) hx hb dX6_one_6 rfl ?_
  refine lv_iload hx hb dX6_one_7 (lv_at hl 4 rfl) ?_
  refine lv_i2l (v := iD.toInt64) hx hb dX6_one_9 rfl ?_
  refine kWi (wr := [(qmr, .inl (cy 0, 8, .inl (fun _ => 0)))]) (rV (As := [.long iA.toInt64, .long iB.toInt64, .long iC.toInt64, .long iD.toInt64]) (rest := []) (b := qm) ⟨hx, hb, hml, hown, hts⟩ (c_X6_add l G cy (s.heap).size qm (.ref qms) (.ref qmo) (.ref qmz) (.ref qmR) (.ref qmv) (.ref qmk) (.ref qmb) (.ref qmt) (.int 0) qmr (.int 0) (.ref qmB) qmO qmK (.int 0) (.int 0) (.int 1) .null .null (.int 0) (.int 0) (.int 0) (.long 0) (.int 0) (.ref qm_three) (.int 0) (.int 0) (.int 0) .null (.ref qm_unread) (.ref qm_tryRow) (.ref qm_bestRow) (.ref qm_steps) (.int 0) rO rK iA.toInt64 iB.toInt64 iC.toInt64 iD.toInt64) L_X6_137 (preWV (q := (RX6, TX6, 35)) hN hP hD [0, 1, 2, 3, 4] rfl (by decide) 0 5 rfl rfl) rfl ⟨Nat.le_of_ble_eq_true rfl, Nat.le_of_ble_eq_true rfl⟩ hl.1 (Nat.le_of_ble_eq_true rfl) dX6_one_10 ⟨Nat.le_of_ble_eq_true rfl, Nat.le_of_ble_eq_true rfl⟩) hP hD hS hA [0, 1, 2, 3, 4] [5] rfl rfl (by decide) (by decide) (fun r_1 u_3 H locs h_2 hP hD hS => ?_)
  obtain ⟨wP_4, wP_5, wP_6, wP_7, wP_8, wP_9, wP_10, wP_11, wP_12, wP_13, wP_14, wP_15, wP_16, wP_17, wP_18, wP_19, wP_20, wP_21, wP_22, wP_23, wP_24, wP_25, wP_26, wP_27, wP_28, wP_29, wP_30, wP_31, wP_32, wP_33, wP_34, wP_35, wP_36, wP_37, rfl, h_2⟩ := h_2
  have hP : va_P G CL [(qmr, .inl (cy 0, 8, .inl (fun _ => 0))), (qm, .inr (5, [wP_4, wP_5, wP_6, wP_7, wP_8, wP_9, wP_10, wP_11, wP_12, .ref qmr, wP_13, wP_14, wP_15, wP_16, wP_17, wP_18, wP_19, wP_20, wP_21, wP_22, wP_23, wP_24, wP_25, wP_26, wP_27, wP_28, wP_29, wP_30, wP_31, wP_32, wP_33, wP_34, wP_35, wP_36, wP_37]))] H := hP
  have hD : va_D A [(qmr, .inl (cy 0, 8, .inl (fun _ => 0))), (qm, .inr (5, [wP_4, wP_5, wP_6, wP_7, wP_8, wP_9, wP_10, wP_11, wP_12, .ref qmr, wP_13, wP_14, wP_15, wP_16, wP_17, wP_18, wP_19, wP_20, wP_21, wP_22, wP_23, wP_24, wP_25, wP_26, wP_27, wP_28, wP_29, wP_30, wP_31, wP_32, wP_33, wP_34, wP_35, wP_36, wP_37]))] := hD
  rcases h_2 with ⟨rfl, h_38⟩ | ⟨rfl, h_38⟩
  · refine lv_istore (lv' := [(5, .int (-2)), (0, .ref qm), (1, .int iA), (2, .int iB), (3, .int iC), (4, .int iD)]) hx hb dX6_one_13 hl (by decide) rfl (fun ls hl => ?_)
    refine lv_iload hx hb dX6_one_15 (lv_at hl 0 rfl) ?_
    refine lv_if_ge (tgt := 29) hx hb dX6_one_17 (by decide) (fun h9 => absurd h9 (by decide)) (fun _ => ?_)
    refine lv_aload_n hx hb dX6_one_20 rfl (lv_at hl 1 rfl) ?_
    refine lv_iload hx hb dX6_one_21 (lv_at hl 0 rfl) ?_
    refine kWi (wr := []) (rV (As := [.int (-2)]) (rest := []) (b := qm) ⟨hx, hb, hml, hown, hts⟩ (c_X6_refuse2 l G cy (H).size qm wP_4 wP_5 wP_6 wP_7 wP_8 wP_9 wP_10 wP_11 wP_12 qmr wP_13 wP_14 wP_15 wP_16 wP_17 wP_18 wP_19 wP_20 wP_21 wP_22 wP_23 wP_24 wP_25 wP_26 wP_27 wP_28 wP_29 wP_30 wP_31 wP_32 wP_33 wP_34 wP_35 wP_36 wP_37 (fun _ => 0)) L_X6_91 (preWV (q := (RX6, TX6, 35)) hN hP hD [1, 0] rfl (by decide) 1 5 rfl rfl) rfl ⟨Nat.le_of_ble_eq_true rfl, Nat.le_of_ble_eq_true rfl⟩ hl.1 (Nat.le_of_ble_eq_true rfl) dX6_one_23 ⟨Nat.le_of_ble_eq_true rfl, Nat.le_of_ble_eq_true rfl⟩) hP hD hS hA [1, 0] [] rfl rfl (by decide) (by decide) (fun r_40 u_42 H locs h_41 hP hD hS => ?_)
    obtain ⟨rfl, h_41⟩ := h_41
    have hP : va_P G CL [(qm, .inr (5, [wP_4, wP_5, wP_6, wP_7, wP_8, wP_9, wP_10, wP_11, wP_12, .ref qmr, wP_13, wP_14, wP_15, wP_16, wP_17, wP_18, wP_19, wP_20, wP_21, wP_22, wP_23, wP_24, wP_25, wP_26, wP_27, wP_28, wP_29, wP_30, wP_31, wP_32, wP_33, wP_34, wP_35, wP_36, wP_37]))] H := hP
    have hD : va_D A [(qm, .inr (5, [wP_4, wP_5, wP_6, wP_7, wP_8, wP_9, wP_10, wP_11, wP_12, .ref qmr, wP_13, wP_14, wP_15, wP_16, wP_17, wP_18, wP_19, wP_20, wP_21, wP_22, wP_23, wP_24, wP_25, wP_26, wP_27, wP_28, wP_29, wP_30, wP_31, wP_32, wP_33, wP_34, wP_35, wP_36, wP_37]))] := hD
    subst h_41
    refine lv_goto (tgt := 31) hx hb dX6_one_26 (by decide) ?_
    exact endW (u := []) hx hb hr hlocks rfl va_P0 va_D0 hS ⟨rfl, (by first | (rw [sp_one, if_pos h_38]; done) | (rw [sp_one, if_neg h_38]; done))⟩ dX6_one_31
  · refine lv_istore (lv' := [(5, .int 0), (0, .ref qm), (1, .int iA), (2, .int iB), (3, .int iC), (4, .int iD)]) hx hb dX6_one_13 hl (by decide) rfl (fun ls hl => ?_)
    refine lv_iload hx hb dX6_one_15 (lv_at hl 0 rfl) ?_
    refine lv_if_ge (tgt := 29) hx hb dX6_one_17 (by decide) (fun _ => ?_) (fun h9 => absurd (by decide) h9)
    refine lv_iload hx hb dX6_one_29 (lv_at hl 0 rfl) ?_
    exact endW (u := []) hx hb hr hlocks rfl va_P0 va_D0 hS ⟨rfl, (by first | (rw [sp_one, if_pos h_38]; done) | (rw [sp_one, if_neg h_38]; done))⟩ dX6_one_31
set_option maxHeartbeats 4000000 in
set_option maxRecDepth 100000 in
theorem p_X6_ones (l : Launch) (G : va_G) (cy : Nat → ClassId) (sz : Nat) (qm : Nat) (qms : Nat) (qmo : Nat) (qmz : Nat) (qmR : Nat) (qmv : Nat) (qmk : Nat) (qmb : Nat) (qmt : Nat) (qmr : Nat) (qmB : Nat) (qmO : Nat) (qmK : Nat) (qm_three : Nat) (qm_unread : Nat) (qm_tryRow : Nat) (qm_bestRow : Nat) (qm_steps : Nat) (iA : Int32) (iB : Int32)   : MW l yX6_ones cX6_ones 6 (some .int) 6 0 0 G cy [(qm, .inr (5, [.ref qms, .ref qmo, .ref qmz, .ref qmR, .ref qmv, .ref qmk, .ref qmb, .ref qmt, .int 0, .ref qmr, .int 0, .ref qmB, .int 0, .ref qmO, .ref qmK, .int 0, .int 0, .int 1, .null, .null, .int 0, .int 0, .int 0, .long 0, .int 0, .ref qm_three, .int 0, .int 0, .int 0, .null, .ref qm_unread, .ref qm_tryRow, .ref qm_bestRow, .ref qm_steps, .int 0])), (qms, .inl (cy 0, 8, .inl (fun _ => 0))), (qmr, .inl (cy 0, 8, .inl (fun _ => 0)))] sz [.ref qm, .int iA, .int iB] (Wi G (fun r u => u = [] ∧ ((r = (sp_shelf iA))))) := by
  refine enW RX6 (by decide) rfl (Nat.le_of_ble_eq_true rfl) (fun p e s m below meth c ls A hx hb hml hown hts hr hlocks hP hN hl hin hD hA hS => ?_)
  have hin : meth.name = _ := hin
  have hK := hN.1
  have hl : lv_has ls 6 [(0, .ref qm), (1, .int iA), (2, .int iB)] := hl
  refine lv_aload_n hx hb dX6_ones_0 rfl (lv_at hl 0 rfl) ?_
  refine lv_iload_n hx hb dX6_ones_1 rfl (lv_at hl 1 rfl) ?_
  refine kWi (wr := []) (rV (As := [.int iA]) (rest := []) (b := qm) ⟨hx, hb, hml, hown, hts⟩ (c_X6_noRow l G cy (s.heap).size qm qms (.ref qmo) (.ref qmz) (.ref qmR) (.ref qmv) (.ref qmk) (.ref qmb) (.ref qmt) (.int 0) qmr (.int 0) (.ref qmB) (.int 0) (.ref qmO) (.ref qmK) (.int 0) (.int 0) (.int 1) .null .null (.int 0) (.int 0) (.int 0) (.long 0) (.int 0) (.ref qm_three) (.int 0) (.int 0) (.int 0) .null (.ref qm_unread) (.ref qm_tryRow) (.ref qm_bestRow) (.ref qm_steps) (.int 0) iA) L_X6_95 (preWV (q := (RX6, TX6, 35)) hN hP hD [0, 1, 2] rfl (by decide) 0 5 rfl rfl) rfl ⟨Nat.le_of_ble_eq_true rfl, Nat.le_of_ble_eq_true rfl⟩ hl.1 (Nat.le_of_ble_eq_true rfl) dX6_ones_2 ⟨Nat.le_of_ble_eq_true rfl, Nat.le_of_ble_eq_true rfl⟩) hP hD hS hA [0, 1, 2] [] rfl rfl (by decide) (by decide) (fun r_1 u_3 H locs h_2 hP hD hS => ?_)
  obtain ⟨rfl, h_2⟩ := h_2
  have hP : va_P G CL [] H := hP
  have hD : va_D A [] := hD
  rcases h_2 with ⟨rfl, h_4⟩ | ⟨rfl, h_4⟩
  · refine lv_istore_n (lv' := [(3, .int (-2)), (0, .ref qm), (1, .int iA), (2, .int iB)]) hx hb dX6_ones_5 rfl hl (by decide) rfl (fun ls hl => ?_)
    refine lv_iload_n hx hb dX6_ones_6 rfl (lv_at hl 0 rfl) ?_
    refine lv_if_eq (tgt := 12) hx hb dX6_ones_7 (by decide) (fun h9 => absurd h9 (by decide)) (fun _ => ?_)
    refine lv_iload_n hx hb dX6_ones_10 rfl (lv_at hl 0 rfl) ?_
    exact endW (u := []) hx hb hr hlocks rfl va_P0 va_D0 hS ⟨rfl, (by first | (simp [sp_shelf, Iv, h_4]; done) | (unfold sp_shelf; decide))⟩ dX6_ones_11
  · refine lv_istore_n (lv' := [(3, .int (-4)), (0, .ref qm), (1, .int iA), (2, .int iB)]) hx hb dX6_ones_5 rfl hl (by decide) rfl (fun ls hl => ?_)
    refine lv_iload_n hx hb dX6_ones_6 rfl (lv_at hl 0 rfl) ?_
    refine lv_if_eq (tgt := 12) hx hb dX6_ones_7 (by decide) (fun h9 => absurd h9 (by decide)) (fun _ => ?_)
    refine lv_iload_n hx hb dX6_ones_10 rfl (lv_at hl 0 rfl) ?_
    exact endW (u := []) hx hb hr hlocks rfl va_P0 va_D0 hS ⟨rfl, (by first | (simp [sp_shelf, Iv, h_4]; done) | (unfold sp_shelf; decide))⟩ dX6_ones_11
set_option maxHeartbeats 4000000 in
set_option maxRecDepth 100000 in
theorem p_X6_feed (l : Launch) (G : va_G) (cy : Nat → ClassId) (sz : Nat) (qm : Nat) (qms : Nat) (qmo : Nat) (qmz : Nat) (qmR : Nat) (qmv : Nat) (qmk : Nat) (qmb : Nat) (qmt : Nat) (qmr : Nat) (qmB : Nat) (qmO : Nat) (qmK : Nat) (qm_three : Nat) (qm_unread : Nat) (qm_tryRow : Nat) (qm_bestRow : Nat) (qm_steps : Nat) (iA : Int32) (iB : Int32)   : MW l yX6_feed cX6_feed 4 (some .int) 6 0 0 G cy [(qm, .inr (5, [.ref qms, .ref qmo, .ref qmz, .ref qmR, .ref qmv, .ref qmk, .ref qmb, .ref qmt, .int 0, .ref qmr, .int 0, .ref qmB, .int 0, .ref qmO, .ref qmK, .int 0, .int 0, .int 1, .null, .null, .int 0, .int 0, .int 0, .long 0, .int 0, .ref qm_three, .int 0, .int 0, .int 0, .null, .ref qm_unread, .ref qm_tryRow, .ref qm_bestRow, .ref qm_steps, .int 0])), (qmt, .inl (cy 0, 250, .inl (fun _ => 0))), (qmr, .inl (cy 0, 8, .inl (fun _ => 0)))] sz [.ref qm, .int iA, .int iB] (Wi G (fun r u => u = [] ∧ ((r = (sp_feed iB))))) := by
  refine enW RX6 (by decide) rfl (Nat.le_of_ble_eq_true rfl) (fun p e s m below meth c ls A hx hb hml hown hts hr hlocks hP hN hl hin hD hA hS => ?_)
  have hin : meth.name = _ := hin
  have hK := hN.1
  have hl : lv_has ls 4 [(0, .ref qm), (1, .int iA), (2, .int iB)] := hl
  refine lv_iload_n hx hb dX6_feed_0 rfl (lv_at hl 2 rfl) ?_
  refine lv_i2l (v := iB.toInt64) hx hb dX6_feed_1 rfl ?_
  refine lv_lconst (v := 1) hx hb dX6_feed_2 (by decide) ?_
  refine lv_ldc2 hx hb hown (hts _ m_t964) dX6_feed_3 ?_
  refine kRi (rS (As := [.long iB.toInt64, .long 1, .long 4]) (rest := []) ⟨hx, hb, hml, hown, hts⟩ (c_X6_in l G cy iB.toInt64 1 4) L_X6_74 (preRS hN hP [] rfl) rfl ⟨Nat.le_of_ble_eq_true rfl, Nat.le_of_ble_eq_true rfl⟩ hl.1 (Nat.le_of_ble_eq_true rfl) dX6_feed_6 ⟨Nat.le_of_ble_eq_true rfl, Nat.le_of_ble_eq_true rfl⟩) (fun r_1 h_2 => ?_)
  rcases h_2 with ⟨rfl, h_3⟩ | ⟨rfl, h_3⟩
  · refine lv_if_ne (tgt := 19) hx hb dX6_feed_9 (by decide) (fun _ => ?_) (fun h9 => absurd h9 (by decide))
    rcases in14 h_3 with rfl | rfl | rfl | rfl
    · refine lv_iload_n hx hb dX6_feed_19 rfl (lv_at hl 2 rfl) ?_
      refine lv_sipush (v := 250) hx hb dX6_feed_20 (by decide) ?_
      refine lv_aload_n hx hb dX6_feed_23 rfl (lv_at hl 0 rfl) ?_
      refine va_get (D := G) (ci := 5) (v := .int 0) (C := RX6) (T := TX6) (N := 35) hx hb hts iX_X6 hown hK hP 0 rfl rfl 8 (by decide) (hts _ m_t858) (fun _ h9 => h9) rfl dX6_feed_24 ?_
      refine lv_isub hx hb dX6_feed_27 ?_
      refine lv_seti (v := 250) (by decide) ?_
      refine lv_icmp_le (tgt := 38) hx hb dX6_feed_28 (by decide) (fun _ => ?_) (fun h9 => absurd (by decide) h9)
      refine lv_iload_n hx hb dX6_feed_38 rfl (lv_at hl 2 rfl) ?_
      refine lv_iconst (v := 1) hx hb dX6_feed_39 (by decide) ?_
      refine lv_isub hx hb dX6_feed_40 ?_
      refine lv_seti (v := 0) (by decide) ?_
      refine lv_istore_n (lv' := [(3, .int 0), (0, .ref qm), (1, .int iA), (2, .int 1)]) hx hb dX6_feed_41 rfl hl (by decide) rfl (fun ls hl => ?_)
      refine lv_iload_n hx hb dX6_feed_42 rfl (lv_at hl 0 rfl) ?_
      refine lv_if_lt (tgt := 78) hx hb dX6_feed_43 (by decide) (fun h9 => absurd h9 (by decide)) (fun _ => ?_)
      refine lv_aload_n hx hb dX6_feed_46 rfl (lv_at hl 1 rfl) ?_
      refine va_get (D := G) (ci := 5) (v := .ref qmt) (C := RX6) (T := TX6) (N := 35) hx hb hts iX_X6 hown hK hP 0 rfl rfl 7 (by decide) (hts _ m_t857) (fun _ h9 => h9) rfl dX6_feed_47 ?_
      refine lv_aload_n hx hb dX6_feed_50 rfl (lv_at hl 1 rfl) ?_
      refine lv_dup hx hb dX6_feed_51 rfl ?_
      refine va_get (D := G) (ci := 5) (v := .int 0) (C := RX6) (T := TX6) (N := 35) hx hb hts iX_X6 hown hK hP 0 rfl rfl 8 (by decide) (hts _ m_t858) (fun _ h9 => h9) rfl dX6_feed_52 ?_
      refine lv_dup_x1 hx hb dX6_feed_55 rfl rfl ?_
      refine lv_iconst (v := 1) hx hb dX6_feed_56 (by decide) ?_
      refine lv_iadd hx hb dX6_feed_57 ?_
      refine lv_seti (v := 1) (by decide) ?_
      refine va_put (D := G) (ci := 5) (v := .int 1) (ty := .int) (C := RX6) (T := TX6) (N := 35) hx hb hts iX_X6 tyX6 tyX6_ok nmX6 hown hK hP hD hS 0 rfl rfl 8 (by decide) (hts _ m_t858) (fun _ h9 => h9) rfl (by decide +kernel) rfl rfl (Nat.le_of_ble_eq_true rfl) dX6_feed_58 (fun H locs hP hD hS => ?_)
      have hP : va_P G CL [(qm, .inr (5, [.ref qms, .ref qmo, .ref qmz, .ref qmR, .ref qmv, .ref qmk, .ref qmb, .ref qmt, .int 1, .ref qmr, .int 0, .ref qmB, .int 0, .ref qmO, .ref qmK, .int 0, .int 0, .int 1, .null, .null, .int 0, .int 0, .int 0, .long 0, .int 0, .ref qm_three, .int 0, .int 0, .int 0, .null, .ref qm_unread, .ref qm_tryRow, .ref qm_bestRow, .ref qm_steps, .int 0])), (qmt, .inl (cy 0, 250, .inl (fun _ => 0))), (qmr, .inl (cy 0, 8, .inl (fun _ => 0)))] H := hP
      have hD : va_D A [(qm, .inr (5, [.ref qms, .ref qmo, .ref qmz, .ref qmR, .ref qmv, .ref qmk, .ref qmb, .ref qmt, .int 1, .ref qmr, .int 0, .ref qmB, .int 0, .ref qmO, .ref qmK, .int 0, .int 0, .int 1, .null, .null, .int 0, .int 0, .int 0, .long 0, .int 0, .ref qm_three, .int 0, .int 0, .int 0, .null, .ref qm_unread, .ref qm_tryRow, .ref qm_bestRow, .ref qm_steps, .int 0])), (qmt, .inl (cy 0, 250, .inl (fun _ => 0))), (qmr, .inl (cy 0, 8, .inl (fun _ => 0)))] := hD
      refine lv_iload_n hx hb dX6_feed_61 rfl (lv_at hl 2 rfl) ?_
      refine lv_bipush (v := 8) hx hb dX6_feed_62 (by decide) ?_
      refine lv_iload_n hx hb dX6_feed_64 rfl (lv_at hl 0 rfl) ?_
      refine lv_imul hx hb dX6_feed_65 ?_
      refine lv_seti (v := 0) (by decide) ?_
      refine lv_ishr hx hb dX6_feed_66 ?_
      refine lv_sipush (v := 255) hx hb dX6_feed_67 (by decide) ?_
      refine lv_iand hx hb dX6_feed_70 ?_
      refine va_iast hx hb hK hP hD hS 1 0 rfl rfl (in_c rfl) dX6_feed_71 (fun H locs hP hD hS => ?_)
      have hP : va_P G CL [(qm, .inr (5, [.ref qms, .ref qmo, .ref qmz, .ref qmR, .ref qmv, .ref qmk, .ref qmb, .ref qmt, .int 1, .ref qmr, .int 0, .ref qmB, .int 0, .ref qmO, .ref qmK, .int 0, .int 0, .int 1, .null, .null, .int 0, .int 0, .int 0, .long 0, .int 0, .ref qm_three, .int 0, .int 0, .int 0, .null, .ref qm_unread, .ref qm_tryRow, .ref qm_bestRow, .ref qm_steps, .int 0])), (qmt, .inl (cy 0, 250, .inl (upd (fun _ => 0) 0 ((iA >>> (0 &&& 31)) &&& 255)))), (qmr, .inl (cy 0, 8, .inl (fun _ => 0)))] H := hP
      have hD : va_D A [(qm, .inr (5, [.ref qms, .ref qmo, .ref qmz, .ref qmR, .ref qmv, .ref qmk, .ref qmb, .ref qmt, .int 1, .ref qmr, .int 0, .ref qmB, .int 0, .ref qmO, .ref qmK, .int 0, .int 0, .int 1, .null, .null, .int 0, .int 0, .int 0, .long 0, .int 0, .ref qm_three, .int 0, .int 0, .int 0, .null, .ref qm_unread, .ref qm_tryRow, .ref qm_bestRow, .ref qm_steps, .int 0])), (qmt, .inl (cy 0, 250, .inl (upd (fun _ => 0) 0 ((iA >>> (0 &&& 31)) &&& 255)))), (qmr, .inl (cy 0, 8, .inl (fun _ => 0)))] := hD
      refine lv_iinc (v := (-1)) (lv' := [(3, .int (-1)), (0, .ref qm), (1, .int iA), (2, .int 1)]) hx hb dX6_feed_72 hl (k := 0) rfl (by decide) (by decide) rfl (fun ls hl => ?_)
      refine lv_goto (tgt := 42) hx hb dX6_feed_75 (by decide) ?_
      refine lv_iload_n hx hb dX6_feed_42 rfl (lv_at hl 0 rfl) ?_
      refine lv_if_lt (tgt := 78) hx hb dX6_feed_43 (by decide) (fun _ => ?_) (fun h9 => absurd (by decide) h9)
      refine lv_aload_n hx hb dX6_feed_78 rfl (lv_at hl 1 rfl) ?_
      refine va_get (D := G) (ci := 5) (v := .int 1) (C := RX6) (T := TX6) (N := 35) hx hb hts iX_X6 hown hK hP 0 rfl rfl 8 (by decide) (hts _ m_t858) (fun _ h9 => h9) rfl dX6_feed_79 ?_
      exact endW (u := []) hx hb hr hlocks rfl va_P0 va_D0 hS ⟨rfl, (by first | (simp [sp_feed, Iv, h_3]; done) | (unfold sp_feed; decide))⟩ dX6_feed_82
    · refine lv_iload_n hx hb dX6_feed_19 rfl (lv_at hl 2 rfl) ?_
      refine lv_sipush (v := 250) hx hb dX6_feed_20 (by decide) ?_
      refine lv_aload_n hx hb dX6_feed_23 rfl (lv_at hl 0 rfl) ?_
      refine va_get (D := G) (ci := 5) (v := .int 0) (C := RX6) (T := TX6) (N := 35) hx hb hts iX_X6 hown hK hP 0 rfl rfl 8 (by decide) (hts _ m_t858) (fun _ h9 => h9) rfl dX6_feed_24 ?_
      refine lv_isub hx hb dX6_feed_27 ?_
      refine lv_seti (v := 250) (by decide) ?_
      refine lv_icmp_le (tgt := 38) hx hb dX6_feed_28 (by decide) (fun _ => ?_) (fun h9 => absurd (by decide) h9)
      refine lv_iload_n hx hb dX6_feed_38 rfl (lv_at hl 2 rfl) ?_
      refine lv_iconst (v := 1) hx hb dX6_feed_39 (by decide) ?_
      refine lv_isub hx hb dX6_feed_40 ?_
      refine lv_seti (v := 1) (by decide) ?_
      refine lv_istore_n (lv' := [(3, .int 1), (0, .ref qm), (1, .int iA), (2, .int 2)]) hx hb dX6_feed_41 rfl hl (by decide) rfl (fun ls hl => ?_)
      refine lv_iload_n hx hb dX6_feed_42 rfl (lv_at hl 0 rfl) ?_
      refine lv_if_lt (tgt := 78) hx hb dX6_feed_43 (by decide) (fun h9 => absurd h9 (by decide)) (fun _ => ?_)
      refine lv_aload_n hx hb dX6_feed_46 rfl (lv_at hl 1 rfl) ?_
      refine va_get (D := G) (ci := 5) (v := .ref qmt) (C := RX6) (T := TX6) (N := 35) hx hb hts iX_X6 hown hK hP 0 rfl rfl 7 (by decide) (hts _ m_t857) (fun _ h9 => h9) rfl dX6_feed_47 ?_
      refine lv_aload_n hx hb dX6_feed_50 rfl (lv_at hl 1 rfl) ?_
      refine lv_dup hx hb dX6_feed_51 rfl ?_
      refine va_get (D := G) (ci := 5) (v := .int 0) (C := RX6) (T := TX6) (N := 35) hx hb hts iX_X6 hown hK hP 0 rfl rfl 8 (by decide) (hts _ m_t858) (fun _ h9 => h9) rfl dX6_feed_52 ?_
      refine lv_dup_x1 hx hb dX6_feed_55 rfl rfl ?_
      refine lv_iconst (v := 1) hx hb dX6_feed_56 (by decide) ?_
      refine lv_iadd hx hb dX6_feed_57 ?_
      refine lv_seti (v := 1) (by decide) ?_
      refine va_put (D := G) (ci := 5) (v := .int 1) (ty := .int) (C := RX6) (T := TX6) (N := 35) hx hb hts iX_X6 tyX6 tyX6_ok nmX6 hown hK hP hD hS 0 rfl rfl 8 (by decide) (hts _ m_t858) (fun _ h9 => h9) rfl (by decide +kernel) rfl rfl (Nat.le_of_ble_eq_true rfl) dX6_feed_58 (fun H locs hP hD hS => ?_)
      have hP : va_P G CL [(qm, .inr (5, [.ref qms, .ref qmo, .ref qmz, .ref qmR, .ref qmv, .ref qmk, .ref qmb, .ref qmt, .int 1, .ref qmr, .int 0, .ref qmB, .int 0, .ref qmO, .ref qmK, .int 0, .int 0, .int 1, .null, .null, .int 0, .int 0, .int 0, .long 0, .int 0, .ref qm_three, .int 0, .int 0, .int 0, .null, .ref qm_unread, .ref qm_tryRow, .ref qm_bestRow, .ref qm_steps, .int 0])), (qmt, .inl (cy 0, 250, .inl (fun _ => 0))), (qmr, .inl (cy 0, 8, .inl (fun _ => 0)))] H := hP
      have hD : va_D A [(qm, .inr (5, [.ref qms, .ref qmo, .ref qmz, .ref qmR, .ref qmv, .ref qmk, .ref qmb, .ref qmt, .int 1, .ref qmr, .int 0, .ref qmB, .int 0, .ref qmO, .ref qmK, .int 0, .int 0, .int 1, .null, .null, .int 0, .int 0, .int 0, .long 0, .int 0, .ref qm_three, .int 0, .int 0, .int 0, .null, .ref qm_unread, .ref qm_tryRow, .ref qm_bestRow, .ref qm_steps, .int 0])), (qmt, .inl (cy 0, 250, .inl (fun _ => 0))), (qmr, .inl (cy 0, 8, .inl (fun _ => 0)))] := hD
      refine lv_iload_n hx hb dX6_feed_61 rfl (lv_at hl 2 rfl) ?_
      refine lv_bipush (v := 8) hx hb dX6_feed_62 (by decide) ?_
      refine lv_iload_n hx hb dX6_feed_64 rfl (lv_at hl 0 rfl) ?_
      refine lv_imul hx hb dX6_feed_65 ?_
      refine lv_seti (v := 8) (by decide) ?_
      refine lv_ishr hx hb dX6_feed_66 ?_
      refine lv_sipush (v := 255) hx hb dX6_feed_67 (by decide) ?_
      refine lv_iand hx hb dX6_feed_70 ?_
      refine va_iast hx hb hK hP hD hS 1 0 rfl rfl (in_c rfl) dX6_feed_71 (fun H locs hP hD hS => ?_)
      have hP : va_P G CL [(qm, .inr (5, [.ref qms, .ref qmo, .ref qmz, .ref qmR, .ref qmv, .ref qmk, .ref qmb, .ref qmt, .int 1, .ref qmr, .int 0, .ref qmB, .int 0, .ref qmO, .ref qmK, .int 0, .int 0, .int 1, .null, .null, .int 0, .int 0, .int 0, .long 0, .int 0, .ref qm_three, .int 0, .int 0, .int 0, .null, .ref qm_unread, .ref qm_tryRow, .ref qm_bestRow, .ref qm_steps, .int 0])), (qmt, .inl (cy 0, 250, .inl (upd (fun _ => 0) 0 ((iA >>> (8 &&& 31)) &&& 255)))), (qmr, .inl (cy 0, 8, .inl (fun _ => 0)))] H := hP
      have hD : va_D A [(qm, .inr (5, [.ref qms, .ref qmo, .ref qmz, .ref qmR, .ref qmv, .ref qmk, .ref qmb, .ref qmt, .int 1, .ref qmr, .int 0, .ref qmB, .int 0, .ref qmO, .ref qmK, .int 0, .int 0, .int 1, .null, .null, .int 0, .int 0, .int 0, .long 0, .int 0, .ref qm_three, .int 0, .int 0, .int 0, .null, .ref qm_unread, .ref qm_tryRow, .ref qm_bestRow, .ref qm_steps, .int 0])), (qmt, .inl (cy 0, 250, .inl (upd (fun _ => 0) 0 ((iA >>> (8 &&& 31)) &&& 255)))), (qmr, .inl (cy 0, 8, .inl (fun _ => 0)))] := hD
      refine lv_iinc (v := 0) (lv' := [(3, .int 0), (0, .ref qm), (1, .int iA), (2, .int 2)]) hx hb dX6_feed_72 hl (k := 0) rfl (by decide) (by decide) rfl (fun ls hl => ?_)
      refine lv_goto (tgt := 42) hx hb dX6_feed_75 (by decide) ?_
      refine lv_iload_n hx hb dX6_feed_42 rfl (lv_at hl 0 rfl) ?_
      refine lv_if_lt (tgt := 78) hx hb dX6_feed_43 (by decide) (fun h9 => absurd h9 (by decide)) (fun _ => ?_)
      refine lv_aload_n hx hb dX6_feed_46 rfl (lv_at hl 1 rfl) ?_
      refine va_get (D := G) (ci := 5) (v := .ref qmt) (C := RX6) (T := TX6) (N := 35) hx hb hts iX_X6 hown hK hP 0 rfl rfl 7 (by decide) (hts _ m_t857) (fun _ h9 => h9) rfl dX6_feed_47 ?_
      refine lv_aload_n hx hb dX6_feed_50 rfl (lv_at hl 1 rfl) ?_
      refine lv_dup hx hb dX6_feed_51 rfl ?_
      refine va_get (D := G) (ci := 5) (v := .int 1) (C := RX6) (T := TX6) (N := 35) hx hb hts iX_X6 hown hK hP 0 rfl rfl 8 (by decide) (hts _ m_t858) (fun _ h9 => h9) rfl dX6_feed_52 ?_
      refine lv_dup_x1 hx hb dX6_feed_55 rfl rfl ?_
      refine lv_iconst (v := 1) hx hb dX6_feed_56 (by decide) ?_
      refine lv_iadd hx hb dX6_feed_57 ?_
      refine lv_seti (v := 2) (by decide) ?_
      refine va_put (D := G) (ci := 5) (v := .int 2) (ty := .int) (C := RX6) (T := TX6) (N := 35) hx hb hts iX_X6 tyX6 tyX6_ok nmX6 hown hK hP hD hS 0 rfl rfl 8 (by decide) (hts _ m_t858) (fun _ h9 => h9) rfl (by decide +kernel) rfl rfl (Nat.le_of_ble_eq_true rfl) dX6_feed_58 (fun H locs hP hD hS => ?_)
      have hP : va_P G CL [(qm, .inr (5, [.ref qms, .ref qmo, .ref qmz, .ref qmR, .ref qmv, .ref qmk, .ref qmb, .ref qmt, .int 2, .ref qmr, .int 0, .ref qmB, .int 0, .ref qmO, .ref qmK, .int 0, .int 0, .int 1, .null, .null, .int 0, .int 0, .int 0, .long 0, .int 0, .ref qm_three, .int 0, .int 0, .int 0, .null, .ref qm_unread, .ref qm_tryRow, .ref qm_bestRow, .ref qm_steps, .int 0])), (qmt, .inl (cy 0, 250, .inl (upd (fun _ => 0) 0 ((iA >>> (8 &&& 31)) &&& 255)))), (qmr, .inl (cy 0, 8, .inl (fun _ => 0)))] H := hP
      have hD : va_D A [(qm, .inr (5, [.ref qms, .ref qmo, .ref qmz, .ref qmR, .ref qmv, .ref qmk, .ref qmb, .ref qmt, .int 2, .ref qmr, .int 0, .ref qmB, .int 0, .ref qmO, .ref qmK, .int 0, .int 0, .int 1, .null, .null, .int 0, .int 0, .int 0, .long 0, .int 0, .ref qm_three, .int 0, .int 0, .int 0, .null, .ref qm_unread, .ref qm_tryRow, .ref qm_bestRow, .ref qm_steps, .int 0])), (qmt, .inl (cy 0, 250, .inl (upd (fun _ => 0) 0 ((iA >>> (8 &&& 31)) &&& 255)))), (qmr, .inl (cy 0, 8, .inl (fun _ => 0)))] := hD
      refine lv_iload_n hx hb dX6_feed_61 rfl (lv_at hl 2 rfl) ?_
      refine lv_bipush (v := 8) hx hb dX6_feed_62 (by decide) ?_
      refine lv_iload_n hx hb dX6_feed_64 rfl (lv_at hl 0 rfl) ?_
      refine lv_imul hx hb dX6_feed_65 ?_
      refine lv_seti (v := 0) (by decide) ?_
      refine lv_ishr hx hb dX6_feed_66 ?_
      refine lv_sipush (v := 255) hx hb dX6_feed_67 (by decide) ?_
      refine lv_iand hx hb dX6_feed_70 ?_
      refine va_iast hx hb hK hP hD hS 1 0 rfl rfl (in_c rfl) dX6_feed_71 (fun H locs hP hD hS => ?_)
      have hP : va_P G CL [(qm, .inr (5, [.ref qms, .ref qmo, .ref qmz, .ref qmR, .ref qmv, .ref qmk, .ref qmb, .ref qmt, .int 2, .ref qmr, .int 0, .ref qmB, .int 0, .ref qmO, .ref qmK, .int 0, .int 0, .int 1, .null, .null, .int 0, .int 0, .int 0, .long 0, .int 0, .ref qm_three, .int 0, .int 0, .int 0, .null, .ref qm_unread, .ref qm_tryRow, .ref qm_bestRow, .ref qm_steps, .int 0])), (qmt, .inl (cy 0, 250, .inl (upd (upd (fun _ => 0) 0 ((iA >>> (8 &&& 31)) &&& 255)) 1 ((iA >>> (0 &&& 31)) &&& 255)))), (qmr, .inl (cy 0, 8, .inl (fun _ => 0)))] H := hP
      have hD : va_D A [(qm, .inr (5, [.ref qms, .ref qmo, .ref qmz, .ref qmR, .ref qmv, .ref qmk, .ref qmb, .ref qmt, .int 2, .ref qmr, .int 0, .ref qmB, .int 0, .ref qmO, .ref qmK, .int 0, .int 0, .int 1, .null, .null, .int 0, .int 0, .int 0, .long 0, .int 0, .ref qm_three, .int 0, .int 0, .int 0, .null, .ref qm_unread, .ref qm_tryRow, .ref qm_bestRow, .ref qm_steps, .int 0])), (qmt, .inl (cy 0, 250, .inl (upd (upd (fun _ => 0) 0 ((iA >>> (8 &&& 31)) &&& 255)) 1 ((iA >>> (0 &&& 31)) &&& 255)))), (qmr, .inl (cy 0, 8, .inl (fun _ => 0)))] := hD
      refine lv_iinc (v := (-1)) (lv' := [(3, .int (-1)), (0, .ref qm), (1, .int iA), (2, .int 2)]) hx hb dX6_feed_72 hl (k := 0) rfl (by decide) (by decide) rfl (fun ls hl => ?_)
      refine lv_goto (tgt := 42) hx hb dX6_feed_75 (by decide) ?_
      refine lv_iload_n hx hb dX6_feed_42 rfl (lv_at hl 0 rfl) ?_
      refine lv_if_lt (tgt := 78) hx hb dX6_feed_43 (by decide) (fun _ => ?_) (fun h9 => absurd (by decide) h9)
      refine lv_aload_n hx hb dX6_feed_78 rfl (lv_at hl 1 rfl) ?_
      refine va_get (D := G) (ci := 5) (v := .int 2) (C := RX6) (T := TX6) (N := 35) hx hb hts iX_X6 hown hK hP 0 rfl rfl 8 (by decide) (hts _ m_t858) (fun _ h9 => h9) rfl dX6_feed_79 ?_
      exact endW (u := []) hx hb hr hlocks rfl va_P0 va_D0 hS ⟨rfl, (by first | (simp [sp_feed, Iv, h_3]; done) | (unfold sp_feed; decide))⟩ dX6_feed_82
    · refine lv_iload_n hx hb dX6_feed_19 rfl (lv_at hl 2 rfl) ?_
      refine lv_sipush (v := 250) hx hb dX6_feed_20 (by decide) ?_
      refine lv_aload_n hx hb dX6_feed_23 rfl (lv_at hl 0 rfl) ?_
      refine va_get (D := G) (ci := 5) (v := .int 0) (C := RX6) (T := TX6) (N := 35) hx hb hts iX_X6 hown hK hP 0 rfl rfl 8 (by decide) (hts _ m_t858) (fun _ h9 => h9) rfl dX6_feed_24 ?_
      refine lv_isub hx hb dX6_feed_27 ?_
      refine lv_seti (v := 250) (by decide) ?_
      refine lv_icmp_le (tgt := 38) hx hb dX6_feed_28 (by decide) (fun _ => ?_) (fun h9 => absurd (by decide) h9)
      refine lv_iload_n hx hb dX6_feed_38 rfl (lv_at hl 2 rfl) ?_
      refine lv_iconst (v := 1) hx hb dX6_feed_39 (by decide) ?_
      refine lv_isub hx hb dX6_feed_40 ?_
      refine lv_seti (v := 2) (by decide) ?_
      refine lv_istore_n (lv' := [(3, .int 2), (0, .ref qm), (1, .int iA), (2, .int 3)]) hx hb dX6_feed_41 rfl hl (by decide) rfl (fun ls hl => ?_)
      refine lv_iload_n hx hb dX6_feed_42 rfl (lv_at hl 0 rfl) ?_
      refine lv_if_lt (tgt := 78) hx hb dX6_feed_43 (by decide) (fun h9 => absurd h9 (by decide)) (fun _ => ?_)
      refine lv_aload_n hx hb dX6_feed_46 rfl (lv_at hl 1 rfl) ?_
      refine va_get (D := G) (ci := 5) (v := .ref qmt) (C := RX6) (T := TX6) (N := 35) hx hb hts iX_X6 hown hK hP 0 rfl rfl 7 (by decide) (hts _ m_t857) (fun _ h9 => h9) rfl dX6_feed_47 ?_
      refine lv_aload_n hx hb dX6_feed_50 rfl (lv_at hl 1 rfl) ?_
      refine lv_dup hx hb dX6_feed_51 rfl ?_
      refine va_get (D := G) (ci := 5) (v := .int 0) (C := RX6) (T := TX6) (N := 35) hx hb hts iX_X6 hown hK hP 0 rfl rfl 8 (by decide) (hts _ m_t858) (fun _ h9 => h9) rfl dX6_feed_52 ?_
      refine lv_dup_x1 hx hb dX6_feed_55 rfl rfl ?_
      refine lv_iconst (v := 1) hx hb dX6_feed_56 (by decide) ?_
      refine lv_iadd hx hb dX6_feed_57 ?_
      refine lv_seti (v := 1) (by decide) ?_
      refine va_put (D := G) (ci := 5) (v := .int 1) (ty := .int) (C := RX6) (T := TX6) (N := 35) hx hb hts iX_X6 tyX6 tyX6_ok nmX6 hown hK hP hD hS 0 rfl rfl 8 (by decide) (hts _ m_t858) (fun _ h9 => h9) rfl (by decide +kernel) rfl rfl (Nat.le_of_ble_eq_true rfl) dX6_feed_58 (fun H locs hP hD hS => ?_)
      have hP : va_P G CL [(qm, .inr (5, [.ref qms, .ref qmo, .ref qmz, .ref qmR, .ref qmv, .ref qmk, .ref qmb, .ref qmt, .int 1, .ref qmr, .int 0, .ref qmB, .int 0, .ref qmO, .ref qmK, .int 0, .int 0, .int 1, .null, .null, .int 0, .int 0, .int 0, .long 0, .int 0, .ref qm_three, .int 0, .int 0, .int 0, .null, .ref qm_unread, .ref qm_tryRow, .ref qm_bestRow, .ref qm_steps, .int 0])), (qmt, .inl (cy 0, 250, .inl (fun _ => 0))), (qmr, .inl (cy 0, 8, .inl (fun _ => 0)))] H := hP
      have hD : va_D A [(qm, .inr (5, [.ref qms, .ref qmo, .ref qmz, .ref qmR, .ref qmv, .ref qmk, .ref qmb, .ref qmt, .int 1, .ref qmr, .int 0, .ref qmB, .int 0, .ref qmO, .ref qmK, .int 0, .int 0, .int 1, .null, .null, .int 0, .int 0, .int 0, .long 0, .int 0, .ref qm_three, .int 0, .int 0, .int 0, .null, .ref qm_unread, .ref qm_tryRow, .ref qm_bestRow, .ref qm_steps, .int 0])), (qmt, .inl (cy 0, 250, .inl (fun _ => 0))), (qmr, .inl (cy 0, 8, .inl (fun _ => 0)))] := hD
      refine lv_iload_n hx hb dX6_feed_61 rfl (lv_at hl 2 rfl) ?_
      refine lv_bipush (v := 8) hx hb dX6_feed_62 (by decide) ?_
      refine lv_iload_n hx hb dX6_feed_64 rfl (lv_at hl 0 rfl) ?_
      refine lv_imul hx hb dX6_feed_65 ?_
      refine lv_seti (v := 16) (by decide) ?_
      refine lv_ishr hx hb dX6_feed_66 ?_
      refine lv_sipush (v := 255) hx hb dX6_feed_67 (by decide) ?_
      refine lv_iand hx hb dX6_feed_70 ?_
      refine va_iast hx hb hK hP hD hS 1 0 rfl rfl (in_c rfl) dX6_feed_71 (fun H locs hP hD hS => ?_)
      have hP : va_P G CL [(qm, .inr (5, [.ref qms, .ref qmo, .ref qmz, .ref qmR, .ref qmv, .ref qmk, .ref qmb, .ref qmt, .int 1, .ref qmr, .int 0, .ref qmB, .int 0, .ref qmO, .ref qmK, .int 0, .int 0, .int 1, .null, .null, .int 0, .int 0, .int 0, .long 0, .int 0, .ref qm_three, .int 0, .int 0, .int 0, .null, .ref qm_unread, .ref qm_tryRow, .ref qm_bestRow, .ref qm_steps, .int 0])), (qmt, .inl (cy 0, 250, .inl (upd (fun _ => 0) 0 ((iA >>> (16 &&& 31)) &&& 255)))), (qmr, .inl (cy 0, 8, .inl (fun _ => 0)))] H := hP
      have hD : va_D A [(qm, .inr (5, [.ref qms, .ref qmo, .ref qmz, .ref qmR, .ref qmv, .ref qmk, .ref qmb, .ref qmt, .int 1, .ref qmr, .int 0, .ref qmB, .int 0, .ref qmO, .ref qmK, .int 0, .int 0, .int 1, .null, .null, .int 0, .int 0, .int 0, .long 0, .int 0, .ref qm_three, .int 0, .int 0, .int 0, .null, .ref qm_unread, .ref qm_tryRow, .ref qm_bestRow, .ref qm_steps, .int 0])), (qmt, .inl (cy 0, 250, .inl (upd (fun _ => 0) 0 ((iA >>> (16 &&& 31)) &&& 255)))), (qmr, .inl (cy 0, 8, .inl (fun _ => 0)))] := hD
      refine lv_iinc (v := 1) (lv' := [(3, .int 1), (0, .ref qm), (1, .int iA), (2, .int 3)]) hx hb dX6_feed_72 hl (k := 0) rfl (by decide) (by decide) rfl (fun ls hl => ?_)
      refine lv_goto (tgt := 42) hx hb dX6_feed_75 (by decide) ?_
      refine lv_iload_n hx hb dX6_feed_42 rfl (lv_at hl 0 rfl) ?_
      refine lv_if_lt (tgt := 78) hx hb dX6_feed_43 (by decide) (fun h9 => absurd h9 (by decide)) (fun _ => ?_)
      refine lv_aload_n hx hb dX6_feed_46 rfl (lv_at hl 1 rfl) ?_
      refine va_get (D := G) (ci := 5) (v := .ref qmt) (C := RX6) (T := TX6) (N := 35) hx hb hts iX_X6 hown hK hP 0 rfl rfl 7 (by decide) (hts _ m_t857) (fun _ h9 => h9) rfl dX6_feed_47 ?_
      refine lv_aload_n hx hb dX6_feed_50 rfl (lv_at hl 1 rfl) ?_
      refine lv_dup hx hb dX6_feed_51 rfl ?_
      refine va_get (D := G) (ci := 5) (v := .int 1) (C := RX6) (T := TX6) (N := 35) hx hb hts iX_X6 hown hK hP 0 rfl rfl 8 (by decide) (hts _ m_t858) (fun _ h9 => h9) rfl dX6_feed_52 ?_
      refine lv_dup_x1 hx hb dX6_feed_55 rfl rfl ?_
      refine lv_iconst (v := 1) hx hb dX6_feed_56 (by decide) ?_
      refine lv_iadd hx hb dX6_feed_57 ?_
      refine lv_seti (v := 2) (by decide) ?_
      refine va_put (D := G) (ci := 5) (v := .int 2) (ty := .int) (C := RX6) (T := TX6) (N := 35) hx hb hts iX_X6 tyX6 tyX6_ok nmX6 hown hK hP hD hS 0 rfl rfl 8 (by decide) (hts _ m_t858) (fun _ h9 => h9) rfl (by decide +kernel) rfl rfl (Nat.le_of_ble_eq_true rfl) dX6_feed_58 (fun H locs hP hD hS => ?_)
      have hP : va_P G CL [(qm, .inr (5, [.ref qms, .ref qmo, .ref qmz, .ref qmR, .ref qmv, .ref qmk, .ref qmb, .ref qmt, .int 2, .ref qmr, .int 0, .ref qmB, .int 0, .ref qmO, .ref qmK, .int 0, .int 0, .int 1, .null, .null, .int 0, .int 0, .int 0, .long 0, .int 0, .ref qm_three, .int 0, .int 0, .int 0, .null, .ref qm_unread, .ref qm_tryRow, .ref qm_bestRow, .ref qm_steps, .int 0])), (qmt, .inl (cy 0, 250, .inl (upd (fun _ => 0) 0 ((iA >>> (16 &&& 31)) &&& 255)))), (qmr, .inl (cy 0, 8, .inl (fun _ => 0)))] H := hP
      have hD : va_D A [(qm, .inr (5, [.ref qms, .ref qmo, .ref qmz, .ref qmR, .ref qmv, .ref qmk, .ref qmb, .ref qmt, .int 2, .ref qmr, .int 0, .ref qmB, .int 0, .ref qmO, .ref qmK, .int 0, .int 0, .int 1, .null, .null, .int 0, .int 0, .int 0, .long 0, .int 0, .ref qm_three, .int 0, .int 0, .int 0, .null, .ref qm_unread, .ref qm_tryRow, .ref qm_bestRow, .ref qm_steps, .int 0])), (qmt, .inl (cy 0, 250, .inl (upd (fun _ => 0) 0 ((iA >>> (16 &&& 31)) &&& 255)))), (qmr, .inl (cy 0, 8, .inl (fun _ => 0)))] := hD
      refine lv_iload_n hx hb dX6_feed_61 rfl (lv_at hl 2 rfl) ?_
      refine lv_bipush (v := 8) hx hb dX6_feed_62 (by decide) ?_
      refine lv_iload_n hx hb dX6_feed_64 rfl (lv_at hl 0 rfl) ?_
      refine lv_imul hx hb dX6_feed_65 ?_
      refine lv_seti (v := 8) (by decide) ?_
      refine lv_ishr hx hb dX6_feed_66 ?_
      refine lv_sipush (v := 255) hx hb dX6_feed_67 (by decide) ?_
      refine lv_iand hx hb dX6_feed_70 ?_
      refine va_iast hx hb hK hP hD hS 1 0 rfl rfl (in_c rfl) dX6_feed_71 (fun H locs hP hD hS => ?_)
      have hP : va_P G CL [(qm, .inr (5, [.ref qms, .ref qmo, .ref qmz, .ref qmR, .ref qmv, .ref qmk, .ref qmb, .ref qmt, .int 2, .ref qmr, .int 0, .ref qmB, .int 0, .ref qmO, .ref qmK, .int 0, .int 0, .int 1, .null, .null, .int 0, .int 0, .int 0, .long 0, .int 0, .ref qm_three, .int 0, .int 0, .int 0, .null, .ref qm_unread, .ref qm_tryRow, .ref qm_bestRow, .ref qm_steps, .int 0])), (qmt, .inl (cy 0, 250, .inl (upd (upd (fun _ => 0) 0 ((iA >>> (16 &&& 31)) &&& 255)) 1 ((iA >>> (8 &&& 31)) &&& 255)))), (qmr, .inl (cy 0, 8, .inl (fun _ => 0)))] H := hP
      have hD : va_D A [(qm, .inr (5, [.ref qms, .ref qmo, .ref qmz, .ref qmR, .ref qmv, .ref qmk, .ref qmb, .ref qmt, .int 2, .ref qmr, .int 0, .ref qmB, .int 0, .ref qmO, .ref qmK, .int 0, .int 0, .int 1, .null, .null, .int 0, .int 0, .int 0, .long 0, .int 0, .ref qm_three, .int 0, .int 0, .int 0, .null, .ref qm_unread, .ref qm_tryRow, .ref qm_bestRow, .ref qm_steps, .int 0])), (qmt, .inl (cy 0, 250, .inl (upd (upd (fun _ => 0) 0 ((iA >>> (16 &&& 31)) &&& 255)) 1 ((iA >>> (8 &&& 31)) &&& 255)))), (qmr, .inl (cy 0, 8, .inl (fun _ => 0)))] := hD
      refine lv_iinc (v := 0) (lv' := [(3, .int 0), (0, .ref qm), (1, .int iA), (2, .int 3)]) hx hb dX6_feed_72 hl (k := 0) rfl (by decide) (by decide) rfl (fun ls hl => ?_)
      refine lv_goto (tgt := 42) hx hb dX6_feed_75 (by decide) ?_
      refine lv_iload_n hx hb dX6_feed_42 rfl (lv_at hl 0 rfl) ?_
      refine lv_if_lt (tgt := 78) hx hb dX6_feed_43 (by decide) (fun h9 => absurd h9 (by decide)) (fun _ => ?_)
      refine lv_aload_n hx hb dX6_feed_46 rfl (lv_at hl 1 rfl) ?_
      refine va_get (D := G) (ci := 5) (v := .ref qmt) (C := RX6) (T := TX6) (N := 35) hx hb hts iX_X6 hown hK hP 0 rfl rfl 7 (by decide) (hts _ m_t857) (fun _ h9 => h9) rfl dX6_feed_47 ?_
      refine lv_aload_n hx hb dX6_feed_50 rfl (lv_at hl 1 rfl) ?_
      refine lv_dup hx hb dX6_feed_51 rfl ?_
      refine va_get (D := G) (ci := 5) (v := .int 2) (C := RX6) (T := TX6) (N := 35) hx hb hts iX_X6 hown hK hP 0 rfl rfl 8 (by decide) (hts _ m_t858) (fun _ h9 => h9) rfl dX6_feed_52 ?_
      refine lv_dup_x1 hx hb dX6_feed_55 rfl rfl ?_
      refine lv_iconst (v := 1) hx hb dX6_feed_56 (by decide) ?_
      refine lv_iadd hx hb dX6_feed_57 ?_
      refine lv_seti (v := 3) (by decide) ?_
      refine va_put (D := G) (ci := 5) (v := .int 3) (ty := .int) (C := RX6) (T := TX6) (N := 35) hx hb hts iX_X6 tyX6 tyX6_ok nmX6 hown hK hP hD hS 0 rfl rfl 8 (by decide) (hts _ m_t858) (fun _ h9 => h9) rfl (by decide +kernel) rfl rfl (Nat.le_of_ble_eq_true rfl) dX6_feed_58 (fun H locs hP hD hS => ?_)
      have hP : va_P G CL [(qm, .inr (5, [.ref qms, .ref qmo, .ref qmz, .ref qmR, .ref qmv, .ref qmk, .ref qmb, .ref qmt, .int 3, .ref qmr, .int 0, .ref qmB, .int 0, .ref qmO, .ref qmK, .int 0, .int 0, .int 1, .null, .null, .int 0, .int 0, .int 0, .long 0, .int 0, .ref qm_three, .int 0, .int 0, .int 0, .null, .ref qm_unread, .ref qm_tryRow, .ref qm_bestRow, .ref qm_steps, .int 0])), (qmt, .inl (cy 0, 250, .inl (upd (upd (fun _ => 0) 0 ((iA >>> (16 &&& 31)) &&& 255)) 1 ((iA >>> (8 &&& 31)) &&& 255)))), (qmr, .inl (cy 0, 8, .inl (fun _ => 0)))] H := hP
      have hD : va_D A [(qm, .inr (5, [.ref qms, .ref qmo, .ref qmz, .ref qmR, .ref qmv, .ref qmk, .ref qmb, .ref qmt, .int 3, .ref qmr, .int 0, .ref qmB, .int 0, .ref qmO, .ref qmK, .int 0, .int 0, .int 1, .null, .null, .int 0, .int 0, .int 0, .long 0, .int 0, .ref qm_three, .int 0, .int 0, .int 0, .null, .ref qm_unread, .ref qm_tryRow, .ref qm_bestRow, .ref qm_steps, .int 0])), (qmt, .inl (cy 0, 250, .inl (upd (upd (fun _ => 0) 0 ((iA >>> (16 &&& 31)) &&& 255)) 1 ((iA >>> (8 &&& 31)) &&& 255)))), (qmr, .inl (cy 0, 8, .inl (fun _ => 0)))] := hD
      refine lv_iload_n hx hb dX6_feed_61 rfl (lv_at hl 2 rfl) ?_
      refine lv_bipush (v := 8) hx hb dX6_feed_62 (by decide) ?_
      refine lv_iload_n hx hb dX6_feed_64 rfl (lv_at hl 0 rfl) ?_
      refine lv_imul hx hb dX6_feed_65 ?_
      refine lv_seti (v := 0) (by decide) ?_
      refine lv_ishr hx hb dX6_feed_66 ?_
      refine lv_sipush (v := 255) hx hb dX6_feed_67 (by decide) ?_
      refine lv_iand hx hb dX6_feed_70 ?_
      refine va_iast hx hb hK hP hD hS 1 0 rfl rfl (in_c rfl) dX6_feed_71 (fun H locs hP hD hS => ?_)
      have hP : va_P G CL [(qm, .inr (5, [.ref qms, .ref qmo, .ref qmz, .ref qmR, .ref qmv, .ref qmk, .ref qmb, .ref qmt, .int 3, .ref qmr, .int 0, .ref qmB, .int 0, .ref qmO, .ref qmK, .int 0, .int 0, .int 1, .null, .null, .int 0, .int 0, .int 0, .long 0, .int 0, .ref qm_three, .int 0, .int 0, .int 0, .null, .ref qm_unread, .ref qm_tryRow, .ref qm_bestRow, .ref qm_steps, .int 0])), (qmt, .inl (cy 0, 250, .inl (upd (upd (upd (fun _ => 0) 0 ((iA >>> (16 &&& 31)) &&& 255)) 1 ((iA >>> (8 &&& 31)) &&& 255)) 2 ((iA >>> (0 &&& 31)) &&& 255)))), (qmr, .inl (cy 0, 8, .inl (fun _ => 0)))] H := hP
      have hD : va_D A [(qm, .inr (5, [.ref qms, .ref qmo, .ref qmz, .ref qmR, .ref qmv, .ref qmk, .ref qmb, .ref qmt, .int 3, .ref qmr, .int 0, .ref qmB, .int 0, .ref qmO, .ref qmK, .int 0, .int 0, .int 1, .null, .null, .int 0, .int 0, .int 0, .long 0, .int 0, .ref qm_three, .int 0, .int 0, .int 0, .null, .ref qm_unread, .ref qm_tryRow, .ref qm_bestRow, .ref qm_steps, .int 0])), (qmt, .inl (cy 0, 250, .inl (upd (upd (upd (fun _ => 0) 0 ((iA >>> (16 &&& 31)) &&& 255)) 1 ((iA >>> (8 &&& 31)) &&& 255)) 2 ((iA >>> (0 &&& 31)) &&& 255)))), (qmr, .inl (cy 0, 8, .inl (fun _ => 0)))] := hD
      refine lv_iinc (v := (-1)) (lv' := [(3, .int (-1)), (0, .ref qm), (1, .int iA), (2, .int 3)]) hx hb dX6_feed_72 hl (k := 0) rfl (by decide) (by decide) rfl (fun ls hl => ?_)
      refine lv_goto (tgt := 42) hx hb dX6_feed_75 (by decide) ?_
      refine lv_iload_n hx hb dX6_feed_42 rfl (lv_at hl 0 rfl) ?_
      refine lv_if_lt (tgt := 78) hx hb dX6_feed_43 (by decide) (fun _ => ?_) (fun h9 => absurd (by decide) h9)
      refine lv_aload_n hx hb dX6_feed_78 rfl (lv_at hl 1 rfl) ?_
      refine va_get (D := G) (ci := 5) (v := .int 3) (C := RX6) (T := TX6) (N := 35) hx hb hts iX_X6 hown hK hP 0 rfl rfl 8 (by decide) (hts _ m_t858) (fun _ h9 => h9) rfl dX6_feed_79 ?_
      exact endW (u := []) hx hb hr hlocks rfl va_P0 va_D0 hS ⟨rfl, (by first | (simp [sp_feed, Iv, h_3]; done) | (unfold sp_feed; decide))⟩ dX6_feed_82
    · refine lv_iload_n hx hb dX6_feed_19 rfl (lv_at hl 2 rfl) ?_
      refine lv_sipush (v := 250) hx hb dX6_feed_20 (by decide) ?_
      refine lv_aload_n hx hb dX6_feed_23 rfl (lv_at hl 0 rfl) ?_
      refine va_get (D := G) (ci := 5) (v := .int 0) (C := RX6) (T := TX6) (N := 35) hx hb hts iX_X6 hown hK hP 0 rfl rfl 8 (by decide) (hts _ m_t858) (fun _ h9 => h9) rfl dX6_feed_24 ?_
      refine lv_isub hx hb dX6_feed_27 ?_
      refine lv_seti (v := 250) (by decide) ?_
      refine lv_icmp_le (tgt := 38) hx hb dX6_feed_28 (by decide) (fun _ => ?_) (fun h9 => absurd (by decide) h9)
      refine lv_iload_n hx hb dX6_feed_38 rfl (lv_at hl 2 rfl) ?_
      refine lv_iconst (v := 1) hx hb dX6_feed_39 (by decide) ?_
      refine lv_isub hx hb dX6_feed_40 ?_
      refine lv_seti (v := 3) (by decide) ?_
      refine lv_istore_n (lv' := [(3, .int 3), (0, .ref qm), (1, .int iA), (2, .int 4)]) hx hb dX6_feed_41 rfl hl (by decide) rfl (fun ls hl => ?_)
      refine lv_iload_n hx hb dX6_feed_42 rfl (lv_at hl 0 rfl) ?_
      refine lv_if_lt (tgt := 78) hx hb dX6_feed_43 (by decide) (fun h9 => absurd h9 (by decide)) (fun _ => ?_)
      refine lv_aload_n hx hb dX6_feed_46 rfl (lv_at hl 1 rfl) ?_
      refine va_get (D := G) (ci := 5) (v := .ref qmt) (C := RX6) (T := TX6) (N := 35) hx hb hts iX_X6 hown hK hP 0 rfl rfl 7 (by decide) (hts _ m_t857) (fun _ h9 => h9) rfl dX6_feed_47 ?_
      refine lv_aload_n hx hb dX6_feed_50 rfl (lv_at hl 1 rfl) ?_
      refine lv_dup hx hb dX6_feed_51 rfl ?_
      refine va_get (D := G) (ci := 5) (v := .int 0) (C := RX6) (T := TX6) (N := 35) hx hb hts iX_X6 hown hK hP 0 rfl rfl 8 (by decide) (hts _ m_t858) (fun _ h9 => h9) rfl dX6_feed_52 ?_
      refine lv_dup_x1 hx hb dX6_feed_55 rfl rfl ?_
      refine lv_iconst (v := 1) hx hb dX6_feed_56 (by decide) ?_
      refine lv_iadd hx hb dX6_feed_57 ?_
      refine lv_seti (v := 1) (by decide) ?_
      refine va_put (D := G) (ci := 5) (v := .int 1) (ty := .int) (C := RX6) (T := TX6) (N := 35) hx hb hts iX_X6 tyX6 tyX6_ok nmX6 hown hK hP hD hS 0 rfl rfl 8 (by decide) (hts _ m_t858) (fun _ h9 => h9) rfl (by decide +kernel) rfl rfl (Nat.le_of_ble_eq_true rfl) dX6_feed_58 (fun H locs hP hD hS => ?_)
      have hP : va_P G CL [(qm, .inr (5, [.ref qms, .ref qmo, .ref qmz, .ref qmR, .ref qmv, .ref qmk, .ref qmb, .ref qmt, .int 1, .ref qmr, .int 0, .ref qmB, .int 0, .ref qmO, .ref qmK, .int 0, .int 0, .int 1, .null, .null, .int 0, .int 0, .int 0, .long 0, .int 0, .ref qm_three, .int 0, .int 0, .int 0, .null, .ref qm_unread, .ref qm_tryRow, .ref qm_bestRow, .ref qm_steps, .int 0])), (qmt, .inl (cy 0, 250, .inl (fun _ => 0))), (qmr, .inl (cy 0, 8, .inl (fun _ => 0)))] H := hP
      have hD : va_D A [(qm, .inr (5, [.ref qms, .ref qmo, .ref qmz, .ref qmR, .ref qmv, .ref qmk, .ref qmb, .ref qmt, .int 1, .ref qmr, .int 0, .ref qmB, .int 0, .ref qmO, .ref qmK, .int 0, .int 0, .int 1, .null, .null, .int 0, .int 0, .int 0, .long 0, .int 0, .ref qm_three, .int 0, .int 0, .int 0, .null, .ref qm_unread, .ref qm_tryRow, .ref qm_bestRow, .ref qm_steps, .int 0])), (qmt, .inl (cy 0, 250, .inl (fun _ => 0))), (qmr, .inl (cy 0, 8, .inl (fun _ => 0)))] := hD
      refine lv_iload_n hx hb dX6_feed_61 rfl (lv_at hl 2 rfl) ?_
      refine lv_bipush (v := 8) hx hb dX6_feed_62 (by decide) ?_
      refine lv_iload_n hx hb dX6_feed_64 rfl (lv_at hl 0 rfl) ?_
      refine lv_imul hx hb dX6_feed_65 ?_
      refine lv_seti (v := 24) (by decide) ?_
      refine lv_ishr hx hb dX6_feed_66 ?_
      refine lv_sipush (v := 255) hx hb dX6_feed_67 (by decide) ?_
      refine lv_iand hx hb dX6_feed_70 ?_
      refine va_iast hx hb hK hP hD hS 1 0 rfl rfl (in_c rfl) dX6_feed_71 (fun H locs hP hD hS => ?_)
      have hP : va_P G CL [(qm, .inr (5, [.ref qms, .ref qmo, .ref qmz, .ref qmR, .ref qmv, .ref qmk, .ref qmb, .ref qmt, .int 1, .ref qmr, .int 0, .ref qmB, .int 0, .ref qmO, .ref qmK, .int 0, .int 0, .int 1, .null, .null, .int 0, .int 0, .int 0, .long 0, .int 0, .ref qm_three, .int 0, .int 0, .int 0, .null, .ref qm_unread, .ref qm_tryRow, .ref qm_bestRow, .ref qm_steps, .int 0])), (qmt, .inl (cy 0, 250, .inl (upd (fun _ => 0) 0 ((iA >>> (24 &&& 31)) &&& 255)))), (qmr, .inl (cy 0, 8, .inl (fun _ => 0)))] H := hP
      have hD : va_D A [(qm, .inr (5, [.ref qms, .ref qmo, .ref qmz, .ref qmR, .ref qmv, .ref qmk, .ref qmb, .ref qmt, .int 1, .ref qmr, .int 0, .ref qmB, .int 0, .ref qmO, .ref qmK, .int 0, .int 0, .int 1, .null, .null, .int 0, .int 0, .int 0, .long 0, .int 0, .ref qm_three, .int 0, .int 0, .int 0, .null, .ref qm_unread, .ref qm_tryRow, .ref qm_bestRow, .ref qm_steps, .int 0])), (qmt, .inl (cy 0, 250, .inl (upd (fun _ => 0) 0 ((iA >>> (24 &&& 31)) &&& 255)))), (qmr, .inl (cy 0, 8, .inl (fun _ => 0)))] := hD
      refine lv_iinc (v := 2) (lv' := [(3, .int 2), (0, .ref qm), (1, .int iA), (2, .int 4)]) hx hb dX6_feed_72 hl (k := 0) rfl (by decide) (by decide) rfl (fun ls hl => ?_)
      refine lv_goto (tgt := 42) hx hb dX6_feed_75 (by decide) ?_
      refine lv_iload_n hx hb dX6_feed_42 rfl (lv_at hl 0 rfl) ?_
      refine lv_if_lt (tgt := 78) hx hb dX6_feed_43 (by decide) (fun h9 => absurd h9 (by decide)) (fun _ => ?_)
      refine lv_aload_n hx hb dX6_feed_46 rfl (lv_at hl 1 rfl) ?_
      refine va_get (D := G) (ci := 5) (v := .ref qmt) (C := RX6) (T := TX6) (N := 35) hx hb hts iX_X6 hown hK hP 0 rfl rfl 7 (by decide) (hts _ m_t857) (fun _ h9 => h9) rfl dX6_feed_47 ?_
      refine lv_aload_n hx hb dX6_feed_50 rfl (lv_at hl 1 rfl) ?_
      refine lv_dup hx hb dX6_feed_51 rfl ?_
      refine va_get (D := G) (ci := 5) (v := .int 1) (C := RX6) (T := TX6) (N := 35) hx hb hts iX_X6 hown hK hP 0 rfl rfl 8 (by decide) (hts _ m_t858) (fun _ h9 => h9) rfl dX6_feed_52 ?_
      refine lv_dup_x1 hx hb dX6_feed_55 rfl rfl ?_
      refine lv_iconst (v := 1) hx hb dX6_feed_56 (by decide) ?_
      refine lv_iadd hx hb dX6_feed_57 ?_
      refine lv_seti (v := 2) (by decide) ?_
      refine va_put (D := G) (ci := 5) (v := .int 2) (ty := .int) (C := RX6) (T := TX6) (N := 35) hx hb hts iX_X6 tyX6 tyX6_ok nmX6 hown hK hP hD hS 0 rfl rfl 8 (by decide) (hts _ m_t858) (fun _ h9 => h9) rfl (by decide +kernel) rfl rfl (Nat.le_of_ble_eq_true rfl) dX6_feed_58 (fun H locs hP hD hS => ?_)
      have hP : va_P G CL [(qm, .inr (5, [.ref qms, .ref qmo, .ref qmz, .ref qmR, .ref qmv, .ref qmk, .ref qmb, .ref qmt, .int 2, .ref qmr, .int 0, .ref qmB, .int 0, .ref qmO, .ref qmK, .int 0, .int 0, .int 1, .null, .null, .int 0, .int 0, .int 0, .long 0, .int 0, .ref qm_three, .int 0, .int 0, .int 0, .null, .ref qm_unread, .ref qm_tryRow, .ref qm_bestRow, .ref qm_steps, .int 0])), (qmt, .inl (cy 0, 250, .inl (upd (fun _ => 0) 0 ((iA >>> (24 &&& 31)) &&& 255)))), (qmr, .inl (cy 0, 8, .inl (fun _ => 0)))] H := hP
      have hD : va_D A [(qm, .inr (5, [.ref qms, .ref qmo, .ref qmz, .ref qmR, .ref qmv, .ref qmk, .ref qmb, .ref qmt, .int 2, .ref qmr, .int 0, .ref qmB, .int 0, .ref qmO, .ref qmK, .int 0, .int 0, .int 1, .null, .null, .int 0, .int 0, .int 0, .long 0, .int 0, .ref qm_three, .int 0, .int 0, .int 0, .null, .ref qm_unread, .ref qm_tryRow, .ref qm_bestRow, .ref qm_steps, .int 0])), (qmt, .inl (cy 0, 250, .inl (upd (fun _ => 0) 0 ((iA >>> (24 &&& 31)) &&& 255)))), (qmr, .inl (cy 0, 8, .inl (fun _ => 0)))] := hD
      refine lv_iload_n hx hb dX6_feed_61 rfl (lv_at hl 2 rfl) ?_
      refine lv_bipush (v := 8) hx hb dX6_feed_62 (by decide) ?_
      refine lv_iload_n hx hb dX6_feed_64 rfl (lv_at hl 0 rfl) ?_
      refine lv_imul hx hb dX6_feed_65 ?_
      refine lv_seti (v := 16) (by decide) ?_
      refine lv_ishr hx hb dX6_feed_66 ?_
      refine lv_sipush (v := 255) hx hb dX6_feed_67 (by decide) ?_
      refine lv_iand hx hb dX6_feed_70 ?_
      refine va_iast hx hb hK hP hD hS 1 0 rfl rfl (in_c rfl) dX6_feed_71 (fun H locs hP hD hS => ?_)
      have hP : va_P G CL [(qm, .inr (5, [.ref qms, .ref qmo, .ref qmz, .ref qmR, .ref qmv, .ref qmk, .ref qmb, .ref qmt, .int 2, .ref qmr, .int 0, .ref qmB, .int 0, .ref qmO, .ref qmK, .int 0, .int 0, .int 1, .null, .null, .int 0, .int 0, .int 0, .long 0, .int 0, .ref qm_three, .int 0, .int 0, .int 0, .null, .ref qm_unread, .ref qm_tryRow, .ref qm_bestRow, .ref qm_steps, .int 0])), (qmt, .inl (cy 0, 250, .inl (upd (upd (fun _ => 0) 0 ((iA >>> (24 &&& 31)) &&& 255)) 1 ((iA >>> (16 &&& 31)) &&& 255)))), (qmr, .inl (cy 0, 8, .inl (fun _ => 0)))] H := hP
      have hD : va_D A [(qm, .inr (5, [.ref qms, .ref qmo, .ref qmz, .ref qmR, .ref qmv, .ref qmk, .ref qmb, .ref qmt, .int 2, .ref qmr, .int 0, .ref qmB, .int 0, .ref qmO, .ref qmK, .int 0, .int 0, .int 1, .null, .null, .int 0, .int 0, .int 0, .long 0, .int 0, .ref qm_three, .int 0, .int 0, .int 0, .null, .ref qm_unread, .ref qm_tryRow, .ref qm_bestRow, .ref qm_steps, .int 0])), (qmt, .inl (cy 0, 250, .inl (upd (upd (fun _ => 0) 0 ((iA >>> (24 &&& 31)) &&& 255)) 1 ((iA >>> (16 &&& 31)) &&& 255)))), (qmr, .inl (cy 0, 8, .inl (fun _ => 0)))] := hD
      refine lv_iinc (v := 1) (lv' := [(3, .int 1), (0, .ref qm), (1, .int iA), (2, .int 4)]) hx hb dX6_feed_72 hl (k := 0) rfl (by decide) (by decide) rfl (fun ls hl => ?_)
      refine lv_goto (tgt := 42) hx hb dX6_feed_75 (by decide) ?_
      refine lv_iload_n hx hb dX6_feed_42 rfl (lv_at hl 0 rfl) ?_
      refine lv_if_lt (tgt := 78) hx hb dX6_feed_43 (by decide) (fun h9 => absurd h9 (by decide)) (fun _ => ?_)
      refine lv_aload_n hx hb dX6_feed_46 rfl (lv_at hl 1 rfl) ?_
      refine va_get (D := G) (ci := 5) (v := .ref qmt) (C := RX6) (T := TX6) (N := 35) hx hb hts iX_X6 hown hK hP 0 rfl rfl 7 (by decide) (hts _ m_t857) (fun _ h9 => h9) rfl dX6_feed_47 ?_
      refine lv_aload_n hx hb dX6_feed_50 rfl (lv_at hl 1 rfl) ?_
      refine lv_dup hx hb dX6_feed_51 rfl ?_
      refine va_get (D := G) (ci := 5) (v := .int 2) (C := RX6) (T := TX6) (N := 35) hx hb hts iX_X6 hown hK hP 0 rfl rfl 8 (by decide) (hts _ m_t858) (fun _ h9 => h9) rfl dX6_feed_52 ?_
      refine lv_dup_x1 hx hb dX6_feed_55 rfl rfl ?_
      refine lv_iconst (v := 1) hx hb dX6_feed_56 (by decide) ?_
      refine lv_iadd hx hb dX6_feed_57 ?_
      refine lv_seti (v := 3) (by decide) ?_
      refine va_put (D := G) (ci := 5) (v := .int 3) (ty := .int) (C := RX6) (T := TX6) (N := 35) hx hb hts iX_X6 tyX6 tyX6_ok nmX6 hown hK hP hD hS 0 rfl rfl 8 (by decide) (hts _ m_t858) (fun _ h9 => h9) rfl (by decide +kernel) rfl rfl (Nat.le_of_ble_eq_true rfl) dX6_feed_58 (fun H locs hP hD hS => ?_)
      have hP : va_P G CL [(qm, .inr (5, [.ref qms, .ref qmo, .ref qmz, .ref qmR, .ref qmv, .ref qmk, .ref qmb, .ref qmt, .int 3, .ref qmr, .int 0, .ref qmB, .int 0, .ref qmO, .ref qmK, .int 0, .int 0, .int 1, .null, .null, .int 0, .int 0, .int 0, .long 0, .int 0, .ref qm_three, .int 0, .int 0, .int 0, .null, .ref qm_unread, .ref qm_tryRow, .ref qm_bestRow, .ref qm_steps, .int 0])), (qmt, .inl (cy 0, 250, .inl (upd (upd (fun _ => 0) 0 ((iA >>> (24 &&& 31)) &&& 255)) 1 ((iA >>> (16 &&& 31)) &&& 255)))), (qmr, .inl (cy 0, 8, .inl (fun _ => 0)))] H := hP
      have hD : va_D A [(qm, .inr (5, [.ref qms, .ref qmo, .ref qmz, .ref qmR, .ref qmv, .ref qmk, .ref qmb, .ref qmt, .int 3, .ref qmr, .int 0, .ref qmB, .int 0, .ref qmO, .ref qmK, .int 0, .int 0, .int 1, .null, .null, .int 0, .int 0, .int 0, .long 0, .int 0, .ref qm_three, .int 0, .int 0, .int 0, .null, .ref qm_unread, .ref qm_tryRow, .ref qm_bestRow, .ref qm_steps, .int 0])), (qmt, .inl (cy 0, 250, .inl (upd (upd (fun _ => 0) 0 ((iA >>> (24 &&& 31)) &&& 255)) 1 ((iA >>> (16 &&& 31)) &&& 255)))), (qmr, .inl (cy 0, 8, .inl (fun _ => 0)))] := hD
      refine lv_iload_n hx hb dX6_feed_61 rfl (lv_at hl 2 rfl) ?_
      refine lv_bipush (v := 8) hx hb dX6_feed_62 (by decide) ?_
      refine lv_iload_n hx hb dX6_feed_64 rfl (lv_at hl 0 rfl) ?_
      refine lv_imul hx hb dX6_feed_65 ?_
      refine lv_seti (v := 8) (by decide) ?_
      refine lv_ishr hx hb dX6_feed_66 ?_
      refine lv_sipush (v := 255) hx hb dX6_feed_67 (by decide) ?_
      refine lv_iand hx hb dX6_feed_70 ?_
      refine va_iast hx hb hK hP hD hS 1 0 rfl rfl (in_c rfl) dX6_feed_71 (fun H locs hP hD hS => ?_)
      have hP : va_P G CL [(qm, .inr (5, [.ref qms, .ref qmo, .ref qmz, .ref qmR, .ref qmv, .ref qmk, .ref qmb, .ref qmt, .int 3, .ref qmr, .int 0, .ref qmB, .int 0, .ref qmO, .ref qmK, .int 0, .int 0, .int 1, .null, .null, .int 0, .int 0, .int 0, .long 0, .int 0, .ref qm_three, .int 0, .int 0, .int 0, .null, .ref qm_unread, .ref qm_tryRow, .ref qm_bestRow, .ref qm_steps, .int 0])), (qmt, .inl (cy 0, 250, .inl (upd (upd (upd (fun _ => 0) 0 ((iA >>> (24 &&& 31)) &&& 255)) 1 ((iA >>> (16 &&& 31)) &&& 255)) 2 ((iA >>> (8 &&& 31)) &&& 255)))), (qmr, .inl (cy 0, 8, .inl (fun _ => 0)))] H := hP
      have hD : va_D A [(qm, .inr (5, [.ref qms, .ref qmo, .ref qmz, .ref qmR, .ref qmv, .ref qmk, .ref qmb, .ref qmt, .int 3, .ref qmr, .int 0, .ref qmB, .int 0, .ref qmO, .ref qmK, .int 0, .int 0, .int 1, .null, .null, .int 0, .int 0, .int 0, .long 0, .int 0, .ref qm_three, .int 0, .int 0, .int 0, .null, .ref qm_unread, .ref qm_tryRow, .ref qm_bestRow, .ref qm_steps, .int 0])), (qmt, .inl (cy 0, 250, .inl (upd (upd (upd (fun _ => 0) 0 ((iA >>> (24 &&& 31)) &&& 255)) 1 ((iA >>> (16 &&& 31)) &&& 255)) 2 ((iA >>> (8 &&& 31)) &&& 255)))), (qmr, .inl (cy 0, 8, .inl (fun _ => 0)))] := hD
      refine lv_iinc (v := 0) (lv' := [(3, .int 0), (0, .ref qm), (1, .int iA), (2, .int 4)]) hx hb dX6_feed_72 hl (k := 0) rfl (by decide) (by decide) rfl (fun ls hl => ?_)
      refine lv_goto (tgt := 42) hx hb dX6_feed_75 (by decide) ?_
      refine lv_iload_n hx hb dX6_feed_42 rfl (lv_at hl 0 rfl) ?_
      refine lv_if_lt (tgt := 78) hx hb dX6_feed_43 (by decide) (fun h9 => absurd h9 (by decide)) (fun _ => ?_)
      refine lv_aload_n hx hb dX6_feed_46 rfl (lv_at hl 1 rfl) ?_
      refine va_get (D := G) (ci := 5) (v := .ref qmt) (C := RX6) (T := TX6) (N := 35) hx hb hts iX_X6 hown hK hP 0 rfl rfl 7 (by decide) (hts _ m_t857) (fun _ h9 => h9) rfl dX6_feed_47 ?_
      refine lv_aload_n hx hb dX6_feed_50 rfl (lv_at hl 1 rfl) ?_
      refine lv_dup hx hb dX6_feed_51 rfl ?_
      refine va_get (D := G) (ci := 5) (v := .int 3) (C := RX6) (T := TX6) (N := 35) hx hb hts iX_X6 hown hK hP 0 rfl rfl 8 (by decide) (hts _ m_t858) (fun _ h9 => h9) rfl dX6_feed_52 ?_
      refine lv_dup_x1 hx hb dX6_feed_55 rfl rfl ?_
      refine lv_iconst (v := 1) hx hb dX6_feed_56 (by decide) ?_
      refine lv_iadd hx hb dX6_feed_57 ?_
      refine lv_seti (v := 4) (by decide) ?_
      refine va_put (D := G) (ci := 5) (v := .int 4) (ty := .int) (C := RX6) (T := TX6) (N := 35) hx hb hts iX_X6 tyX6 tyX6_ok nmX6 hown hK hP hD hS 0 rfl rfl 8 (by decide) (hts _ m_t858) (fun _ h9 => h9) rfl (by decide +kernel) rfl rfl (Nat.le_of_ble_eq_true rfl) dX6_feed_58 (fun H locs hP hD hS => ?_)
      have hP : va_P G CL [(qm, .inr (5, [.ref qms, .ref qmo, .ref qmz, .ref qmR, .ref qmv, .ref qmk, .ref qmb, .ref qmt, .int 4, .ref qmr, .int 0, .ref qmB, .int 0, .ref qmO, .ref qmK, .int 0, .int 0, .int 1, .null, .null, .int 0, .int 0, .int 0, .long 0, .int 0, .ref qm_three, .int 0, .int 0, .int 0, .null, .ref qm_unread, .ref qm_tryRow, .ref qm_bestRow, .ref qm_steps, .int 0])), (qmt, .inl (cy 0, 250, .inl (upd (upd (upd (fun _ => 0) 0 ((iA >>> (24 &&& 31)) &&& 255)) 1 ((iA >>> (16 &&& 31)) &&& 255)) 2 ((iA >>> (8 &&& 31)) &&& 255)))), (qmr, .inl (cy 0, 8, .inl (fun _ => 0)))] H := hP
      have hD : va_D A [(qm, .inr (5, [.ref qms, .ref qmo, .ref qmz, .ref qmR, .ref qmv, .ref qmk, .ref qmb, .ref qmt, .int 4, .ref qmr, .int 0, .ref qmB, .int 0, .ref qmO, .ref qmK, .int 0, .int 0, .int 1, .null, .null, .int 0, .int 0, .int 0, .long 0, .int 0, .ref qm_three, .int 0, .int 0, .int 0, .null, .ref qm_unread, .ref qm_tryRow, .ref qm_bestRow, .ref qm_steps, .int 0])), (qmt, .inl (cy 0, 250, .inl (upd (upd (upd (fun _ => 0) 0 ((iA >>> (24 &&& 31)) &&& 255)) 1 ((iA >>> (16 &&& 31)) &&& 255)) 2 ((iA >>> (8 &&& 31)) &&& 255)))), (qmr, .inl (cy 0, 8, .inl (fun _ => 0)))] := hD
      refine lv_iload_n hx hb dX6_feed_61 rfl (lv_at hl 2 rfl) ?_
      refine lv_bipush (v := 8) hx hb dX6_feed_62 (by decide) ?_
      refine lv_iload_n hx hb dX6_feed_64 rfl (lv_at hl 0 rfl) ?_
      refine lv_imul hx hb dX6_feed_65 ?_
      refine lv_seti (v := 0) (by decide) ?_
      refine lv_ishr hx hb dX6_feed_66 ?_
      refine lv_sipush (v := 255) hx hb dX6_feed_67 (by decide) ?_
      refine lv_iand hx hb dX6_feed_70 ?_
      refine va_iast hx hb hK hP hD hS 1 0 rfl rfl (in_c rfl) dX6_feed_71 (fun H locs hP hD hS => ?_)
      have hP : va_P G CL [(qm, .inr (5, [.ref qms, .ref qmo, .ref qmz, .ref qmR, .ref qmv, .ref qmk, .ref qmb, .ref qmt, .int 4, .ref qmr, .int 0, .ref qmB, .int 0, .ref qmO, .ref qmK, .int 0, .int 0, .int 1, .null, .null, .int 0, .int 0, .int 0, .long 0, .int 0, .ref qm_three, .int 0, .int 0, .int 0, .null, .ref qm_unread, .ref qm_tryRow, .ref qm_bestRow, .ref qm_steps, .int 0])), (qmt, .inl (cy 0, 250, .inl (upd (upd (upd (upd (fun _ => 0) 0 ((iA >>> (24 &&& 31)) &&& 255)) 1 ((iA >>> (16 &&& 31)) &&& 255)) 2 ((iA >>> (8 &&& 31)) &&& 255)) 3 ((iA >>> (0 &&& 31)) &&& 255)))), (qmr, .inl (cy 0, 8, .inl (fun _ => 0)))] H := hP
      have hD : va_D A [(qm, .inr (5, [.ref qms, .ref qmo, .ref qmz, .ref qmR, .ref qmv, .ref qmk, .ref qmb, .ref qmt, .int 4, .ref qmr, .int 0, .ref qmB, .int 0, .ref qmO, .ref qmK, .int 0, .int 0, .int 1, .null, .null, .int 0, .int 0, .int 0, .long 0, .int 0, .ref qm_three, .int 0, .int 0, .int 0, .null, .ref qm_unread, .ref qm_tryRow, .ref qm_bestRow, .ref qm_steps, .int 0])), (qmt, .inl (cy 0, 250, .inl (upd (upd (upd (upd (fun _ => 0) 0 ((iA >>> (24 &&& 31)) &&& 255)) 1 ((iA >>> (16 &&& 31)) &&& 255)) 2 ((iA >>> (8 &&& 31)) &&& 255)) 3 ((iA >>> (0 &&& 31)) &&& 255)))), (qmr, .inl (cy 0, 8, .inl (fun _ => 0)))] := hD
      refine lv_iinc (v := (-1)) (lv' := [(3, .int (-1)), (0, .ref qm), (1, .int iA), (2, .int 4)]) hx hb dX6_feed_72 hl (k := 0) rfl (by decide) (by decide) rfl (fun ls hl => ?_)
      refine lv_goto (tgt := 42) hx hb dX6_feed_75 (by decide) ?_
      refine lv_iload_n hx hb dX6_feed_42 rfl (lv_at hl 0 rfl) ?_
      refine lv_if_lt (tgt := 78) hx hb dX6_feed_43 (by decide) (fun _ => ?_) (fun h9 => absurd (by decide) h9)
      refine lv_aload_n hx hb dX6_feed_78 rfl (lv_at hl 1 rfl) ?_
      refine va_get (D := G) (ci := 5) (v := .int 4) (C := RX6) (T := TX6) (N := 35) hx hb hts iX_X6 hown hK hP 0 rfl rfl 8 (by decide) (hts _ m_t858) (fun _ h9 => h9) rfl dX6_feed_79 ?_
      exact endW (u := []) hx hb hr hlocks rfl va_P0 va_D0 hS ⟨rfl, (by first | (simp [sp_feed, Iv, h_3]; done) | (unfold sp_feed; decide))⟩ dX6_feed_82
  · refine lv_if_ne (tgt := 19) hx hb dX6_feed_9 (by decide) (fun h9 => absurd (by decide) h9) (fun _ => ?_)
    refine lv_aload_n hx hb dX6_feed_12 rfl (lv_at hl 0 rfl) ?_
    refine lv_bipush (v := (-2)) hx hb dX6_feed_13 (by decide) ?_
    refine kWi (wr := [(qmt, .inl (cy 0, 250, .inl (fun _ => 0)))]) (rV (As := [.int (-2)]) (rest := []) (b := qm) ⟨hx, hb, hml, hown, hts⟩ (c_X6_refuse2 l G cy (s.heap).size qm (.ref qms) (.ref qmo) (.ref qmz) (.ref qmR) (.ref qmv) (.ref qmk) (.ref qmb) (.ref qmt) (.int 0) qmr (.int 0) (.ref qmB) (.int 0) (.ref qmO) (.ref qmK) (.int 0) (.int 0) (.int 1) .null .null (.int 0) (.int 0) (.int 0) (.long 0) (.int 0) (.ref qm_three) (.int 0) (.int 0) (.int 0) .null (.ref qm_unread) (.ref qm_tryRow) (.ref qm_bestRow) (.ref qm_steps) (.int 0) (fun _ => 0)) L_X6_91 (preWV (q := (RX6, TX6, 35)) hN hP hD [0, 2] rfl (by decide) 0 5 rfl rfl) rfl ⟨Nat.le_of_ble_eq_true rfl, Nat.le_of_ble_eq_true rfl⟩ hl.1 (Nat.le_of_ble_eq_true rfl) dX6_feed_15 ⟨Nat.le_of_ble_eq_true rfl, Nat.le_of_ble_eq_true rfl⟩) hP hD hS hA [0, 2] [1] rfl rfl (by decide) (by decide) (fun r_24 u_26 H locs h_25 hP hD hS => ?_)
    obtain ⟨rfl, h_25⟩ := h_25
    have hP : va_P G CL [(qmt, .inl (cy 0, 250, .inl (fun _ => 0))), (qm, .inr (5, [.ref qms, .ref qmo, .ref qmz, .ref qmR, .ref qmv, .ref qmk, .ref qmb, .ref qmt, .int 0, .ref qmr, .int 0, .ref qmB, .int 0, .ref qmO, .ref qmK, .int 0, .int 0, .int 1, .null, .null, .int 0, .int 0, .int 0, .long 0, .int 0, .ref qm_three, .int 0, .int 0, .int 0, .null, .ref qm_unread, .ref qm_tryRow, .ref qm_bestRow, .ref qm_steps, .int 0]))] H := hP
    have hD : va_D A [(qmt, .inl (cy 0, 250, .inl (fun _ => 0))), (qm, .inr (5, [.ref qms, .ref qmo, .ref qmz, .ref qmR, .ref qmv, .ref qmk, .ref qmb, .ref qmt, .int 0, .ref qmr, .int 0, .ref qmB, .int 0, .ref qmO, .ref qmK, .int 0, .int 0, .int 1, .null, .null, .int 0, .int 0, .int 0, .long 0, .int 0, .ref qm_three, .int 0, .int 0, .int 0, .null, .ref qm_unread, .ref qm_tryRow, .ref qm_bestRow, .ref qm_steps, .int 0]))] := hD
    subst h_25
    exact endW (u := []) hx hb hr hlocks rfl va_P0 va_D0 hS ⟨rfl, (by first | (simp [sp_feed, Iv, h_3]; done) | (unfold sp_feed; decide))⟩ dX6_feed_18
set_option maxHeartbeats 4000000 in
set_option maxRecDepth 100000 in
theorem p_X6_wipe (l : Launch) (G : va_G) (cy : Nat → ClassId) (sz : Nat) (qm : Nat) (qms : Nat) (qmo : Nat) (qmz : Nat) (qmR : Nat) (qmv : Nat) (qmk : Nat) (qmb : Nat) (qmt : Nat) (qmr : Nat) (qmB : Nat) (qmO : Nat) (qmK : Nat) (qm_three : Nat) (qm_unread : Nat) (qm_tryRow : Nat) (qm_bestRow : Nat) (qm_steps : Nat)   : MW l yX6_wipe cX6_wipe 2 (some .int) 6 0 0 G cy [(qm, .inr (5, [.ref qms, .ref qmo, .ref qmz, .ref qmR, .ref qmv, .ref qmk, .ref qmb, .ref qmt, .int 0, .ref qmr, .int 0, .ref qmB, .int 0, .ref qmO, .ref qmK, .int 0, .int 0, .int 1, .null, .null, .int 0, .int 0, .int 0, .long 0, .int 0, .ref qm_three, .int 0, .int 0, .int 0, .null, .ref qm_unread, .ref qm_tryRow, .ref qm_bestRow, .ref qm_steps, .int 0]))] sz [.ref qm] (Wi G (fun r u => u = [] ∧ ((r = 0)))) := by
  refine enW RX6 (by decide) rfl (Nat.le_of_ble_eq_true rfl) (fun p e s m below meth c ls A hx hb hml hown hts hr hlocks hP hN hl hin hD hA hS => ?_)
  have hin : meth.name = _ := hin
  have hK := hN.1
  have hl : lv_has ls 2 [(0, .ref qm)] := hl
  refine lv_aload_n hx hb dX6_wipe_0 rfl (lv_at hl 0 rfl) ?_
  refine va_get (D := G) (ci := 5) (v := .int 0) (C := RX6) (T := TX6) (N := 35) hx hb hts iX_X6 hown hK hP 0 rfl rfl 8 (by decide) (hts _ m_t858) (fun _ h9 => h9) rfl dX6_wipe_1 ?_
  refine lv_istore_n (lv' := [(1, .int 0), (0, .ref qm)]) hx hb dX6_wipe_4 rfl hl (by decide) rfl (fun ls hl => ?_)
  refine lv_aload_n hx hb dX6_wipe_5 rfl (lv_at hl 1 rfl) ?_
  refine lv_iconst (v := 0) hx hb dX6_wipe_6 (by decide) ?_
  refine va_put (D := G) (ci := 5) (v := .int 0) (ty := .int) (C := RX6) (T := TX6) (N := 35) hx hb hts iX_X6 tyX6 tyX6_ok nmX6 hown hK hP hD hS 0 rfl rfl 8 (by decide) (hts _ m_t858) (fun _ h9 => h9) rfl (by decide +kernel) rfl rfl (Nat.le_of_ble_eq_true rfl) dX6_wipe_7 (fun H locs hP hD hS => ?_)
  have hP : va_P G CL [(qm, .inr (5, [.ref qms, .ref qmo, .ref qmz, .ref qmR, .ref qmv, .ref qmk, .ref qmb, .ref qmt, .int 0, .ref qmr, .int 0, .ref qmB, .int 0, .ref qmO, .ref qmK, .int 0, .int 0, .int 1, .null, .null, .int 0, .int 0, .int 0, .long 0, .int 0, .ref qm_three, .int 0, .int 0, .int 0, .null, .ref qm_unread, .ref qm_tryRow, .ref qm_bestRow, .ref qm_steps, .int 0]))] H := hP
  have hD : va_D A [(qm, .inr (5, [.ref qms, .ref qmo, .ref qmz, .ref qmR, .ref qmv, .ref qmk, .ref qmb, .ref qmt, .int 0, .ref qmr, .int 0, .ref qmB, .int 0, .ref qmO, .ref qmK, .int 0, .int 0, .int 1, .null, .null, .int 0, .int 0, .int 0, .long 0, .int 0, .ref qm_three, .int 0, .int 0, .int 0, .null, .ref qm_unread, .ref qm_tryRow, .ref qm_bestRow, .ref qm_steps, .int 0]))] := hD
  refine lv_iload_n hx hb dX6_wipe_10 rfl (lv_at hl 0 rfl) ?_
  exact endW (u := []) hx hb hr hlocks rfl va_P0 va_D0 hS ⟨rfl, rfl⟩ dX6_wipe_11
set_option maxHeartbeats 4000000 in
set_option maxRecDepth 100000 in
theorem p_X6_bookOf (l : Launch) (G : va_G) (cy : Nat → ClassId) (sz : Nat) (qm : Nat) (qms : Nat) (qmo : Nat) (qmz : Nat) (qmR : Nat) (qmv : Nat) (qmk : Nat) (qmb : Nat) (qmt : Nat) (qmr : Nat) (qmB : Nat) (qmO : Nat) (qmK : Nat) (qm_three : Nat) (qm_unread : Nat) (qm_tryRow : Nat) (qm_bestRow : Nat) (qm_steps : Nat) (iA : Int32) (iB : Int32)   : MW l yX6_bookOf cX6_bookOf 3 (some .int) 6 0 0 G cy [(qm, .inr (5, [.ref qms, .ref qmo, .ref qmz, .ref qmR, .ref qmv, .ref qmk, .ref qmb, .ref qmt, .int 0, .ref qmr, .int 0, .ref qmB, .int 0, .ref qmO, .ref qmK, .int 0, .int 0, .int 1, .null, .null, .int 0, .int 0, .int 0, .long 0, .int 0, .ref qm_three, .int 0, .int 0, .int 0, .null, .ref qm_unread, .ref qm_tryRow, .ref qm_bestRow, .ref qm_steps, .int 0])), (qmr, .inl (cy 0, 8, .inl (fun _ => 0)))] sz [.ref qm, .int iA, .int iB] (Wi G (fun r u => u = [] ∧ ((r = (-2))))) := by
  refine enW RX6 (by decide) rfl (Nat.le_of_ble_eq_true rfl) (fun p e s m below meth c ls A hx hb hml hown hts hr hlocks hP hN hl hin hD hA hS => ?_)
  have hin : meth.name = _ := hin
  have hK := hN.1
  have hl : lv_has ls 3 [(0, .ref qm), (1, .int iA), (2, .int iB)] := hl
  refine lv_aload_n hx hb dX6_bookOf_0 rfl (lv_at hl 0 rfl) ?_
  refine lv_iload_n hx hb dX6_bookOf_1 rfl (lv_at hl 1 rfl) ?_
  refine lv_i2l (v := iA.toInt64) hx hb dX6_bookOf_2 rfl ?_
  refine kRi (rV (As := [.long iA.toInt64]) (rest := []) (b := qm) ⟨hx, hb, hml, hown, hts⟩ (c_X6_isBook l G cy qm (.ref qms) (.ref qmo) (.ref qmz) (.ref qmR) (.ref qmv) (.ref qmk) (.ref qmb) (.ref qmt) (.int 0) (.ref qmr) (.ref qmB) (.int 0) (.ref qmO) (.ref qmK) (.int 0) (.int 0) (.int 1) .null .null (.int 0) (.int 0) (.int 0) (.long 0) (.int 0) (.ref qm_three) (.int 0) (.int 0) (.int 0) .null (.ref qm_unread) (.ref qm_tryRow) (.ref qm_bestRow) (.ref qm_steps) (.int 0) iA.toInt64) L_X6_229 (preRV (q := (RX6, TX6, 35)) hN hP [0] rfl 0 5 rfl rfl) rfl ⟨Nat.le_of_ble_eq_true rfl, Nat.le_of_ble_eq_true rfl⟩ hl.1 (Nat.le_of_ble_eq_true rfl) dX6_bookOf_3 ⟨Nat.le_of_ble_eq_true rfl, Nat.le_of_ble_eq_true rfl⟩) (fun r_1 h_2 => ?_)
  subst h_2
  refine lv_if_eq (tgt := 21) hx hb dX6_bookOf_6 (by decide) (fun _ => ?_) (fun h9 => absurd (by decide) h9)
  refine lv_aload_n hx hb dX6_bookOf_21 rfl (lv_at hl 0 rfl) ?_
  refine lv_bipush (v := (-2)) hx hb dX6_bookOf_22 (by decide) ?_
  refine kWi (wr := []) (rV (As := [.int (-2)]) (rest := []) (b := qm) ⟨hx, hb, hml, hown, hts⟩ (c_X6_refuse2 l G cy (s.heap).size qm (.ref qms) (.ref qmo) (.ref qmz) (.ref qmR) (.ref qmv) (.ref qmk) (.ref qmb) (.ref qmt) (.int 0) qmr (.int 0) (.ref qmB) (.int 0) (.ref qmO) (.ref qmK) (.int 0) (.int 0) (.int 1) .null .null (.int 0) (.int 0) (.int 0) (.long 0) (.int 0) (.ref qm_three) (.int 0) (.int 0) (.int 0) .null (.ref qm_unread) (.ref qm_tryRow) (.ref qm_bestRow) (.ref qm_steps) (.int 0) (fun _ => 0)) L_X6_91 (preWV (q := (RX6, TX6, 35)) hN hP hD [0, 1] rfl (by decide) 0 5 rfl rfl) rfl ⟨Nat.le_of_ble_eq_true rfl, Nat.le_of_ble_eq_true rfl⟩ hl.1 (Nat.le_of_ble_eq_true rfl) dX6_bookOf_24 ⟨Nat.le_of_ble_eq_true rfl, Nat.le_of_ble_eq_true rfl⟩) hP hD hS hA [0, 1] [] rfl rfl (by decide) (by decide) (fun r_4 u_6 H locs h_5 hP hD hS => ?_)
  obtain ⟨rfl, h_5⟩ := h_5
  have hP : va_P G CL [(qm, .inr (5, [.ref qms, .ref qmo, .ref qmz, .ref qmR, .ref qmv, .ref qmk, .ref qmb, .ref qmt, .int 0, .ref qmr, .int 0, .ref qmB, .int 0, .ref qmO, .ref qmK, .int 0, .int 0, .int 1, .null, .null, .int 0, .int 0, .int 0, .long 0, .int 0, .ref qm_three, .int 0, .int 0, .int 0, .null, .ref qm_unread, .ref qm_tryRow, .ref qm_bestRow, .ref qm_steps, .int 0]))] H := hP
  have hD : va_D A [(qm, .inr (5, [.ref qms, .ref qmo, .ref qmz, .ref qmR, .ref qmv, .ref qmk, .ref qmb, .ref qmt, .int 0, .ref qmr, .int 0, .ref qmB, .int 0, .ref qmO, .ref qmK, .int 0, .int 0, .int 1, .null, .null, .int 0, .int 0, .int 0, .long 0, .int 0, .ref qm_three, .int 0, .int 0, .int 0, .null, .ref qm_unread, .ref qm_tryRow, .ref qm_bestRow, .ref qm_steps, .int 0]))] := hD
  subst h_5
  exact endW (u := []) hx hb hr hlocks rfl va_P0 va_D0 hS ⟨rfl, rfl⟩ dX6_bookOf_27
set_option maxHeartbeats 4000000 in
set_option maxRecDepth 100000 in
theorem p_X6_oneOf (l : Launch) (G : va_G) (cy : Nat → ClassId) (sz : Nat) (qm : Nat) (qms : Nat) (qmo : Nat) (qmz : Nat) (qmR : Nat) (qmv : Nat) (qmk : Nat) (qmb : Nat) (qmt : Nat) (qmr : Nat) (qmB : Nat) (qmO : Nat) (qmK : Nat) (qm_three : Nat) (qm_unread : Nat) (qm_tryRow : Nat) (qm_bestRow : Nat) (qm_steps : Nat) (iA : Int32) (iB : Int32)   : MW l yX6_oneOf cX6_oneOf 3 (some .int) 6 0 0 G cy [(qm, .inr (5, [.ref qms, .ref qmo, .ref qmz, .ref qmR, .ref qmv, .ref qmk, .ref qmb, .ref qmt, .int 0, .ref qmr, .int 0, .ref qmB, .int 0, .ref qmO, .ref qmK, .int 0, .int 0, .int 1, .null, .null, .int 0, .int 0, .int 0, .long 0, .int 0, .ref qm_three, .int 0, .int 0, .int 0, .null, .ref qm_unread, .ref qm_tryRow, .ref qm_bestRow, .ref qm_steps, .int 0])), (qmr, .inl (cy 0, 8, .inl (fun _ => 0)))] sz [.ref qm, .int iA, .int iB] (Wi G (fun r u => u = [] ∧ ((r = (-2))))) := by
  refine enW RX6 (by decide) rfl (Nat.le_of_ble_eq_true rfl) (fun p e s m below meth c ls A hx hb hml hown hts hr hlocks hP hN hl hin hD hA hS => ?_)
  have hin : meth.name = _ := hin
  have hK := hN.1
  have hl : lv_has ls 3 [(0, .ref qm), (1, .int iA), (2, .int iB)] := hl
  refine lv_aload_n hx hb dX6_oneOf_0 rfl (lv_at hl 0 rfl) ?_
  refine lv_iload_n hx hb dX6_oneOf_1 rfl (lv_at hl 1 rfl) ?_
  refine lv_i2l (v := iA.toInt64) hx hb dX6_oneOf_2 rfl ?_
  refine kRi (rV (As := [.long iA.toInt64]) (rest := []) (b := qm) ⟨hx, hb, hml, hown, hts⟩ (c_X6_isOne l G cy qm (.ref qms) (.ref qmo) (.ref qmz) (.ref qmR) (.ref qmv) (.ref qmk) (.ref qmb) (.ref qmt) (.int 0) (.ref qmr) (.int 0) (.ref qmB) (.ref qmO) (.ref qmK) (.int 0) (.int 0) (.int 1) .null .null (.int 0) (.int 0) (.int 0) (.long 0) (.int 0) (.ref qm_three) (.int 0) (.int 0) (.int 0) .null (.ref qm_unread) (.ref qm_tryRow) (.ref qm_bestRow) (.ref qm_steps) (.int 0) iA.toInt64) L_X6_236 (preRV (q := (RX6, TX6, 35)) hN hP [0] rfl 0 5 rfl rfl) rfl ⟨Nat.le_of_ble_eq_true rfl, Nat.le_of_ble_eq_true rfl⟩ hl.1 (Nat.le_of_ble_eq_true rfl) dX6_oneOf_3 ⟨Nat.le_of_ble_eq_true rfl, Nat.le_of_ble_eq_true rfl⟩) (fun r_1 h_2 => ?_)
  subst h_2
  refine lv_if_eq (tgt := 32) hx hb dX6_oneOf_6 (by decide) (fun _ => ?_) (fun h9 => absurd (by decide) h9)
  refine lv_aload_n hx hb dX6_oneOf_32 rfl (lv_at hl 0 rfl) ?_
  refine lv_bipush (v := (-2)) hx hb dX6_oneOf_33 (by decide) ?_
  refine kWi (wr := []) (rV (As := [.int (-2)]) (rest := []) (b := qm) ⟨hx, hb, hml, hown, hts⟩ (c_X6_refuse2 l G cy (s.heap).size qm (.ref qms) (.ref qmo) (.ref qmz) (.ref qmR) (.ref qmv) (.ref qmk) (.ref qmb) (.ref qmt) (.int 0) qmr (.int 0) (.ref qmB) (.int 0) (.ref qmO) (.ref qmK) (.int 0) (.int 0) (.int 1) .null .null (.int 0) (.int 0) (.int 0) (.long 0) (.int 0) (.ref qm_three) (.int 0) (.int 0) (.int 0) .null (.ref qm_unread) (.ref qm_tryRow) (.ref qm_bestRow) (.ref qm_steps) (.int 0) (fun _ => 0)) L_X6_91 (preWV (q := (RX6, TX6, 35)) hN hP hD [0, 1] rfl (by decide) 0 5 rfl rfl) rfl ⟨Nat.le_of_ble_eq_true rfl, Nat.le_of_ble_eq_true rfl⟩ hl.1 (Nat.le_of_ble_eq_true rfl) dX6_oneOf_35 ⟨Nat.le_of_ble_eq_true rfl, Nat.le_of_ble_eq_true rfl⟩) hP hD hS hA [0, 1] [] rfl rfl (by decide) (by decide) (fun r_4 u_6 H locs h_5 hP hD hS => ?_)
  obtain ⟨rfl, h_5⟩ := h_5
  have hP : va_P G CL [(qm, .inr (5, [.ref qms, .ref qmo, .ref qmz, .ref qmR, .ref qmv, .ref qmk, .ref qmb, .ref qmt, .int 0, .ref qmr, .int 0, .ref qmB, .int 0, .ref qmO, .ref qmK, .int 0, .int 0, .int 1, .null, .null, .int 0, .int 0, .int 0, .long 0, .int 0, .ref qm_three, .int 0, .int 0, .int 0, .null, .ref qm_unread, .ref qm_tryRow, .ref qm_bestRow, .ref qm_steps, .int 0]))] H := hP
  have hD : va_D A [(qm, .inr (5, [.ref qms, .ref qmo, .ref qmz, .ref qmR, .ref qmv, .ref qmk, .ref qmb, .ref qmt, .int 0, .ref qmr, .int 0, .ref qmB, .int 0, .ref qmO, .ref qmK, .int 0, .int 0, .int 1, .null, .null, .int 0, .int 0, .int 0, .long 0, .int 0, .ref qm_three, .int 0, .int 0, .int 0, .null, .ref qm_unread, .ref qm_tryRow, .ref qm_bestRow, .ref qm_steps, .int 0]))] := hD
  subst h_5
  exact endW (u := []) hx hb hr hlocks rfl va_P0 va_D0 hS ⟨rfl, rfl⟩ dX6_oneOf_38
set_option maxHeartbeats 4000000 in
set_option maxRecDepth 100000 in
theorem p_X6_known (l : Launch) (G : va_G) (cy : Nat → ClassId) (sz : Nat) (qm : Nat) (qms : Nat) (qmo : Nat) (qmz : Nat) (qmR : Nat) (qmv : Nat) (qmk : Nat) (qmb : Nat) (qmt : Nat) (qmr : Nat) (qmB : Nat) (qmO : Nat) (qmK : Nat) (qm_three : Nat) (qm_unread : Nat) (qm_tryRow : Nat) (qm_bestRow : Nat) (qm_steps : Nat) (iA : Int32) (iB : Int32)   : MW l yX6_known cX6_known 3 (some .int) 6 0 0 G cy [(qm, .inr (5, [.ref qms, .ref qmo, .ref qmz, .ref qmR, .ref qmv, .ref qmk, .ref qmb, .ref qmt, .int 0, .ref qmr, .int 0, .ref qmB, .int 0, .ref qmO, .ref qmK, .int 0, .int 0, .int 1, .null, .null, .int 0, .int 0, .int 0, .long 0, .int 0, .ref qm_three, .int 0, .int 0, .int 0, .null, .ref qm_unread, .ref qm_tryRow, .ref qm_bestRow, .ref qm_steps, .int 0])), (qmr, .inl (cy 0, 8, .inl (fun _ => 0)))] sz [.ref qm, .int iA, .int iB] (Wi G (fun r u => u = [] ∧ ((r = (-2))))) := by
  refine enW RX6 (by decide) rfl (Nat.le_of_ble_eq_true rfl) (fun p e s m below meth c ls A hx hb hml hown hts hr hlocks hP hN hl hin hD hA hS => ?_)
  have hin : meth.name = _ := hin
  have hK := hN.1
  have hl : lv_has ls 3 [(0, .ref qm), (1, .int iA), (2, .int iB)] := hl
  refine lv_aload_n hx hb dX6_known_0 rfl (lv_at hl 0 rfl) ?_
  refine lv_iload_n hx hb dX6_known_1 rfl (lv_at hl 1 rfl) ?_
  refine lv_i2l (v := iA.toInt64) hx hb dX6_known_2 rfl ?_
  refine kRi (rV (As := [.long iA.toInt64]) (rest := []) (b := qm) ⟨hx, hb, hml, hown, hts⟩ (c_X6_isOne l G cy qm (.ref qms) (.ref qmo) (.ref qmz) (.ref qmR) (.ref qmv) (.ref qmk) (.ref qmb) (.ref qmt) (.int 0) (.ref qmr) (.int 0) (.ref qmB) (.ref qmO) (.ref qmK) (.int 0) (.int 0) (.int 1) .null .null (.int 0) (.int 0) (.int 0) (.long 0) (.int 0) (.ref qm_three) (.int 0) (.int 0) (.int 0) .null (.ref qm_unread) (.ref qm_tryRow) (.ref qm_bestRow) (.ref qm_steps) (.int 0) iA.toInt64) L_X6_236 (preRV (q := (RX6, TX6, 35)) hN hP [0] rfl 0 5 rfl rfl) rfl ⟨Nat.le_of_ble_eq_true rfl, Nat.le_of_ble_eq_true rfl⟩ hl.1 (Nat.le_of_ble_eq_true rfl) dX6_known_3 ⟨Nat.le_of_ble_eq_true rfl, Nat.le_of_ble_eq_true rfl⟩) (fun r_1 h_2 => ?_)
  subst h_2
  refine lv_if_eq (tgt := 29) hx hb dX6_known_6 (by decide) (fun _ => ?_) (fun h9 => absurd (by decide) h9)
  refine lv_aload_n hx hb dX6_known_29 rfl (lv_at hl 0 rfl) ?_
  refine lv_bipush (v := (-2)) hx hb dX6_known_30 (by decide) ?_
  refine kWi (wr := []) (rV (As := [.int (-2)]) (rest := []) (b := qm) ⟨hx, hb, hml, hown, hts⟩ (c_X6_refuse2 l G cy (s.heap).size qm (.ref qms) (.ref qmo) (.ref qmz) (.ref qmR) (.ref qmv) (.ref qmk) (.ref qmb) (.ref qmt) (.int 0) qmr (.int 0) (.ref qmB) (.int 0) (.ref qmO) (.ref qmK) (.int 0) (.int 0) (.int 1) .null .null (.int 0) (.int 0) (.int 0) (.long 0) (.int 0) (.ref qm_three) (.int 0) (.int 0) (.int 0) .null (.ref qm_unread) (.ref qm_tryRow) (.ref qm_bestRow) (.ref qm_steps) (.int 0) (fun _ => 0)) L_X6_91 (preWV (q := (RX6, TX6, 35)) hN hP hD [0, 1] rfl (by decide) 0 5 rfl rfl) rfl ⟨Nat.le_of_ble_eq_true rfl, Nat.le_of_ble_eq_true rfl⟩ hl.1 (Nat.le_of_ble_eq_true rfl) dX6_known_32 ⟨Nat.le_of_ble_eq_true rfl, Nat.le_of_ble_eq_true rfl⟩) hP hD hS hA [0, 1] [] rfl rfl (by decide) (by decide) (fun r_4 u_6 H locs h_5 hP hD hS => ?_)
  obtain ⟨rfl, h_5⟩ := h_5
  have hP : va_P G CL [(qm, .inr (5, [.ref qms, .ref qmo, .ref qmz, .ref qmR, .ref qmv, .ref qmk, .ref qmb, .ref qmt, .int 0, .ref qmr, .int 0, .ref qmB, .int 0, .ref qmO, .ref qmK, .int 0, .int 0, .int 1, .null, .null, .int 0, .int 0, .int 0, .long 0, .int 0, .ref qm_three, .int 0, .int 0, .int 0, .null, .ref qm_unread, .ref qm_tryRow, .ref qm_bestRow, .ref qm_steps, .int 0]))] H := hP
  have hD : va_D A [(qm, .inr (5, [.ref qms, .ref qmo, .ref qmz, .ref qmR, .ref qmv, .ref qmk, .ref qmb, .ref qmt, .int 0, .ref qmr, .int 0, .ref qmB, .int 0, .ref qmO, .ref qmK, .int 0, .int 0, .int 1, .null, .null, .int 0, .int 0, .int 0, .long 0, .int 0, .ref qm_three, .int 0, .int 0, .int 0, .null, .ref qm_unread, .ref qm_tryRow, .ref qm_bestRow, .ref qm_steps, .int 0]))] := hD
  subst h_5
  exact endW (u := []) hx hb hr hlocks rfl va_P0 va_D0 hS ⟨rfl, rfl⟩ dX6_known_35
set_option maxHeartbeats 4000000 in
set_option maxRecDepth 100000 in
theorem p_X6_alter (l : Launch) (G : va_G) (cy : Nat → ClassId) (sz : Nat) (qm : Nat) (qms : Nat) (qmo : Nat) (qmz : Nat) (qmR : Nat) (qmv : Nat) (qmk : Nat) (qmb : Nat) (qmt : Nat) (qmr : Nat) (qmB : Nat) (qmO : Nat) (qmK : Nat) (qm_three : Nat) (qm_unread : Nat) (qm_tryRow : Nat) (qm_bestRow : Nat) (qm_steps : Nat) (iA : Int32) (iB : Int32) (iC : Int32)   : MW l yX6_alter cX6_alter 5 (some .int) 6 0 0 G cy [(qm, .inr (5, [.ref qms, .ref qmo, .ref qmz, .ref qmR, .ref qmv, .ref qmk, .ref qmb, .ref qmt, .int 0, .ref qmr, .int 0, .ref qmB, .int 0, .ref qmO, .ref qmK, .int 0, .int 0, .int 1, .null, .null, .int 0, .int 0, .int 0, .long 0, .int 0, .ref qm_three, .int 0, .int 0, .int 0, .null, .ref qm_unread, .ref qm_tryRow, .ref qm_bestRow, .ref qm_steps, .int 0])), (qmr, .inl (cy 0, 8, .inl (fun _ => 0)))] sz [.ref qm, .int iA, .int iB, .int iC] (Wi G (fun r u => u = [] ∧ ((r = (-2))))) := by
  refine enW RX6 (by decide) rfl (Nat.le_of_ble_eq_true rfl) (fun p e s m below meth c ls A hx hb hml hown hts hr hlocks hP hN hl hin hD hA hS => ?_)
  have hin : meth.name = _ := hin
  have hK := hN.1
  have hl : lv_has ls 5 [(0, .ref qm), (1, .int iA), (2, .int iB), (3, .int iC)] := hl
  refine lv_aload_n hx hb dX6_alter_0 rfl (lv_at hl 0 rfl) ?_
  refine lv_iload_n hx hb dX6_alter_1 rfl (lv_at hl 1 rfl) ?_
  refine lv_i2l (v := iA.toInt64) hx hb dX6_alter_2 rfl ?_
  refine kRi (rV (As := [.long iA.toInt64]) (rest := []) (b := qm) ⟨hx, hb, hml, hown, hts⟩ (c_X6_isOne l G cy qm (.ref qms) (.ref qmo) (.ref qmz) (.ref qmR) (.ref qmv) (.ref qmk) (.ref qmb) (.ref qmt) (.int 0) (.ref qmr) (.int 0) (.ref qmB) (.ref qmO) (.ref qmK) (.int 0) (.int 0) (.int 1) .null .null (.int 0) (.int 0) (.int 0) (.long 0) (.int 0) (.ref qm_three) (.int 0) (.int 0) (.int 0) .null (.ref qm_unread) (.ref qm_tryRow) (.ref qm_bestRow) (.ref qm_steps) (.int 0) iA.toInt64) L_X6_236 (preRV (q := (RX6, TX6, 35)) hN hP [0] rfl 0 5 rfl rfl) rfl ⟨Nat.le_of_ble_eq_true rfl, Nat.le_of_ble_eq_true rfl⟩ hl.1 (Nat.le_of_ble_eq_true rfl) dX6_alter_3 ⟨Nat.le_of_ble_eq_true rfl, Nat.le_of_ble_eq_true rfl⟩) (fun r_1 h_2 => ?_)
  subst h_2
  refine lv_if_eq (tgt := 30) hx hb dX6_alter_6 (by decide) (fun _ => ?_) (fun h9 => absurd (by decide) h9)
  refine lv_aload_n hx hb dX6_alter_30 rfl (lv_at hl 0 rfl) ?_
  refine lv_bipush (v := (-2)) hx hb dX6_alter_31 (by decide) ?_
  refine kWi (wr := []) (rV (As := [.int (-2)]) (rest := []) (b := qm) ⟨hx, hb, hml, hown, hts⟩ (c_X6_refuse2 l G cy (s.heap).size qm (.ref qms) (.ref qmo) (.ref qmz) (.ref qmR) (.ref qmv) (.ref qmk) (.ref qmb) (.ref qmt) (.int 0) qmr (.int 0) (.ref qmB) (.int 0) (.ref qmO) (.ref qmK) (.int 0) (.int 0) (.int 1) .null .null (.int 0) (.int 0) (.int 0) (.long 0) (.int 0) (.ref qm_three) (.int 0) (.int 0) (.int 0) .null (.ref qm_unread) (.ref qm_tryRow) (.ref qm_bestRow) (.ref qm_steps) (.int 0) (fun _ => 0)) L_X6_91 (preWV (q := (RX6, TX6, 35)) hN hP hD [0, 1] rfl (by decide) 0 5 rfl rfl) rfl ⟨Nat.le_of_ble_eq_true rfl, Nat.le_of_ble_eq_true rfl⟩ hl.1 (Nat.le_of_ble_eq_true rfl) dX6_alter_33 ⟨Nat.le_of_ble_eq_true rfl, Nat.le_of_ble_eq_true rfl⟩) hP hD hS hA [0, 1] [] rfl rfl (by decide) (by decide) (fun r_4 u_6 H locs h_5 hP hD hS => ?_)
  obtain ⟨rfl, h_5⟩ := h_5
  have hP : va_P G CL [(qm, .inr (5, [.ref qms, .ref qmo, .ref qmz, .ref qmR, .ref qmv, .ref qmk, .ref qmb, .ref qmt, .int 0, .ref qmr, .int 0, .ref qmB, .int 0, .ref qmO, .ref qmK, .int 0, .int 0, .int 1, .null, .null, .int 0, .int 0, .int 0, .long 0, .int 0, .ref qm_three, .int 0, .int 0, .int 0, .null, .ref qm_unread, .ref qm_tryRow, .ref qm_bestRow, .ref qm_steps, .int 0]))] H := hP
  have hD : va_D A [(qm, .inr (5, [.ref qms, .ref qmo, .ref qmz, .ref qmR, .ref qmv, .ref qmk, .ref qmb, .ref qmt, .int 0, .ref qmr, .int 0, .ref qmB, .int 0, .ref qmO, .ref qmK, .int 0, .int 0, .int 1, .null, .null, .int 0, .int 0, .int 0, .long 0, .int 0, .ref qm_three, .int 0, .int 0, .int 0, .null, .ref qm_unread, .ref qm_tryRow, .ref qm_bestRow, .ref qm_steps, .int 0]))] := hD
  subst h_5
  exact endW (u := []) hx hb hr hlocks rfl va_P0 va_D0 hS ⟨rfl, rfl⟩ dX6_alter_36
set_option maxHeartbeats 4000000 in
set_option maxRecDepth 100000 in
theorem p_X6_ground (l : Launch) (G : va_G) (cy : Nat → ClassId) (sz : Nat) (qm : Nat) (qms : Nat) (qmo : Nat) (qmz : Nat) (qmR : Nat) (qmv : Nat) (qmk : Nat) (qmb : Nat) (qmt : Nat) (qmr : Nat) (qmB : Nat) (qmO : Nat) (qmK : Nat) (qm_three : Nat) (qm_unread : Nat) (qm_tryRow : Nat) (qm_bestRow : Nat) (qm_steps : Nat) (iA : Int32) (iB : Int32)   : MW l yX6_ground cX6_ground 3 (some .int) 6 0 0 G cy [(qm, .inr (5, [.ref qms, .ref qmo, .ref qmz, .ref qmR, .ref qmv, .ref qmk, .ref qmb, .ref qmt, .int 0, .ref qmr, .int 0, .ref qmB, .int 0, .ref qmO, .ref qmK, .int 0, .int 0, .int 1, .null, .null, .int 0, .int 0, .int 0, .long 0, .int 0, .ref qm_three, .int 0, .int 0, .int 0, .null, .ref qm_unread, .ref qm_tryRow, .ref qm_bestRow, .ref qm_steps, .int 0])), (qmr, .inl (cy 0, 8, .inl (fun _ => 0)))] sz [.ref qm, .int iA, .int iB] (Wi G (fun r u => u = [] ∧ ((r = (-2))))) := by
  refine enW RX6 (by decide) rfl (Nat.le_of_ble_eq_true rfl) (fun p e s m below meth c ls A hx hb hml hown hts hr hlocks hP hN hl hin hD hA hS => ?_)
  have hin : meth.name = _ := hin
  have hK := hN.1
  have hl : lv_has ls 3 [(0, .ref qm), (1, .int iA), (2, .int iB)] := hl
  refine lv_aload_n hx hb dX6_ground_0 rfl (lv_at hl 0 rfl) ?_
  refine lv_iload_n hx hb dX6_ground_1 rfl (lv_at hl 1 rfl) ?_
  refine lv_i2l (v := iA.toInt64) hx hb dX6_ground_2 rfl ?_
  refine kRi (rV (As := [.long iA.toInt64]) (rest := []) (b := qm) ⟨hx, hb, hml, hown, hts⟩ (c_X6_isOne l G cy qm (.ref qms) (.ref qmo) (.ref qmz) (.ref qmR) (.ref qmv) (.ref qmk) (.ref qmb) (.ref qmt) (.int 0) (.ref qmr) (.int 0) (.ref qmB) (.ref qmO) (.ref qmK) (.int 0) (.int 0) (.int 1) .null .null (.int 0) (.int 0) (.int 0) (.long 0) (.int 0) (.ref qm_three) (.int 0) (.int 0) (.int 0) .null (.ref qm_unread) (.ref qm_tryRow) (.ref qm_bestRow) (.ref qm_steps) (.int 0) iA.toInt64) L_X6_236 (preRV (q := (RX6, TX6, 35)) hN hP [0] rfl 0 5 rfl rfl) rfl ⟨Nat.le_of_ble_eq_true rfl, Nat.le_of_ble_eq_true rfl⟩ hl.1 (Nat.le_of_ble_eq_true rfl) dX6_ground_3 ⟨Nat.le_of_ble_eq_true rfl, Nat.le_of_ble_eq_true rfl⟩) (fun r_1 h_2 => ?_)
  subst h_2
  refine lv_if_eq (tgt := 27) hx hb dX6_ground_6 (by decide) (fun _ => ?_) (fun h9 => absurd (by decide) h9)
  refine lv_aload_n hx hb dX6_ground_27 rfl (lv_at hl 0 rfl) ?_
  refine lv_bipush (v := (-2)) hx hb dX6_ground_28 (by decide) ?_
  refine kWi (wr := []) (rV (As := [.int (-2)]) (rest := []) (b := qm) ⟨hx, hb, hml, hown, hts⟩ (c_X6_refuse2 l G cy (s.heap).size qm (.ref qms) (.ref qmo) (.ref qmz) (.ref qmR) (.ref qmv) (.ref qmk) (.ref qmb) (.ref qmt) (.int 0) qmr (.int 0) (.ref qmB) (.int 0) (.ref qmO) (.ref qmK) (.int 0) (.int 0) (.int 1) .null .null (.int 0) (.int 0) (.int 0) (.long 0) (.int 0) (.ref qm_three) (.int 0) (.int 0) (.int 0) .null (.ref qm_unread) (.ref qm_tryRow) (.ref qm_bestRow) (.ref qm_steps) (.int 0) (fun _ => 0)) L_X6_91 (preWV (q := (RX6, TX6, 35)) hN hP hD [0, 1] rfl (by decide) 0 5 rfl rfl) rfl ⟨Nat.le_of_ble_eq_true rfl, Nat.le_of_ble_eq_true rfl⟩ hl.1 (Nat.le_of_ble_eq_true rfl) dX6_ground_30 ⟨Nat.le_of_ble_eq_true rfl, Nat.le_of_ble_eq_true rfl⟩) hP hD hS hA [0, 1] [] rfl rfl (by decide) (by decide) (fun r_4 u_6 H locs h_5 hP hD hS => ?_)
  obtain ⟨rfl, h_5⟩ := h_5
  have hP : va_P G CL [(qm, .inr (5, [.ref qms, .ref qmo, .ref qmz, .ref qmR, .ref qmv, .ref qmk, .ref qmb, .ref qmt, .int 0, .ref qmr, .int 0, .ref qmB, .int 0, .ref qmO, .ref qmK, .int 0, .int 0, .int 1, .null, .null, .int 0, .int 0, .int 0, .long 0, .int 0, .ref qm_three, .int 0, .int 0, .int 0, .null, .ref qm_unread, .ref qm_tryRow, .ref qm_bestRow, .ref qm_steps, .int 0]))] H := hP
  have hD : va_D A [(qm, .inr (5, [.ref qms, .ref qmo, .ref qmz, .ref qmR, .ref qmv, .ref qmk, .ref qmb, .ref qmt, .int 0, .ref qmr, .int 0, .ref qmB, .int 0, .ref qmO, .ref qmK, .int 0, .int 0, .int 1, .null, .null, .int 0, .int 0, .int 0, .long 0, .int 0, .ref qm_three, .int 0, .int 0, .int 0, .null, .ref qm_unread, .ref qm_tryRow, .ref qm_bestRow, .ref qm_steps, .int 0]))] := hD
  subst h_5
  exact endW (u := []) hx hb hr hlocks rfl va_P0 va_D0 hS ⟨rfl, rfl⟩ dX6_ground_33
set_option maxHeartbeats 4000000 in
set_option maxRecDepth 100000 in
theorem p_X6_would (l : Launch) (G : va_G) (cy : Nat → ClassId) (sz : Nat) (qm : Nat) (qms : Nat) (qmo : Nat) (qmz : Nat) (qmR : Nat) (qmv : Nat) (qmk : Nat) (qmb : Nat) (qmt : Nat) (qmr : Nat) (qmB : Nat) (qmO : Nat) (qmK : Nat) (qm_three : Nat) (qm_unread : Nat) (qm_tryRow : Nat) (qm_bestRow : Nat) (qm_steps : Nat) (iA : Int32) (iB : Int32)   : MW l yX6_would cX6_would 4 (some .int) 6 0 0 G cy [(qm, .inr (5, [.ref qms, .ref qmo, .ref qmz, .ref qmR, .ref qmv, .ref qmk, .ref qmb, .ref qmt, .int 0, .ref qmr, .int 0, .ref qmB, .int 0, .ref qmO, .ref qmK, .int 0, .int 0, .int 1, .null, .null, .int 0, .int 0, .int 0, .long 0, .int 0, .ref qm_three, .int 0, .int 0, .int 0, .null, .ref qm_unread, .ref qm_tryRow, .ref qm_bestRow, .ref qm_steps, .int 0])), (qmr, .inl (cy 0, 8, .inl (fun _ => 0)))] sz [.ref qm, .int iA, .int iB] (Wi G (fun r u => u = [] ∧ ((r = (-2))))) := by
  refine enW RX6 (by decide) rfl (Nat.le_of_ble_eq_true rfl) (fun p e s m below meth c ls A hx hb hml hown hts hr hlocks hP hN hl hin hD hA hS => ?_)
  have hin : meth.name = _ := hin
  have hK := hN.1
  have hl : lv_has ls 4 [(0, .ref qm), (1, .int iA), (2, .int iB)] := hl
  refine lv_aload_n hx hb dX6_would_0 rfl (lv_at hl 0 rfl) ?_
  refine lv_iload_n hx hb dX6_would_1 rfl (lv_at hl 1 rfl) ?_
  refine lv_iload_n hx hb dX6_would_2 rfl (lv_at hl 2 rfl) ?_
  refine kWi (wr := []) (rV (As := [.int iA, .int iB]) (rest := []) (b := qm) ⟨hx, hb, hml, hown, hts⟩ (c_X6_noReading l G cy (s.heap).size qm (.ref qms) (.ref qmo) (.ref qmz) (.ref qmR) (.ref qmv) (.ref qmk) (.ref qmb) (.ref qmt) (.int 0) qmr (.int 0) (.ref qmB) (.ref qmO) (.ref qmK) (.int 0) (.int 0) (.int 1) .null .null (.int 0) (.int 0) (.int 0) (.long 0) (.int 0) (.ref qm_three) (.int 0) (.int 0) (.int 0) .null (.ref qm_unread) (.ref qm_tryRow) (.ref qm_bestRow) (.ref qm_steps) (.int 0) iA iB) L_X6_251 (preWV (q := (RX6, TX6, 35)) hN hP hD [0, 1] rfl (by decide) 0 5 rfl rfl) rfl ⟨Nat.le_of_ble_eq_true rfl, Nat.le_of_ble_eq_true rfl⟩ hl.1 (Nat.le_of_ble_eq_true rfl) dX6_would_3 ⟨Nat.le_of_ble_eq_true rfl, Nat.le_of_ble_eq_true rfl⟩) hP hD hS hA [0, 1] [] rfl rfl (by decide) (by decide) (fun r_1 u_3 H locs h_2 hP hD hS => ?_)
  obtain ⟨rfl, h_2⟩ := h_2
  have hP : va_P G CL [] H := hP
  have hD : va_D A [] := hD
  subst h_2
  refine lv_istore_n (lv' := [(3, .int (-2)), (0, .ref qm), (1, .int iA), (2, .int iB)]) hx hb dX6_would_6 rfl hl (by decide) rfl (fun ls hl => ?_)
  refine lv_iload_n hx hb dX6_would_7 rfl (lv_at hl 0 rfl) ?_
  refine lv_if_eq (tgt := 15) hx hb dX6_would_8 (by decide) (fun h9 => absurd h9 (by decide)) (fun _ => ?_)
  refine lv_iload_n hx hb dX6_would_11 rfl (lv_at hl 0 rfl) ?_
  refine lv_goto (tgt := 21) hx hb dX6_would_12 (by decide) ?_
  exact endW (u := []) hx hb hr hlocks rfl va_P0 va_D0 hS ⟨rfl, rfl⟩ dX6_would_21
set_option maxHeartbeats 4000000 in
set_option maxRecDepth 100000 in
theorem p_X6_read (l : Launch) (G : va_G) (cy : Nat → ClassId) (sz : Nat) (qm : Nat) (qms : Nat) (qmo : Nat) (qmz : Nat) (qmR : Nat) (qmv : Nat) (qmk : Nat) (qmb : Nat) (qmt : Nat) (qmr : Nat) (qmB : Nat) (qmO : Nat) (qmK : Nat) (qm_three : Nat) (qm_unread : Nat) (qm_tryRow : Nat) (qm_bestRow : Nat) (qm_steps : Nat) (iA : Int32) (iB : Int32)   : MW l yX6_read cX6_read 4 (some .int) 6 0 0 G cy [(qm, .inr (5, [.ref qms, .ref qmo, .ref qmz, .ref qmR, .ref qmv, .ref qmk, .ref qmb, .ref qmt, .int 0, .ref qmr, .int 0, .ref qmB, .int 0, .ref qmO, .ref qmK, .int 0, .int 0, .int 1, .null, .null, .int 0, .int 0, .int 0, .long 0, .int 0, .ref qm_three, .int 0, .int 0, .int 0, .null, .ref qm_unread, .ref qm_tryRow, .ref qm_bestRow, .ref qm_steps, .int 0])), (qmr, .inl (cy 0, 8, .inl (fun _ => 0)))] sz [.ref qm, .int iA, .int iB] (Wi G (fun r u => u = [] ∧ ((r = (-2))))) := by
  refine enW RX6 (by decide) rfl (Nat.le_of_ble_eq_true rfl) (fun p e s m below meth c ls A hx hb hml hown hts hr hlocks hP hN hl hin hD hA hS => ?_)
  have hin : meth.name = _ := hin
  have hK := hN.1
  have hl : lv_has ls 4 [(0, .ref qm), (1, .int iA), (2, .int iB)] := hl
  refine lv_aload_n hx hb dX6_read_0 rfl (lv_at hl 0 rfl) ?_
  refine lv_iload_n hx hb dX6_read_1 rfl (lv_at hl 1 rfl) ?_
  refine lv_iload_n hx hb dX6_read_2 rfl (lv_at hl 2 rfl) ?_
  refine kWi (wr := []) (rV (As := [.int iA, .int iB]) (rest := []) (b := qm) ⟨hx, hb, hml, hown, hts⟩ (c_X6_noReading l G cy (s.heap).size qm (.ref qms) (.ref qmo) (.ref qmz) (.ref qmR) (.ref qmv) (.ref qmk) (.ref qmb) (.ref qmt) (.int 0) qmr (.int 0) (.ref qmB) (.ref qmO) (.ref qmK) (.int 0) (.int 0) (.int 1) .null .null (.int 0) (.int 0) (.int 0) (.long 0) (.int 0) (.ref qm_three) (.int 0) (.int 0) (.int 0) .null (.ref qm_unread) (.ref qm_tryRow) (.ref qm_bestRow) (.ref qm_steps) (.int 0) iA iB) L_X6_251 (preWV (q := (RX6, TX6, 35)) hN hP hD [0, 1] rfl (by decide) 0 5 rfl rfl) rfl ⟨Nat.le_of_ble_eq_true rfl, Nat.le_of_ble_eq_true rfl⟩ hl.1 (Nat.le_of_ble_eq_true rfl) dX6_read_3 ⟨Nat.le_of_ble_eq_true rfl, Nat.le_of_ble_eq_true rfl⟩) hP hD hS hA [0, 1] [] rfl rfl (by decide) (by decide) (fun r_1 u_3 H locs h_2 hP hD hS => ?_)
  obtain ⟨rfl, h_2⟩ := h_2
  have hP : va_P G CL [] H := hP
  have hD : va_D A [] := hD
  subst h_2
  refine lv_istore_n (lv' := [(3, .int (-2)), (0, .ref qm), (1, .int iA), (2, .int iB)]) hx hb dX6_read_6 rfl hl (by decide) rfl (fun ls hl => ?_)
  refine lv_iload_n hx hb dX6_read_7 rfl (lv_at hl 0 rfl) ?_
  refine lv_if_eq (tgt := 13) hx hb dX6_read_8 (by decide) (fun h9 => absurd h9 (by decide)) (fun _ => ?_)
  refine lv_iload_n hx hb dX6_read_11 rfl (lv_at hl 0 rfl) ?_
  exact endW (u := []) hx hb hr hlocks rfl va_P0 va_D0 hS ⟨rfl, rfl⟩ dX6_read_12
set_option maxHeartbeats 4000000 in
set_option maxRecDepth 100000 in
theorem p_X6_aloud (l : Launch) (G : va_G) (cy : Nat → ClassId) (sz : Nat) (qm : Nat) (qms : Nat) (qmo : Nat) (qmz : Nat) (qmR : Nat) (qmv : Nat) (qmk : Nat) (qmb : Nat) (qmt : Nat) (qmr : Nat) (qmB : Nat) (qmO : Nat) (qmK : Nat) (qm_three : Nat) (qm_unread : Nat) (qm_tryRow : Nat) (qm_bestRow : Nat) (qm_steps : Nat) (iA : Int32) (iB : Int32) (iC : Int32)   : MW l yX6_aloud cX6_aloud 5 (some .int) 6 0 0 G cy [(qm, .inr (5, [.ref qms, .ref qmo, .ref qmz, .ref qmR, .ref qmv, .ref qmk, .ref qmb, .ref qmt, .int 0, .ref qmr, .int 0, .ref qmB, .int 0, .ref qmO, .ref qmK, .int 0, .int 0, .int 1, .null, .null, .int 0, .int 0, .int 0, .long 0, .int 0, .ref qm_three, .int 0, .int 0, .int 0, .null, .ref qm_unread, .ref qm_tryRow, .ref qm_bestRow, .ref qm_steps, .int 0])), (qmr, .inl (cy 0, 8, .inl (fun _ => 0)))] sz [.ref qm, .int iA, .int iB, .int iC] (Wi G (fun r u => u = [] ∧ ((r = (-2))))) := by
  refine enW RX6 (by decide) rfl (Nat.le_of_ble_eq_true rfl) (fun p e s m below meth c ls A hx hb hml hown hts hr hlocks hP hN hl hin hD hA hS => ?_)
  have hin : meth.name = _ := hin
  have hK := hN.1
  have hl : lv_has ls 5 [(0, .ref qm), (1, .int iA), (2, .int iB), (3, .int iC)] := hl
  refine lv_aload_n hx hb dX6_aloud_0 rfl (lv_at hl 0 rfl) ?_
  refine lv_iload_n hx hb dX6_aloud_1 rfl (lv_at hl 1 rfl) ?_
  refine lv_i2l (v := iA.toInt64) hx hb dX6_aloud_2 rfl ?_
  refine kRi (rV (As := [.long iA.toInt64]) (rest := []) (b := qm) ⟨hx, hb, hml, hown, hts⟩ (c_X6_isOne l G cy qm (.ref qms) (.ref qmo) (.ref qmz) (.ref qmR) (.ref qmv) (.ref qmk) (.ref qmb) (.ref qmt) (.int 0) (.ref qmr) (.int 0) (.ref qmB) (.ref qmO) (.ref qmK) (.int 0) (.int 0) (.int 1) .null .null (.int 0) (.int 0) (.int 0) (.long 0) (.int 0) (.ref qm_three) (.int 0) (.int 0) (.int 0) .null (.ref qm_unread) (.ref qm_tryRow) (.ref qm_bestRow) (.ref qm_steps) (.int 0) iA.toInt64) L_X6_236 (preRV (q := (RX6, TX6, 35)) hN hP [0] rfl 0 5 rfl rfl) rfl ⟨Nat.le_of_ble_eq_true rfl, Nat.le_of_ble_eq_true rfl⟩ hl.1 (Nat.le_of_ble_eq_true rfl) dX6_aloud_3 ⟨Nat.le_of_ble_eq_true rfl, Nat.le_of_ble_eq_true rfl⟩) (fun r_1 h_2 => ?_)
  subst h_2
  refine lv_if_eq (tgt := 36) hx hb dX6_aloud_6 (by decide) (fun _ => ?_) (fun h9 => absurd (by decide) h9)
  refine lv_aload_n hx hb dX6_aloud_36 rfl (lv_at hl 0 rfl) ?_
  refine lv_bipush (v := (-2)) hx hb dX6_aloud_37 (by decide) ?_
  refine kWi (wr := []) (rV (As := [.int (-2)]) (rest := []) (b := qm) ⟨hx, hb, hml, hown, hts⟩ (c_X6_refuse2 l G cy (s.heap).size qm (.ref qms) (.ref qmo) (.ref qmz) (.ref qmR) (.ref qmv) (.ref qmk) (.ref qmb) (.ref qmt) (.int 0) qmr (.int 0) (.ref qmB) (.int 0) (.ref qmO) (.ref qmK) (.int 0) (.int 0) (.int 1) .null .null (.int 0) (.int 0) (.int 0) (.long 0) (.int 0) (.ref qm_three) (.int 0) (.int 0) (.int 0) .null (.ref qm_unread) (.ref qm_tryRow) (.ref qm_bestRow) (.ref qm_steps) (.int 0) (fun _ => 0)) L_X6_91 (preWV (q := (RX6, TX6, 35)) hN hP hD [0, 1] rfl (by decide) 0 5 rfl rfl) rfl ⟨Nat.le_of_ble_eq_true rfl, Nat.le_of_ble_eq_true rfl⟩ hl.1 (Nat.le_of_ble_eq_true rfl) dX6_aloud_39 ⟨Nat.le_of_ble_eq_true rfl, Nat.le_of_ble_eq_true rfl⟩) hP hD hS hA [0, 1] [] rfl rfl (by decide) (by decide) (fun r_4 u_6 H locs h_5 hP hD hS => ?_)
  obtain ⟨rfl, h_5⟩ := h_5
  have hP : va_P G CL [(qm, .inr (5, [.ref qms, .ref qmo, .ref qmz, .ref qmR, .ref qmv, .ref qmk, .ref qmb, .ref qmt, .int 0, .ref qmr, .int 0, .ref qmB, .int 0, .ref qmO, .ref qmK, .int 0, .int 0, .int 1, .null, .null, .int 0, .int 0, .int 0, .long 0, .int 0, .ref qm_three, .int 0, .int 0, .int 0, .null, .ref qm_unread, .ref qm_tryRow, .ref qm_bestRow, .ref qm_steps, .int 0]))] H := hP
  have hD : va_D A [(qm, .inr (5, [.ref qms, .ref qmo, .ref qmz, .ref qmR, .ref qmv, .ref qmk, .ref qmb, .ref qmt, .int 0, .ref qmr, .int 0, .ref qmB, .int 0, .ref qmO, .ref qmK, .int 0, .int 0, .int 1, .null, .null, .int 0, .int 0, .int 0, .long 0, .int 0, .ref qm_three, .int 0, .int 0, .int 0, .null, .ref qm_unread, .ref qm_tryRow, .ref qm_bestRow, .ref qm_steps, .int 0]))] := hD
  subst h_5
  exact endW (u := []) hx hb hr hlocks rfl va_P0 va_D0 hS ⟨rfl, rfl⟩ dX6_aloud_42
set_option maxHeartbeats 4000000 in
set_option maxRecDepth 100000 in
theorem p_X6_tell (l : Launch) (G : va_G) (cy : Nat → ClassId) (sz : Nat) (qm : Nat) (qms : Nat) (qmo : Nat) (qmz : Nat) (qmR : Nat) (qmv : Nat) (qmk : Nat) (qmb : Nat) (qmt : Nat) (qmr : Nat) (qmB : Nat) (qmO : Nat) (qmK : Nat) (qm_three : Nat) (qm_unread : Nat) (qm_tryRow : Nat) (qm_bestRow : Nat) (qm_steps : Nat) (iA : Int32) (iB : Int32) (iC : Int32)   : MW l yX6_tell cX6_tell 5 (some .int) 6 0 0 G cy [(qm, .inr (5, [.ref qms, .ref qmo, .ref qmz, .ref qmR, .ref qmv, .ref qmk, .ref qmb, .ref qmt, .int 0, .ref qmr, .int 0, .ref qmB, .int 0, .ref qmO, .ref qmK, .int 0, .int 0, .int 1, .null, .null, .int 0, .int 0, .int 0, .long 0, .int 0, .ref qm_three, .int 0, .int 0, .int 0, .null, .ref qm_unread, .ref qm_tryRow, .ref qm_bestRow, .ref qm_steps, .int 0])), (qmr, .inl (cy 0, 8, .inl (fun _ => 0)))] sz [.ref qm, .int iA, .int iB, .int iC] (Wi G (fun r u => u = [] ∧ ((r = (-2))))) := by
  refine enW RX6 (by decide) rfl (Nat.le_of_ble_eq_true rfl) (fun p e s m below meth c ls A hx hb hml hown hts hr hlocks hP hN hl hin hD hA hS => ?_)
  have hin : meth.name = _ := hin
  have hK := hN.1
  have hl : lv_has ls 5 [(0, .ref qm), (1, .int iA), (2, .int iB), (3, .int iC)] := hl
  refine lv_aload_n hx hb dX6_tell_0 rfl (lv_at hl 0 rfl) ?_
  refine lv_iload_n hx hb dX6_tell_1 rfl (lv_at hl 1 rfl) ?_
  refine lv_i2l (v := iA.toInt64) hx hb dX6_tell_2 rfl ?_
  refine kRi (rV (As := [.long iA.toInt64]) (rest := []) (b := qm) ⟨hx, hb, hml, hown, hts⟩ (c_X6_isOne l G cy qm (.ref qms) (.ref qmo) (.ref qmz) (.ref qmR) (.ref qmv) (.ref qmk) (.ref qmb) (.ref qmt) (.int 0) (.ref qmr) (.int 0) (.ref qmB) (.ref qmO) (.ref qmK) (.int 0) (.int 0) (.int 1) .null .null (.int 0) (.int 0) (.int 0) (.long 0) (.int 0) (.ref qm_three) (.int 0) (.int 0) (.int 0) .null (.ref qm_unread) (.ref qm_tryRow) (.ref qm_bestRow) (.ref qm_steps) (.int 0) iA.toInt64) L_X6_236 (preRV (q := (RX6, TX6, 35)) hN hP [0] rfl 0 5 rfl rfl) rfl ⟨Nat.le_of_ble_eq_true rfl, Nat.le_of_ble_eq_true rfl⟩ hl.1 (Nat.le_of_ble_eq_true rfl) dX6_tell_3 ⟨Nat.le_of_ble_eq_true rfl, Nat.le_of_ble_eq_true rfl⟩) (fun r_1 h_2 => ?_)
  subst h_2
  refine lv_if_eq (tgt := 32) hx hb dX6_tell_6 (by decide) (fun _ => ?_) (fun h9 => absurd (by decide) h9)
  refine lv_aload_n hx hb dX6_tell_32 rfl (lv_at hl 0 rfl) ?_
  refine lv_bipush (v := (-2)) hx hb dX6_tell_33 (by decide) ?_
  refine kWi (wr := []) (rV (As := [.int (-2)]) (rest := []) (b := qm) ⟨hx, hb, hml, hown, hts⟩ (c_X6_refuse2 l G cy (s.heap).size qm (.ref qms) (.ref qmo) (.ref qmz) (.ref qmR) (.ref qmv) (.ref qmk) (.ref qmb) (.ref qmt) (.int 0) qmr (.int 0) (.ref qmB) (.int 0) (.ref qmO) (.ref qmK) (.int 0) (.int 0) (.int 1) .null .null (.int 0) (.int 0) (.int 0) (.long 0) (.int 0) (.ref qm_three) (.int 0) (.int 0) (.int 0) .null (.ref qm_unread) (.ref qm_tryRow) (.ref qm_bestRow) (.ref qm_steps) (.int 0) (fun _ => 0)) L_X6_91 (preWV (q := (RX6, TX6, 35)) hN hP hD [0, 1] rfl (by decide) 0 5 rfl rfl) rfl ⟨Nat.le_of_ble_eq_true rfl, Nat.le_of_ble_eq_true rfl⟩ hl.1 (Nat.le_of_ble_eq_true rfl) dX6_tell_35 ⟨Nat.le_of_ble_eq_true rfl, Nat.le_of_ble_eq_true rfl⟩) hP hD hS hA [0, 1] [] rfl rfl (by decide) (by decide) (fun r_4 u_6 H locs h_5 hP hD hS => ?_)
  obtain ⟨rfl, h_5⟩ := h_5
  have hP : va_P G CL [(qm, .inr (5, [.ref qms, .ref qmo, .ref qmz, .ref qmR, .ref qmv, .ref qmk, .ref qmb, .ref qmt, .int 0, .ref qmr, .int 0, .ref qmB, .int 0, .ref qmO, .ref qmK, .int 0, .int 0, .int 1, .null, .null, .int 0, .int 0, .int 0, .long 0, .int 0, .ref qm_three, .int 0, .int 0, .int 0, .null, .ref qm_unread, .ref qm_tryRow, .ref qm_bestRow, .ref qm_steps, .int 0]))] H := hP
  have hD : va_D A [(qm, .inr (5, [.ref qms, .ref qmo, .ref qmz, .ref qmR, .ref qmv, .ref qmk, .ref qmb, .ref qmt, .int 0, .ref qmr, .int 0, .ref qmB, .int 0, .ref qmO, .ref qmK, .int 0, .int 0, .int 1, .null, .null, .int 0, .int 0, .int 0, .long 0, .int 0, .ref qm_three, .int 0, .int 0, .int 0, .null, .ref qm_unread, .ref qm_tryRow, .ref qm_bestRow, .ref qm_steps, .int 0]))] := hD
  subst h_5
  exact endW (u := []) hx hb hr hlocks rfl va_P0 va_D0 hS ⟨rfl, rfl⟩ dX6_tell_38
set_option maxHeartbeats 4000000 in
set_option maxRecDepth 100000 in
theorem p_X6_write (l : Launch) (G : va_G) (cy : Nat → ClassId) (sz : Nat) (qm : Nat) (qms : Nat) (qmo : Nat) (qmz : Nat) (qmR : Nat) (qmv : Nat) (qmk : Nat) (qmb : Nat) (qmt : Nat) (qmr : Nat) (qmB : Nat) (qmO : Nat) (qmK : Nat) (qm_three : Nat) (qm_unread : Nat) (qm_tryRow : Nat) (qm_bestRow : Nat) (qm_steps : Nat) (iA : Int32) (iB : Int32)   : MW l yX6_write cX6_write 3 (some .int) 6 0 0 G cy [(qm, .inr (5, [.ref qms, .ref qmo, .ref qmz, .ref qmR, .ref qmv, .ref qmk, .ref qmb, .ref qmt, .int 0, .ref qmr, .int 0, .ref qmB, .int 0, .ref qmO, .ref qmK, .int 0, .int 0, .int 1, .null, .null, .int 0, .int 0, .int 0, .long 0, .int 0, .ref qm_three, .int 0, .int 0, .int 0, .null, .ref qm_unread, .ref qm_tryRow, .ref qm_bestRow, .ref qm_steps, .int 0])), (qmr, .inl (cy 0, 8, .inl (fun _ => 0)))] sz [.ref qm, .int iA, .int iB] (Wi G (fun r u => u = [] ∧ ((r = (-2))))) := by
  refine enW RX6 (by decide) rfl (Nat.le_of_ble_eq_true rfl) (fun p e s m below meth c ls A hx hb hml hown hts hr hlocks hP hN hl hin hD hA hS => ?_)
  have hin : meth.name = _ := hin
  have hK := hN.1
  have hl : lv_has ls 3 [(0, .ref qm), (1, .int iA), (2, .int iB)] := hl
  refine lv_aload_n hx hb dX6_write_0 rfl (lv_at hl 0 rfl) ?_
  refine lv_iload_n hx hb dX6_write_1 rfl (lv_at hl 1 rfl) ?_
  refine lv_i2l (v := iA.toInt64) hx hb dX6_write_2 rfl ?_
  refine kRi (rV (As := [.long iA.toInt64]) (rest := []) (b := qm) ⟨hx, hb, hml, hown, hts⟩ (c_X6_isOne l G cy qm (.ref qms) (.ref qmo) (.ref qmz) (.ref qmR) (.ref qmv) (.ref qmk) (.ref qmb) (.ref qmt) (.int 0) (.ref qmr) (.int 0) (.ref qmB) (.ref qmO) (.ref qmK) (.int 0) (.int 0) (.int 1) .null .null (.int 0) (.int 0) (.int 0) (.long 0) (.int 0) (.ref qm_three) (.int 0) (.int 0) (.int 0) .null (.ref qm_unread) (.ref qm_tryRow) (.ref qm_bestRow) (.ref qm_steps) (.int 0) iA.toInt64) L_X6_236 (preRV (q := (RX6, TX6, 35)) hN hP [0] rfl 0 5 rfl rfl) rfl ⟨Nat.le_of_ble_eq_true rfl, Nat.le_of_ble_eq_true rfl⟩ hl.1 (Nat.le_of_ble_eq_true rfl) dX6_write_3 ⟨Nat.le_of_ble_eq_true rfl, Nat.le_of_ble_eq_true rfl⟩) (fun r_1 h_2 => ?_)
  subst h_2
  refine lv_if_eq (tgt := 18) hx hb dX6_write_6 (by decide) (fun _ => ?_) (fun h9 => absurd (by decide) h9)
  refine lv_aload_n hx hb dX6_write_18 rfl (lv_at hl 0 rfl) ?_
  refine lv_bipush (v := (-2)) hx hb dX6_write_19 (by decide) ?_
  refine kWi (wr := []) (rV (As := [.int (-2)]) (rest := []) (b := qm) ⟨hx, hb, hml, hown, hts⟩ (c_X6_refuse2 l G cy (s.heap).size qm (.ref qms) (.ref qmo) (.ref qmz) (.ref qmR) (.ref qmv) (.ref qmk) (.ref qmb) (.ref qmt) (.int 0) qmr (.int 0) (.ref qmB) (.int 0) (.ref qmO) (.ref qmK) (.int 0) (.int 0) (.int 1) .null .null (.int 0) (.int 0) (.int 0) (.long 0) (.int 0) (.ref qm_three) (.int 0) (.int 0) (.int 0) .null (.ref qm_unread) (.ref qm_tryRow) (.ref qm_bestRow) (.ref qm_steps) (.int 0) (fun _ => 0)) L_X6_91 (preWV (q := (RX6, TX6, 35)) hN hP hD [0, 1] rfl (by decide) 0 5 rfl rfl) rfl ⟨Nat.le_of_ble_eq_true rfl, Nat.le_of_ble_eq_true rfl⟩ hl.1 (Nat.le_of_ble_eq_true rfl) dX6_write_21 ⟨Nat.le_of_ble_eq_true rfl, Nat.le_of_ble_eq_true rfl⟩) hP hD hS hA [0, 1] [] rfl rfl (by decide) (by decide) (fun r_4 u_6 H locs h_5 hP hD hS => ?_)
  obtain ⟨rfl, h_5⟩ := h_5
  have hP : va_P G CL [(qm, .inr (5, [.ref qms, .ref qmo, .ref qmz, .ref qmR, .ref qmv, .ref qmk, .ref qmb, .ref qmt, .int 0, .ref qmr, .int 0, .ref qmB, .int 0, .ref qmO, .ref qmK, .int 0, .int 0, .int 1, .null, .null, .int 0, .int 0, .int 0, .long 0, .int 0, .ref qm_three, .int 0, .int 0, .int 0, .null, .ref qm_unread, .ref qm_tryRow, .ref qm_bestRow, .ref qm_steps, .int 0]))] H := hP
  have hD : va_D A [(qm, .inr (5, [.ref qms, .ref qmo, .ref qmz, .ref qmR, .ref qmv, .ref qmk, .ref qmb, .ref qmt, .int 0, .ref qmr, .int 0, .ref qmB, .int 0, .ref qmO, .ref qmK, .int 0, .int 0, .int 1, .null, .null, .int 0, .int 0, .int 0, .long 0, .int 0, .ref qm_three, .int 0, .int 0, .int 0, .null, .ref qm_unread, .ref qm_tryRow, .ref qm_bestRow, .ref qm_steps, .int 0]))] := hD
  subst h_5
  exact endW (u := []) hx hb hr hlocks rfl va_P0 va_D0 hS ⟨rfl, rfl⟩ dX6_write_24
set_option maxHeartbeats 4000000 in
set_option maxRecDepth 100000 in
theorem p_X6_reader (l : Launch) (G : va_G) (cy : Nat → ClassId) (sz : Nat) (qm : Nat) (qms : Nat) (qmo : Nat) (qmz : Nat) (qmR : Nat) (qmv : Nat) (qmk : Nat) (qmb : Nat) (qmt : Nat) (qmr : Nat) (qmB : Nat) (qmO : Nat) (qmK : Nat) (qm_three : Nat) (qm_unread : Nat) (qm_tryRow : Nat) (qm_bestRow : Nat) (qm_steps : Nat) (iA : Int32)   : MW l yX6_reader cX6_reader 2 (some .int) 6 0 0 G cy [(qm, .inr (5, [.ref qms, .ref qmo, .ref qmz, .ref qmR, .ref qmv, .ref qmk, .ref qmb, .ref qmt, .int 0, .ref qmr, .int 0, .ref qmB, .int 0, .ref qmO, .ref qmK, .int 0, .int 0, .int 1, .null, .null, .int 0, .int 0, .int 0, .long 0, .int 0, .ref qm_three, .int 0, .int 0, .int 0, .null, .ref qm_unread, .ref qm_tryRow, .ref qm_bestRow, .ref qm_steps, .int 0])), (qmr, .inl (cy 0, 8, .inl (fun _ => 0)))] sz [.ref qm, .int iA] (Wi G (fun r u => u = [] ∧ ((r = (-2))))) := by
  refine enW RX6 (by decide) rfl (Nat.le_of_ble_eq_true rfl) (fun p e s m below meth c ls A hx hb hml hown hts hr hlocks hP hN hl hin hD hA hS => ?_)
  have hin : meth.name = _ := hin
  have hK := hN.1
  have hl : lv_has ls 2 [(0, .ref qm), (1, .int iA)] := hl
  refine lv_aload_n hx hb dX6_reader_0 rfl (lv_at hl 0 rfl) ?_
  refine lv_iload_n hx hb dX6_reader_1 rfl (lv_at hl 1 rfl) ?_
  refine lv_i2l (v := iA.toInt64) hx hb dX6_reader_2 rfl ?_
  refine kRi (rV (As := [.long iA.toInt64]) (rest := []) (b := qm) ⟨hx, hb, hml, hown, hts⟩ (c_X6_isBook l G cy qm (.ref qms) (.ref qmo) (.ref qmz) (.ref qmR) (.ref qmv) (.ref qmk) (.ref qmb) (.ref qmt) (.int 0) (.ref qmr) (.ref qmB) (.int 0) (.ref qmO) (.ref qmK) (.int 0) (.int 0) (.int 1) .null .null (.int 0) (.int 0) (.int 0) (.long 0) (.int 0) (.ref qm_three) (.int 0) (.int 0) (.int 0) .null (.ref qm_unread) (.ref qm_tryRow) (.ref qm_bestRow) (.ref qm_steps) (.int 0) iA.toInt64) L_X6_229 (preRV (q := (RX6, TX6, 35)) hN hP [0] rfl 0 5 rfl rfl) rfl ⟨Nat.le_of_ble_eq_true rfl, Nat.le_of_ble_eq_true rfl⟩ hl.1 (Nat.le_of_ble_eq_true rfl) dX6_reader_3 ⟨Nat.le_of_ble_eq_true rfl, Nat.le_of_ble_eq_true rfl⟩) (fun r_1 h_2 => ?_)
  subst h_2
  refine lv_if_ne (tgt := 16) hx hb dX6_reader_6 (by decide) (fun h9 => absurd (by decide) h9) (fun _ => ?_)
  refine lv_aload_n hx hb dX6_reader_9 rfl (lv_at hl 0 rfl) ?_
  refine lv_bipush (v := (-2)) hx hb dX6_reader_10 (by decide) ?_
  refine kWi (wr := []) (rV (As := [.int (-2)]) (rest := []) (b := qm) ⟨hx, hb, hml, hown, hts⟩ (c_X6_refuse2 l G cy (s.heap).size qm (.ref qms) (.ref qmo) (.ref qmz) (.ref qmR) (.ref qmv) (.ref qmk) (.ref qmb) (.ref qmt) (.int 0) qmr (.int 0) (.ref qmB) (.int 0) (.ref qmO) (.ref qmK) (.int 0) (.int 0) (.int 1) .null .null (.int 0) (.int 0) (.int 0) (.long 0) (.int 0) (.ref qm_three) (.int 0) (.int 0) (.int 0) .null (.ref qm_unread) (.ref qm_tryRow) (.ref qm_bestRow) (.ref qm_steps) (.int 0) (fun _ => 0)) L_X6_91 (preWV (q := (RX6, TX6, 35)) hN hP hD [0, 1] rfl (by decide) 0 5 rfl rfl) rfl ⟨Nat.le_of_ble_eq_true rfl, Nat.le_of_ble_eq_true rfl⟩ hl.1 (Nat.le_of_ble_eq_true rfl) dX6_reader_12 ⟨Nat.le_of_ble_eq_true rfl, Nat.le_of_ble_eq_true rfl⟩) hP hD hS hA [0, 1] [] rfl rfl (by decide) (by decide) (fun r_4 u_6 H locs h_5 hP hD hS => ?_)
  obtain ⟨rfl, h_5⟩ := h_5
  have hP : va_P G CL [(qm, .inr (5, [.ref qms, .ref qmo, .ref qmz, .ref qmR, .ref qmv, .ref qmk, .ref qmb, .ref qmt, .int 0, .ref qmr, .int 0, .ref qmB, .int 0, .ref qmO, .ref qmK, .int 0, .int 0, .int 1, .null, .null, .int 0, .int 0, .int 0, .long 0, .int 0, .ref qm_three, .int 0, .int 0, .int 0, .null, .ref qm_unread, .ref qm_tryRow, .ref qm_bestRow, .ref qm_steps, .int 0]))] H := hP
  have hD : va_D A [(qm, .inr (5, [.ref qms, .ref qmo, .ref qmz, .ref qmR, .ref qmv, .ref qmk, .ref qmb, .ref qmt, .int 0, .ref qmr, .int 0, .ref qmB, .int 0, .ref qmO, .ref qmK, .int 0, .int 0, .int 1, .null, .null, .int 0, .int 0, .int 0, .long 0, .int 0, .ref qm_three, .int 0, .int 0, .int 0, .null, .ref qm_unread, .ref qm_tryRow, .ref qm_bestRow, .ref qm_steps, .int 0]))] := hD
  subst h_5
  exact endW (u := []) hx hb hr hlocks rfl va_P0 va_D0 hS ⟨rfl, rfl⟩ dX6_reader_15
