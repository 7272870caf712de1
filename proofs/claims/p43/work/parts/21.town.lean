theorem dX4_addBook_0 : decode cX4_addBook 0 = .ok (.aload_n 0, 1) := by decide +kernel
theorem dX4_addBook_1 : decode cX4_addBook 1 = .ok (.getfield 40, 3) := by decide +kernel
theorem dX4_addBook_4 : decode cX4_addBook 4 = .ok (.istore_n 3, 1) := by decide +kernel
theorem dX4_addBook_5 : decode cX4_addBook 5 = .ok (.aload_n 0, 1) := by decide +kernel
theorem dX4_addBook_6 : decode cX4_addBook 6 = .ok (.getfield 15, 3) := by decide +kernel
theorem dX4_addBook_9 : decode cX4_addBook 9 = .ok (.iload_n 3, 1) := by decide +kernel
theorem dX4_addBook_10 : decode cX4_addBook 10 = .ok (.iload_n 1, 1) := by decide +kernel
theorem dX4_addBook_11 : decode cX4_addBook 11 = .ok (.iastore, 1) := by decide +kernel
theorem dX4_addBook_12 : decode cX4_addBook 12 = .ok (.aload_n 0, 1) := by decide +kernel
theorem dX4_addBook_13 : decode cX4_addBook 13 = .ok (.getfield 19, 3) := by decide +kernel
theorem dX4_addBook_16 : decode cX4_addBook 16 = .ok (.iload_n 3, 1) := by decide +kernel
theorem dX4_addBook_17 : decode cX4_addBook 17 = .ok (.iload_n 2, 1) := by decide +kernel
theorem dX4_addBook_18 : decode cX4_addBook 18 = .ok (.iastore, 1) := by decide +kernel
theorem dX4_addBook_19 : decode cX4_addBook 19 = .ok (.aload_n 0, 1) := by decide +kernel
theorem dX4_addBook_20 : decode cX4_addBook 20 = .ok (.getfield 22, 3) := by decide +kernel
theorem dX4_addBook_23 : decode cX4_addBook 23 = .ok (.iload_n 3, 1) := by decide +kernel
theorem dX4_addBook_24 : decode cX4_addBook 24 = .ok (.sipush 1000, 3) := by decide +kernel
theorem dX4_addBook_27 : decode cX4_addBook 27 = .ok (.iastore, 1) := by decide +kernel
theorem dX4_addBook_28 : decode cX4_addBook 28 = .ok (.aload_n 0, 1) := by decide +kernel
theorem dX4_addBook_29 : decode cX4_addBook 29 = .ok (.dup, 1) := by decide +kernel
theorem dX4_addBook_30 : decode cX4_addBook 30 = .ok (.getfield 40, 3) := by decide +kernel
theorem dX4_addBook_33 : decode cX4_addBook 33 = .ok (.iconst 1, 1) := by decide +kernel
theorem dX4_addBook_34 : decode cX4_addBook 34 = .ok (.iadd, 1) := by decide +kernel
theorem dX4_addBook_35 : decode cX4_addBook 35 = .ok (.putfield 40, 3) := by decide +kernel
theorem dX4_addBook_38 : decode cX4_addBook 38 = .ok (.iload_n 3, 1) := by decide +kernel
theorem dX4_addBook_39 : decode cX4_addBook 39 = .ok (.ireturn, 1) := by decide +kernel
theorem dX4_addOne_0 : decode cX4_addOne 0 = .ok (.aload_n 0, 1) := by decide +kernel
theorem dX4_addOne_1 : decode cX4_addOne 1 = .ok (.getfield 43, 3) := by decide +kernel
theorem dX4_addOne_4 : decode cX4_addOne 4 = .ok (.istore 5, 2) := by decide +kernel
theorem dX4_addOne_6 : decode cX4_addOne 6 = .ok (.aload_n 0, 1) := by decide +kernel
theorem dX4_addOne_7 : decode cX4_addOne 7 = .ok (.getfield 25, 3) := by decide +kernel
theorem dX4_addOne_10 : decode cX4_addOne 10 = .ok (.iload 5, 2) := by decide +kernel
theorem dX4_addOne_12 : decode cX4_addOne 12 = .ok (.iload_n 1, 1) := by decide +kernel
theorem dX4_addOne_13 : decode cX4_addOne 13 = .ok (.iastore, 1) := by decide +kernel
theorem dX4_addOne_14 : decode cX4_addOne 14 = .ok (.aload_n 0, 1) := by decide +kernel
theorem dX4_addOne_15 : decode cX4_addOne 15 = .ok (.getfield 28, 3) := by decide +kernel
theorem dX4_addOne_18 : decode cX4_addOne 18 = .ok (.iload 5, 2) := by decide +kernel
theorem dX4_addOne_20 : decode cX4_addOne 20 = .ok (.iload_n 2, 1) := by decide +kernel
theorem dX4_addOne_21 : decode cX4_addOne 21 = .ok (.iastore, 1) := by decide +kernel
theorem dX4_addOne_22 : decode cX4_addOne 22 = .ok (.aload_n 0, 1) := by decide +kernel
theorem dX4_addOne_23 : decode cX4_addOne 23 = .ok (.getfield 31, 3) := by decide +kernel
theorem dX4_addOne_26 : decode cX4_addOne 26 = .ok (.iload 5, 2) := by decide +kernel
theorem dX4_addOne_28 : decode cX4_addOne 28 = .ok (.iload_n 3, 1) := by decide +kernel
theorem dX4_addOne_29 : decode cX4_addOne 29 = .ok (.iastore, 1) := by decide +kernel
theorem dX4_addOne_30 : decode cX4_addOne 30 = .ok (.aload_n 0, 1) := by decide +kernel
theorem dX4_addOne_31 : decode cX4_addOne 31 = .ok (.getfield 34, 3) := by decide +kernel
theorem dX4_addOne_34 : decode cX4_addOne 34 = .ok (.iload 5, 2) := by decide +kernel
theorem dX4_addOne_36 : decode cX4_addOne 36 = .ok (.iload 4, 2) := by decide +kernel
theorem dX4_addOne_38 : decode cX4_addOne 38 = .ok (.iastore, 1) := by decide +kernel
theorem dX4_addOne_39 : decode cX4_addOne 39 = .ok (.aload_n 0, 1) := by decide +kernel
theorem dX4_addOne_40 : decode cX4_addOne 40 = .ok (.dup, 1) := by decide +kernel
theorem dX4_addOne_41 : decode cX4_addOne 41 = .ok (.getfield 43, 3) := by decide +kernel
theorem dX4_addOne_44 : decode cX4_addOne 44 = .ok (.iconst 1, 1) := by decide +kernel
theorem dX4_addOne_45 : decode cX4_addOne 45 = .ok (.iadd, 1) := by decide +kernel
theorem dX4_addOne_46 : decode cX4_addOne 46 = .ok (.putfield 43, 3) := by decide +kernel
theorem dX4_addOne_49 : decode cX4_addOne 49 = .ok (.iload 5, 2) := by decide +kernel
theorem dX4_addOne_51 : decode cX4_addOne 51 = .ok (.ireturn, 1) := by decide +kernel
theorem dX4_bestReader_0 : decode cX4_bestReader 0 = .ok (.iconst (-1), 1) := by decide +kernel
theorem dX4_bestReader_1 : decode cX4_bestReader 1 = .ok (.istore_n 2, 1) := by decide +kernel
theorem dX4_bestReader_2 : decode cX4_bestReader 2 = .ok (.iconst 0, 1) := by decide +kernel
theorem dX4_bestReader_3 : decode cX4_bestReader 3 = .ok (.istore_n 3, 1) := by decide +kernel
theorem dX4_bestReader_4 : decode cX4_bestReader 4 = .ok (.iconst 0, 1) := by decide +kernel
theorem dX4_bestReader_5 : decode cX4_bestReader 5 = .ok (.istore 4, 2) := by decide +kernel
theorem dX4_bestReader_7 : decode cX4_bestReader 7 = .ok (.iload 4, 2) := by decide +kernel
theorem dX4_bestReader_9 : decode cX4_bestReader 9 = .ok (.aload_n 0, 1) := by decide +kernel
theorem dX4_bestReader_10 : decode cX4_bestReader 10 = .ok (.getfield 43, 3) := by decide +kernel
theorem dX4_bestReader_13 : decode cX4_bestReader 13 = .ok (.if_icmp .ge 79, 3) := by decide +kernel
theorem dX4_bestReader_16 : decode cX4_bestReader 16 = .ok (.aload_n 0, 1) := by decide +kernel
theorem dX4_bestReader_17 : decode cX4_bestReader 17 = .ok (.getfield 49, 3) := by decide +kernel
theorem dX4_bestReader_20 : decode cX4_bestReader 20 = .ok (.iload 4, 2) := by decide +kernel
theorem dX4_bestReader_22 : decode cX4_bestReader 22 = .ok (.invokestatic 62, 3) := by decide +kernel
theorem dX4_bestReader_25 : decode cX4_bestReader 25 = .ok (.ifCond .eq 7, 3) := by decide +kernel
theorem dX4_bestReader_28 : decode cX4_bestReader 28 = .ok (.iconst (-1), 1) := by decide +kernel
theorem dX4_bestReader_29 : decode cX4_bestReader 29 = .ok (.goto 10, 3) := by decide +kernel
theorem dX4_bestReader_32 : decode cX4_bestReader 32 = .ok (.aload_n 0, 1) := by decide +kernel
theorem dX4_bestReader_33 : decode cX4_bestReader 33 = .ok (.iload 4, 2) := by decide +kernel
theorem dX4_bestReader_35 : decode cX4_bestReader 35 = .ok (.iload_n 1, 1) := by decide +kernel
theorem dX4_bestReader_36 : decode cX4_bestReader 36 = .ok (.invokevirtual 91, 3) := by decide +kernel
theorem dX4_bestReader_39 : decode cX4_bestReader 39 = .ok (.istore 5, 2) := by decide +kernel
theorem dX4_bestReader_41 : decode cX4_bestReader 41 = .ok (.iload 5, 2) := by decide +kernel
theorem dX4_bestReader_43 : decode cX4_bestReader 43 = .ok (.iconst (-1), 1) := by decide +kernel
theorem dX4_bestReader_44 : decode cX4_bestReader 44 = .ok (.if_icmp .eq 42, 3) := by decide +kernel
theorem dX4_bestReader_47 : decode cX4_bestReader 47 = .ok (.iload_n 2, 1) := by decide +kernel
theorem dX4_bestReader_48 : decode cX4_bestReader 48 = .ok (.iconst (-1), 1) := by decide +kernel
theorem dX4_bestReader_49 : decode cX4_bestReader 49 = .ok (.if_icmp .eq 31, 3) := by decide +kernel
theorem dX4_bestReader_52 : decode cX4_bestReader 52 = .ok (.iload 5, 2) := by decide +kernel
theorem dX4_bestReader_54 : decode cX4_bestReader 54 = .ok (.iload_n 3, 1) := by decide +kernel
theorem dX4_bestReader_55 : decode cX4_bestReader 55 = .ok (.if_icmp .gt 25, 3) := by decide +kernel
theorem dX4_bestReader_58 : decode cX4_bestReader 58 = .ok (.iload 5, 2) := by decide +kernel
theorem dX4_bestReader_60 : decode cX4_bestReader 60 = .ok (.iload_n 3, 1) := by decide +kernel
theorem dX4_bestReader_61 : decode cX4_bestReader 61 = .ok (.if_icmp .ne 25, 3) := by decide +kernel
theorem dX4_bestReader_64 : decode cX4_bestReader 64 = .ok (.aload_n 0, 1) := by decide +kernel
theorem dX4_bestReader_65 : decode cX4_bestReader 65 = .ok (.getfield 25, 3) := by decide +kernel
theorem dX4_bestReader_68 : decode cX4_bestReader 68 = .ok (.iload 4, 2) := by decide +kernel
theorem dX4_bestReader_70 : decode cX4_bestReader 70 = .ok (.iaload, 1) := by decide +kernel
theorem dX4_bestReader_71 : decode cX4_bestReader 71 = .ok (.aload_n 0, 1) := by decide +kernel
theorem dX4_bestReader_72 : decode cX4_bestReader 72 = .ok (.getfield 25, 3) := by decide +kernel
theorem dX4_bestReader_75 : decode cX4_bestReader 75 = .ok (.iload_n 2, 1) := by decide +kernel
theorem dX4_bestReader_76 : decode cX4_bestReader 76 = .ok (.iaload, 1) := by decide +kernel
theorem dX4_bestReader_77 : decode cX4_bestReader 77 = .ok (.if_icmp .ge 9, 3) := by decide +kernel
theorem dX4_bestReader_80 : decode cX4_bestReader 80 = .ok (.iload 4, 2) := by decide +kernel
theorem dX4_bestReader_82 : decode cX4_bestReader 82 = .ok (.istore_n 2, 1) := by decide +kernel
theorem dX4_bestReader_83 : decode cX4_bestReader 83 = .ok (.iload 5, 2) := by decide +kernel
theorem dX4_bestReader_85 : decode cX4_bestReader 85 = .ok (.istore_n 3, 1) := by decide +kernel
theorem dX4_bestReader_86 : decode cX4_bestReader 86 = .ok (.iinc 4 1, 3) := by decide +kernel
theorem dX4_bestReader_89 : decode cX4_bestReader 89 = .ok (.goto (-82), 3) := by decide +kernel
theorem dX4_bestReader_92 : decode cX4_bestReader 92 = .ok (.iload_n 2, 1) := by decide +kernel
theorem dX4_bestReader_93 : decode cX4_bestReader 93 = .ok (.ireturn, 1) := by decide +kernel
theorem dX4_dearestUnread_0 : decode cX4_dearestUnread 0 = .ok (.iconst (-1), 1) := by decide +kernel
theorem dX4_dearestUnread_1 : decode cX4_dearestUnread 1 = .ok (.istore_n 1, 1) := by decide +kernel
theorem dX4_dearestUnread_2 : decode cX4_dearestUnread 2 = .ok (.iconst 0, 1) := by decide +kernel
theorem dX4_dearestUnread_3 : decode cX4_dearestUnread 3 = .ok (.istore_n 2, 1) := by decide +kernel
theorem dX4_dearestUnread_4 : decode cX4_dearestUnread 4 = .ok (.iload_n 2, 1) := by decide +kernel
theorem dX4_dearestUnread_5 : decode cX4_dearestUnread 5 = .ok (.aload_n 0, 1) := by decide +kernel
theorem dX4_dearestUnread_6 : decode cX4_dearestUnread 6 = .ok (.getfield 40, 3) := by decide +kernel
theorem dX4_dearestUnread_9 : decode cX4_dearestUnread 9 = .ok (.if_icmp .ge 42, 3) := by decide +kernel
theorem dX4_dearestUnread_12 : decode cX4_dearestUnread 12 = .ok (.aload_n 0, 1) := by decide +kernel
theorem dX4_dearestUnread_13 : decode cX4_dearestUnread 13 = .ok (.getfield 46, 3) := by decide +kernel
theorem dX4_dearestUnread_16 : decode cX4_dearestUnread 16 = .ok (.iload_n 2, 1) := by decide +kernel
theorem dX4_dearestUnread_17 : decode cX4_dearestUnread 17 = .ok (.invokestatic 62, 3) := by decide +kernel
theorem dX4_dearestUnread_20 : decode cX4_dearestUnread 20 = .ok (.ifCond .ne 25, 3) := by decide +kernel
theorem dX4_dearestUnread_23 : decode cX4_dearestUnread 23 = .ok (.iload_n 1, 1) := by decide +kernel
theorem dX4_dearestUnread_24 : decode cX4_dearestUnread 24 = .ok (.iconst (-1), 1) := by decide +kernel
theorem dX4_dearestUnread_25 : decode cX4_dearestUnread 25 = .ok (.if_icmp .eq 18, 3) := by decide +kernel
theorem dX4_dearestUnread_28 : decode cX4_dearestUnread 28 = .ok (.aload_n 0, 1) := by decide +kernel
theorem dX4_dearestUnread_29 : decode cX4_dearestUnread 29 = .ok (.getfield 15, 3) := by decide +kernel
theorem dX4_dearestUnread_32 : decode cX4_dearestUnread 32 = .ok (.iload_n 2, 1) := by decide +kernel
theorem dX4_dearestUnread_33 : decode cX4_dearestUnread 33 = .ok (.iaload, 1) := by decide +kernel
theorem dX4_dearestUnread_34 : decode cX4_dearestUnread 34 = .ok (.aload_n 0, 1) := by decide +kernel
theorem dX4_dearestUnread_35 : decode cX4_dearestUnread 35 = .ok (.getfield 15, 3) := by decide +kernel
theorem dX4_dearestUnread_38 : decode cX4_dearestUnread 38 = .ok (.iload_n 1, 1) := by decide +kernel
theorem dX4_dearestUnread_39 : decode cX4_dearestUnread 39 = .ok (.iaload, 1) := by decide +kernel
theorem dX4_dearestUnread_40 : decode cX4_dearestUnread 40 = .ok (.if_icmp .le 5, 3) := by decide +kernel
theorem dX4_dearestUnread_43 : decode cX4_dearestUnread 43 = .ok (.iload_n 2, 1) := by decide +kernel
theorem dX4_dearestUnread_44 : decode cX4_dearestUnread 44 = .ok (.istore_n 1, 1) := by decide +kernel
theorem dX4_dearestUnread_45 : decode cX4_dearestUnread 45 = .ok (.iinc 2 1, 3) := by decide +kernel
theorem dX4_dearestUnread_48 : decode cX4_dearestUnread 48 = .ok (.goto (-44), 3) := by decide +kernel
theorem dX4_dearestUnread_51 : decode cX4_dearestUnread 51 = .ok (.iload_n 1, 1) := by decide +kernel
theorem dX4_dearestUnread_52 : decode cX4_dearestUnread 52 = .ok (.ireturn, 1) := by decide +kernel
theorem dX4_isBook_0 : decode cX4_isBook 0 = .ok (.iload_n 1, 1) := by decide +kernel
theorem dX4_isBook_1 : decode cX4_isBook 1 = .ok (.ifCond .lt 15, 3) := by decide +kernel
theorem dX4_isBook_4 : decode cX4_isBook 4 = .ok (.iload_n 1, 1) := by decide +kernel
theorem dX4_isBook_5 : decode cX4_isBook 5 = .ok (.aload_n 0, 1) := by decide +kernel
theorem dX4_isBook_6 : decode cX4_isBook 6 = .ok (.getfield 40, 3) := by decide +kernel
theorem dX4_isBook_9 : decode cX4_isBook 9 = .ok (.if_icmp .ge 7, 3) := by decide +kernel
theorem dX4_isBook_12 : decode cX4_isBook 12 = .ok (.iconst 1, 1) := by decide +kernel
theorem dX4_isBook_13 : decode cX4_isBook 13 = .ok (.goto 4, 3) := by decide +kernel
theorem dX4_isBook_16 : decode cX4_isBook 16 = .ok (.iconst 0, 1) := by decide +kernel
theorem dX4_isBook_17 : decode cX4_isBook 17 = .ok (.ireturn, 1) := by decide +kernel
theorem dX4_isOne_0 : decode cX4_isOne 0 = .ok (.iload_n 1, 1) := by decide +kernel
theorem dX4_isOne_1 : decode cX4_isOne 1 = .ok (.ifCond .lt 15, 3) := by decide +kernel
theorem dX4_isOne_4 : decode cX4_isOne 4 = .ok (.iload_n 1, 1) := by decide +kernel
theorem dX4_isOne_5 : decode cX4_isOne 5 = .ok (.aload_n 0, 1) := by decide +kernel
theorem dX4_isOne_6 : decode cX4_isOne 6 = .ok (.getfield 43, 3) := by decide +kernel
theorem dX4_isOne_9 : decode cX4_isOne 9 = .ok (.if_icmp .ge 7, 3) := by decide +kernel
theorem dX4_isOne_12 : decode cX4_isOne 12 = .ok (.iconst 1, 1) := by decide +kernel
theorem dX4_isOne_13 : decode cX4_isOne 13 = .ok (.goto 4, 3) := by decide +kernel
theorem dX4_isOne_16 : decode cX4_isOne 16 = .ok (.iconst 0, 1) := by decide +kernel
theorem dX4_isOne_17 : decode cX4_isOne 17 = .ok (.ireturn, 1) := by decide +kernel
theorem dX4_readBy_0 : decode cX4_readBy 0 = .ok (.aload_n 0, 1) := by decide +kernel
theorem dX4_readBy_1 : decode cX4_readBy 1 = .ok (.iload_n 1, 1) := by decide +kernel
theorem dX4_readBy_2 : decode cX4_readBy 2 = .ok (.iload_n 2, 1) := by decide +kernel
theorem dX4_readBy_3 : decode cX4_readBy 3 = .ok (.aload_n 0, 1) := by decide +kernel
theorem dX4_readBy_4 : decode cX4_readBy 4 = .ok (.iload_n 1, 1) := by decide +kernel
theorem dX4_readBy_5 : decode cX4_readBy 5 = .ok (.iload_n 2, 1) := by decide +kernel
theorem dX4_readBy_6 : decode cX4_readBy 6 = .ok (.invokevirtual 91, 3) := by decide +kernel
theorem dX4_readBy_9 : decode cX4_readBy 9 = .ok (.invokevirtual 94, 3) := by decide +kernel
theorem dX4_readBy_12 : decode cX4_readBy 12 = .ok (.aload_n 0, 1) := by decide +kernel
theorem dX4_readBy_13 : decode cX4_readBy 13 = .ok (.dup, 1) := by decide +kernel
theorem dX4_readBy_14 : decode cX4_readBy 14 = .ok (.getfield 46, 3) := by decide +kernel
theorem dX4_readBy_17 : decode cX4_readBy 17 = .ok (.iconst 1, 1) := by decide +kernel
theorem dX4_readBy_18 : decode cX4_readBy 18 = .ok (.iload_n 2, 1) := by decide +kernel
theorem dX4_readBy_19 : decode cX4_readBy 19 = .ok (.ishl, 1) := by decide +kernel
theorem dX4_readBy_20 : decode cX4_readBy 20 = .ok (.ior, 1) := by decide +kernel
theorem dX4_readBy_21 : decode cX4_readBy 21 = .ok (.putfield 46, 3) := by decide +kernel
theorem dX4_readBy_24 : decode cX4_readBy 24 = .ok (.return_, 1) := by decide +kernel
theorem dX4_writeBy_0 : decode cX4_writeBy 0 = .ok (.aload_n 0, 1) := by decide +kernel
theorem dX4_writeBy_1 : decode cX4_writeBy 1 = .ok (.dup, 1) := by decide +kernel
theorem dX4_writeBy_2 : decode cX4_writeBy 2 = .ok (.getfield 46, 3) := by decide +kernel
theorem dX4_writeBy_5 : decode cX4_writeBy 5 = .ok (.iconst 1, 1) := by decide +kernel
theorem dX4_writeBy_6 : decode cX4_writeBy 6 = .ok (.iload_n 2, 1) := by decide +kernel
theorem dX4_writeBy_7 : decode cX4_writeBy 7 = .ok (.ishl, 1) := by decide +kernel
theorem dX4_writeBy_8 : decode cX4_writeBy 8 = .ok (.iconst (-1), 1) := by decide +kernel
theorem dX4_writeBy_9 : decode cX4_writeBy 9 = .ok (.ixor, 1) := by decide +kernel
theorem dX4_writeBy_10 : decode cX4_writeBy 10 = .ok (.iand, 1) := by decide +kernel
theorem dX4_writeBy_11 : decode cX4_writeBy 11 = .ok (.putfield 46, 3) := by decide +kernel
theorem dX4_writeBy_14 : decode cX4_writeBy 14 = .ok (.aload_n 0, 1) := by decide +kernel
theorem dX4_writeBy_15 : decode cX4_writeBy 15 = .ok (.getfield 22, 3) := by decide +kernel
theorem dX4_writeBy_18 : decode cX4_writeBy 18 = .ok (.iload_n 2, 1) := by decide +kernel
theorem dX4_writeBy_19 : decode cX4_writeBy 19 = .ok (.aload_n 0, 1) := by decide +kernel
theorem dX4_writeBy_20 : decode cX4_writeBy 20 = .ok (.iload_n 1, 1) := by decide +kernel
theorem dX4_writeBy_21 : decode cX4_writeBy 21 = .ok (.iload_n 2, 1) := by decide +kernel
theorem dX4_writeBy_22 : decode cX4_writeBy 22 = .ok (.invokevirtual 66, 3) := by decide +kernel
theorem dX4_writeBy_25 : decode cX4_writeBy 25 = .ok (.iastore, 1) := by decide +kernel
theorem dX4_writeBy_26 : decode cX4_writeBy 26 = .ok (.aload_n 0, 1) := by decide +kernel
theorem dX4_writeBy_27 : decode cX4_writeBy 27 = .ok (.getfield 22, 3) := by decide +kernel
theorem dX4_writeBy_30 : decode cX4_writeBy 30 = .ok (.iload_n 2, 1) := by decide +kernel
theorem dX4_writeBy_31 : decode cX4_writeBy 31 = .ok (.iaload, 1) := by decide +kernel
theorem dX4_writeBy_32 : decode cX4_writeBy 32 = .ok (.ireturn, 1) := by decide +kernel
theorem dX4_youngestBut_0 : decode cX4_youngestBut 0 = .ok (.iconst (-1), 1) := by decide +kernel
theorem dX4_youngestBut_1 : decode cX4_youngestBut 1 = .ok (.istore_n 2, 1) := by decide +kernel
theorem dX4_youngestBut_2 : decode cX4_youngestBut 2 = .ok (.iconst 0, 1) := by decide +kernel
theorem dX4_youngestBut_3 : decode cX4_youngestBut 3 = .ok (.istore_n 3, 1) := by decide +kernel
theorem dX4_youngestBut_4 : decode cX4_youngestBut 4 = .ok (.iload_n 3, 1) := by decide +kernel
theorem dX4_youngestBut_5 : decode cX4_youngestBut 5 = .ok (.aload_n 0, 1) := by decide +kernel
theorem dX4_youngestBut_6 : decode cX4_youngestBut 6 = .ok (.getfield 43, 3) := by decide +kernel
theorem dX4_youngestBut_9 : decode cX4_youngestBut 9 = .ok (.if_icmp .ge 47, 3) := by decide +kernel
theorem dX4_youngestBut_12 : decode cX4_youngestBut 12 = .ok (.iload_n 3, 1) := by decide +kernel
theorem dX4_youngestBut_13 : decode cX4_youngestBut 13 = .ok (.iload_n 1, 1) := by decide +kernel
theorem dX4_youngestBut_14 : decode cX4_youngestBut 14 = .ok (.if_icmp .eq 36, 3) := by decide +kernel
theorem dX4_youngestBut_17 : decode cX4_youngestBut 17 = .ok (.aload_n 0, 1) := by decide +kernel
theorem dX4_youngestBut_18 : decode cX4_youngestBut 18 = .ok (.getfield 49, 3) := by decide +kernel
theorem dX4_youngestBut_21 : decode cX4_youngestBut 21 = .ok (.iload_n 3, 1) := by decide +kernel
theorem dX4_youngestBut_22 : decode cX4_youngestBut 22 = .ok (.invokestatic 62, 3) := by decide +kernel
theorem dX4_youngestBut_25 : decode cX4_youngestBut 25 = .ok (.ifCond .ne 25, 3) := by decide +kernel
theorem dX4_youngestBut_28 : decode cX4_youngestBut 28 = .ok (.iload_n 2, 1) := by decide +kernel
theorem dX4_youngestBut_29 : decode cX4_youngestBut 29 = .ok (.iconst (-1), 1) := by decide +kernel
theorem dX4_youngestBut_30 : decode cX4_youngestBut 30 = .ok (.if_icmp .eq 18, 3) := by decide +kernel
theorem dX4_youngestBut_33 : decode cX4_youngestBut 33 = .ok (.aload_n 0, 1) := by decide +kernel
theorem dX4_youngestBut_34 : decode cX4_youngestBut 34 = .ok (.getfield 25, 3) := by decide +kernel
theorem dX4_youngestBut_37 : decode cX4_youngestBut 37 = .ok (.iload_n 3, 1) := by decide +kernel
theorem dX4_youngestBut_38 : decode cX4_youngestBut 38 = .ok (.iaload, 1) := by decide +kernel
theorem dX4_youngestBut_39 : decode cX4_youngestBut 39 = .ok (.aload_n 0, 1) := by decide +kernel
theorem dX4_youngestBut_40 : decode cX4_youngestBut 40 = .ok (.getfield 25, 3) := by decide +kernel
theorem dX4_youngestBut_43 : decode cX4_youngestBut 43 = .ok (.iload_n 2, 1) := by decide +kernel
theorem dX4_youngestBut_44 : decode cX4_youngestBut 44 = .ok (.iaload, 1) := by decide +kernel
theorem dX4_youngestBut_45 : decode cX4_youngestBut 45 = .ok (.if_icmp .ge 5, 3) := by decide +kernel
theorem dX4_youngestBut_48 : decode cX4_youngestBut 48 = .ok (.iload_n 3, 1) := by decide +kernel
theorem dX4_youngestBut_49 : decode cX4_youngestBut 49 = .ok (.istore_n 2, 1) := by decide +kernel
theorem dX4_youngestBut_50 : decode cX4_youngestBut 50 = .ok (.iinc 3 1, 3) := by decide +kernel
theorem dX4_youngestBut_53 : decode cX4_youngestBut 53 = .ok (.goto (-49), 3) := by decide +kernel
theorem dX4_youngestBut_56 : decode cX4_youngestBut 56 = .ok (.iload_n 2, 1) := by decide +kernel
theorem dX4_youngestBut_57 : decode cX4_youngestBut 57 = .ok (.ireturn, 1) := by decide +kernel
set_option maxHeartbeats 4000000 in
set_option maxRecDepth 100000 in
theorem c_X4_readBy (l : Launch) (G : va_G) (cy : Nat → ClassId) (sz : Nat) (qt : Nat) (tA : TA) (qtw : Nat) (qtn : Nat) (qtg : Nat) (qta : Nat) (qtr : Nat) (qtm : Nat) (qtt : Nat) (qts : Nat) (kI : Nat) (kB : Nat)  (hI : kI < 8) (hJ : kB < 8) : MW l yX4_readBy cX4_readBy 3 none 3 0 0 G cy [zzO qt 3 [.int (nI (T_nb tA)), .int (nI (T_np tA)), .int (wb (T_wh tA)), .int (wb (T_gn tA)), .int (T_sd tA), .ref qtw, .ref qtn, .ref qtg, .ref qta, .ref qtr, .ref qtm, .ref qtt, .ref qts], zzI cy qtw 8 (T_wo tA), zzI cy qtn 8 (T_ne tA), zzI cy qtg 8 (T_go tA), zzI cy qta 8 (T_ag tA), zzI cy qtr 8 (T_re tA), zzI cy qtm 8 (T_me tA), zzI cy qtt 8 (T_te tA), zzI cy qts 64 (shF (T_kn tA))] sz [.ref qt, .int (nI kI), .int (nI kB)] (Wv G (fun u => u = [zzO qt 3 [.int (nI (T_nb (rdT tA kI kB))), .int (nI (T_np (rdT tA kI kB))), .int (wb (T_wh (rdT tA kI kB))), .int (wb (T_gn (rdT tA kI kB))), .int (T_sd (rdT tA kI kB)), .ref qtw, .ref qtn, .ref qtg, .ref qta, .ref qtr, .ref qtm, .ref qtt, .ref qts], zzI cy qtw 8 (T_wo (rdT tA kI kB)), zzI cy qtn 8 (T_ne (rdT tA kI kB)), zzI cy qtg 8 (T_go (rdT tA kI kB)), zzI cy qta 8 (T_ag (rdT tA kI kB)), zzI cy qtr 8 (T_re (rdT tA kI kB)), zzI cy qtm 8 (T_me (rdT tA kI kB)), zzI cy qtt 8 (T_te (rdT tA kI kB)), zzI cy qts 64 (shF (T_kn (rdT tA kI kB)))])) := by
  refine enW RX4 (by decide) rfl (Nat.le_of_ble_eq_true rfl) (fun p e s m below meth c ls A hx hb hml hown hts hr hlocks hP hN hl hin hD hA hS => ?_)
  have hin : meth.name = _ := hin
  have hK := hN.1
  replace hl : lv_has ls 3 [(0, .ref qt), (1, .int (nI kI)), (2, .int (nI kB))] := hl
  refine lv_aload_n hx hb dX4_readBy_0 rfl (lv_at hl 0 rfl) ?_
  refine lv_iload_n hx hb dX4_readBy_1 rfl (lv_at hl 1 rfl) ?_
  refine lv_iload_n hx hb dX4_readBy_2 rfl (lv_at hl 2 rfl) ?_
  refine lv_aload_n hx hb dX4_readBy_3 rfl (lv_at hl 0 rfl) ?_
  refine lv_iload_n hx hb dX4_readBy_4 rfl (lv_at hl 1 rfl) ?_
  refine lv_iload_n hx hb dX4_readBy_5 rfl (lv_at hl 2 rfl) ?_
  refine kRi (rV (As := [.int (nI kI), .int (nI kB)]) (rest := [.int (nI kB), .int (nI kI), .ref qt]) (b := qt) ⟨hx, hb, hml, hown, hts⟩ (c_X4_wouldKnow l G cy qt tA qtw qtn qtg qta qtr qtm qtt qts kI kB hI hJ) L_X4_91 (preRV (q := (RX4, TX4, 13)) hN hP [0, 2, 3, 5, 8] rfl 0 3 rfl rfl) rfl ⟨Nat.le_of_ble_eq_true rfl, Nat.le_of_ble_eq_true rfl⟩ hl.1 (Nat.le_of_ble_eq_true rfl) dX4_readBy_6 ⟨Nat.le_of_ble_eq_true rfl, Nat.le_of_ble_eq_true rfl⟩) (fun r_1 h_2 => ?_)
  subst h_2
  refine cVv (As := [.int (nI kI), .int (nI kB), .int (zwk tA kI kB)]) (rest := []) (b := qt) (q := (RX4, TX4, 13)) ⟨hx, hb, hml, hown, hts⟩ (c_X4_learn l G cy (s.heap).size qt tA qtw qtn qtg qta qtr qtm qtt qts kI kB (zwk tA kI kB) hI hJ) L_X4_94 hN hP hD hS hA [0, 8] [false, true, true, true, true, true, true, true, false] rfl (by decide +kernel) rfl 0 3 rfl rfl rfl ⟨Nat.le_of_ble_eq_true rfl, Nat.le_of_ble_eq_true rfl⟩ hl.1 (Nat.le_of_ble_eq_true rfl) dX4_readBy_9 ⟨Nat.le_of_ble_eq_true rfl, Nat.le_of_ble_eq_true rfl⟩ (fun u_5 H locs h_4 => ?_)
  clear hP hD hS
  intro hP hD hS
  subst h_4
  have hPD := pd_as [zzI cy qtw 8 (T_wo (T_setkn tA (updM (T_kn tA) kI kB (zwk tA kI kB)))), zzI cy qtn 8 (T_ne (T_setkn tA (updM (T_kn tA) kI kB (zwk tA kI kB)))), zzI cy qtg 8 (T_go (T_setkn tA (updM (T_kn tA) kI kB (zwk tA kI kB)))), zzI cy qta 8 (T_ag (T_setkn tA (updM (T_kn tA) kI kB (zwk tA kI kB)))), zzI cy qtr 8 (T_re (T_setkn tA (updM (T_kn tA) kI kB (zwk tA kI kB)))), zzI cy qtm 8 (T_me (T_setkn tA (updM (T_kn tA) kI kB (zwk tA kI kB)))), zzI cy qtt 8 (T_te (T_setkn tA (updM (T_kn tA) kI kB (zwk tA kI kB)))), zzO qt 3 [.int (nI (T_nb (T_setkn tA (updM (T_kn tA) kI kB (zwk tA kI kB))))), .int (nI (T_np (T_setkn tA (updM (T_kn tA) kI kB (zwk tA kI kB))))), .int (wb (T_wh (T_setkn tA (updM (T_kn tA) kI kB (zwk tA kI kB))))), .int (wb (T_gn (T_setkn tA (updM (T_kn tA) kI kB (zwk tA kI kB))))), .int (T_sd (T_setkn tA (updM (T_kn tA) kI kB (zwk tA kI kB)))), .ref qtw, .ref qtn, .ref qtg, .ref qta, .ref qtr, .ref qtm, .ref qtt, .ref qts], zzI cy qts 64 (shF (T_kn (T_setkn tA (updM (T_kn tA) kI kB (zwk tA kI kB)))))] hP hD rfl
  clear hP hD
  obtain ⟨hP, hD⟩ := hPD
  refine lv_aload_n hx hb dX4_readBy_12 rfl (lv_at hl 0 rfl) ?_
  refine lv_dup hx hb dX4_readBy_13 rfl ?_
  refine va_get (D := G) (ci := 3) (v := .int (wb (T_wh (T_setkn tA (updM (T_kn tA) kI kB (zwk tA kI kB)))))) (C := RX4) (T := TX4) (N := 13) hx hb hts iX_X4 hown hK hP 7 rfl rfl 2 (by decide) (hts _ m_t39) (fun _ h9 => h9) rfl dX4_readBy_14 ?_
  refine lv_iconst (v := 1) hx hb dX4_readBy_17 (by decide) ?_
  refine lv_iload_n hx hb dX4_readBy_18 rfl (lv_at hl 2 rfl) ?_
  refine lv_ishl hx hb dX4_readBy_19 ?_
  refine lv_ior hx hb dX4_readBy_20 ?_
  refine lv_seti (v := wb (updB (T_wh tA) kB true)) (wb_on _ (by omega)) ?_
  refine va_put (D := G) (ci := 3) (v := .int (wb (updB (T_wh tA) kB true))) (ty := .int) (C := RX4) (T := TX4) (N := 13) hx hb hts iX_X4 tyX4 tyX4_ok nmX4 hown hK hP hD hS 7 rfl rfl 2 (by decide) (hts _ m_t39) (fun _ h9 => h9) rfl (by decide +kernel) rfl rfl (Nat.le_of_ble_eq_true rfl) dX4_readBy_21 (fun H locs => ?_)
  clear hP hD hS
  intro hP hD hS
  have hPD := pd_as [zzI cy qtw 8 (T_wo (T_setkn tA (updM (T_kn tA) kI kB (zwk tA kI kB)))), zzI cy qtn 8 (T_ne (T_setkn tA (updM (T_kn tA) kI kB (zwk tA kI kB)))), zzI cy qtg 8 (T_go (T_setkn tA (updM (T_kn tA) kI kB (zwk tA kI kB)))), zzI cy qta 8 (T_ag (T_setkn tA (updM (T_kn tA) kI kB (zwk tA kI kB)))), zzI cy qtr 8 (T_re (T_setkn tA (updM (T_kn tA) kI kB (zwk tA kI kB)))), zzI cy qtm 8 (T_me (T_setkn tA (updM (T_kn tA) kI kB (zwk tA kI kB)))), zzI cy qtt 8 (T_te (T_setkn tA (updM (T_kn tA) kI kB (zwk tA kI kB)))), zzO qt 3 [.int (nI (T_nb (T_setkn tA (updM (T_kn tA) kI kB (zwk tA kI kB))))), .int (nI (T_np (T_setkn tA (updM (T_kn tA) kI kB (zwk tA kI kB))))), .int (wb (updB (T_wh tA) kB true)), .int (wb (T_gn (T_setkn tA (updM (T_kn tA) kI kB (zwk tA kI kB))))), .int (T_sd (T_setkn tA (updM (T_kn tA) kI kB (zwk tA kI kB)))), .ref qtw, .ref qtn, .ref qtg, .ref qta, .ref qtr, .ref qtm, .ref qtt, .ref qts], zzI cy qts 64 (shF (T_kn (T_setkn tA (updM (T_kn tA) kI kB (zwk tA kI kB)))))] hP hD rfl
  clear hP hD
  obtain ⟨hP, hD⟩ := hPD
  exact endV (u := [zzO qt 3 [.int (nI (T_nb (T_setkn tA (updM (T_kn tA) kI kB (zwk tA kI kB))))), .int (nI (T_np (T_setkn tA (updM (T_kn tA) kI kB (zwk tA kI kB))))), .int (wb (updB (T_wh tA) kB true)), .int (wb (T_gn (T_setkn tA (updM (T_kn tA) kI kB (zwk tA kI kB))))), .int (T_sd (T_setkn tA (updM (T_kn tA) kI kB (zwk tA kI kB)))), .ref qtw, .ref qtn, .ref qtg, .ref qta, .ref qtr, .ref qtm, .ref qtt, .ref qts], zzI cy qtw 8 (T_wo (T_setkn tA (updM (T_kn tA) kI kB (zwk tA kI kB)))), zzI cy qtn 8 (T_ne (T_setkn tA (updM (T_kn tA) kI kB (zwk tA kI kB)))), zzI cy qtg 8 (T_go (T_setkn tA (updM (T_kn tA) kI kB (zwk tA kI kB)))), zzI cy qta 8 (T_ag (T_setkn tA (updM (T_kn tA) kI kB (zwk tA kI kB)))), zzI cy qtr 8 (T_re (T_setkn tA (updM (T_kn tA) kI kB (zwk tA kI kB)))), zzI cy qtm 8 (T_me (T_setkn tA (updM (T_kn tA) kI kB (zwk tA kI kB)))), zzI cy qtt 8 (T_te (T_setkn tA (updM (T_kn tA) kI kB (zwk tA kI kB)))), zzI cy qts 64 (shF (T_kn (T_setkn tA (updM (T_kn tA) kI kB (zwk tA kI kB)))))]) hx hb hr hlocks (hP.sub [7, 0, 1, 2, 3, 4, 5, 6, 8] rfl) (hD.sub [7, 0, 1, 2, 3, 4, 5, 6, 8] (by decide +kernel) rfl) hS rfl dX4_readBy_24
set_option maxHeartbeats 4000000 in
set_option maxRecDepth 100000 in
theorem c_X4_writeBy (l : Launch) (G : va_G) (cy : Nat → ClassId) (sz : Nat) (qt : Nat) (tA : TA) (qtw : Nat) (qtn : Nat) (qtg : Nat) (qta : Nat) (qtr : Nat) (qtm : Nat) (qtt : Nat) (qts : Nat) (kI : Nat) (kB : Nat)  (hI : kI < 8) (hJ : kB < 8) : MW l yX4_writeBy cX4_writeBy 3 (some .int) 3 0 0 G cy [zzO qt 3 [.int (nI (T_nb tA)), .int (nI (T_np tA)), .int (wb (T_wh tA)), .int (wb (T_gn tA)), .int (T_sd tA), .ref qtw, .ref qtn, .ref qtg, .ref qta, .ref qtr, .ref qtm, .ref qtt, .ref qts], zzI cy qtw 8 (T_wo tA), zzI cy qtn 8 (T_ne tA), zzI cy qtg 8 (T_go tA), zzI cy qta 8 (T_ag tA), zzI cy qtr 8 (T_re tA), zzI cy qtm 8 (T_me tA), zzI cy qtt 8 (T_te tA), zzI cy qts 64 (shF (T_kn tA))] sz [.ref qt, .int (nI kI), .int (nI kB)] (Wi G (fun r u => u = [zzO qt 3 [.int (nI (T_nb (T_setgo (T_setwh tA (updB (T_wh tA) kB false)) (upd (T_go tA) kB (T_kn tA kI kB))))), .int (nI (T_np (T_setgo (T_setwh tA (updB (T_wh tA) kB false)) (upd (T_go tA) kB (T_kn tA kI kB))))), .int (wb (T_wh (T_setgo (T_setwh tA (updB (T_wh tA) kB false)) (upd (T_go tA) kB (T_kn tA kI kB))))), .int (wb (T_gn (T_setgo (T_setwh tA (updB (T_wh tA) kB false)) (upd (T_go tA) kB (T_kn tA kI kB))))), .int (T_sd (T_setgo (T_setwh tA (updB (T_wh tA) kB false)) (upd (T_go tA) kB (T_kn tA kI kB)))), .ref qtw, .ref qtn, .ref qtg, .ref qta, .ref qtr, .ref qtm, .ref qtt, .ref qts], zzI cy qtw 8 (T_wo (T_setgo (T_setwh tA (updB (T_wh tA) kB false)) (upd (T_go tA) kB (T_kn tA kI kB)))), zzI cy qtn 8 (T_ne (T_setgo (T_setwh tA (updB (T_wh tA) kB false)) (upd (T_go tA) kB (T_kn tA kI kB)))), zzI cy qtg 8 (T_go (T_setgo (T_setwh tA (updB (T_wh tA) kB false)) (upd (T_go tA) kB (T_kn tA kI kB)))), zzI cy qta 8 (T_ag (T_setgo (T_setwh tA (updB (T_wh tA) kB false)) (upd (T_go tA) kB (T_kn tA kI kB)))), zzI cy qtr 8 (T_re (T_setgo (T_setwh tA (updB (T_wh tA) kB false)) (upd (T_go tA) kB (T_kn tA kI kB)))), zzI cy qtm 8 (T_me (T_setgo (T_setwh tA (updB (T_wh tA) kB false)) (upd (T_go tA) kB (T_kn tA kI kB)))), zzI cy qtt 8 (T_te (T_setgo (T_setwh tA (updB (T_wh tA) kB false)) (upd (T_go tA) kB (T_kn tA kI kB)))), zzI cy qts 64 (shF (T_kn (T_setgo (T_setwh tA (updB (T_wh tA) kB false)) (upd (T_go tA) kB (T_kn tA kI kB)))))] ∧ ((r = (T_kn tA kI kB))))) := by
  refine enW RX4 (by decide) rfl (Nat.le_of_ble_eq_true rfl) (fun p e s m below meth c ls A hx hb hml hown hts hr hlocks hP hN hl hin hD hA hS => ?_)
  have hin : meth.name = _ := hin
  have hK := hN.1
  replace hl : lv_has ls 3 [(0, .ref qt), (1, .int (nI kI)), (2, .int (nI kB))] := hl
  refine lv_aload_n hx hb dX4_writeBy_0 rfl (lv_at hl 0 rfl) ?_
  refine lv_dup hx hb dX4_writeBy_1 rfl ?_
  refine va_get (D := G) (ci := 3) (v := .int (wb (T_wh tA))) (C := RX4) (T := TX4) (N := 13) hx hb hts iX_X4 hown hK hP 0 rfl rfl 2 (by decide) (hts _ m_t39) (fun _ h9 => h9) rfl dX4_writeBy_2 ?_
  refine lv_iconst (v := 1) hx hb dX4_writeBy_5 (by decide) ?_
  refine lv_iload_n hx hb dX4_writeBy_6 rfl (lv_at hl 2 rfl) ?_
  refine lv_ishl hx hb dX4_writeBy_7 ?_
  refine lv_iconst (v := (-1)) hx hb dX4_writeBy_8 (by decide) ?_
  refine lv_ixor hx hb dX4_writeBy_9 ?_
  refine lv_iand hx hb dX4_writeBy_10 ?_
  refine lv_seti (v := wb (updB (T_wh tA) kB false)) (wb_off _ (by omega)) ?_
  refine va_put (D := G) (ci := 3) (v := .int (wb (updB (T_wh tA) kB false))) (ty := .int) (C := RX4) (T := TX4) (N := 13) hx hb hts iX_X4 tyX4 tyX4_ok nmX4 hown hK hP hD hS 0 rfl rfl 2 (by decide) (hts _ m_t39) (fun _ h9 => h9) rfl (by decide +kernel) rfl rfl (Nat.le_of_ble_eq_true rfl) dX4_writeBy_11 (fun H locs => ?_)
  clear hP hD hS
  intro hP hD hS
  have hPD := pd_as [zzO qt 3 [.int (nI (T_nb tA)), .int (nI (T_np tA)), .int (wb (updB (T_wh tA) kB false)), .int (wb (T_gn tA)), .int (T_sd tA), .ref qtw, .ref qtn, .ref qtg, .ref qta, .ref qtr, .ref qtm, .ref qtt, .ref qts], zzI cy qtw 8 (T_wo tA), zzI cy qtn 8 (T_ne tA), zzI cy qtg 8 (T_go tA), zzI cy qta 8 (T_ag tA), zzI cy qtr 8 (T_re tA), zzI cy qtm 8 (T_me tA), zzI cy qtt 8 (T_te tA), zzI cy qts 64 (shF (T_kn tA))] hP hD rfl
  clear hP hD
  obtain ⟨hP, hD⟩ := hPD
  have hPD := pd_as [zzO qt 3 [.int (nI (T_nb (T_setwh tA (updB (T_wh tA) kB false)))), .int (nI (T_np (T_setwh tA (updB (T_wh tA) kB false)))), .int (wb (T_wh (T_setwh tA (updB (T_wh tA) kB false)))), .int (wb (T_gn (T_setwh tA (updB (T_wh tA) kB false)))), .int (T_sd (T_setwh tA (updB (T_wh tA) kB false))), .ref qtw, .ref qtn, .ref qtg, .ref qta, .ref qtr, .ref qtm, .ref qtt, .ref qts], zzI cy qtw 8 (T_wo (T_setwh tA (updB (T_wh tA) kB false))), zzI cy qtn 8 (T_ne (T_setwh tA (updB (T_wh tA) kB false))), zzI cy qtg 8 (T_go (T_setwh tA (updB (T_wh tA) kB false))), zzI cy qta 8 (T_ag (T_setwh tA (updB (T_wh tA) kB false))), zzI cy qtr 8 (T_re (T_setwh tA (updB (T_wh tA) kB false))), zzI cy qtm 8 (T_me (T_setwh tA (updB (T_wh tA) kB false))), zzI cy qtt 8 (T_te (T_setwh tA (updB (T_wh tA) kB false))), zzI cy qts 64 (shF (T_kn (T_setwh tA (updB (T_wh tA) kB false))))] hP hD rfl
  clear hP hD
  obtain ⟨hP, hD⟩ := hPD
  refine lv_aload_n hx hb dX4_writeBy_14 rfl (lv_at hl 0 rfl) ?_
  refine va_get (D := G) (ci := 3) (v := .ref qtg) (C := RX4) (T := TX4) (N := 13) hx hb hts iX_X4 hown hK hP 0 rfl rfl 7 (by decide) (hts _ m_t53) (fun _ h9 => h9) rfl dX4_writeBy_15 ?_
  refine lv_iload_n hx hb dX4_writeBy_18 rfl (lv_at hl 2 rfl) ?_
  refine lv_aload_n hx hb dX4_writeBy_19 rfl (lv_at hl 0 rfl) ?_
  refine lv_iload_n hx hb dX4_writeBy_20 rfl (lv_at hl 1 rfl) ?_
  refine lv_iload_n hx hb dX4_writeBy_21 rfl (lv_at hl 2 rfl) ?_
  refine kRi (rV (As := [.int (nI kI), .int (nI kB)]) (rest := [.int (nI kB), .ref qtg]) (b := qt) ⟨hx, hb, hml, hown, hts⟩ (c_X4_knows l G cy qt (T_setwh tA (updB (T_wh tA) kB false)) qtw qtn qtg qta qtr qtm qtt qts kI kB hI hJ) L_X4_66 (preRV (q := (RX4, TX4, 13)) hN hP [0, 8] rfl 0 3 rfl rfl) rfl ⟨Nat.le_of_ble_eq_true rfl, Nat.le_of_ble_eq_true rfl⟩ hl.1 (Nat.le_of_ble_eq_true rfl) dX4_writeBy_22 ⟨Nat.le_of_ble_eq_true rfl, Nat.le_of_ble_eq_true rfl⟩) (fun r_1 h_2 => ?_)
  subst h_2
  refine va_iast hx hb hK hP hD hS 3 0 rfl rfl (in8 (by omega)) dX4_writeBy_25 (fun H locs => ?_)
  clear hP hD hS
  intro hP hD hS
  rw [cl8 (k := kB) (by omega)] at hP hD
  have hPD := pd_as [zzO qt 3 [.int (nI (T_nb (T_setwh tA (updB (T_wh tA) kB false)))), .int (nI (T_np (T_setwh tA (updB (T_wh tA) kB false)))), .int (wb (T_wh (T_setwh tA (updB (T_wh tA) kB false)))), .int (wb (T_gn (T_setwh tA (updB (T_wh tA) kB false)))), .int (T_sd (T_setwh tA (updB (T_wh tA) kB false))), .ref qtw, .ref qtn, .ref qtg, .ref qta, .ref qtr, .ref qtm, .ref qtt, .ref qts], zzI cy qtw 8 (T_wo (T_setwh tA (updB (T_wh tA) kB false))), zzI cy qtn 8 (T_ne (T_setwh tA (updB (T_wh tA) kB false))), zzI cy qtg 8 (upd (T_go (T_setwh tA (updB (T_wh tA) kB false))) kB (T_kn (T_setwh tA (updB (T_wh tA) kB false)) kI kB)), zzI cy qta 8 (T_ag (T_setwh tA (updB (T_wh tA) kB false))), zzI cy qtr 8 (T_re (T_setwh tA (updB (T_wh tA) kB false))), zzI cy qtm 8 (T_me (T_setwh tA (updB (T_wh tA) kB false))), zzI cy qtt 8 (T_te (T_setwh tA (updB (T_wh tA) kB false))), zzI cy qts 64 (shF (T_kn (T_setwh tA (updB (T_wh tA) kB false))))] hP hD rfl
  clear hP hD
  obtain ⟨hP, hD⟩ := hPD
  refine lv_aload_n hx hb dX4_writeBy_26 rfl (lv_at hl 0 rfl) ?_
  refine va_get (D := G) (ci := 3) (v := .ref qtg) (C := RX4) (T := TX4) (N := 13) hx hb hts iX_X4 hown hK hP 0 rfl rfl 7 (by decide) (hts _ m_t53) (fun _ h9 => h9) rfl dX4_writeBy_27 ?_
  refine lv_iload_n hx hb dX4_writeBy_30 rfl (lv_at hl 2 rfl) ?_
  refine va_iald hx hb hK hP 3 0 rfl rfl (in8 (by omega)) dX4_writeBy_31 ?_
  refine lv_seti (v := T_kn (T_setwh tA (updB (T_wh tA) kB false)) kI kB) ((congrArg (upd (T_go (T_setwh tA (updB (T_wh tA) kB false))) kB (T_kn (T_setwh tA (updB (T_wh tA) kB false)) kI kB)) (cl8 (by omega))).trans pk_us) ?_
  exact endW (u := [zzO qt 3 [.int (nI (T_nb (T_setwh tA (updB (T_wh tA) kB false)))), .int (nI (T_np (T_setwh tA (updB (T_wh tA) kB false)))), .int (wb (T_wh (T_setwh tA (updB (T_wh tA) kB false)))), .int (wb (T_gn (T_setwh tA (updB (T_wh tA) kB false)))), .int (T_sd (T_setwh tA (updB (T_wh tA) kB false))), .ref qtw, .ref qtn, .ref qtg, .ref qta, .ref qtr, .ref qtm, .ref qtt, .ref qts], zzI cy qtw 8 (T_wo (T_setwh tA (updB (T_wh tA) kB false))), zzI cy qtn 8 (T_ne (T_setwh tA (updB (T_wh tA) kB false))), zzI cy qtg 8 (upd (T_go (T_setwh tA (updB (T_wh tA) kB false))) kB (T_kn (T_setwh tA (updB (T_wh tA) kB false)) kI kB)), zzI cy qta 8 (T_ag (T_setwh tA (updB (T_wh tA) kB false))), zzI cy qtr 8 (T_re (T_setwh tA (updB (T_wh tA) kB false))), zzI cy qtm 8 (T_me (T_setwh tA (updB (T_wh tA) kB false))), zzI cy qtt 8 (T_te (T_setwh tA (updB (T_wh tA) kB false))), zzI cy qts 64 (shF (T_kn (T_setwh tA (updB (T_wh tA) kB false))))]) hx hb hr hlocks rfl (hP.sub [0, 1, 2, 3, 4, 5, 6, 7, 8] rfl) (hD.sub [0, 1, 2, 3, 4, 5, 6, 7, 8] (by decide +kernel) rfl) hS ⟨rfl, (by rfl)⟩ dX4_writeBy_32
set_option maxHeartbeats 4000000 in
set_option maxRecDepth 100000 in
theorem c_X4_addBook (l : Launch) (G : va_G) (cy : Nat → ClassId) (sz : Nat) (qt : Nat) (tA : TA) (qtw : Nat) (qtn : Nat) (qtg : Nat) (qta : Nat) (qtr : Nat) (qtm : Nat) (qtt : Nat) (qts : Nat) (iA : Int32) (iB : Int32)  (hB : T_nb tA < 8) : MW l yX4_addBook cX4_addBook 4 (some .int) 1 0 0 G cy [zzO qt 3 [.int (nI (T_nb tA)), .int (nI (T_np tA)), .int (wb (T_wh tA)), .int (wb (T_gn tA)), .int (T_sd tA), .ref qtw, .ref qtn, .ref qtg, .ref qta, .ref qtr, .ref qtm, .ref qtt, .ref qts], zzI cy qtw 8 (T_wo tA), zzI cy qtn 8 (T_ne tA), zzI cy qtg 8 (T_go tA), zzI cy qta 8 (T_ag tA), zzI cy qtr 8 (T_re tA), zzI cy qtm 8 (T_me tA), zzI cy qtt 8 (T_te tA), zzI cy qts 64 (shF (T_kn tA))] sz [.ref qt, .int iA, .int iB] (Wi G (fun r u => u = [zzO qt 3 [.int (nI (T_nb (zab tA iA iB))), .int (nI (T_np (zab tA iA iB))), .int (wb (T_wh (zab tA iA iB))), .int (wb (T_gn (zab tA iA iB))), .int (T_sd (zab tA iA iB)), .ref qtw, .ref qtn, .ref qtg, .ref qta, .ref qtr, .ref qtm, .ref qtt, .ref qts], zzI cy qtw 8 (T_wo (zab tA iA iB)), zzI cy qtn 8 (T_ne (zab tA iA iB)), zzI cy qtg 8 (T_go (zab tA iA iB)), zzI cy qta 8 (T_ag (zab tA iA iB)), zzI cy qtr 8 (T_re (zab tA iA iB)), zzI cy qtm 8 (T_me (zab tA iA iB)), zzI cy qtt 8 (T_te (zab tA iA iB)), zzI cy qts 64 (shF (T_kn (zab tA iA iB)))] ∧ ((r = (nI (T_nb tA)))))) := by
  refine enW RX4 (by decide) rfl (Nat.le_of_ble_eq_true rfl) (fun p e s m below meth c ls A hx hb hml hown hts hr hlocks hP hN hl hin hD hA hS => ?_)
  have hin : meth.name = _ := hin
  have hK := hN.1
  replace hl : lv_has ls 4 [(0, .ref qt), (1, .int iA), (2, .int iB)] := hl
  refine lv_aload_n hx hb dX4_addBook_0 rfl (lv_at hl 0 rfl) ?_
  refine va_get (D := G) (ci := 3) (v := .int (nI (T_nb tA))) (C := RX4) (T := TX4) (N := 13) hx hb hts iX_X4 hown hK hP 0 rfl rfl 0 (by decide) (hts _ m_t29) (fun _ h9 => h9) rfl dX4_addBook_1 ?_
  refine lv_istore_n (lv' := [(3, .int (nI (T_nb tA))), (0, .ref qt), (1, .int iA), (2, .int iB)]) hx hb dX4_addBook_4 rfl hl (by decide) rfl (fun ls => ?_)
  clear hl
  intro hl
  refine lv_aload_n hx hb dX4_addBook_5 rfl (lv_at hl 1 rfl) ?_
  refine va_get (D := G) (ci := 3) (v := .ref qtw) (C := RX4) (T := TX4) (N := 13) hx hb hts iX_X4 hown hK hP 0 rfl rfl 5 (by decide) (hts _ m_t48) (fun _ h9 => h9) rfl dX4_addBook_6 ?_
  refine lv_iload_n hx hb dX4_addBook_9 rfl (lv_at hl 0 rfl) ?_
  refine lv_iload_n hx hb dX4_addBook_10 rfl (lv_at hl 2 rfl) ?_
  refine va_iast hx hb hK hP hD hS 1 0 rfl rfl (in8 (by omega)) dX4_addBook_11 (fun H locs => ?_)
  clear hP hD hS
  intro hP hD hS
  rw [cl8 (k := (T_nb tA)) (by omega)] at hP hD
  have hPD := pd_as [zzO qt 3 [.int (nI (T_nb tA)), .int (nI (T_np tA)), .int (wb (T_wh tA)), .int (wb (T_gn tA)), .int (T_sd tA), .ref qtw, .ref qtn, .ref qtg, .ref qta, .ref qtr, .ref qtm, .ref qtt, .ref qts], zzI cy qtw 8 (upd (T_wo tA) (T_nb tA) iA), zzI cy qtn 8 (T_ne tA), zzI cy qtg 8 (T_go tA), zzI cy qta 8 (T_ag tA), zzI cy qtr 8 (T_re tA), zzI cy qtm 8 (T_me tA), zzI cy qtt 8 (T_te tA), zzI cy qts 64 (shF (T_kn tA))] hP hD rfl
  clear hP hD
  obtain ⟨hP, hD⟩ := hPD
  refine lv_aload_n hx hb dX4_addBook_12 rfl (lv_at hl 1 rfl) ?_
  refine va_get (D := G) (ci := 3) (v := .ref qtn) (C := RX4) (T := TX4) (N := 13) hx hb hts iX_X4 hown hK hP 0 rfl rfl 6 (by decide) (hts _ m_t50) (fun _ h9 => h9) rfl dX4_addBook_13 ?_
  refine lv_iload_n hx hb dX4_addBook_16 rfl (lv_at hl 0 rfl) ?_
  refine lv_iload_n hx hb dX4_addBook_17 rfl (lv_at hl 3 rfl) ?_
  refine va_iast hx hb hK hP hD hS 2 0 rfl rfl (in8 (by omega)) dX4_addBook_18 (fun H locs => ?_)
  clear hP hD hS
  intro hP hD hS
  rw [cl8 (k := (T_nb tA)) (by omega)] at hP hD
  have hPD := pd_as [zzO qt 3 [.int (nI (T_nb tA)), .int (nI (T_np tA)), .int (wb (T_wh tA)), .int (wb (T_gn tA)), .int (T_sd tA), .ref qtw, .ref qtn, .ref qtg, .ref qta, .ref qtr, .ref qtm, .ref qtt, .ref qts], zzI cy qtw 8 (upd (T_wo tA) (T_nb tA) iA), zzI cy qtn 8 (upd (T_ne tA) (T_nb tA) iB), zzI cy qtg 8 (T_go tA), zzI cy qta 8 (T_ag tA), zzI cy qtr 8 (T_re tA), zzI cy qtm 8 (T_me tA), zzI cy qtt 8 (T_te tA), zzI cy qts 64 (shF (T_kn tA))] hP hD rfl
  clear hP hD
  obtain ⟨hP, hD⟩ := hPD
  refine lv_aload_n hx hb dX4_addBook_19 rfl (lv_at hl 1 rfl) ?_
  refine va_get (D := G) (ci := 3) (v := .ref qtg) (C := RX4) (T := TX4) (N := 13) hx hb hts iX_X4 hown hK hP 0 rfl rfl 7 (by decide) (hts _ m_t53) (fun _ h9 => h9) rfl dX4_addBook_20 ?_
  refine lv_iload_n hx hb dX4_addBook_23 rfl (lv_at hl 0 rfl) ?_
  refine lv_sipush (v := 1000) hx hb dX4_addBook_24 (by decide) ?_
  refine va_iast hx hb hK hP hD hS 3 0 rfl rfl (in8 (by omega)) dX4_addBook_27 (fun H locs => ?_)
  clear hP hD hS
  intro hP hD hS
  rw [cl8 (k := (T_nb tA)) (by omega)] at hP hD
  have hPD := pd_as [zzO qt 3 [.int (nI (T_nb tA)), .int (nI (T_np tA)), .int (wb (T_wh tA)), .int (wb (T_gn tA)), .int (T_sd tA), .ref qtw, .ref qtn, .ref qtg, .ref qta, .ref qtr, .ref qtm, .ref qtt, .ref qts], zzI cy qtw 8 (upd (T_wo tA) (T_nb tA) iA), zzI cy qtn 8 (upd (T_ne tA) (T_nb tA) iB), zzI cy qtg 8 (upd (T_go tA) (T_nb tA) 1000), zzI cy qta 8 (T_ag tA), zzI cy qtr 8 (T_re tA), zzI cy qtm 8 (T_me tA), zzI cy qtt 8 (T_te tA), zzI cy qts 64 (shF (T_kn tA))] hP hD rfl
  clear hP hD
  obtain ⟨hP, hD⟩ := hPD
  refine lv_aload_n hx hb dX4_addBook_28 rfl (lv_at hl 1 rfl) ?_
  refine lv_dup hx hb dX4_addBook_29 rfl ?_
  refine va_get (D := G) (ci := 3) (v := .int (nI (T_nb tA))) (C := RX4) (T := TX4) (N := 13) hx hb hts iX_X4 hown hK hP 0 rfl rfl 0 (by decide) (hts _ m_t29) (fun _ h9 => h9) rfl dX4_addBook_30 ?_
  refine lv_iconst (v := 1) hx hb dX4_addBook_33 (by decide) ?_
  refine lv_iadd hx hb dX4_addBook_34 ?_
  refine lv_seti (v := nI ((T_nb tA) + 1)) (nI_1 _) ?_
  refine va_put (D := G) (ci := 3) (v := .int (nI ((T_nb tA) + 1))) (ty := .int) (C := RX4) (T := TX4) (N := 13) hx hb hts iX_X4 tyX4 tyX4_ok nmX4 hown hK hP hD hS 0 rfl rfl 0 (by decide) (hts _ m_t29) (fun _ h9 => h9) rfl (by decide +kernel) rfl rfl (Nat.le_of_ble_eq_true rfl) dX4_addBook_35 (fun H locs => ?_)
  clear hP hD hS
  intro hP hD hS
  have hPD := pd_as [zzO qt 3 [.int (nI ((T_nb tA) + 1)), .int (nI (T_np tA)), .int (wb (T_wh tA)), .int (wb (T_gn tA)), .int (T_sd tA), .ref qtw, .ref qtn, .ref qtg, .ref qta, .ref qtr, .ref qtm, .ref qtt, .ref qts], zzI cy qtw 8 (upd (T_wo tA) (T_nb tA) iA), zzI cy qtn 8 (upd (T_ne tA) (T_nb tA) iB), zzI cy qtg 8 (upd (T_go tA) (T_nb tA) 1000), zzI cy qta 8 (T_ag tA), zzI cy qtr 8 (T_re tA), zzI cy qtm 8 (T_me tA), zzI cy qtt 8 (T_te tA), zzI cy qts 64 (shF (T_kn tA))] hP hD rfl
  clear hP hD
  obtain ⟨hP, hD⟩ := hPD
  refine lv_iload_n hx hb dX4_addBook_38 rfl (lv_at hl 0 rfl) ?_
  exact endW (u := [zzO qt 3 [.int (nI ((T_nb tA) + 1)), .int (nI (T_np tA)), .int (wb (T_wh tA)), .int (wb (T_gn tA)), .int (T_sd tA), .ref qtw, .ref qtn, .ref qtg, .ref qta, .ref qtr, .ref qtm, .ref qtt, .ref qts], zzI cy qtw 8 (upd (T_wo tA) (T_nb tA) iA), zzI cy qtn 8 (upd (T_ne tA) (T_nb tA) iB), zzI cy qtg 8 (upd (T_go tA) (T_nb tA) 1000), zzI cy qta 8 (T_ag tA), zzI cy qtr 8 (T_re tA), zzI cy qtm 8 (T_me tA), zzI cy qtt 8 (T_te tA), zzI cy qts 64 (shF (T_kn tA))]) hx hb hr hlocks rfl (hP.sub [0, 1, 2, 3, 4, 5, 6, 7, 8] rfl) (hD.sub [0, 1, 2, 3, 4, 5, 6, 7, 8] (by decide +kernel) rfl) hS ⟨rfl, rfl⟩ dX4_addBook_39
set_option maxHeartbeats 4000000 in
set_option maxRecDepth 100000 in
theorem c_X4_addOne (l : Launch) (G : va_G) (cy : Nat → ClassId) (sz : Nat) (qt : Nat) (tA : TA) (qtw : Nat) (qtn : Nat) (qtg : Nat) (qta : Nat) (qtr : Nat) (qtm : Nat) (qtt : Nat) (qts : Nat) (iA : Int32) (iB : Int32) (iC : Int32) (iD : Int32)  (hPp : T_np tA < 8) : MW l yX4_addOne cX4_addOne 6 (some .int) 1 0 0 G cy [zzO qt 3 [.int (nI (T_nb tA)), .int (nI (T_np tA)), .int (wb (T_wh tA)), .int (wb (T_gn tA)), .int (T_sd tA), .ref qtw, .ref qtn, .ref qtg, .ref qta, .ref qtr, .ref qtm, .ref qtt, .ref qts], zzI cy qtw 8 (T_wo tA), zzI cy qtn 8 (T_ne tA), zzI cy qtg 8 (T_go tA), zzI cy qta 8 (T_ag tA), zzI cy qtr 8 (T_re tA), zzI cy qtm 8 (T_me tA), zzI cy qtt 8 (T_te tA), zzI cy qts 64 (shF (T_kn tA))] sz [.ref qt, .int iA, .int iB, .int iC, .int iD] (Wi G (fun r u => u = [zzO qt 3 [.int (nI (T_nb (zao tA iA iB iC iD))), .int (nI (T_np (zao tA iA iB iC iD))), .int (wb (T_wh (zao tA iA iB iC iD))), .int (wb (T_gn (zao tA iA iB iC iD))), .int (T_sd (zao tA iA iB iC iD)), .ref qtw, .ref qtn, .ref qtg, .ref qta, .ref qtr, .ref qtm, .ref qtt, .ref qts], zzI cy qtw 8 (T_wo (zao tA iA iB iC iD)), zzI cy qtn 8 (T_ne (zao tA iA iB iC iD)), zzI cy qtg 8 (T_go (zao tA iA iB iC iD)), zzI cy qta 8 (T_ag (zao tA iA iB iC iD)), zzI cy qtr 8 (T_re (zao tA iA iB iC iD)), zzI cy qtm 8 (T_me (zao tA iA iB iC iD)), zzI cy qtt 8 (T_te (zao tA iA iB iC iD)), zzI cy qts 64 (shF (T_kn (zao tA iA iB iC iD)))] ∧ ((r = (nI (T_np tA)))))) := by
  refine enW RX4 (by decide) rfl (Nat.le_of_ble_eq_true rfl) (fun p e s m below meth c ls A hx hb hml hown hts hr hlocks hP hN hl hin hD hA hS => ?_)
  have hin : meth.name = _ := hin
  have hK := hN.1
  replace hl : lv_has ls 6 [(0, .ref qt), (1, .int iA), (2, .int iB), (3, .int iC), (4, .int iD)] := hl
  refine lv_aload_n hx hb dX4_addOne_0 rfl (lv_at hl 0 rfl) ?_
  refine va_get (D := G) (ci := 3) (v := .int (nI (T_np tA))) (C := RX4) (T := TX4) (N := 13) hx hb hts iX_X4 hown hK hP 0 rfl rfl 1 (by decide) (hts _ m_t34) (fun _ h9 => h9) rfl dX4_addOne_1 ?_
  refine lv_istore (lv' := [(5, .int (nI (T_np tA))), (0, .ref qt), (1, .int iA), (2, .int iB), (3, .int iC), (4, .int iD)]) hx hb dX4_addOne_4 hl (by decide) rfl (fun ls => ?_)
  clear hl
  intro hl
  refine lv_aload_n hx hb dX4_addOne_6 rfl (lv_at hl 1 rfl) ?_
  refine va_get (D := G) (ci := 3) (v := .ref qta) (C := RX4) (T := TX4) (N := 13) hx hb hts iX_X4 hown hK hP 0 rfl rfl 8 (by decide) (hts _ m_t56) (fun _ h9 => h9) rfl dX4_addOne_7 ?_
  refine lv_iload hx hb dX4_addOne_10 (lv_at hl 0 rfl) ?_
  refine lv_iload_n hx hb dX4_addOne_12 rfl (lv_at hl 2 rfl) ?_
  refine va_iast hx hb hK hP hD hS 4 0 rfl rfl (in8 (by omega)) dX4_addOne_13 (fun H locs => ?_)
  clear hP hD hS
  intro hP hD hS
  rw [cl8 (k := (T_np tA)) (by omega)] at hP hD
  have hPD := pd_as [zzO qt 3 [.int (nI (T_nb tA)), .int (nI (T_np tA)), .int (wb (T_wh tA)), .int (wb (T_gn tA)), .int (T_sd tA), .ref qtw, .ref qtn, .ref qtg, .ref qta, .ref qtr, .ref qtm, .ref qtt, .ref qts], zzI cy qtw 8 (T_wo tA), zzI cy qtn 8 (T_ne tA), zzI cy qtg 8 (T_go tA), zzI cy qta 8 (upd (T_ag tA) (T_np tA) iA), zzI cy qtr 8 (T_re tA), zzI cy qtm 8 (T_me tA), zzI cy qtt 8 (T_te tA), zzI cy qts 64 (shF (T_kn tA))] hP hD rfl
  clear hP hD
  obtain ⟨hP, hD⟩ := hPD
  refine lv_aload_n hx hb dX4_addOne_14 rfl (lv_at hl 1 rfl) ?_
  refine va_get (D := G) (ci := 3) (v := .ref qtr) (C := RX4) (T := TX4) (N := 13) hx hb hts iX_X4 hown hK hP 0 rfl rfl 9 (by decide) (hts _ m_t58) (fun _ h9 => h9) rfl dX4_addOne_15 ?_
  refine lv_iload hx hb dX4_addOne_18 (lv_at hl 0 rfl) ?_
  refine lv_iload_n hx hb dX4_addOne_20 rfl (lv_at hl 3 rfl) ?_
  refine va_iast hx hb hK hP hD hS 5 0 rfl rfl (in8 (by omega)) dX4_addOne_21 (fun H locs => ?_)
  clear hP hD hS
  intro hP hD hS
  rw [cl8 (k := (T_np tA)) (by omega)] at hP hD
  have hPD := pd_as [zzO qt 3 [.int (nI (T_nb tA)), .int (nI (T_np tA)), .int (wb (T_wh tA)), .int (wb (T_gn tA)), .int (T_sd tA), .ref qtw, .ref qtn, .ref qtg, .ref qta, .ref qtr, .ref qtm, .ref qtt, .ref qts], zzI cy qtw 8 (T_wo tA), zzI cy qtn 8 (T_ne tA), zzI cy qtg 8 (T_go tA), zzI cy qta 8 (upd (T_ag tA) (T_np tA) iA), zzI cy qtr 8 (upd (T_re tA) (T_np tA) iB), zzI cy qtm 8 (T_me tA), zzI cy qtt 8 (T_te tA), zzI cy qts 64 (shF (T_kn tA))] hP hD rfl
  clear hP hD
  obtain ⟨hP, hD⟩ := hPD
  refine lv_aload_n hx hb dX4_addOne_22 rfl (lv_at hl 1 rfl) ?_
  refine va_get (D := G) (ci := 3) (v := .ref qtm) (C := RX4) (T := TX4) (N := 13) hx hb hts iX_X4 hown hK hP 0 rfl rfl 10 (by decide) (hts _ m_t60) (fun _ h9 => h9) rfl dX4_addOne_23 ?_
  refine lv_iload hx hb dX4_addOne_26 (lv_at hl 0 rfl) ?_
  refine lv_iload_n hx hb dX4_addOne_28 rfl (lv_at hl 4 rfl) ?_
  refine va_iast hx hb hK hP hD hS 6 0 rfl rfl (in8 (by omega)) dX4_addOne_29 (fun H locs => ?_)
  clear hP hD hS
  intro hP hD hS
  rw [cl8 (k := (T_np tA)) (by omega)] at hP hD
  have hPD := pd_as [zzO qt 3 [.int (nI (T_nb tA)), .int (nI (T_np tA)), .int (wb (T_wh tA)), .int (wb (T_gn tA)), .int (T_sd tA), .ref qtw, .ref qtn, .ref qtg, .ref qta, .ref qtr, .ref qtm, .ref qtt, .ref qts], zzI cy qtw 8 (T_wo tA), zzI cy qtn 8 (T_ne tA), zzI cy qtg 8 (T_go tA), zzI cy qta 8 (upd (T_ag tA) (T_np tA) iA), zzI cy qtr 8 (upd (T_re tA) (T_np tA) iB), zzI cy qtm 8 (upd (T_me tA) (T_np tA) iC), zzI cy qtt 8 (T_te tA), zzI cy qts 64 (shF (T_kn tA))] hP hD rfl
  clear hP hD
  obtain ⟨hP, hD⟩ := hPD
  refine lv_aload_n hx hb dX4_addOne_30 rfl (lv_at hl 1 rfl) ?_
  refine va_get (D := G) (ci := 3) (v := .ref qtt) (C := RX4) (T := TX4) (N := 13) hx hb hts iX_X4 hown hK hP 0 rfl rfl 11 (by decide) (hts _ m_t62) (fun _ h9 => h9) rfl dX4_addOne_31 ?_
  refine lv_iload hx hb dX4_addOne_34 (lv_at hl 0 rfl) ?_
  refine lv_iload hx hb dX4_addOne_36 (lv_at hl 5 rfl) ?_
  refine va_iast hx hb hK hP hD hS 7 0 rfl rfl (in8 (by omega)) dX4_addOne_38 (fun H locs => ?_)
  clear hP hD hS
  intro hP hD hS
  rw [cl8 (k := (T_np tA)) (by omega)] at hP hD
  have hPD := pd_as [zzO qt 3 [.int (nI (T_nb tA)), .int (nI (T_np tA)), .int (wb (T_wh tA)), .int (wb (T_gn tA)), .int (T_sd tA), .ref qtw, .ref qtn, .ref qtg, .ref qta, .ref qtr, .ref qtm, .ref qtt, .ref qts], zzI cy qtw 8 (T_wo tA), zzI cy qtn 8 (T_ne tA), zzI cy qtg 8 (T_go tA), zzI cy qta 8 (upd (T_ag tA) (T_np tA) iA), zzI cy qtr 8 (upd (T_re tA) (T_np tA) iB), zzI cy qtm 8 (upd (T_me tA) (T_np tA) iC), zzI cy qtt 8 (upd (T_te tA) (T_np tA) iD), zzI cy qts 64 (shF (T_kn tA))] hP hD rfl
  clear hP hD
  obtain ⟨hP, hD⟩ := hPD
  refine lv_aload_n hx hb dX4_addOne_39 rfl (lv_at hl 1 rfl) ?_
  refine lv_dup hx hb dX4_addOne_40 rfl ?_
  refine va_get (D := G) (ci := 3) (v := .int (nI (T_np tA))) (C := RX4) (T := TX4) (N := 13) hx hb hts iX_X4 hown hK hP 0 rfl rfl 1 (by decide) (hts _ m_t34) (fun _ h9 => h9) rfl dX4_addOne_41 ?_
  refine lv_iconst (v := 1) hx hb dX4_addOne_44 (by decide) ?_
  refine lv_iadd hx hb dX4_addOne_45 ?_
  refine lv_seti (v := nI ((T_np tA) + 1)) (nI_1 _) ?_
  refine va_put (D := G) (ci := 3) (v := .int (nI ((T_np tA) + 1))) (ty := .int) (C := RX4) (T := TX4) (N := 13) hx hb hts iX_X4 tyX4 tyX4_ok nmX4 hown hK hP hD hS 0 rfl rfl 1 (by decide) (hts _ m_t34) (fun _ h9 => h9) rfl (by decide +kernel) rfl rfl (Nat.le_of_ble_eq_true rfl) dX4_addOne_46 (fun H locs => ?_)
  clear hP hD hS
  intro hP hD hS
  have hPD := pd_as [zzO qt 3 [.int (nI (T_nb tA)), .int (nI ((T_np tA) + 1)), .int (wb (T_wh tA)), .int (wb (T_gn tA)), .int (T_sd tA), .ref qtw, .ref qtn, .ref qtg, .ref qta, .ref qtr, .ref qtm, .ref qtt, .ref qts], zzI cy qtw 8 (T_wo tA), zzI cy qtn 8 (T_ne tA), zzI cy qtg 8 (T_go tA), zzI cy qta 8 (upd (T_ag tA) (T_np tA) iA), zzI cy qtr 8 (upd (T_re tA) (T_np tA) iB), zzI cy qtm 8 (upd (T_me tA) (T_np tA) iC), zzI cy qtt 8 (upd (T_te tA) (T_np tA) iD), zzI cy qts 64 (shF (T_kn tA))] hP hD rfl
  clear hP hD
  obtain ⟨hP, hD⟩ := hPD
  refine lv_iload hx hb dX4_addOne_49 (lv_at hl 0 rfl) ?_
  exact endW (u := [zzO qt 3 [.int (nI (T_nb tA)), .int (nI ((T_np tA) + 1)), .int (wb (T_wh tA)), .int (wb (T_gn tA)), .int (T_sd tA), .ref qtw, .ref qtn, .ref qtg, .ref qta, .ref qtr, .ref qtm, .ref qtt, .ref qts], zzI cy qtw 8 (T_wo tA), zzI cy qtn 8 (T_ne tA), zzI cy qtg 8 (T_go tA), zzI cy qta 8 (upd (T_ag tA) (T_np tA) iA), zzI cy qtr 8 (upd (T_re tA) (T_np tA) iB), zzI cy qtm 8 (upd (T_me tA) (T_np tA) iC), zzI cy qtt 8 (upd (T_te tA) (T_np tA) iD), zzI cy qts 64 (shF (T_kn tA))]) hx hb hr hlocks rfl (hP.sub [0, 1, 2, 3, 4, 5, 6, 7, 8] rfl) (hD.sub [0, 1, 2, 3, 4, 5, 6, 7, 8] (by decide +kernel) rfl) hS ⟨rfl, rfl⟩ dX4_addOne_51
set_option maxHeartbeats 4000000 in
set_option maxRecDepth 100000 in
theorem c_X4_isBook (l : Launch) (G : va_G) (cy : Nat → ClassId) (qt : Nat) (tA : TA) (qtw : Nat) (qtn : Nat) (qtg : Nat) (qta : Nat) (qtr : Nat) (qtm : Nat) (qtt : Nat) (qts : Nat) (iA : Int32)  (hB : T_nb tA ≤ 8) : MR l yX4_isBook cX4_isBook 2 (some .boolean) 1 G cy [zzO qt 3 [.int (nI (T_nb tA)), .int (nI (T_np tA)), .int (wb (T_wh tA)), .int (wb (T_gn tA)), .int (T_sd tA), .ref qtw, .ref qtn, .ref qtg, .ref qta, .ref qtr, .ref qtm, .ref qtt, .ref qts]] [.ref qt, .int iA] (vp_Si (fun r => (r = 1 ∧ ∃ k : Nat, k < T_nb tA ∧ iA = nI k) ∨ (r = 0 ∧ ¬ ∃ k : Nat, k < T_nb tA ∧ iA = nI k))) := by
  refine enR RX4 (by decide) rfl (Nat.le_of_ble_eq_true rfl) (fun p e s m below meth c ls hx hb hml hown hts hr hlocks hP hN hl => ?_)
  have hK := hN.1
  replace hl : lv_has ls 2 [(0, .ref qt), (1, .int iA)] := hl
  refine lv_iload_n hx hb dX4_isBook_0 rfl (lv_at hl 1 rfl) ?_
  refine lv_if_lt (tgt := 16) hx hb dX4_isBook_1 (by decide) (fun c_1 => ?_) (fun c_1 => ?_)
  · refine lv_iconst (v := 0) hx hb dX4_isBook_16 (by decide) ?_
    exact endR hx hb hr hlocks rfl (Or.inr (⟨rfl, isx_no1 c_1 (by omega)⟩)) dX4_isBook_17
  · refine lv_iload_n hx hb dX4_isBook_4 rfl (lv_at hl 1 rfl) ?_
    refine lv_aload_n hx hb dX4_isBook_5 rfl (lv_at hl 0 rfl) ?_
    refine va_get (D := G) (ci := 3) (v := .int (nI (T_nb tA))) (C := RX4) (T := TX4) (N := 13) hx hb hts iX_X4 hown hK hP 0 rfl rfl 0 (by decide) (hts _ m_t29) (fun _ h9 => h9) rfl dX4_isBook_6 ?_
    refine lv_icmp_ge (tgt := 16) hx hb dX4_isBook_9 (by decide) (fun c_2 => ?_) (fun c_2 => ?_)
    · refine lv_iconst (v := 0) hx hb dX4_isBook_16 (by decide) ?_
      exact endR hx hb hr hlocks rfl (Or.inr (⟨rfl, isx_no2 c_2 (by omega)⟩)) dX4_isBook_17
    · refine lv_iconst (v := 1) hx hb dX4_isBook_12 (by decide) ?_
      refine lv_goto (tgt := 17) hx hb dX4_isBook_13 (by decide) ?_
      exact endR hx hb hr hlocks rfl (Or.inl (⟨rfl, isx_yes c_1 c_2 (by omega)⟩)) dX4_isBook_17
set_option maxHeartbeats 4000000 in
set_option maxRecDepth 100000 in
theorem c_X4_isOne (l : Launch) (G : va_G) (cy : Nat → ClassId) (qt : Nat) (tA : TA) (qtw : Nat) (qtn : Nat) (qtg : Nat) (qta : Nat) (qtr : Nat) (qtm : Nat) (qtt : Nat) (qts : Nat) (iA : Int32)  (hB : T_np tA ≤ 8) : MR l yX4_isOne cX4_isOne 2 (some .boolean) 1 G cy [zzO qt 3 [.int (nI (T_nb tA)), .int (nI (T_np tA)), .int (wb (T_wh tA)), .int (wb (T_gn tA)), .int (T_sd tA), .ref qtw, .ref qtn, .ref qtg, .ref qta, .ref qtr, .ref qtm, .ref qtt, .ref qts]] [.ref qt, .int iA] (vp_Si (fun r => (r = 1 ∧ ∃ k : Nat, k < T_np tA ∧ iA = nI k) ∨ (r = 0 ∧ ¬ ∃ k : Nat, k < T_np tA ∧ iA = nI k))) := by
  refine enR RX4 (by decide) rfl (Nat.le_of_ble_eq_true rfl) (fun p e s m below meth c ls hx hb hml hown hts hr hlocks hP hN hl => ?_)
  have hK := hN.1
  replace hl : lv_has ls 2 [(0, .ref qt), (1, .int iA)] := hl
  refine lv_iload_n hx hb dX4_isOne_0 rfl (lv_at hl 1 rfl) ?_
  refine lv_if_lt (tgt := 16) hx hb dX4_isOne_1 (by decide) (fun c_1 => ?_) (fun c_1 => ?_)
  · refine lv_iconst (v := 0) hx hb dX4_isOne_16 (by decide) ?_
    exact endR hx hb hr hlocks rfl (Or.inr (⟨rfl, isx_no1 c_1 (by omega)⟩)) dX4_isOne_17
  · refine lv_iload_n hx hb dX4_isOne_4 rfl (lv_at hl 1 rfl) ?_
    refine lv_aload_n hx hb dX4_isOne_5 rfl (lv_at hl 0 rfl) ?_
    refine va_get (D := G) (ci := 3) (v := .int (nI (T_np tA))) (C := RX4) (T := TX4) (N := 13) hx hb hts iX_X4 hown hK hP 0 rfl rfl 1 (by decide) (hts _ m_t34) (fun _ h9 => h9) rfl dX4_isOne_6 ?_
    refine lv_icmp_ge (tgt := 16) hx hb dX4_isOne_9 (by decide) (fun c_2 => ?_) (fun c_2 => ?_)
    · refine lv_iconst (v := 0) hx hb dX4_isOne_16 (by decide) ?_
      exact endR hx hb hr hlocks rfl (Or.inr (⟨rfl, isx_no2 c_2 (by omega)⟩)) dX4_isOne_17
    · refine lv_iconst (v := 1) hx hb dX4_isOne_12 (by decide) ?_
      refine lv_goto (tgt := 17) hx hb dX4_isOne_13 (by decide) ?_
      exact endR hx hb hr hlocks rfl (Or.inl (⟨rfl, isx_yes c_1 c_2 (by omega)⟩)) dX4_isOne_17
set_option maxHeartbeats 4000000 in
set_option maxRecDepth 100000 in
theorem c_X4_bestReader (l : Launch) (G : va_G) (cy : Nat → ClassId) (qt : Nat) (tA : TA) (qtw : Nat) (qtn : Nat) (qtg : Nat) (qta : Nat) (qtr : Nat) (qtm : Nat) (qtt : Nat) (qts : Nat) (kB : Nat)  (hPp : T_np tA ≤ 8) (hJ : kB < 8) : MR l yX4_bestReader cX4_bestReader 6 (some .int) 3 G cy [zzO qt 3 [.int (nI (T_nb tA)), .int (nI (T_np tA)), .int (wb (T_wh tA)), .int (wb (T_gn tA)), .int (T_sd tA), .ref qtw, .ref qtn, .ref qtg, .ref qta, .ref qtr, .ref qtm, .ref qtt, .ref qts], zzI cy qtw 8 (T_wo tA), zzI cy qtn 8 (T_ne tA), zzI cy qtg 8 (T_go tA), zzI cy qta 8 (T_ag tA), zzI cy qtr 8 (T_re tA), zzI cy qtm 8 (T_me tA), zzI cy qtt 8 (T_te tA), zzI cy qts 64 (shF (T_kn tA))] [.ref qt, .int (nI kB)] (vp_Si (fun r => (r = (zbr tA kB)))) := by
  refine enR RX4 (by decide) rfl (Nat.le_of_ble_eq_true rfl) (fun p e s m below meth c ls hx hb hml hown hts hr hlocks hP hN hl => ?_)
  have hK := hN.1
  replace hl : lv_has ls 6 [(0, .ref qt), (1, .int (nI kB))] := hl
  refine lv_iconst (v := (-1)) hx hb dX4_bestReader_0 (by decide) ?_
  refine lv_istore_n (lv' := [(2, .int (-1)), (0, .ref qt), (1, .int (nI kB))]) hx hb dX4_bestReader_1 rfl hl (by decide) rfl (fun ls => ?_)
  clear hl
  intro hl
  refine lv_iconst (v := 0) hx hb dX4_bestReader_2 (by decide) ?_
  refine lv_istore_n (lv' := [(3, .int 0), (2, .int (-1)), (0, .ref qt), (1, .int (nI kB))]) hx hb dX4_bestReader_3 rfl hl (by decide) rfl (fun ls => ?_)
  clear hl
  intro hl
  refine lv_iconst (v := 0) hx hb dX4_bestReader_4 (by decide) ?_
  refine lv_istore (lv' := [(4, .int 0), (3, .int 0), (2, .int (-1)), (0, .ref qt), (1, .int (nI kB))]) hx hb dX4_bestReader_5 hl (by decide) rfl (fun ls => ?_)
  clear hl
  intro hl
  have lp_1 : ∀ (n_2 : Nat) (j_4 : Nat) (xB_5 : Int32) (xM_6 : Int32), 8 - j_4 < n_2 → j_4 ≤ T_np tA → xB_5 = (brF tA kB j_4).1 → xM_6 = (brF tA kB j_4).2 → ∀ (ls : Array Slot), lv_has ls 6 [(4, .int (nI j_4)), (3, .int xM_6), (2, .int xB_5), (0, .ref qt), (1, .int (nI kB))] → W p l e (Rm 3 0 0) s m (List.toArray (α := Value) [.ref qt, .int (nI kB)]) below meth c s.heap [] 0 0 (MQ below (vp_Si (fun r => (r = (zbr tA kB)))) (List.toArray (α := Value) [.ref qt, .int (nI kB)]) s 0 0 (fun _ => False)) (F0 m 7 ls []) := by
    intro n_2
    induction n_2 with
    | zero => intro j_4 xB_5 xM_6 hm9; exact absurd hm9 (Nat.not_lt_zero _)
    | succ n_2 ih_3 =>
      intro j_4 xB_5 xM_6 hm_10 hj_7 hxB_8 hxM_9 ls hl
      refine lv_iload hx hb dX4_bestReader_7 (lv_at hl 0 rfl) ?_
      refine lv_aload_n hx hb dX4_bestReader_9 rfl (lv_at hl 3 rfl) ?_
      refine va_get (D := G) (ci := 3) (v := .int (nI (T_np tA))) (C := RX4) (T := TX4) (N := 13) hx hb hts iX_X4 hown hK hP 0 rfl rfl 1 (by decide) (hts _ m_t34) (fun _ h9 => h9) rfl dX4_bestReader_10 ?_
      refine lv_icmp_ge (tgt := 92) hx hb dX4_bestReader_13 (by decide) (fun c_11 => ?_) (fun c_11 => ?_)
      · have hlt_12 : j_4 = T_np tA := Nat.le_antisymm (by omega) (lp_ge rfl rfl (by omega) (by omega) c_11)
        refine lv_iload_n hx hb dX4_bestReader_92 rfl (lv_at hl 2 rfl) ?_
        exact endR hx hb hr hlocks rfl (by rw [hxB_8, hlt_12]; rfl) dX4_bestReader_93
      · have hlt_13 : j_4 < T_np tA := lp_lt rfl rfl (by omega) (by omega) c_11
        refine lv_aload_n hx hb dX4_bestReader_16 rfl (lv_at hl 3 rfl) ?_
        refine va_get (D := G) (ci := 3) (v := .int (wb (T_gn tA))) (C := RX4) (T := TX4) (N := 13) hx hb hts iX_X4 hown hK hP 0 rfl rfl 3 (by decide) (hts _ m_t43) (fun _ h9 => h9) rfl dX4_bestReader_17 ?_
        refine lv_iload hx hb dX4_bestReader_20 (lv_at hl 0 rfl) ?_
        refine kRi (rSN (As := [.int (wb (T_gn tA)), .int (nI j_4)]) (rest := []) ⟨hx, hb, hml, hown, hts⟩ hN (c_X5_has l G cy (wb (T_gn tA)) j_4) L_X4_62 (preRS hN hP [] rfl) rfl ⟨Nat.le_of_ble_eq_true rfl, Nat.le_of_ble_eq_true rfl⟩ hl.1 (Nat.le_of_ble_eq_true rfl) dX4_bestReader_22 ⟨Nat.le_of_ble_eq_true rfl, Nat.le_of_ble_eq_true rfl⟩) (fun r_14 h_15 => ?_)
        rcases h_15 with ⟨rfl, h_16⟩ | ⟨rfl, h_16⟩
        · rw [bit_wb _ (by omega)] at h_16
          refine lv_if_eq (tgt := 32) hx hb dX4_bestReader_25 (by decide) (fun h9 => absurd h9 (by decide)) (fun _ => ?_)
          refine lv_iconst (v := (-1)) hx hb dX4_bestReader_28 (by decide) ?_
          refine lv_goto (tgt := 39) hx hb dX4_bestReader_29 (by decide) ?_
          refine lv_istore (lv' := [(5, .int (-1)), (4, .int (nI j_4)), (3, .int xM_6), (2, .int xB_5), (0, .ref qt), (1, .int (nI kB))]) hx hb dX4_bestReader_39 hl (by decide) rfl (fun ls => ?_)
          clear hl
          intro hl
          refine lv_iload hx hb dX4_bestReader_41 (lv_at hl 0 rfl) ?_
          refine lv_iconst (v := (-1)) hx hb dX4_bestReader_43 (by decide) ?_
          refine lv_icmp_eq (tgt := 86) hx hb dX4_bestReader_44 (by decide) (fun _ => ?_) (fun h9 => absurd (by decide) h9)
          refine lv_iinc (v := nI (j_4 + 1)) (lv' := [(4, .int (nI (j_4 + 1))), (5, .int (-1)), (3, .int xM_6), (2, .int xB_5), (0, .ref qt), (1, .int (nI kB))]) hx hb dX4_bestReader_86 hl (k := 1) rfl (nI_1 _) (by decide) rfl (fun ls => ?_)
          clear hl
          intro hl
          refine lv_goto (tgt := 7) hx hb dX4_bestReader_89 (by decide) ?_
          exact ih_3 (j_4 + 1) xB_5 xM_6 (by omega) (by omega) (by rw [br_skip (fun q => by rw [h_16] at q; exact absurd q.1 (by decide))]; exact hxB_8) (by rw [br_skip (fun q => by rw [h_16] at q; exact absurd q.1 (by decide))]; exact hxM_9) _ (lv_sub hl [0, 2, 3, 4, 5] rfl)
        · rw [bit_wb _ (by omega)] at h_16
          refine lv_if_eq (tgt := 32) hx hb dX4_bestReader_25 (by decide) (fun _ => ?_) (fun h9 => absurd (by decide) h9)
          refine lv_aload_n hx hb dX4_bestReader_32 rfl (lv_at hl 3 rfl) ?_
          refine lv_iload hx hb dX4_bestReader_33 (lv_at hl 0 rfl) ?_
          refine lv_iload_n hx hb dX4_bestReader_35 rfl (lv_at hl 4 rfl) ?_
          refine kRi (rV (As := [.int (nI j_4), .int (nI kB)]) (rest := []) (b := qt) ⟨hx, hb, hml, hown, hts⟩ (c_X4_wouldKnow l G cy qt tA qtw qtn qtg qta qtr qtm qtt qts j_4 kB (by omega) hJ) L_X4_91 (preRV (q := (RX4, TX4, 13)) hN hP [0, 2, 3, 5, 8] rfl 0 3 rfl rfl) rfl ⟨Nat.le_of_ble_eq_true rfl, Nat.le_of_ble_eq_true rfl⟩ hl.1 (Nat.le_of_ble_eq_true rfl) dX4_bestReader_36 ⟨Nat.le_of_ble_eq_true rfl, Nat.le_of_ble_eq_true rfl⟩) (fun r_20 h_21 => ?_)
          subst h_21
          refine lv_istore (lv' := [(5, .int (zwk tA j_4 kB)), (4, .int (nI j_4)), (3, .int xM_6), (2, .int xB_5), (0, .ref qt), (1, .int (nI kB))]) hx hb dX4_bestReader_39 hl (by decide) rfl (fun ls => ?_)
          clear hl
          intro hl
          refine lv_iload hx hb dX4_bestReader_41 (lv_at hl 0 rfl) ?_
          refine lv_iconst (v := (-1)) hx hb dX4_bestReader_43 (by decide) ?_
          refine lv_icmp_eq (tgt := 86) hx hb dX4_bestReader_44 (by decide) (fun c_22 => ?_) (fun c_22 => ?_)
          · refine lv_iinc (v := nI (j_4 + 1)) (lv' := [(4, .int (nI (j_4 + 1))), (5, .int (zwk tA j_4 kB)), (3, .int xM_6), (2, .int xB_5), (0, .ref qt), (1, .int (nI kB))]) hx hb dX4_bestReader_86 hl (k := 1) rfl (nI_1 _) (by decide) rfl (fun ls => ?_)
            clear hl
            intro hl
            refine lv_goto (tgt := 7) hx hb dX4_bestReader_89 (by decide) ?_
            exact ih_3 (j_4 + 1) xB_5 xM_6 (by omega) (by omega) (by rw [br_skip (fun q => q.2.1 c_22)]; exact hxB_8) (by rw [br_skip (fun q => q.2.1 c_22)]; exact hxM_9) _ (lv_sub hl [0, 2, 3, 4, 5] rfl)
          · refine lv_iload_n hx hb dX4_bestReader_47 rfl (lv_at hl 3 rfl) ?_
            refine lv_iconst (v := (-1)) hx hb dX4_bestReader_48 (by decide) ?_
            refine lv_icmp_eq (tgt := 80) hx hb dX4_bestReader_49 (by decide) (fun c_23 => ?_) (fun c_23 => ?_)
            · refine lv_iload hx hb dX4_bestReader_80 (lv_at hl 1 rfl) ?_
              refine lv_istore_n (lv' := [(2, .int (nI j_4)), (5, .int (zwk tA j_4 kB)), (4, .int (nI j_4)), (3, .int xM_6), (0, .ref qt), (1, .int (nI kB))]) hx hb dX4_bestReader_82 rfl hl (by decide) rfl (fun ls => ?_)
              clear hl
              intro hl
              refine lv_iload hx hb dX4_bestReader_83 (lv_at hl 1 rfl) ?_
              refine lv_istore_n (lv' := [(3, .int (zwk tA j_4 kB)), (2, .int (nI j_4)), (5, .int (zwk tA j_4 kB)), (4, .int (nI j_4)), (0, .ref qt), (1, .int (nI kB))]) hx hb dX4_bestReader_85 rfl hl (by decide) rfl (fun ls => ?_)
              clear hl
              intro hl
              refine lv_iinc (v := nI (j_4 + 1)) (lv' := [(4, .int (nI (j_4 + 1))), (3, .int (zwk tA j_4 kB)), (2, .int (nI j_4)), (5, .int (zwk tA j_4 kB)), (0, .ref qt), (1, .int (nI kB))]) hx hb dX4_bestReader_86 hl (k := 3) rfl (nI_1 _) (by decide) rfl (fun ls => ?_)
              clear hl
              intro hl
              refine lv_goto (tgt := 7) hx hb dX4_bestReader_89 (by decide) ?_
              exact ih_3 (j_4 + 1) (nI j_4) (zwk tA j_4 kB) (by omega) (by omega) (by rw [br_upd ⟨h_16, c_22, Or.inl (hxB_8 ▸ c_23)⟩]) (by rw [br_upd ⟨h_16, c_22, Or.inl (hxB_8 ▸ c_23)⟩]) _ (lv_sub hl [0, 1, 2, 4, 5] rfl)
            · refine lv_iload hx hb dX4_bestReader_52 (lv_at hl 0 rfl) ?_
              refine lv_iload_n hx hb dX4_bestReader_54 rfl (lv_at hl 2 rfl) ?_
              refine lv_icmp_gt (tgt := 80) hx hb dX4_bestReader_55 (by decide) (fun c_24 => ?_) (fun c_24 => ?_)
              · refine lv_iload hx hb dX4_bestReader_80 (lv_at hl 1 rfl) ?_
                refine lv_istore_n (lv' := [(2, .int (nI j_4)), (5, .int (zwk tA j_4 kB)), (4, .int (nI j_4)), (3, .int xM_6), (0, .ref qt), (1, .int (nI kB))]) hx hb dX4_bestReader_82 rfl hl (by decide) rfl (fun ls => ?_)
                clear hl
                intro hl
                refine lv_iload hx hb dX4_bestReader_83 (lv_at hl 1 rfl) ?_
                refine lv_istore_n (lv' := [(3, .int (zwk tA j_4 kB)), (2, .int (nI j_4)), (5, .int (zwk tA j_4 kB)), (4, .int (nI j_4)), (0, .ref qt), (1, .int (nI kB))]) hx hb dX4_bestReader_85 rfl hl (by decide) rfl (fun ls => ?_)
                clear hl
                intro hl
                refine lv_iinc (v := nI (j_4 + 1)) (lv' := [(4, .int (nI (j_4 + 1))), (3, .int (zwk tA j_4 kB)), (2, .int (nI j_4)), (5, .int (zwk tA j_4 kB)), (0, .ref qt), (1, .int (nI kB))]) hx hb dX4_bestReader_86 hl (k := 3) rfl (nI_1 _) (by decide) rfl (fun ls => ?_)
                clear hl
                intro hl
                refine lv_goto (tgt := 7) hx hb dX4_bestReader_89 (by decide) ?_
                exact ih_3 (j_4 + 1) (nI j_4) (zwk tA j_4 kB) (by omega) (by omega) (by rw [br_upd ⟨h_16, c_22, Or.inr (Or.inl (hxM_9 ▸ c_24))⟩]) (by rw [br_upd ⟨h_16, c_22, Or.inr (Or.inl (hxM_9 ▸ c_24))⟩]) _ (lv_sub hl [0, 1, 2, 4, 5] rfl)
              · refine lv_iload hx hb dX4_bestReader_58 (lv_at hl 0 rfl) ?_
                refine lv_iload_n hx hb dX4_bestReader_60 rfl (lv_at hl 2 rfl) ?_
                refine lv_icmp_ne (tgt := 86) hx hb dX4_bestReader_61 (by decide) (fun c_25 => ?_) (fun c_25 => ?_)
                · refine lv_iinc (v := nI (j_4 + 1)) (lv' := [(4, .int (nI (j_4 + 1))), (5, .int (zwk tA j_4 kB)), (3, .int xM_6), (2, .int xB_5), (0, .ref qt), (1, .int (nI kB))]) hx hb dX4_bestReader_86 hl (k := 1) rfl (nI_1 _) (by decide) rfl (fun ls => ?_)
                  clear hl
                  intro hl
                  refine lv_goto (tgt := 7) hx hb dX4_bestReader_89 (by decide) ?_
                  exact ih_3 (j_4 + 1) xB_5 xM_6 (by omega) (by omega) (by rw [br_skip (fun q => q.2.2.elim (fun r => c_23 (hxB_8.trans r)) (fun r => r.elim (fun r => c_24 (hxM_9 ▸ r)) (fun r => c_25 (r.1.trans hxM_9.symm))))]; exact hxB_8) (by rw [br_skip (fun q => q.2.2.elim (fun r => c_23 (hxB_8.trans r)) (fun r => r.elim (fun r => c_24 (hxM_9 ▸ r)) (fun r => c_25 (r.1.trans hxM_9.symm))))]; exact hxM_9) _ (lv_sub hl [0, 2, 3, 4, 5] rfl)
                · refine lv_aload_n hx hb dX4_bestReader_64 rfl (lv_at hl 4 rfl) ?_
                  refine va_get (D := G) (ci := 3) (v := .ref qta) (C := RX4) (T := TX4) (N := 13) hx hb hts iX_X4 hown hK hP 0 rfl rfl 8 (by decide) (hts _ m_t56) (fun _ h9 => h9) rfl dX4_bestReader_65 ?_
                  refine lv_iload hx hb dX4_bestReader_68 (lv_at hl 1 rfl) ?_
                  refine va_iald hx hb hK hP 4 0 rfl rfl (in8 (by omega)) dX4_bestReader_70 ?_
                  refine lv_seti (v := (T_ag tA) j_4) (congrArg (T_ag tA) (cl8 (by omega))) ?_
                  refine lv_aload_n hx hb dX4_bestReader_71 rfl (lv_at hl 4 rfl) ?_
                  refine va_get (D := G) (ci := 3) (v := .ref qta) (C := RX4) (T := TX4) (N := 13) hx hb hts iX_X4 hown hK hP 0 rfl rfl 8 (by decide) (hts _ m_t56) (fun _ h9 => h9) rfl dX4_bestReader_72 ?_
                  refine lv_iload_n hx hb dX4_bestReader_75 rfl (lv_at hl 3 rfl) ?_
                  obtain ⟨k_26, hk_27, ek_28⟩ : ∃ k : Nat, k < j_4 ∧ xB_5 = nI k := by
                    rcases br_in tA kB j_4 with q | ⟨k, h1, h2⟩
                    · exact absurd (hxB_8.trans q) c_23
                    · exact ⟨k, h1, hxB_8.trans h2⟩
                  refine lv_seti (v := nI k_26) ek_28 ?_
                  refine va_iald hx hb hK hP 4 0 rfl rfl (in8 (by omega)) dX4_bestReader_76 ?_
                  refine lv_seti (v := (T_ag tA) k_26) (congrArg (T_ag tA) (cl8 (by omega))) ?_
                  refine lv_icmp_ge (tgt := 86) hx hb dX4_bestReader_77 (by decide) (fun c_29 => ?_) (fun c_29 => ?_)
                  · refine lv_iinc (v := nI (j_4 + 1)) (lv' := [(4, .int (nI (j_4 + 1))), (5, .int (zwk tA j_4 kB)), (3, .int xM_6), (2, .int xB_5), (0, .ref qt), (1, .int (nI kB))]) hx hb dX4_bestReader_86 hl (k := 1) rfl (nI_1 _) (by decide) rfl (fun ls => ?_)
                    clear hl
                    intro hl
                    refine lv_goto (tgt := 7) hx hb dX4_bestReader_89 (by decide) ?_
                    exact ih_3 (j_4 + 1) xB_5 xM_6 (by omega) (by omega) (by rw [br_skip (fun q => q.2.2.elim (fun r => c_23 (hxB_8.trans r)) (fun r => r.elim (fun r => c_24 (hxM_9 ▸ r)) (fun r => by rw [← hxB_8, ek_28, nI_clamp (by omega)] at r; exact Int32.not_lt.mpr c_29 r.2)))]; exact hxB_8) (by rw [br_skip (fun q => q.2.2.elim (fun r => c_23 (hxB_8.trans r)) (fun r => r.elim (fun r => c_24 (hxM_9 ▸ r)) (fun r => by rw [← hxB_8, ek_28, nI_clamp (by omega)] at r; exact Int32.not_lt.mpr c_29 r.2)))]; exact hxM_9) _ (lv_sub hl [0, 2, 3, 4, 5] rfl)
                  · refine lv_iload hx hb dX4_bestReader_80 (lv_at hl 1 rfl) ?_
                    refine lv_istore_n (lv' := [(2, .int (nI j_4)), (5, .int (zwk tA j_4 kB)), (4, .int (nI j_4)), (3, .int xM_6), (0, .ref qt), (1, .int (nI kB))]) hx hb dX4_bestReader_82 rfl hl (by decide) rfl (fun ls => ?_)
                    clear hl
                    intro hl
                    refine lv_iload hx hb dX4_bestReader_83 (lv_at hl 1 rfl) ?_
                    refine lv_istore_n (lv' := [(3, .int (zwk tA j_4 kB)), (2, .int (nI j_4)), (5, .int (zwk tA j_4 kB)), (4, .int (nI j_4)), (0, .ref qt), (1, .int (nI kB))]) hx hb dX4_bestReader_85 rfl hl (by decide) rfl (fun ls => ?_)
                    clear hl
                    intro hl
                    refine lv_iinc (v := nI (j_4 + 1)) (lv' := [(4, .int (nI (j_4 + 1))), (3, .int (zwk tA j_4 kB)), (2, .int (nI j_4)), (5, .int (zwk tA j_4 kB)), (0, .ref qt), (1, .int (nI kB))]) hx hb dX4_bestReader_86 hl (k := 3) rfl (nI_1 _) (by decide) rfl (fun ls => ?_)
                    clear hl
                    intro hl
                    refine lv_goto (tgt := 7) hx hb dX4_bestReader_89 (by decide) ?_
                    exact ih_3 (j_4 + 1) (nI j_4) (zwk tA j_4 kB) (by omega) (by omega) (by rw [br_upd ⟨h_16, c_22, Or.inr (Or.inr ⟨c_25.trans hxM_9, by rw [← hxB_8, ek_28, nI_clamp (by omega)]; exact Int32.not_le.mp c_29⟩)⟩]) (by rw [br_upd ⟨h_16, c_22, Or.inr (Or.inr ⟨c_25.trans hxM_9, by rw [← hxB_8, ek_28, nI_clamp (by omega)]; exact Int32.not_le.mp c_29⟩)⟩]) _ (lv_sub hl [0, 1, 2, 4, 5] rfl)
  exact lp_1 ((8 - 0) + 1) 0 (-1) 0 (Nat.lt_succ_self _) (Nat.zero_le _) rfl rfl ls (lv_sub hl [0, 1, 2, 3, 4] rfl)
set_option maxHeartbeats 4000000 in
set_option maxRecDepth 100000 in
theorem c_X4_dearestUnread (l : Launch) (G : va_G) (cy : Nat → ClassId) (qt : Nat) (tA : TA) (qtw : Nat) (qtn : Nat) (qtg : Nat) (qta : Nat) (qtr : Nat) (qtm : Nat) (qtt : Nat) (qts : Nat)  (hB : T_nb tA ≤ 8) : MR l yX4_dearestUnread cX4_dearestUnread 3 (some .int) 2 G cy [zzO qt 3 [.int (nI (T_nb tA)), .int (nI (T_np tA)), .int (wb (T_wh tA)), .int (wb (T_gn tA)), .int (T_sd tA), .ref qtw, .ref qtn, .ref qtg, .ref qta, .ref qtr, .ref qtm, .ref qtt, .ref qts], zzI cy qtw 8 (T_wo tA), zzI cy qtn 8 (T_ne tA), zzI cy qtg 8 (T_go tA), zzI cy qta 8 (T_ag tA), zzI cy qtr 8 (T_re tA), zzI cy qtm 8 (T_me tA), zzI cy qtt 8 (T_te tA), zzI cy qts 64 (shF (T_kn tA))] [.ref qt] (vp_Si (fun r => (r = (zdu tA)))) := by
  refine enR RX4 (by decide) rfl (Nat.le_of_ble_eq_true rfl) (fun p e s m below meth c ls hx hb hml hown hts hr hlocks hP hN hl => ?_)
  have hK := hN.1
  replace hl : lv_has ls 3 [(0, .ref qt)] := hl
  refine lv_iconst (v := (-1)) hx hb dX4_dearestUnread_0 (by decide) ?_
  refine lv_istore_n (lv' := [(1, .int (-1)), (0, .ref qt)]) hx hb dX4_dearestUnread_1 rfl hl (by decide) rfl (fun ls => ?_)
  clear hl
  intro hl
  refine lv_iconst (v := 0) hx hb dX4_dearestUnread_2 (by decide) ?_
  refine lv_istore_n (lv' := [(2, .int 0), (1, .int (-1)), (0, .ref qt)]) hx hb dX4_dearestUnread_3 rfl hl (by decide) rfl (fun ls => ?_)
  clear hl
  intro hl
  have lp_1 : ∀ (n_2 : Nat) (j_4 : Nat) (xB_5 : Int32), 8 - j_4 < n_2 → j_4 ≤ T_nb tA → xB_5 = duF tA j_4 → ∀ (ls : Array Slot), lv_has ls 3 [(2, .int (nI j_4)), (1, .int xB_5), (0, .ref qt)] → W p l e (Rm 2 0 0) s m (List.toArray (α := Value) [.ref qt]) below meth c s.heap [] 0 0 (MQ below (vp_Si (fun r => (r = (zdu tA)))) (List.toArray (α := Value) [.ref qt]) s 0 0 (fun _ => False)) (F0 m 4 ls []) := by
    intro n_2
    induction n_2 with
    | zero => intro j_4 xB_5 hm9; exact absurd hm9 (Nat.not_lt_zero _)
    | succ n_2 ih_3 =>
      intro j_4 xB_5 hm_8 hj_6 hxB_7 ls hl
      refine lv_iload_n hx hb dX4_dearestUnread_4 rfl (lv_at hl 0 rfl) ?_
      refine lv_aload_n hx hb dX4_dearestUnread_5 rfl (lv_at hl 2 rfl) ?_
      refine va_get (D := G) (ci := 3) (v := .int (nI (T_nb tA))) (C := RX4) (T := TX4) (N := 13) hx hb hts iX_X4 hown hK hP 0 rfl rfl 0 (by decide) (hts _ m_t29) (fun _ h9 => h9) rfl dX4_dearestUnread_6 ?_
      refine lv_icmp_ge (tgt := 51) hx hb dX4_dearestUnread_9 (by decide) (fun c_9 => ?_) (fun c_9 => ?_)
      · have hlt_10 : j_4 = T_nb tA := Nat.le_antisymm (by omega) (lp_ge rfl rfl (by omega) (by omega) c_9)
        refine lv_iload_n hx hb dX4_dearestUnread_51 rfl (lv_at hl 1 rfl) ?_
        exact endR hx hb hr hlocks rfl (by rw [hxB_7, hlt_10]; rfl) dX4_dearestUnread_52
      · have hlt_11 : j_4 < T_nb tA := lp_lt rfl rfl (by omega) (by omega) c_9
        refine lv_aload_n hx hb dX4_dearestUnread_12 rfl (lv_at hl 2 rfl) ?_
        refine va_get (D := G) (ci := 3) (v := .int (wb (T_wh tA))) (C := RX4) (T := TX4) (N := 13) hx hb hts iX_X4 hown hK hP 0 rfl rfl 2 (by decide) (hts _ m_t39) (fun _ h9 => h9) rfl dX4_dearestUnread_13 ?_
        refine lv_iload_n hx hb dX4_dearestUnread_16 rfl (lv_at hl 0 rfl) ?_
        refine kRi (rSN (As := [.int (wb (T_wh tA)), .int (nI j_4)]) (rest := []) ⟨hx, hb, hml, hown, hts⟩ hN (c_X5_has l G cy (wb (T_wh tA)) j_4) L_X4_62 (preRS hN hP [] rfl) rfl ⟨Nat.le_of_ble_eq_true rfl, Nat.le_of_ble_eq_true rfl⟩ hl.1 (Nat.le_of_ble_eq_true rfl) dX4_dearestUnread_17 ⟨Nat.le_of_ble_eq_true rfl, Nat.le_of_ble_eq_true rfl⟩) (fun r_12 h_13 => ?_)
        rcases h_13 with ⟨rfl, h_14⟩ | ⟨rfl, h_14⟩
        · rw [bit_wb _ (by omega)] at h_14
          refine lv_if_ne (tgt := 45) hx hb dX4_dearestUnread_20 (by decide) (fun _ => ?_) (fun h9 => absurd h9 (by decide))
          refine lv_iinc (v := nI (j_4 + 1)) (lv' := [(2, .int (nI (j_4 + 1))), (1, .int xB_5), (0, .ref qt)]) hx hb dX4_dearestUnread_45 hl (k := 0) rfl (nI_1 _) (by decide) rfl (fun ls => ?_)
          clear hl
          intro hl
          refine lv_goto (tgt := 4) hx hb dX4_dearestUnread_48 (by decide) ?_
          exact ih_3 (j_4 + 1) xB_5 (by omega) (by omega) (by rw [du_skip (fun q => by rw [h_14] at q; exact absurd q.1 (by decide))]; exact hxB_7) _ (lv_sub hl [0, 1, 2] rfl)
        · rw [bit_wb _ (by omega)] at h_14
          refine lv_if_ne (tgt := 45) hx hb dX4_dearestUnread_20 (by decide) (fun h9 => absurd (by decide) h9) (fun _ => ?_)
          refine lv_iload_n hx hb dX4_dearestUnread_23 rfl (lv_at hl 1 rfl) ?_
          refine lv_iconst (v := (-1)) hx hb dX4_dearestUnread_24 (by decide) ?_
          refine lv_icmp_eq (tgt := 43) hx hb dX4_dearestUnread_25 (by decide) (fun c_17 => ?_) (fun c_17 => ?_)
          · refine lv_iload_n hx hb dX4_dearestUnread_43 rfl (lv_at hl 0 rfl) ?_
            refine lv_istore_n (lv' := [(1, .int (nI j_4)), (2, .int (nI j_4)), (0, .ref qt)]) hx hb dX4_dearestUnread_44 rfl hl (by decide) rfl (fun ls => ?_)
            clear hl
            intro hl
            refine lv_iinc (v := nI (j_4 + 1)) (lv' := [(2, .int (nI (j_4 + 1))), (1, .int (nI j_4)), (0, .ref qt)]) hx hb dX4_dearestUnread_45 hl (k := 1) rfl (nI_1 _) (by decide) rfl (fun ls => ?_)
            clear hl
            intro hl
            refine lv_goto (tgt := 4) hx hb dX4_dearestUnread_48 (by decide) ?_
            exact ih_3 (j_4 + 1) (nI j_4) (by omega) (by omega) (by rw [du_upd ⟨h_14, Or.inl (hxB_7 ▸ c_17)⟩]) _ (lv_sub hl [0, 1, 2] rfl)
          · refine lv_aload_n hx hb dX4_dearestUnread_28 rfl (lv_at hl 2 rfl) ?_
            refine va_get (D := G) (ci := 3) (v := .ref qtw) (C := RX4) (T := TX4) (N := 13) hx hb hts iX_X4 hown hK hP 0 rfl rfl 5 (by decide) (hts _ m_t48) (fun _ h9 => h9) rfl dX4_dearestUnread_29 ?_
            refine lv_iload_n hx hb dX4_dearestUnread_32 rfl (lv_at hl 0 rfl) ?_
            refine va_iald hx hb hK hP 1 0 rfl rfl (in8 (by omega)) dX4_dearestUnread_33 ?_
            refine lv_seti (v := (T_wo tA) j_4) (congrArg (T_wo tA) (cl8 (by omega))) ?_
            refine lv_aload_n hx hb dX4_dearestUnread_34 rfl (lv_at hl 2 rfl) ?_
            refine va_get (D := G) (ci := 3) (v := .ref qtw) (C := RX4) (T := TX4) (N := 13) hx hb hts iX_X4 hown hK hP 0 rfl rfl 5 (by decide) (hts _ m_t48) (fun _ h9 => h9) rfl dX4_dearestUnread_35 ?_
            refine lv_iload_n hx hb dX4_dearestUnread_38 rfl (lv_at hl 1 rfl) ?_
            obtain ⟨k_18, hk_19, ek_20⟩ : ∃ k : Nat, k < j_4 ∧ xB_5 = nI k := by
              rcases du_in tA j_4 with q | ⟨k, h1, h2⟩
              · exact absurd (hxB_7.trans q) c_17
              · exact ⟨k, h1, hxB_7.trans h2⟩
            refine lv_seti (v := nI k_18) ek_20 ?_
            refine va_iald hx hb hK hP 1 0 rfl rfl (in8 (by omega)) dX4_dearestUnread_39 ?_
            refine lv_seti (v := (T_wo tA) k_18) (congrArg (T_wo tA) (cl8 (by omega))) ?_
            refine lv_icmp_le (tgt := 45) hx hb dX4_dearestUnread_40 (by decide) (fun c_21 => ?_) (fun c_21 => ?_)
            · refine lv_iinc (v := nI (j_4 + 1)) (lv' := [(2, .int (nI (j_4 + 1))), (1, .int xB_5), (0, .ref qt)]) hx hb dX4_dearestUnread_45 hl (k := 0) rfl (nI_1 _) (by decide) rfl (fun ls => ?_)
              clear hl
              intro hl
              refine lv_goto (tgt := 4) hx hb dX4_dearestUnread_48 (by decide) ?_
              exact ih_3 (j_4 + 1) xB_5 (by omega) (by omega) (by rw [du_skip (fun q => q.2.elim (fun r => c_17 (hxB_7.trans r)) (fun r => by rw [← hxB_7, ek_20, nI_clamp (by omega)] at r; exact Int32.not_lt.mpr c_21 r))]; exact hxB_7) _ (lv_sub hl [0, 1, 2] rfl)
            · refine lv_iload_n hx hb dX4_dearestUnread_43 rfl (lv_at hl 0 rfl) ?_
              refine lv_istore_n (lv' := [(1, .int (nI j_4)), (2, .int (nI j_4)), (0, .ref qt)]) hx hb dX4_dearestUnread_44 rfl hl (by decide) rfl (fun ls => ?_)
              clear hl
              intro hl
              refine lv_iinc (v := nI (j_4 + 1)) (lv' := [(2, .int (nI (j_4 + 1))), (1, .int (nI j_4)), (0, .ref qt)]) hx hb dX4_dearestUnread_45 hl (k := 1) rfl (nI_1 _) (by decide) rfl (fun ls => ?_)
              clear hl
              intro hl
              refine lv_goto (tgt := 4) hx hb dX4_dearestUnread_48 (by decide) ?_
              exact ih_3 (j_4 + 1) (nI j_4) (by omega) (by omega) (by rw [du_upd ⟨h_14, Or.inr (by rw [← hxB_7, ek_20, nI_clamp (by omega)]; exact Int32.not_le.mp c_21)⟩]) _ (lv_sub hl [0, 1, 2] rfl)
  exact lp_1 ((8 - 0) + 1) 0 (-1) (Nat.lt_succ_self _) (Nat.zero_le _) rfl ls (lv_sub hl [0, 1, 2] rfl)
set_option maxHeartbeats 4000000 in
set_option maxRecDepth 100000 in
theorem c_X4_youngestBut (l : Launch) (G : va_G) (cy : Nat → ClassId) (qt : Nat) (tA : TA) (qtw : Nat) (qtn : Nat) (qtg : Nat) (qta : Nat) (qtr : Nat) (qtm : Nat) (qtt : Nat) (qts : Nat) (iO : Int32)  (hPp : T_np tA ≤ 8) : MR l yX4_youngestBut cX4_youngestBut 4 (some .int) 2 G cy [zzO qt 3 [.int (nI (T_nb tA)), .int (nI (T_np tA)), .int (wb (T_wh tA)), .int (wb (T_gn tA)), .int (T_sd tA), .ref qtw, .ref qtn, .ref qtg, .ref qta, .ref qtr, .ref qtm, .ref qtt, .ref qts], zzI cy qtw 8 (T_wo tA), zzI cy qtn 8 (T_ne tA), zzI cy qtg 8 (T_go tA), zzI cy qta 8 (T_ag tA), zzI cy qtr 8 (T_re tA), zzI cy qtm 8 (T_me tA), zzI cy qtt 8 (T_te tA), zzI cy qts 64 (shF (T_kn tA))] [.ref qt, .int iO] (vp_Si (fun r => (r = (zyb tA iO)))) := by
  refine enR RX4 (by decide) rfl (Nat.le_of_ble_eq_true rfl) (fun p e s m below meth c ls hx hb hml hown hts hr hlocks hP hN hl => ?_)
  have hK := hN.1
  replace hl : lv_has ls 4 [(0, .ref qt), (1, .int iO)] := hl
  refine lv_iconst (v := (-1)) hx hb dX4_youngestBut_0 (by decide) ?_
  refine lv_istore_n (lv' := [(2, .int (-1)), (0, .ref qt), (1, .int iO)]) hx hb dX4_youngestBut_1 rfl hl (by decide) rfl (fun ls => ?_)
  clear hl
  intro hl
  refine lv_iconst (v := 0) hx hb dX4_youngestBut_2 (by decide) ?_
  refine lv_istore_n (lv' := [(3, .int 0), (2, .int (-1)), (0, .ref qt), (1, .int iO)]) hx hb dX4_youngestBut_3 rfl hl (by decide) rfl (fun ls => ?_)
  clear hl
  intro hl
  have lp_1 : ∀ (n_2 : Nat) (j_4 : Nat) (xB_5 : Int32), 8 - j_4 < n_2 → j_4 ≤ T_np tA → xB_5 = ybF tA iO j_4 → ∀ (ls : Array Slot), lv_has ls 4 [(3, .int (nI j_4)), (2, .int xB_5), (0, .ref qt), (1, .int iO)] → W p l e (Rm 2 0 0) s m (List.toArray (α := Value) [.ref qt, .int iO]) below meth c s.heap [] 0 0 (MQ below (vp_Si (fun r => (r = (zyb tA iO)))) (List.toArray (α := Value) [.ref qt, .int iO]) s 0 0 (fun _ => False)) (F0 m 4 ls []) := by
    intro n_2
    induction n_2 with
    | zero => intro j_4 xB_5 hm9; exact absurd hm9 (Nat.not_lt_zero _)
    | succ n_2 ih_3 =>
      intro j_4 xB_5 hm_8 hj_6 hxB_7 ls hl
      refine lv_iload_n hx hb dX4_youngestBut_4 rfl (lv_at hl 0 rfl) ?_
      refine lv_aload_n hx hb dX4_youngestBut_5 rfl (lv_at hl 2 rfl) ?_
      refine va_get (D := G) (ci := 3) (v := .int (nI (T_np tA))) (C := RX4) (T := TX4) (N := 13) hx hb hts iX_X4 hown hK hP 0 rfl rfl 1 (by decide) (hts _ m_t34) (fun _ h9 => h9) rfl dX4_youngestBut_6 ?_
      refine lv_icmp_ge (tgt := 56) hx hb dX4_youngestBut_9 (by decide) (fun c_9 => ?_) (fun c_9 => ?_)
      · have hlt_10 : j_4 = T_np tA := Nat.le_antisymm (by omega) (lp_ge rfl rfl (by omega) (by omega) c_9)
        refine lv_iload_n hx hb dX4_youngestBut_56 rfl (lv_at hl 1 rfl) ?_
        exact endR hx hb hr hlocks rfl (by rw [hxB_7, hlt_10]; rfl) dX4_youngestBut_57
      · have hlt_11 : j_4 < T_np tA := lp_lt rfl rfl (by omega) (by omega) c_9
        refine lv_iload_n hx hb dX4_youngestBut_12 rfl (lv_at hl 0 rfl) ?_
        refine lv_iload_n hx hb dX4_youngestBut_13 rfl (lv_at hl 3 rfl) ?_
        refine lv_icmp_eq (tgt := 50) hx hb dX4_youngestBut_14 (by decide) (fun c_12 => ?_) (fun c_12 => ?_)
        · refine lv_iinc (v := nI (j_4 + 1)) (lv' := [(3, .int (nI (j_4 + 1))), (2, .int xB_5), (0, .ref qt), (1, .int iO)]) hx hb dX4_youngestBut_50 hl (k := 0) rfl (nI_1 _) (by decide) rfl (fun ls => ?_)
          clear hl
          intro hl
          refine lv_goto (tgt := 4) hx hb dX4_youngestBut_53 (by decide) ?_
          exact ih_3 (j_4 + 1) xB_5 (by omega) (by omega) (by rw [yb_skip (fun q => q.1 c_12)]; exact hxB_7) _ (lv_sub hl [0, 1, 2, 3] rfl)
        · refine lv_aload_n hx hb dX4_youngestBut_17 rfl (lv_at hl 2 rfl) ?_
          refine va_get (D := G) (ci := 3) (v := .int (wb (T_gn tA))) (C := RX4) (T := TX4) (N := 13) hx hb hts iX_X4 hown hK hP 0 rfl rfl 3 (by decide) (hts _ m_t43) (fun _ h9 => h9) rfl dX4_youngestBut_18 ?_
          refine lv_iload_n hx hb dX4_youngestBut_21 rfl (lv_at hl 0 rfl) ?_
          refine kRi (rSN (As := [.int (wb (T_gn tA)), .int (nI j_4)]) (rest := []) ⟨hx, hb, hml, hown, hts⟩ hN (c_X5_has l G cy (wb (T_gn tA)) j_4) L_X4_62 (preRS hN hP [] rfl) rfl ⟨Nat.le_of_ble_eq_true rfl, Nat.le_of_ble_eq_true rfl⟩ hl.1 (Nat.le_of_ble_eq_true rfl) dX4_youngestBut_22 ⟨Nat.le_of_ble_eq_true rfl, Nat.le_of_ble_eq_true rfl⟩) (fun r_13 h_14 => ?_)
          rcases h_14 with ⟨rfl, h_15⟩ | ⟨rfl, h_15⟩
          · rw [bit_wb _ (by omega)] at h_15
            refine lv_if_ne (tgt := 50) hx hb dX4_youngestBut_25 (by decide) (fun _ => ?_) (fun h9 => absurd h9 (by decide))
            refine lv_iinc (v := nI (j_4 + 1)) (lv' := [(3, .int (nI (j_4 + 1))), (2, .int xB_5), (0, .ref qt), (1, .int iO)]) hx hb dX4_youngestBut_50 hl (k := 0) rfl (nI_1 _) (by decide) rfl (fun ls => ?_)
            clear hl
            intro hl
            refine lv_goto (tgt := 4) hx hb dX4_youngestBut_53 (by decide) ?_
            exact ih_3 (j_4 + 1) xB_5 (by omega) (by omega) (by rw [yb_skip (fun q => by rw [h_15] at q; exact absurd q.2.1 (by decide))]; exact hxB_7) _ (lv_sub hl [0, 1, 2, 3] rfl)
          · rw [bit_wb _ (by omega)] at h_15
            refine lv_if_ne (tgt := 50) hx hb dX4_youngestBut_25 (by decide) (fun h9 => absurd (by decide) h9) (fun _ => ?_)
            refine lv_iload_n hx hb dX4_youngestBut_28 rfl (lv_at hl 1 rfl) ?_
            refine lv_iconst (v := (-1)) hx hb dX4_youngestBut_29 (by decide) ?_
            refine lv_icmp_eq (tgt := 48) hx hb dX4_youngestBut_30 (by decide) (fun c_18 => ?_) (fun c_18 => ?_)
            · refine lv_iload_n hx hb dX4_youngestBut_48 rfl (lv_at hl 0 rfl) ?_
              refine lv_istore_n (lv' := [(2, .int (nI j_4)), (3, .int (nI j_4)), (0, .ref qt), (1, .int iO)]) hx hb dX4_youngestBut_49 rfl hl (by decide) rfl (fun ls => ?_)
              clear hl
              intro hl
              refine lv_iinc (v := nI (j_4 + 1)) (lv' := [(3, .int (nI (j_4 + 1))), (2, .int (nI j_4)), (0, .ref qt), (1, .int iO)]) hx hb dX4_youngestBut_50 hl (k := 1) rfl (nI_1 _) (by decide) rfl (fun ls => ?_)
              clear hl
              intro hl
              refine lv_goto (tgt := 4) hx hb dX4_youngestBut_53 (by decide) ?_
              exact ih_3 (j_4 + 1) (nI j_4) (by omega) (by omega) (by rw [yb_upd ⟨c_12, h_15, Or.inl (hxB_7 ▸ c_18)⟩]) _ (lv_sub hl [0, 1, 2, 3] rfl)
            · refine lv_aload_n hx hb dX4_youngestBut_33 rfl (lv_at hl 2 rfl) ?_
              refine va_get (D := G) (ci := 3) (v := .ref qta) (C := RX4) (T := TX4) (N := 13) hx hb hts iX_X4 hown hK hP 0 rfl rfl 8 (by decide) (hts _ m_t56) (fun _ h9 => h9) rfl dX4_youngestBut_34 ?_
              refine lv_iload_n hx hb dX4_youngestBut_37 rfl (lv_at hl 0 rfl) ?_
              refine va_iald hx hb hK hP 4 0 rfl rfl (in8 (by omega)) dX4_youngestBut_38 ?_
              refine lv_seti (v := (T_ag tA) j_4) (congrArg (T_ag tA) (cl8 (by omega))) ?_
              refine lv_aload_n hx hb dX4_youngestBut_39 rfl (lv_at hl 2 rfl) ?_
              refine va_get (D := G) (ci := 3) (v := .ref qta) (C := RX4) (T := TX4) (N := 13) hx hb hts iX_X4 hown hK hP 0 rfl rfl 8 (by decide) (hts _ m_t56) (fun _ h9 => h9) rfl dX4_youngestBut_40 ?_
              refine lv_iload_n hx hb dX4_youngestBut_43 rfl (lv_at hl 1 rfl) ?_
              obtain ⟨k_19, hk_20, ek_21⟩ : ∃ k : Nat, k < j_4 ∧ xB_5 = nI k := by
                rcases yb_in tA iO j_4 with q | ⟨k, h1, h2⟩
                · exact absurd (hxB_7.trans q) c_18
                · exact ⟨k, h1, hxB_7.trans h2⟩
              refine lv_seti (v := nI k_19) ek_21 ?_
              refine va_iald hx hb hK hP 4 0 rfl rfl (in8 (by omega)) dX4_youngestBut_44 ?_
              refine lv_seti (v := (T_ag tA) k_19) (congrArg (T_ag tA) (cl8 (by omega))) ?_
              refine lv_icmp_ge (tgt := 50) hx hb dX4_youngestBut_45 (by decide) (fun c_22 => ?_) (fun c_22 => ?_)
              · refine lv_iinc (v := nI (j_4 + 1)) (lv' := [(3, .int (nI (j_4 + 1))), (2, .int xB_5), (0, .ref qt), (1, .int iO)]) hx hb dX4_youngestBut_50 hl (k := 0) rfl (nI_1 _) (by decide) rfl (fun ls => ?_)
                clear hl
                intro hl
                refine lv_goto (tgt := 4) hx hb dX4_youngestBut_53 (by decide) ?_
                exact ih_3 (j_4 + 1) xB_5 (by omega) (by omega) (by rw [yb_skip (fun q => q.2.2.elim (fun r => c_18 (hxB_7.trans r)) (fun r => by rw [← hxB_7, ek_21, nI_clamp (by omega)] at r; exact Int32.not_lt.mpr c_22 r))]; exact hxB_7) _ (lv_sub hl [0, 1, 2, 3] rfl)
              · refine lv_iload_n hx hb dX4_youngestBut_48 rfl (lv_at hl 0 rfl) ?_
                refine lv_istore_n (lv' := [(2, .int (nI j_4)), (3, .int (nI j_4)), (0, .ref qt), (1, .int iO)]) hx hb dX4_youngestBut_49 rfl hl (by decide) rfl (fun ls => ?_)
                clear hl
                intro hl
                refine lv_iinc (v := nI (j_4 + 1)) (lv' := [(3, .int (nI (j_4 + 1))), (2, .int (nI j_4)), (0, .ref qt), (1, .int iO)]) hx hb dX4_youngestBut_50 hl (k := 1) rfl (nI_1 _) (by decide) rfl (fun ls => ?_)
                clear hl
                intro hl
                refine lv_goto (tgt := 4) hx hb dX4_youngestBut_53 (by decide) ?_
                exact ih_3 (j_4 + 1) (nI j_4) (by omega) (by omega) (by rw [yb_upd ⟨c_12, h_15, Or.inr (by rw [← hxB_7, ek_21, nI_clamp (by omega)]; exact Int32.not_le.mp c_22)⟩]) _ (lv_sub hl [0, 1, 2, 3] rfl)
  exact lp_1 ((8 - 0) + 1) 0 (-1) (Nat.lt_succ_self _) (Nat.zero_le _) rfl ls (lv_sub hl [0, 1, 2, 3] rfl)
