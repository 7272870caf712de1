theorem dX3_fail_0 : decode cX3_fail 0 = .ok (.aload_n 0, 1) := by decide +kernel
theorem dX3_fail_1 : decode cX3_fail 1 = .ok (.getfield 30, 3) := by decide +kernel
theorem dX3_fail_4 : decode cX3_fail 4 = .ok (.iconst (-1), 1) := by decide +kernel
theorem dX3_fail_5 : decode cX3_fail 5 = .ok (.if_icmp .ne 11, 3) := by decide +kernel
theorem dX3_fail_8 : decode cX3_fail 8 = .ok (.aload_n 0, 1) := by decide +kernel
theorem dX3_fail_9 : decode cX3_fail 9 = .ok (.aload_n 0, 1) := by decide +kernel
theorem dX3_fail_10 : decode cX3_fail 10 = .ok (.getfield 121, 3) := by decide +kernel
theorem dX3_fail_13 : decode cX3_fail 13 = .ok (.putfield 30, 3) := by decide +kernel
theorem dX3_fail_16 : decode cX3_fail 16 = .ok (.return_, 1) := by decide +kernel
theorem dX3_isWord_0 : decode cX3_isWord 0 = .ok (.aload_n 0, 1) := by decide +kernel
theorem dX3_isWord_1 : decode cX3_isWord 1 = .ok (.getfield 42, 3) := by decide +kernel
theorem dX3_isWord_4 : decode cX3_isWord 4 = .ok (.iconst 1, 1) := by decide +kernel
theorem dX3_isWord_5 : decode cX3_isWord 5 = .ok (.if_icmp .ne 19, 3) := by decide +kernel
theorem dX3_isWord_8 : decode cX3_isWord 8 = .ok (.aload_n 0, 1) := by decide +kernel
theorem dX3_isWord_9 : decode cX3_isWord 9 = .ok (.getfield 33, 3) := by decide +kernel
theorem dX3_isWord_12 : decode cX3_isWord 12 = .ok (.aload_n 0, 1) := by decide +kernel
theorem dX3_isWord_13 : decode cX3_isWord 13 = .ok (.getfield 121, 3) := by decide +kernel
theorem dX3_isWord_16 : decode cX3_isWord 16 = .ok (.isub, 1) := by decide +kernel
theorem dX3_isWord_17 : decode cX3_isWord 17 = .ok (.aload_n 1, 1) := by decide +kernel
theorem dX3_isWord_18 : decode cX3_isWord 18 = .ok (.invokevirtual 124, 3) := by decide +kernel
theorem dX3_isWord_21 : decode cX3_isWord 21 = .ok (.if_icmp .eq 5, 3) := by decide +kernel
theorem dX3_isWord_24 : decode cX3_isWord 24 = .ok (.iconst 0, 1) := by decide +kernel
theorem dX3_isWord_25 : decode cX3_isWord 25 = .ok (.ireturn, 1) := by decide +kernel
theorem dX3_isWord_26 : decode cX3_isWord 26 = .ok (.iconst 0, 1) := by decide +kernel
theorem dX3_isWord_27 : decode cX3_isWord 27 = .ok (.istore_n 2, 1) := by decide +kernel
theorem dX3_isWord_28 : decode cX3_isWord 28 = .ok (.iload_n 2, 1) := by decide +kernel
theorem dX3_isWord_29 : decode cX3_isWord 29 = .ok (.aload_n 1, 1) := by decide +kernel
theorem dX3_isWord_30 : decode cX3_isWord 30 = .ok (.invokevirtual 124, 3) := by decide +kernel
theorem dX3_isWord_33 : decode cX3_isWord 33 = .ok (.if_icmp .ge 30, 3) := by decide +kernel
theorem dX3_isWord_36 : decode cX3_isWord 36 = .ok (.aload_n 0, 1) := by decide +kernel
theorem dX3_isWord_37 : decode cX3_isWord 37 = .ok (.getfield 11, 3) := by decide +kernel
theorem dX3_isWord_40 : decode cX3_isWord 40 = .ok (.aload_n 0, 1) := by decide +kernel
theorem dX3_isWord_41 : decode cX3_isWord 41 = .ok (.getfield 121, 3) := by decide +kernel
theorem dX3_isWord_44 : decode cX3_isWord 44 = .ok (.iload_n 2, 1) := by decide +kernel
theorem dX3_isWord_45 : decode cX3_isWord 45 = .ok (.iadd, 1) := by decide +kernel
theorem dX3_isWord_46 : decode cX3_isWord 46 = .ok (.baload, 1) := by decide +kernel
theorem dX3_isWord_47 : decode cX3_isWord 47 = .ok (.aload_n 1, 1) := by decide +kernel
theorem dX3_isWord_48 : decode cX3_isWord 48 = .ok (.iload_n 2, 1) := by decide +kernel
theorem dX3_isWord_49 : decode cX3_isWord 49 = .ok (.invokevirtual 129, 3) := by decide +kernel
theorem dX3_isWord_52 : decode cX3_isWord 52 = .ok (.if_icmp .eq 5, 3) := by decide +kernel
theorem dX3_isWord_55 : decode cX3_isWord 55 = .ok (.iconst 0, 1) := by decide +kernel
theorem dX3_isWord_56 : decode cX3_isWord 56 = .ok (.ireturn, 1) := by decide +kernel
theorem dX3_isWord_57 : decode cX3_isWord 57 = .ok (.iinc 2 1, 3) := by decide +kernel
theorem dX3_isWord_60 : decode cX3_isWord 60 = .ok (.goto (-32), 3) := by decide +kernel
theorem dX3_isWord_63 : decode cX3_isWord 63 = .ok (.iconst 1, 1) := by decide +kernel
theorem dX3_isWord_64 : decode cX3_isWord 64 = .ok (.ireturn, 1) := by decide +kernel
theorem dX3_numberThere_0 : decode cX3_numberThere 0 = .ok (.aload_n 0, 1) := by decide +kernel
theorem dX3_numberThere_1 : decode cX3_numberThere 1 = .ok (.getfield 42, 3) := by decide +kernel
theorem dX3_numberThere_4 : decode cX3_numberThere 4 = .ok (.iconst 2, 1) := by decide +kernel
theorem dX3_numberThere_5 : decode cX3_numberThere 5 = .ok (.if_icmp .ne 16, 3) := by decide +kernel
theorem dX3_numberThere_8 : decode cX3_numberThere 8 = .ok (.aload_n 0, 1) := by decide +kernel
theorem dX3_numberThere_9 : decode cX3_numberThere 9 = .ok (.getfield 33, 3) := by decide +kernel
theorem dX3_numberThere_12 : decode cX3_numberThere 12 = .ok (.aload_n 0, 1) := by decide +kernel
theorem dX3_numberThere_13 : decode cX3_numberThere 13 = .ok (.getfield 121, 3) := by decide +kernel
theorem dX3_numberThere_16 : decode cX3_numberThere 16 = .ok (.isub, 1) := by decide +kernel
theorem dX3_numberThere_17 : decode cX3_numberThere 17 = .ok (.iconst 3, 1) := by decide +kernel
theorem dX3_numberThere_18 : decode cX3_numberThere 18 = .ok (.if_icmp .le 5, 3) := by decide +kernel
theorem dX3_numberThere_21 : decode cX3_numberThere 21 = .ok (.iconst (-1), 1) := by decide +kernel
theorem dX3_numberThere_22 : decode cX3_numberThere 22 = .ok (.ireturn, 1) := by decide +kernel
theorem dX3_numberThere_23 : decode cX3_numberThere 23 = .ok (.iconst 0, 1) := by decide +kernel
theorem dX3_numberThere_24 : decode cX3_numberThere 24 = .ok (.istore_n 1, 1) := by decide +kernel
theorem dX3_numberThere_25 : decode cX3_numberThere 25 = .ok (.aload_n 0, 1) := by decide +kernel
theorem dX3_numberThere_26 : decode cX3_numberThere 26 = .ok (.getfield 121, 3) := by decide +kernel
theorem dX3_numberThere_29 : decode cX3_numberThere 29 = .ok (.istore_n 2, 1) := by decide +kernel
theorem dX3_numberThere_30 : decode cX3_numberThere 30 = .ok (.iload_n 2, 1) := by decide +kernel
theorem dX3_numberThere_31 : decode cX3_numberThere 31 = .ok (.aload_n 0, 1) := by decide +kernel
theorem dX3_numberThere_32 : decode cX3_numberThere 32 = .ok (.getfield 33, 3) := by decide +kernel
theorem dX3_numberThere_35 : decode cX3_numberThere 35 = .ok (.if_icmp .ge 24, 3) := by decide +kernel
theorem dX3_numberThere_38 : decode cX3_numberThere 38 = .ok (.bipush 10, 2) := by decide +kernel
theorem dX3_numberThere_40 : decode cX3_numberThere 40 = .ok (.iload_n 1, 1) := by decide +kernel
theorem dX3_numberThere_41 : decode cX3_numberThere 41 = .ok (.imul, 1) := by decide +kernel
theorem dX3_numberThere_42 : decode cX3_numberThere 42 = .ok (.aload_n 0, 1) := by decide +kernel
theorem dX3_numberThere_43 : decode cX3_numberThere 43 = .ok (.getfield 11, 3) := by decide +kernel
theorem dX3_numberThere_46 : decode cX3_numberThere 46 = .ok (.iload_n 2, 1) := by decide +kernel
theorem dX3_numberThere_47 : decode cX3_numberThere 47 = .ok (.baload, 1) := by decide +kernel
theorem dX3_numberThere_48 : decode cX3_numberThere 48 = .ok (.iadd, 1) := by decide +kernel
theorem dX3_numberThere_49 : decode cX3_numberThere 49 = .ok (.bipush 48, 2) := by decide +kernel
theorem dX3_numberThere_51 : decode cX3_numberThere 51 = .ok (.isub, 1) := by decide +kernel
theorem dX3_numberThere_52 : decode cX3_numberThere 52 = .ok (.istore_n 1, 1) := by decide +kernel
theorem dX3_numberThere_53 : decode cX3_numberThere 53 = .ok (.iinc 2 1, 3) := by decide +kernel
theorem dX3_numberThere_56 : decode cX3_numberThere 56 = .ok (.goto (-26), 3) := by decide +kernel
theorem dX3_numberThere_59 : decode cX3_numberThere 59 = .ok (.iload_n 1, 1) := by decide +kernel
theorem dX3_numberThere_60 : decode cX3_numberThere 60 = .ok (.ireturn, 1) := by decide +kernel
theorem dX3_passes_0 : decode cX3_passes 0 = .ok (.aload_n 0, 1) := by decide +kernel
theorem dX3_passes_1 : decode cX3_passes 1 = .ok (.getfield 30, 3) := by decide +kernel
theorem dX3_passes_4 : decode cX3_passes 4 = .ok (.iconst (-1), 1) := by decide +kernel
theorem dX3_passes_5 : decode cX3_passes 5 = .ok (.if_icmp .ne 11, 3) := by decide +kernel
theorem dX3_passes_8 : decode cX3_passes 8 = .ok (.aload_n 0, 1) := by decide +kernel
theorem dX3_passes_9 : decode cX3_passes 9 = .ok (.aload_n 1, 1) := by decide +kernel
theorem dX3_passes_10 : decode cX3_passes 10 = .ok (.invokevirtual 50, 3) := by decide +kernel
theorem dX3_passes_13 : decode cX3_passes 13 = .ok (.ifCond .ne 5, 3) := by decide +kernel
theorem dX3_passes_16 : decode cX3_passes 16 = .ok (.iconst 0, 1) := by decide +kernel
theorem dX3_passes_17 : decode cX3_passes 17 = .ok (.ireturn, 1) := by decide +kernel
theorem dX3_passes_18 : decode cX3_passes 18 = .ok (.aload_n 0, 1) := by decide +kernel
theorem dX3_passes_19 : decode cX3_passes 19 = .ok (.invokevirtual 36, 3) := by decide +kernel
theorem dX3_passes_22 : decode cX3_passes 22 = .ok (.iconst 1, 1) := by decide +kernel
theorem dX3_passes_23 : decode cX3_passes 23 = .ok (.ireturn, 1) := by decide +kernel
theorem dX3_readBook_0 : decode cX3_readBook 0 = .ok (.aload_n 0, 1) := by decide +kernel
theorem dX3_readBook_1 : decode cX3_readBook 1 = .ok (.getfield 18, 3) := by decide +kernel
theorem dX3_readBook_4 : decode cX3_readBook 4 = .ok (.getfield 77, 3) := by decide +kernel
theorem dX3_readBook_7 : decode cX3_readBook 7 = .ok (.bipush 8, 2) := by decide +kernel
theorem dX3_readBook_9 : decode cX3_readBook 9 = .ok (.if_icmp .lt 8, 3) := by decide +kernel
theorem dX3_readBook_12 : decode cX3_readBook 12 = .ok (.aload_n 0, 1) := by decide +kernel
theorem dX3_readBook_13 : decode cX3_readBook 13 = .ok (.invokevirtual 45, 3) := by decide +kernel
theorem dX3_readBook_16 : decode cX3_readBook 16 = .ok (.return_, 1) := by decide +kernel
theorem dX3_readBook_17 : decode cX3_readBook 17 = .ok (.aload_n 0, 1) := by decide +kernel
theorem dX3_readBook_18 : decode cX3_readBook 18 = .ok (.invokevirtual 36, 3) := by decide +kernel
theorem dX3_readBook_21 : decode cX3_readBook 21 = .ok (.aload_n 0, 1) := by decide +kernel
theorem dX3_readBook_22 : decode cX3_readBook 22 = .ok (.iconst 1, 1) := by decide +kernel
theorem dX3_readBook_23 : decode cX3_readBook 23 = .ok (.bipush 99, 2) := by decide +kernel
theorem dX3_readBook_25 : decode cX3_readBook 25 = .ok (.invokevirtual 80, 3) := by decide +kernel
theorem dX3_readBook_28 : decode cX3_readBook 28 = .ok (.istore_n 1, 1) := by decide +kernel
theorem dX3_readBook_29 : decode cX3_readBook 29 = .ok (.aload_n 0, 1) := by decide +kernel
theorem dX3_readBook_30 : decode cX3_readBook 30 = .ok (.ldc 84, 2) := by decide +kernel
theorem dX3_readBook_32 : decode cX3_readBook 32 = .ok (.invokevirtual 86, 3) := by decide +kernel
theorem dX3_readBook_35 : decode cX3_readBook 35 = .ok (.ifCond .eq 14, 3) := by decide +kernel
theorem dX3_readBook_38 : decode cX3_readBook 38 = .ok (.aload_n 0, 1) := by decide +kernel
theorem dX3_readBook_39 : decode cX3_readBook 39 = .ok (.iconst 0, 1) := by decide +kernel
theorem dX3_readBook_40 : decode cX3_readBook 40 = .ok (.sipush 1000, 3) := by decide +kernel
theorem dX3_readBook_43 : decode cX3_readBook 43 = .ok (.invokevirtual 80, 3) := by decide +kernel
theorem dX3_readBook_46 : decode cX3_readBook 46 = .ok (.goto 6, 3) := by decide +kernel
theorem dX3_readBook_49 : decode cX3_readBook 49 = .ok (.sipush 1000, 3) := by decide +kernel
theorem dX3_readBook_52 : decode cX3_readBook 52 = .ok (.istore_n 2, 1) := by decide +kernel
theorem dX3_readBook_53 : decode cX3_readBook 53 = .ok (.aload_n 0, 1) := by decide +kernel
theorem dX3_readBook_54 : decode cX3_readBook 54 = .ok (.getfield 30, 3) := by decide +kernel
theorem dX3_readBook_57 : decode cX3_readBook 57 = .ok (.iconst (-1), 1) := by decide +kernel
theorem dX3_readBook_58 : decode cX3_readBook 58 = .ok (.if_icmp .ne 21, 3) := by decide +kernel
theorem dX3_readBook_61 : decode cX3_readBook 61 = .ok (.aload_n 0, 1) := by decide +kernel
theorem dX3_readBook_62 : decode cX3_readBook 62 = .ok (.getfield 18, 3) := by decide +kernel
theorem dX3_readBook_65 : decode cX3_readBook 65 = .ok (.getfield 89, 3) := by decide +kernel
theorem dX3_readBook_68 : decode cX3_readBook 68 = .ok (.aload_n 0, 1) := by decide +kernel
theorem dX3_readBook_69 : decode cX3_readBook 69 = .ok (.getfield 18, 3) := by decide +kernel
theorem dX3_readBook_72 : decode cX3_readBook 72 = .ok (.iload_n 1, 1) := by decide +kernel
theorem dX3_readBook_73 : decode cX3_readBook 73 = .ok (.iconst 0, 1) := by decide +kernel
theorem dX3_readBook_74 : decode cX3_readBook 74 = .ok (.invokevirtual 92, 3) := by decide +kernel
theorem dX3_readBook_77 : decode cX3_readBook 77 = .ok (.iload_n 2, 1) := by decide +kernel
theorem dX3_readBook_78 : decode cX3_readBook 78 = .ok (.iastore, 1) := by decide +kernel
theorem dX3_readBook_79 : decode cX3_readBook 79 = .ok (.return_, 1) := by decide +kernel
theorem dX3_readFrom_0 : decode cX3_readFrom 0 = .ok (.aload_n 0, 1) := by decide +kernel
theorem dX3_readFrom_1 : decode cX3_readFrom 1 = .ok (.getfield 18, 3) := by decide +kernel
theorem dX3_readFrom_4 : decode cX3_readFrom 4 = .ok (.aload_n 1, 1) := by decide +kernel
theorem dX3_readFrom_5 : decode cX3_readFrom 5 = .ok (.invokevirtual 26, 3) := by decide +kernel
theorem dX3_readFrom_8 : decode cX3_readFrom 8 = .ok (.aload_n 0, 1) := by decide +kernel
theorem dX3_readFrom_9 : decode cX3_readFrom 9 = .ok (.iconst (-1), 1) := by decide +kernel
theorem dX3_readFrom_10 : decode cX3_readFrom 10 = .ok (.putfield 30, 3) := by decide +kernel
theorem dX3_readFrom_13 : decode cX3_readFrom 13 = .ok (.aload_n 0, 1) := by decide +kernel
theorem dX3_readFrom_14 : decode cX3_readFrom 14 = .ok (.iconst 0, 1) := by decide +kernel
theorem dX3_readFrom_15 : decode cX3_readFrom 15 = .ok (.putfield 33, 3) := by decide +kernel
theorem dX3_readFrom_18 : decode cX3_readFrom 18 = .ok (.aload_n 0, 1) := by decide +kernel
theorem dX3_readFrom_19 : decode cX3_readFrom 19 = .ok (.invokevirtual 36, 3) := by decide +kernel
theorem dX3_readFrom_22 : decode cX3_readFrom 22 = .ok (.iconst 1, 1) := by decide +kernel
theorem dX3_readFrom_23 : decode cX3_readFrom 23 = .ok (.istore_n 2, 1) := by decide +kernel
theorem dX3_readFrom_24 : decode cX3_readFrom 24 = .ok (.iload_n 2, 1) := by decide +kernel
theorem dX3_readFrom_25 : decode cX3_readFrom 25 = .ok (.sipush 250, 3) := by decide +kernel
theorem dX3_readFrom_28 : decode cX3_readFrom 28 = .ok (.if_icmp .gt 48, 3) := by decide +kernel
theorem dX3_readFrom_31 : decode cX3_readFrom 31 = .ok (.aload_n 0, 1) := by decide +kernel
theorem dX3_readFrom_32 : decode cX3_readFrom 32 = .ok (.invokevirtual 39, 3) := by decide +kernel
theorem dX3_readFrom_35 : decode cX3_readFrom 35 = .ok (.aload_n 0, 1) := by decide +kernel
theorem dX3_readFrom_36 : decode cX3_readFrom 36 = .ok (.getfield 30, 3) := by decide +kernel
theorem dX3_readFrom_39 : decode cX3_readFrom 39 = .ok (.iconst (-1), 1) := by decide +kernel
theorem dX3_readFrom_40 : decode cX3_readFrom 40 = .ok (.if_icmp .ne 10, 3) := by decide +kernel
theorem dX3_readFrom_43 : decode cX3_readFrom 43 = .ok (.aload_n 0, 1) := by decide +kernel
theorem dX3_readFrom_44 : decode cX3_readFrom 44 = .ok (.getfield 42, 3) := by decide +kernel
theorem dX3_readFrom_47 : decode cX3_readFrom 47 = .ok (.ifCond .ne 5, 3) := by decide +kernel
theorem dX3_readFrom_50 : decode cX3_readFrom 50 = .ok (.iload_n 2, 1) := by decide +kernel
theorem dX3_readFrom_51 : decode cX3_readFrom 51 = .ok (.ireturn, 1) := by decide +kernel
theorem dX3_readFrom_52 : decode cX3_readFrom 52 = .ok (.aload_n 0, 1) := by decide +kernel
theorem dX3_readFrom_53 : decode cX3_readFrom 53 = .ok (.getfield 42, 3) := by decide +kernel
theorem dX3_readFrom_56 : decode cX3_readFrom 56 = .ok (.iconst 3, 1) := by decide +kernel
theorem dX3_readFrom_57 : decode cX3_readFrom 57 = .ok (.if_icmp .eq 9, 3) := by decide +kernel
theorem dX3_readFrom_60 : decode cX3_readFrom 60 = .ok (.aload_n 0, 1) := by decide +kernel
theorem dX3_readFrom_61 : decode cX3_readFrom 61 = .ok (.invokevirtual 45, 3) := by decide +kernel
theorem dX3_readFrom_64 : decode cX3_readFrom 64 = .ok (.iload_n 2, 1) := by decide +kernel
theorem dX3_readFrom_65 : decode cX3_readFrom 65 = .ok (.ireturn, 1) := by decide +kernel
theorem dX3_readFrom_66 : decode cX3_readFrom 66 = .ok (.aload_n 0, 1) := by decide +kernel
theorem dX3_readFrom_67 : decode cX3_readFrom 67 = .ok (.invokevirtual 36, 3) := by decide +kernel
theorem dX3_readFrom_70 : decode cX3_readFrom 70 = .ok (.iinc 2 1, 3) := by decide +kernel
theorem dX3_readFrom_73 : decode cX3_readFrom 73 = .ok (.goto (-49), 3) := by decide +kernel
theorem dX3_readKnows_0 : decode cX3_readKnows 0 = .ok (.aload_n 0, 1) := by decide +kernel
theorem dX3_readKnows_1 : decode cX3_readKnows 1 = .ok (.invokevirtual 36, 3) := by decide +kernel
theorem dX3_readKnows_4 : decode cX3_readKnows 4 = .ok (.aload_n 0, 1) := by decide +kernel
theorem dX3_readKnows_5 : decode cX3_readKnows 5 = .ok (.iconst 0, 1) := by decide +kernel
theorem dX3_readKnows_6 : decode cX3_readKnows 6 = .ok (.aload_n 0, 1) := by decide +kernel
theorem dX3_readKnows_7 : decode cX3_readKnows 7 = .ok (.getfield 18, 3) := by decide +kernel
theorem dX3_readKnows_10 : decode cX3_readKnows 10 = .ok (.getfield 98, 3) := by decide +kernel
theorem dX3_readKnows_13 : decode cX3_readKnows 13 = .ok (.iconst 1, 1) := by decide +kernel
theorem dX3_readKnows_14 : decode cX3_readKnows 14 = .ok (.isub, 1) := by decide +kernel
theorem dX3_readKnows_15 : decode cX3_readKnows 15 = .ok (.invokevirtual 80, 3) := by decide +kernel
theorem dX3_readKnows_18 : decode cX3_readKnows 18 = .ok (.istore_n 1, 1) := by decide +kernel
theorem dX3_readKnows_19 : decode cX3_readKnows 19 = .ok (.aload_n 0, 1) := by decide +kernel
theorem dX3_readKnows_20 : decode cX3_readKnows 20 = .ok (.iconst 0, 1) := by decide +kernel
theorem dX3_readKnows_21 : decode cX3_readKnows 21 = .ok (.aload_n 0, 1) := by decide +kernel
theorem dX3_readKnows_22 : decode cX3_readKnows 22 = .ok (.getfield 18, 3) := by decide +kernel
theorem dX3_readKnows_25 : decode cX3_readKnows 25 = .ok (.getfield 77, 3) := by decide +kernel
theorem dX3_readKnows_28 : decode cX3_readKnows 28 = .ok (.iconst 1, 1) := by decide +kernel
theorem dX3_readKnows_29 : decode cX3_readKnows 29 = .ok (.isub, 1) := by decide +kernel
theorem dX3_readKnows_30 : decode cX3_readKnows 30 = .ok (.invokevirtual 80, 3) := by decide +kernel
theorem dX3_readKnows_33 : decode cX3_readKnows 33 = .ok (.istore_n 2, 1) := by decide +kernel
theorem dX3_readKnows_34 : decode cX3_readKnows 34 = .ok (.aload_n 0, 1) := by decide +kernel
theorem dX3_readKnows_35 : decode cX3_readKnows 35 = .ok (.iconst 0, 1) := by decide +kernel
theorem dX3_readKnows_36 : decode cX3_readKnows 36 = .ok (.sipush 1000, 3) := by decide +kernel
theorem dX3_readKnows_39 : decode cX3_readKnows 39 = .ok (.invokevirtual 80, 3) := by decide +kernel
theorem dX3_readKnows_42 : decode cX3_readKnows 42 = .ok (.istore_n 3, 1) := by decide +kernel
theorem dX3_readKnows_43 : decode cX3_readKnows 43 = .ok (.aload_n 0, 1) := by decide +kernel
theorem dX3_readKnows_44 : decode cX3_readKnows 44 = .ok (.getfield 30, 3) := by decide +kernel
theorem dX3_readKnows_47 : decode cX3_readKnows 47 = .ok (.iconst (-1), 1) := by decide +kernel
theorem dX3_readKnows_48 : decode cX3_readKnows 48 = .ok (.if_icmp .ne 13, 3) := by decide +kernel
theorem dX3_readKnows_51 : decode cX3_readKnows 51 = .ok (.aload_n 0, 1) := by decide +kernel
theorem dX3_readKnows_52 : decode cX3_readKnows 52 = .ok (.getfield 18, 3) := by decide +kernel
theorem dX3_readKnows_55 : decode cX3_readKnows 55 = .ok (.iload_n 1, 1) := by decide +kernel
theorem dX3_readKnows_56 : decode cX3_readKnows 56 = .ok (.iload_n 2, 1) := by decide +kernel
theorem dX3_readKnows_57 : decode cX3_readKnows 57 = .ok (.iload_n 3, 1) := by decide +kernel
theorem dX3_readKnows_58 : decode cX3_readKnows 58 = .ok (.invokevirtual 111, 3) := by decide +kernel
theorem dX3_readKnows_61 : decode cX3_readKnows 61 = .ok (.return_, 1) := by decide +kernel
theorem dX3_readNeed_0 : decode cX3_readNeed 0 = .ok (.aload_n 0, 1) := by decide +kernel
theorem dX3_readNeed_1 : decode cX3_readNeed 1 = .ok (.invokevirtual 36, 3) := by decide +kernel
theorem dX3_readNeed_4 : decode cX3_readNeed 4 = .ok (.aload_n 0, 1) := by decide +kernel
theorem dX3_readNeed_5 : decode cX3_readNeed 5 = .ok (.iconst 0, 1) := by decide +kernel
theorem dX3_readNeed_6 : decode cX3_readNeed 6 = .ok (.aload_n 0, 1) := by decide +kernel
theorem dX3_readNeed_7 : decode cX3_readNeed 7 = .ok (.getfield 18, 3) := by decide +kernel
theorem dX3_readNeed_10 : decode cX3_readNeed 10 = .ok (.getfield 77, 3) := by decide +kernel
theorem dX3_readNeed_13 : decode cX3_readNeed 13 = .ok (.iconst 1, 1) := by decide +kernel
theorem dX3_readNeed_14 : decode cX3_readNeed 14 = .ok (.isub, 1) := by decide +kernel
theorem dX3_readNeed_15 : decode cX3_readNeed 15 = .ok (.invokevirtual 80, 3) := by decide +kernel
theorem dX3_readNeed_18 : decode cX3_readNeed 18 = .ok (.istore_n 1, 1) := by decide +kernel
theorem dX3_readNeed_19 : decode cX3_readNeed 19 = .ok (.aload_n 0, 1) := by decide +kernel
theorem dX3_readNeed_20 : decode cX3_readNeed 20 = .ok (.iconst 0, 1) := by decide +kernel
theorem dX3_readNeed_21 : decode cX3_readNeed 21 = .ok (.iload_n 1, 1) := by decide +kernel
theorem dX3_readNeed_22 : decode cX3_readNeed 22 = .ok (.iconst 1, 1) := by decide +kernel
theorem dX3_readNeed_23 : decode cX3_readNeed 23 = .ok (.isub, 1) := by decide +kernel
theorem dX3_readNeed_24 : decode cX3_readNeed 24 = .ok (.invokevirtual 80, 3) := by decide +kernel
theorem dX3_readNeed_27 : decode cX3_readNeed 27 = .ok (.istore_n 2, 1) := by decide +kernel
theorem dX3_readNeed_28 : decode cX3_readNeed 28 = .ok (.aload_n 0, 1) := by decide +kernel
theorem dX3_readNeed_29 : decode cX3_readNeed 29 = .ok (.getfield 30, 3) := by decide +kernel
theorem dX3_readNeed_32 : decode cX3_readNeed 32 = .ok (.iconst (-1), 1) := by decide +kernel
theorem dX3_readNeed_33 : decode cX3_readNeed 33 = .ok (.if_icmp .ne 18, 3) := by decide +kernel
theorem dX3_readNeed_36 : decode cX3_readNeed 36 = .ok (.aload_n 0, 1) := by decide +kernel
theorem dX3_readNeed_37 : decode cX3_readNeed 37 = .ok (.getfield 18, 3) := by decide +kernel
theorem dX3_readNeed_40 : decode cX3_readNeed 40 = .ok (.getfield 95, 3) := by decide +kernel
theorem dX3_readNeed_43 : decode cX3_readNeed 43 = .ok (.iload_n 1, 1) := by decide +kernel
theorem dX3_readNeed_44 : decode cX3_readNeed 44 = .ok (.dup2, 1) := by decide +kernel
theorem dX3_readNeed_45 : decode cX3_readNeed 45 = .ok (.iaload, 1) := by decide +kernel
theorem dX3_readNeed_46 : decode cX3_readNeed 46 = .ok (.iconst 1, 1) := by decide +kernel
theorem dX3_readNeed_47 : decode cX3_readNeed 47 = .ok (.iload_n 2, 1) := by decide +kernel
theorem dX3_readNeed_48 : decode cX3_readNeed 48 = .ok (.ishl, 1) := by decide +kernel
theorem dX3_readNeed_49 : decode cX3_readNeed 49 = .ok (.ior, 1) := by decide +kernel
theorem dX3_readNeed_50 : decode cX3_readNeed 50 = .ok (.iastore, 1) := by decide +kernel
theorem dX3_readNeed_51 : decode cX3_readNeed 51 = .ok (.return_, 1) := by decide +kernel
theorem dX3_readOne_0 : decode cX3_readOne 0 = .ok (.aload_n 0, 1) := by decide +kernel
theorem dX3_readOne_1 : decode cX3_readOne 1 = .ok (.getfield 18, 3) := by decide +kernel
theorem dX3_readOne_4 : decode cX3_readOne 4 = .ok (.getfield 98, 3) := by decide +kernel
theorem dX3_readOne_7 : decode cX3_readOne 7 = .ok (.bipush 8, 2) := by decide +kernel
theorem dX3_readOne_9 : decode cX3_readOne 9 = .ok (.if_icmp .lt 8, 3) := by decide +kernel
theorem dX3_readOne_12 : decode cX3_readOne 12 = .ok (.aload_n 0, 1) := by decide +kernel
theorem dX3_readOne_13 : decode cX3_readOne 13 = .ok (.invokevirtual 45, 3) := by decide +kernel
theorem dX3_readOne_16 : decode cX3_readOne 16 = .ok (.return_, 1) := by decide +kernel
theorem dX3_readOne_17 : decode cX3_readOne 17 = .ok (.aload_n 0, 1) := by decide +kernel
theorem dX3_readOne_18 : decode cX3_readOne 18 = .ok (.invokevirtual 36, 3) := by decide +kernel
theorem dX3_readOne_21 : decode cX3_readOne 21 = .ok (.aload_n 0, 1) := by decide +kernel
theorem dX3_readOne_22 : decode cX3_readOne 22 = .ok (.iconst 0, 1) := by decide +kernel
theorem dX3_readOne_23 : decode cX3_readOne 23 = .ok (.bipush 9, 2) := by decide +kernel
theorem dX3_readOne_25 : decode cX3_readOne 25 = .ok (.invokevirtual 80, 3) := by decide +kernel
theorem dX3_readOne_28 : decode cX3_readOne 28 = .ok (.istore_n 1, 1) := by decide +kernel
theorem dX3_readOne_29 : decode cX3_readOne 29 = .ok (.aload_n 0, 1) := by decide +kernel
theorem dX3_readOne_30 : decode cX3_readOne 30 = .ok (.ldc 101, 2) := by decide +kernel
theorem dX3_readOne_32 : decode cX3_readOne 32 = .ok (.invokevirtual 86, 3) := by decide +kernel
theorem dX3_readOne_35 : decode cX3_readOne 35 = .ok (.ifCond .eq 13, 3) := by decide +kernel
theorem dX3_readOne_38 : decode cX3_readOne 38 = .ok (.aload_n 0, 1) := by decide +kernel
theorem dX3_readOne_39 : decode cX3_readOne 39 = .ok (.iconst 0, 1) := by decide +kernel
theorem dX3_readOne_40 : decode cX3_readOne 40 = .ok (.bipush 10, 2) := by decide +kernel
theorem dX3_readOne_42 : decode cX3_readOne 42 = .ok (.invokevirtual 80, 3) := by decide +kernel
theorem dX3_readOne_45 : decode cX3_readOne 45 = .ok (.goto 4, 3) := by decide +kernel
theorem dX3_readOne_48 : decode cX3_readOne 48 = .ok (.iconst 5, 1) := by decide +kernel
theorem dX3_readOne_49 : decode cX3_readOne 49 = .ok (.istore_n 2, 1) := by decide +kernel
theorem dX3_readOne_50 : decode cX3_readOne 50 = .ok (.aload_n 0, 1) := by decide +kernel
theorem dX3_readOne_51 : decode cX3_readOne 51 = .ok (.ldc 103, 2) := by decide +kernel
theorem dX3_readOne_53 : decode cX3_readOne 53 = .ok (.invokevirtual 86, 3) := by decide +kernel
theorem dX3_readOne_56 : decode cX3_readOne 56 = .ok (.ifCond .eq 13, 3) := by decide +kernel
theorem dX3_readOne_59 : decode cX3_readOne 59 = .ok (.aload_n 0, 1) := by decide +kernel
theorem dX3_readOne_60 : decode cX3_readOne 60 = .ok (.iconst 0, 1) := by decide +kernel
theorem dX3_readOne_61 : decode cX3_readOne 61 = .ok (.bipush 10, 2) := by decide +kernel
theorem dX3_readOne_63 : decode cX3_readOne 63 = .ok (.invokevirtual 80, 3) := by decide +kernel
theorem dX3_readOne_66 : decode cX3_readOne 66 = .ok (.goto 4, 3) := by decide +kernel
theorem dX3_readOne_69 : decode cX3_readOne 69 = .ok (.iconst 5, 1) := by decide +kernel
theorem dX3_readOne_70 : decode cX3_readOne 70 = .ok (.istore_n 3, 1) := by decide +kernel
theorem dX3_readOne_71 : decode cX3_readOne 71 = .ok (.aload_n 0, 1) := by decide +kernel
theorem dX3_readOne_72 : decode cX3_readOne 72 = .ok (.ldc 105, 2) := by decide +kernel
theorem dX3_readOne_74 : decode cX3_readOne 74 = .ok (.invokevirtual 86, 3) := by decide +kernel
theorem dX3_readOne_77 : decode cX3_readOne 77 = .ok (.ifCond .eq 13, 3) := by decide +kernel
theorem dX3_readOne_80 : decode cX3_readOne 80 = .ok (.aload_n 0, 1) := by decide +kernel
theorem dX3_readOne_81 : decode cX3_readOne 81 = .ok (.iconst 0, 1) := by decide +kernel
theorem dX3_readOne_82 : decode cX3_readOne 82 = .ok (.bipush 10, 2) := by decide +kernel
theorem dX3_readOne_84 : decode cX3_readOne 84 = .ok (.invokevirtual 80, 3) := by decide +kernel
theorem dX3_readOne_87 : decode cX3_readOne 87 = .ok (.goto 4, 3) := by decide +kernel
theorem dX3_readOne_90 : decode cX3_readOne 90 = .ok (.iconst 5, 1) := by decide +kernel
theorem dX3_readOne_91 : decode cX3_readOne 91 = .ok (.istore 4, 2) := by decide +kernel
theorem dX3_readOne_93 : decode cX3_readOne 93 = .ok (.aload_n 0, 1) := by decide +kernel
theorem dX3_readOne_94 : decode cX3_readOne 94 = .ok (.getfield 30, 3) := by decide +kernel
theorem dX3_readOne_97 : decode cX3_readOne 97 = .ok (.iconst (-1), 1) := by decide +kernel
theorem dX3_readOne_98 : decode cX3_readOne 98 = .ok (.if_icmp .ne 16, 3) := by decide +kernel
theorem dX3_readOne_101 : decode cX3_readOne 101 = .ok (.aload_n 0, 1) := by decide +kernel
theorem dX3_readOne_102 : decode cX3_readOne 102 = .ok (.getfield 18, 3) := by decide +kernel
theorem dX3_readOne_105 : decode cX3_readOne 105 = .ok (.iload_n 1, 1) := by decide +kernel
theorem dX3_readOne_106 : decode cX3_readOne 106 = .ok (.iload_n 2, 1) := by decide +kernel
theorem dX3_readOne_107 : decode cX3_readOne 107 = .ok (.iload_n 3, 1) := by decide +kernel
theorem dX3_readOne_108 : decode cX3_readOne 108 = .ok (.iload 4, 2) := by decide +kernel
theorem dX3_readOne_110 : decode cX3_readOne 110 = .ok (.invokevirtual 107, 3) := by decide +kernel
theorem dX3_readOne_113 : decode cX3_readOne 113 = .ok (.pop, 1) := by decide +kernel
theorem dX3_readOne_114 : decode cX3_readOne 114 = .ok (.return_, 1) := by decide +kernel
theorem dX3_readStatement_0 : decode cX3_readStatement 0 = .ok (.aload_n 0, 1) := by decide +kernel
theorem dX3_readStatement_1 : decode cX3_readStatement 1 = .ok (.ldc 48, 2) := by decide +kernel
theorem dX3_readStatement_3 : decode cX3_readStatement 3 = .ok (.invokevirtual 50, 3) := by decide +kernel
theorem dX3_readStatement_6 : decode cX3_readStatement 6 = .ok (.ifCond .eq 10, 3) := by decide +kernel
theorem dX3_readStatement_9 : decode cX3_readStatement 9 = .ok (.aload_n 0, 1) := by decide +kernel
theorem dX3_readStatement_10 : decode cX3_readStatement 10 = .ok (.invokevirtual 54, 3) := by decide +kernel
theorem dX3_readStatement_13 : decode cX3_readStatement 13 = .ok (.goto 71, 3) := by decide +kernel
theorem dX3_readStatement_16 : decode cX3_readStatement 16 = .ok (.aload_n 0, 1) := by decide +kernel
theorem dX3_readStatement_17 : decode cX3_readStatement 17 = .ok (.ldc 57, 2) := by decide +kernel
theorem dX3_readStatement_19 : decode cX3_readStatement 19 = .ok (.invokevirtual 50, 3) := by decide +kernel
theorem dX3_readStatement_22 : decode cX3_readStatement 22 = .ok (.ifCond .eq 10, 3) := by decide +kernel
theorem dX3_readStatement_25 : decode cX3_readStatement 25 = .ok (.aload_n 0, 1) := by decide +kernel
theorem dX3_readStatement_26 : decode cX3_readStatement 26 = .ok (.invokevirtual 59, 3) := by decide +kernel
theorem dX3_readStatement_29 : decode cX3_readStatement 29 = .ok (.goto 55, 3) := by decide +kernel
theorem dX3_readStatement_32 : decode cX3_readStatement 32 = .ok (.aload_n 0, 1) := by decide +kernel
theorem dX3_readStatement_33 : decode cX3_readStatement 33 = .ok (.ldc 62, 2) := by decide +kernel
theorem dX3_readStatement_35 : decode cX3_readStatement 35 = .ok (.invokevirtual 50, 3) := by decide +kernel
theorem dX3_readStatement_38 : decode cX3_readStatement 38 = .ok (.ifCond .eq 10, 3) := by decide +kernel
theorem dX3_readStatement_41 : decode cX3_readStatement 41 = .ok (.aload_n 0, 1) := by decide +kernel
theorem dX3_readStatement_42 : decode cX3_readStatement 42 = .ok (.invokevirtual 64, 3) := by decide +kernel
theorem dX3_readStatement_45 : decode cX3_readStatement 45 = .ok (.goto 39, 3) := by decide +kernel
theorem dX3_readStatement_48 : decode cX3_readStatement 48 = .ok (.aload_n 0, 1) := by decide +kernel
theorem dX3_readStatement_49 : decode cX3_readStatement 49 = .ok (.ldc 67, 2) := by decide +kernel
theorem dX3_readStatement_51 : decode cX3_readStatement 51 = .ok (.invokevirtual 50, 3) := by decide +kernel
theorem dX3_readStatement_54 : decode cX3_readStatement 54 = .ok (.ifCond .eq 10, 3) := by decide +kernel
theorem dX3_readStatement_57 : decode cX3_readStatement 57 = .ok (.aload_n 0, 1) := by decide +kernel
theorem dX3_readStatement_58 : decode cX3_readStatement 58 = .ok (.invokevirtual 69, 3) := by decide +kernel
theorem dX3_readStatement_61 : decode cX3_readStatement 61 = .ok (.goto 23, 3) := by decide +kernel
theorem dX3_readStatement_64 : decode cX3_readStatement 64 = .ok (.aload_n 0, 1) := by decide +kernel
theorem dX3_readStatement_65 : decode cX3_readStatement 65 = .ok (.ldc 72, 2) := by decide +kernel
theorem dX3_readStatement_67 : decode cX3_readStatement 67 = .ok (.invokevirtual 50, 3) := by decide +kernel
theorem dX3_readStatement_70 : decode cX3_readStatement 70 = .ok (.ifCond .eq 10, 3) := by decide +kernel
theorem dX3_readStatement_73 : decode cX3_readStatement 73 = .ok (.aload_n 0, 1) := by decide +kernel
theorem dX3_readStatement_74 : decode cX3_readStatement 74 = .ok (.invokevirtual 74, 3) := by decide +kernel
theorem dX3_readStatement_77 : decode cX3_readStatement 77 = .ok (.goto 7, 3) := by decide +kernel
theorem dX3_readStatement_80 : decode cX3_readStatement 80 = .ok (.aload_n 0, 1) := by decide +kernel
theorem dX3_readStatement_81 : decode cX3_readStatement 81 = .ok (.invokevirtual 45, 3) := by decide +kernel
theorem dX3_readStatement_84 : decode cX3_readStatement 84 = .ok (.return_, 1) := by decide +kernel
theorem dX3_readWhite_0 : decode cX3_readWhite 0 = .ok (.aload_n 0, 1) := by decide +kernel
theorem dX3_readWhite_1 : decode cX3_readWhite 1 = .ok (.invokevirtual 36, 3) := by decide +kernel
theorem dX3_readWhite_4 : decode cX3_readWhite 4 = .ok (.aload_n 0, 1) := by decide +kernel
theorem dX3_readWhite_5 : decode cX3_readWhite 5 = .ok (.iconst 0, 1) := by decide +kernel
theorem dX3_readWhite_6 : decode cX3_readWhite 6 = .ok (.aload_n 0, 1) := by decide +kernel
theorem dX3_readWhite_7 : decode cX3_readWhite 7 = .ok (.getfield 18, 3) := by decide +kernel
theorem dX3_readWhite_10 : decode cX3_readWhite 10 = .ok (.getfield 77, 3) := by decide +kernel
theorem dX3_readWhite_13 : decode cX3_readWhite 13 = .ok (.iconst 1, 1) := by decide +kernel
theorem dX3_readWhite_14 : decode cX3_readWhite 14 = .ok (.isub, 1) := by decide +kernel
theorem dX3_readWhite_15 : decode cX3_readWhite 15 = .ok (.invokevirtual 80, 3) := by decide +kernel
theorem dX3_readWhite_18 : decode cX3_readWhite 18 = .ok (.istore_n 1, 1) := by decide +kernel
theorem dX3_readWhite_19 : decode cX3_readWhite 19 = .ok (.aload_n 0, 1) := by decide +kernel
theorem dX3_readWhite_20 : decode cX3_readWhite 20 = .ok (.getfield 30, 3) := by decide +kernel
theorem dX3_readWhite_23 : decode cX3_readWhite 23 = .ok (.iconst (-1), 1) := by decide +kernel
theorem dX3_readWhite_24 : decode cX3_readWhite 24 = .ok (.if_icmp .ne 18, 3) := by decide +kernel
theorem dX3_readWhite_27 : decode cX3_readWhite 27 = .ok (.aload_n 0, 1) := by decide +kernel
theorem dX3_readWhite_28 : decode cX3_readWhite 28 = .ok (.getfield 18, 3) := by decide +kernel
theorem dX3_readWhite_31 : decode cX3_readWhite 31 = .ok (.dup, 1) := by decide +kernel
theorem dX3_readWhite_32 : decode cX3_readWhite 32 = .ok (.getfield 115, 3) := by decide +kernel
theorem dX3_readWhite_35 : decode cX3_readWhite 35 = .ok (.iconst 1, 1) := by decide +kernel
theorem dX3_readWhite_36 : decode cX3_readWhite 36 = .ok (.iload_n 1, 1) := by decide +kernel
theorem dX3_readWhite_37 : decode cX3_readWhite 37 = .ok (.ishl, 1) := by decide +kernel
theorem dX3_readWhite_38 : decode cX3_readWhite 38 = .ok (.ior, 1) := by decide +kernel
theorem dX3_readWhite_39 : decode cX3_readWhite 39 = .ok (.putfield 115, 3) := by decide +kernel
theorem dX3_readWhite_42 : decode cX3_readWhite 42 = .ok (.return_, 1) := by decide +kernel
theorem dX3_sortAt_0 : decode cX3_sortAt 0 = .ok (.iload_n 1, 1) := by decide +kernel
theorem dX3_sortAt_1 : decode cX3_sortAt 1 = .ok (.aload_n 0, 1) := by decide +kernel
theorem dX3_sortAt_2 : decode cX3_sortAt 2 = .ok (.getfield 22, 3) := by decide +kernel
theorem dX3_sortAt_5 : decode cX3_sortAt 5 = .ok (.if_icmp .lt 5, 3) := by decide +kernel
theorem dX3_sortAt_8 : decode cX3_sortAt 8 = .ok (.iconst 0, 1) := by decide +kernel
theorem dX3_sortAt_9 : decode cX3_sortAt 9 = .ok (.ireturn, 1) := by decide +kernel
theorem dX3_sortAt_10 : decode cX3_sortAt 10 = .ok (.aload_n 0, 1) := by decide +kernel
theorem dX3_sortAt_11 : decode cX3_sortAt 11 = .ok (.getfield 11, 3) := by decide +kernel
theorem dX3_sortAt_14 : decode cX3_sortAt 14 = .ok (.iload_n 1, 1) := by decide +kernel
theorem dX3_sortAt_15 : decode cX3_sortAt 15 = .ok (.baload, 1) := by decide +kernel
theorem dX3_sortAt_16 : decode cX3_sortAt 16 = .ok (.istore_n 2, 1) := by decide +kernel
theorem dX3_sortAt_17 : decode cX3_sortAt 17 = .ok (.iload_n 2, 1) := by decide +kernel
theorem dX3_sortAt_18 : decode cX3_sortAt 18 = .ok (.bipush 97, 2) := by decide +kernel
theorem dX3_sortAt_20 : decode cX3_sortAt 20 = .ok (.if_icmp .lt 11, 3) := by decide +kernel
theorem dX3_sortAt_23 : decode cX3_sortAt 23 = .ok (.iload_n 2, 1) := by decide +kernel
theorem dX3_sortAt_24 : decode cX3_sortAt 24 = .ok (.bipush 122, 2) := by decide +kernel
theorem dX3_sortAt_26 : decode cX3_sortAt 26 = .ok (.if_icmp .gt 5, 3) := by decide +kernel
theorem dX3_sortAt_29 : decode cX3_sortAt 29 = .ok (.iconst 1, 1) := by decide +kernel
theorem dX3_sortAt_30 : decode cX3_sortAt 30 = .ok (.ireturn, 1) := by decide +kernel
theorem dX3_sortAt_31 : decode cX3_sortAt 31 = .ok (.iload_n 2, 1) := by decide +kernel
theorem dX3_sortAt_32 : decode cX3_sortAt 32 = .ok (.bipush 48, 2) := by decide +kernel
theorem dX3_sortAt_34 : decode cX3_sortAt 34 = .ok (.if_icmp .lt 11, 3) := by decide +kernel
theorem dX3_sortAt_37 : decode cX3_sortAt 37 = .ok (.iload_n 2, 1) := by decide +kernel
theorem dX3_sortAt_38 : decode cX3_sortAt 38 = .ok (.bipush 57, 2) := by decide +kernel
theorem dX3_sortAt_40 : decode cX3_sortAt 40 = .ok (.if_icmp .gt 5, 3) := by decide +kernel
theorem dX3_sortAt_43 : decode cX3_sortAt 43 = .ok (.iconst 2, 1) := by decide +kernel
theorem dX3_sortAt_44 : decode cX3_sortAt 44 = .ok (.ireturn, 1) := by decide +kernel
theorem dX3_sortAt_45 : decode cX3_sortAt 45 = .ok (.iload_n 2, 1) := by decide +kernel
theorem dX3_sortAt_46 : decode cX3_sortAt 46 = .ok (.bipush 59, 2) := by decide +kernel
theorem dX3_sortAt_48 : decode cX3_sortAt 48 = .ok (.if_icmp .ne 7, 3) := by decide +kernel
theorem dX3_sortAt_51 : decode cX3_sortAt 51 = .ok (.iconst 3, 1) := by decide +kernel
theorem dX3_sortAt_52 : decode cX3_sortAt 52 = .ok (.goto 4, 3) := by decide +kernel
theorem dX3_sortAt_55 : decode cX3_sortAt 55 = .ok (.iconst 4, 1) := by decide +kernel
theorem dX3_sortAt_56 : decode cX3_sortAt 56 = .ok (.ireturn, 1) := by decide +kernel
theorem dX3_step_0 : decode cX3_step 0 = .ok (.aload_n 0, 1) := by decide +kernel
theorem dX3_step_1 : decode cX3_step 1 = .ok (.aload_n 0, 1) := by decide +kernel
theorem dX3_step_2 : decode cX3_step 2 = .ok (.getfield 33, 3) := by decide +kernel
theorem dX3_step_5 : decode cX3_step 5 = .ok (.putfield 121, 3) := by decide +kernel
theorem dX3_step_8 : decode cX3_step 8 = .ok (.aload_n 0, 1) := by decide +kernel
theorem dX3_step_9 : decode cX3_step 9 = .ok (.getfield 121, 3) := by decide +kernel
theorem dX3_step_12 : decode cX3_step 12 = .ok (.aload_n 0, 1) := by decide +kernel
theorem dX3_step_13 : decode cX3_step 13 = .ok (.getfield 22, 3) := by decide +kernel
theorem dX3_step_16 : decode cX3_step 16 = .ok (.if_icmp .ge 30, 3) := by decide +kernel
theorem dX3_step_19 : decode cX3_step 19 = .ok (.aload_n 0, 1) := by decide +kernel
theorem dX3_step_20 : decode cX3_step 20 = .ok (.getfield 11, 3) := by decide +kernel
theorem dX3_step_23 : decode cX3_step 23 = .ok (.aload_n 0, 1) := by decide +kernel
theorem dX3_step_24 : decode cX3_step 24 = .ok (.getfield 121, 3) := by decide +kernel
theorem dX3_step_27 : decode cX3_step 27 = .ok (.baload, 1) := by decide +kernel
theorem dX3_step_28 : decode cX3_step 28 = .ok (.bipush 32, 2) := by decide +kernel
theorem dX3_step_30 : decode cX3_step 30 = .ok (.if_icmp .ne 16, 3) := by decide +kernel
theorem dX3_step_33 : decode cX3_step 33 = .ok (.aload_n 0, 1) := by decide +kernel
theorem dX3_step_34 : decode cX3_step 34 = .ok (.dup, 1) := by decide +kernel
theorem dX3_step_35 : decode cX3_step 35 = .ok (.getfield 121, 3) := by decide +kernel
theorem dX3_step_38 : decode cX3_step 38 = .ok (.iconst 1, 1) := by decide +kernel
theorem dX3_step_39 : decode cX3_step 39 = .ok (.iadd, 1) := by decide +kernel
theorem dX3_step_40 : decode cX3_step 40 = .ok (.putfield 121, 3) := by decide +kernel
theorem dX3_step_43 : decode cX3_step 43 = .ok (.goto (-35), 3) := by decide +kernel
theorem dX3_step_46 : decode cX3_step 46 = .ok (.aload_n 0, 1) := by decide +kernel
theorem dX3_step_47 : decode cX3_step 47 = .ok (.aload_n 0, 1) := by decide +kernel
theorem dX3_step_48 : decode cX3_step 48 = .ok (.aload_n 0, 1) := by decide +kernel
theorem dX3_step_49 : decode cX3_step 49 = .ok (.getfield 121, 3) := by decide +kernel
theorem dX3_step_52 : decode cX3_step 52 = .ok (.invokevirtual 133, 3) := by decide +kernel
theorem dX3_step_55 : decode cX3_step 55 = .ok (.putfield 42, 3) := by decide +kernel
theorem dX3_step_58 : decode cX3_step 58 = .ok (.aload_n 0, 1) := by decide +kernel
theorem dX3_step_59 : decode cX3_step 59 = .ok (.aload_n 0, 1) := by decide +kernel
theorem dX3_step_60 : decode cX3_step 60 = .ok (.getfield 42, 3) := by decide +kernel
theorem dX3_step_63 : decode cX3_step 63 = .ok (.ifCond .ne 10, 3) := by decide +kernel
theorem dX3_step_66 : decode cX3_step 66 = .ok (.aload_n 0, 1) := by decide +kernel
theorem dX3_step_67 : decode cX3_step 67 = .ok (.getfield 121, 3) := by decide +kernel
theorem dX3_step_70 : decode cX3_step 70 = .ok (.goto 9, 3) := by decide +kernel
theorem dX3_step_73 : decode cX3_step 73 = .ok (.aload_n 0, 1) := by decide +kernel
theorem dX3_step_74 : decode cX3_step 74 = .ok (.getfield 121, 3) := by decide +kernel
theorem dX3_step_77 : decode cX3_step 77 = .ok (.iconst 1, 1) := by decide +kernel
theorem dX3_step_78 : decode cX3_step 78 = .ok (.iadd, 1) := by decide +kernel
theorem dX3_step_79 : decode cX3_step 79 = .ok (.putfield 33, 3) := by decide +kernel
theorem dX3_step_82 : decode cX3_step 82 = .ok (.aload_n 0, 1) := by decide +kernel
theorem dX3_step_83 : decode cX3_step 83 = .ok (.getfield 42, 3) := by decide +kernel
theorem dX3_step_86 : decode cX3_step 86 = .ok (.iconst 1, 1) := by decide +kernel
theorem dX3_step_87 : decode cX3_step 87 = .ok (.if_icmp .eq 11, 3) := by decide +kernel
theorem dX3_step_90 : decode cX3_step 90 = .ok (.aload_n 0, 1) := by decide +kernel
theorem dX3_step_91 : decode cX3_step 91 = .ok (.getfield 42, 3) := by decide +kernel
theorem dX3_step_94 : decode cX3_step 94 = .ok (.iconst 2, 1) := by decide +kernel
theorem dX3_step_95 : decode cX3_step 95 = .ok (.if_icmp .ne 7, 3) := by decide +kernel
theorem dX3_step_98 : decode cX3_step 98 = .ok (.iconst 1, 1) := by decide +kernel
theorem dX3_step_99 : decode cX3_step 99 = .ok (.goto 4, 3) := by decide +kernel
theorem dX3_step_102 : decode cX3_step 102 = .ok (.iconst 0, 1) := by decide +kernel
theorem dX3_step_103 : decode cX3_step 103 = .ok (.istore_n 1, 1) := by decide +kernel
theorem dX3_step_104 : decode cX3_step 104 = .ok (.iload_n 1, 1) := by decide +kernel
theorem dX3_step_105 : decode cX3_step 105 = .ok (.ifCond .eq 42, 3) := by decide +kernel
theorem dX3_step_108 : decode cX3_step 108 = .ok (.aload_n 0, 1) := by decide +kernel
theorem dX3_step_109 : decode cX3_step 109 = .ok (.getfield 33, 3) := by decide +kernel
theorem dX3_step_112 : decode cX3_step 112 = .ok (.aload_n 0, 1) := by decide +kernel
theorem dX3_step_113 : decode cX3_step 113 = .ok (.getfield 22, 3) := by decide +kernel
theorem dX3_step_116 : decode cX3_step 116 = .ok (.if_icmp .ge 31, 3) := by decide +kernel
theorem dX3_step_119 : decode cX3_step 119 = .ok (.aload_n 0, 1) := by decide +kernel
theorem dX3_step_120 : decode cX3_step 120 = .ok (.aload_n 0, 1) := by decide +kernel
theorem dX3_step_121 : decode cX3_step 121 = .ok (.getfield 33, 3) := by decide +kernel
theorem dX3_step_124 : decode cX3_step 124 = .ok (.invokevirtual 133, 3) := by decide +kernel
theorem dX3_step_127 : decode cX3_step 127 = .ok (.aload_n 0, 1) := by decide +kernel
theorem dX3_step_128 : decode cX3_step 128 = .ok (.getfield 42, 3) := by decide +kernel
theorem dX3_step_131 : decode cX3_step 131 = .ok (.if_icmp .ne 16, 3) := by decide +kernel
theorem dX3_step_134 : decode cX3_step 134 = .ok (.aload_n 0, 1) := by decide +kernel
theorem dX3_step_135 : decode cX3_step 135 = .ok (.dup, 1) := by decide +kernel
theorem dX3_step_136 : decode cX3_step 136 = .ok (.getfield 33, 3) := by decide +kernel
theorem dX3_step_139 : decode cX3_step 139 = .ok (.iconst 1, 1) := by decide +kernel
theorem dX3_step_140 : decode cX3_step 140 = .ok (.iadd, 1) := by decide +kernel
theorem dX3_step_141 : decode cX3_step 141 = .ok (.putfield 33, 3) := by decide +kernel
theorem dX3_step_144 : decode cX3_step 144 = .ok (.goto (-40), 3) := by decide +kernel
theorem dX3_step_147 : decode cX3_step 147 = .ok (.return_, 1) := by decide +kernel
theorem dX3_takeNumber_0 : decode cX3_takeNumber 0 = .ok (.aload_n 0, 1) := by decide +kernel
theorem dX3_takeNumber_1 : decode cX3_takeNumber 1 = .ok (.invokevirtual 117, 3) := by decide +kernel
theorem dX3_takeNumber_4 : decode cX3_takeNumber 4 = .ok (.istore_n 3, 1) := by decide +kernel
theorem dX3_takeNumber_5 : decode cX3_takeNumber 5 = .ok (.aload_n 0, 1) := by decide +kernel
theorem dX3_takeNumber_6 : decode cX3_takeNumber 6 = .ok (.getfield 30, 3) := by decide +kernel
theorem dX3_takeNumber_9 : decode cX3_takeNumber 9 = .ok (.iconst (-1), 1) := by decide +kernel
theorem dX3_takeNumber_10 : decode cX3_takeNumber 10 = .ok (.if_icmp .ne 13, 3) := by decide +kernel
theorem dX3_takeNumber_13 : decode cX3_takeNumber 13 = .ok (.iload_n 3, 1) := by decide +kernel
theorem dX3_takeNumber_14 : decode cX3_takeNumber 14 = .ok (.iload_n 1, 1) := by decide +kernel
theorem dX3_takeNumber_15 : decode cX3_takeNumber 15 = .ok (.if_icmp .lt 8, 3) := by decide +kernel
theorem dX3_takeNumber_18 : decode cX3_takeNumber 18 = .ok (.iload_n 3, 1) := by decide +kernel
theorem dX3_takeNumber_19 : decode cX3_takeNumber 19 = .ok (.iload_n 2, 1) := by decide +kernel
theorem dX3_takeNumber_20 : decode cX3_takeNumber 20 = .ok (.if_icmp .le 9, 3) := by decide +kernel
theorem dX3_takeNumber_23 : decode cX3_takeNumber 23 = .ok (.aload_n 0, 1) := by decide +kernel
theorem dX3_takeNumber_24 : decode cX3_takeNumber 24 = .ok (.invokevirtual 45, 3) := by decide +kernel
theorem dX3_takeNumber_27 : decode cX3_takeNumber 27 = .ok (.iconst (-1), 1) := by decide +kernel
theorem dX3_takeNumber_28 : decode cX3_takeNumber 28 = .ok (.ireturn, 1) := by decide +kernel
theorem dX3_takeNumber_29 : decode cX3_takeNumber 29 = .ok (.aload_n 0, 1) := by decide +kernel
theorem dX3_takeNumber_30 : decode cX3_takeNumber 30 = .ok (.invokevirtual 36, 3) := by decide +kernel
theorem dX3_takeNumber_33 : decode cX3_takeNumber 33 = .ok (.iload_n 3, 1) := by decide +kernel
theorem dX3_takeNumber_34 : decode cX3_takeNumber 34 = .ok (.ireturn, 1) := by decide +kernel
theorem dX5_town_0 : decode cX5_town 0 = .ok (.aload_n 0, 1) := by decide +kernel
theorem dX5_town_1 : decode cX5_town 1 = .ok (.getfield 36, 3) := by decide +kernel
theorem dX5_town_4 : decode cX5_town 4 = .ok (.aload_n 0, 1) := by decide +kernel
theorem dX5_town_5 : decode cX5_town 5 = .ok (.getfield 10, 3) := by decide +kernel
theorem dX5_town_8 : decode cX5_town 8 = .ok (.invokevirtual 154, 3) := by decide +kernel
theorem dX5_town_11 : decode cX5_town 11 = .ok (.istore_n 1, 1) := by decide +kernel
theorem dX5_town_12 : decode cX5_town 12 = .ok (.aload_n 0, 1) := by decide +kernel
theorem dX5_town_13 : decode cX5_town 13 = .ok (.getfield 36, 3) := by decide +kernel
theorem dX5_town_16 : decode cX5_town 16 = .ok (.iconst 0, 1) := by decide +kernel
theorem dX5_town_17 : decode cX5_town 17 = .ok (.putfield 148, 3) := by decide +kernel
theorem dX5_town_20 : decode cX5_town 20 = .ok (.aload_n 0, 1) := by decide +kernel
theorem dX5_town_21 : decode cX5_town 21 = .ok (.getfield 36, 3) := by decide +kernel
theorem dX5_town_24 : decode cX5_town 24 = .ok (.getfield 158, 3) := by decide +kernel
theorem dX5_town_27 : decode cX5_town 27 = .ok (.iconst (-1), 1) := by decide +kernel
theorem dX5_town_28 : decode cX5_town 28 = .ok (.if_icmp .eq 21, 3) := by decide +kernel
theorem dX5_town_31 : decode cX5_town 31 = .ok (.aload_n 0, 1) := by decide +kernel
theorem dX5_town_32 : decode cX5_town 32 = .ok (.bipush (-2), 2) := by decide +kernel
theorem dX5_town_34 : decode cX5_town 34 = .ok (.invokevirtual 56, 3) := by decide +kernel
theorem dX5_town_37 : decode cX5_town 37 = .ok (.pop, 1) := by decide +kernel
theorem dX5_town_38 : decode cX5_town 38 = .ok (.bipush (-20), 2) := by decide +kernel
theorem dX5_town_40 : decode cX5_town 40 = .ok (.aload_n 0, 1) := by decide +kernel
theorem dX5_town_41 : decode cX5_town 41 = .ok (.getfield 36, 3) := by decide +kernel
theorem dX5_town_44 : decode cX5_town 44 = .ok (.getfield 158, 3) := by decide +kernel
theorem dX5_town_47 : decode cX5_town 47 = .ok (.isub, 1) := by decide +kernel
theorem dX5_town_48 : decode cX5_town 48 = .ok (.ireturn, 1) := by decide +kernel
theorem dX5_town_49 : decode cX5_town 49 = .ok (.aload_n 0, 1) := by decide +kernel
theorem dX5_town_50 : decode cX5_town 50 = .ok (.getfield 10, 3) := by decide +kernel
theorem dX5_town_53 : decode cX5_town 53 = .ok (.aload_n 0, 1) := by decide +kernel
theorem dX5_town_54 : decode cX5_town 54 = .ok (.getfield 36, 3) := by decide +kernel
theorem dX5_town_57 : decode cX5_town 57 = .ok (.getfield 161, 3) := by decide +kernel
theorem dX5_town_60 : decode cX5_town 60 = .ok (.invokevirtual 164, 3) := by decide +kernel
theorem dX5_town_63 : decode cX5_town 63 = .ok (.iload_n 1, 1) := by decide +kernel
theorem dX5_town_64 : decode cX5_town 64 = .ok (.ireturn, 1) := by decide +kernel
theorem lp_lt0 {j n : Nat} (hj : j < 2 ^ 31) (hn : n < 2 ^ 31) (c : nI j < nI n) : j < n := by
  rw [Int32.lt_iff_toInt_lt, nI_toInt hj, nI_toInt hn] at c
  omega
theorem nI_ne1' {k : Nat} (hk : k < 2 ^ 31) : ¬ nI k = -1 := fun q => by
  have := nI_pos (n := k) hk
  rw [q] at this
  exact this (by decide)
theorem wd_len {a b n : Nat} (ha : a < 2 ^ 30) (hb : b < 2 ^ 30) (hn : n ≤ 5) (c : nI b - nI a = nI n) : b = a + n := by
  have := congrArg Int32.toInt c
  rw [pk_sub_toInt hb ha, nI_toInt (by omega)] at this
  omega
theorem cnt250 {j : Nat} (hj : j ≤ 251) (c : ¬ (250 : Int32) < nI j) : j < 251 := by
  rcases Nat.lt_or_ge j 251 with q | q
  · exact q
  · exact absurd (by rw [show j = 251 by omega]; decide) c
theorem tk_in {x : Int32} {n : Nat} (hn : n ≤ 8) (h1 : 0 ≤ x) (h2 : x ≤ nI n - 1) : ∃ k : Nat, k < n ∧ x = nI k := by
  obtain ⟨k, hk, rfl⟩ := nI_of (Int32.not_lt.mpr h1)
  refine ⟨k, ?_, rfl⟩
  rw [Int32.le_iff_toInt_le, nI_toInt hk, show (1 : Int32) = nI 1 from rfl, pk_sub_toInt (by omega) (by omega)] at h2
  omega
abbrev T_setne (t : TA) (x : Nat → Int32) : TA := T_mk (T_nb t) (T_np t) (T_sd t) (T_wh t) (T_gn t) (T_wo t) x (T_go t) (T_ag t) (T_re t) (T_me t) (T_te t) (T_kn t)
theorem as_book : ∀ k, k < ([98, 111, 111, 107] : List Int32).length → ∃ n : Nat, n < 128 ∧ ([98, 111, 111, 107] : List Int32).getD k 0 = nI n := fun k hk => by
  match k, hk with
  | 0, _ => exact ⟨98, by omega, rfl⟩
  | 1, _ => exact ⟨111, by omega, rfl⟩
  | 2, _ => exact ⟨111, by omega, rfl⟩
  | 3, _ => exact ⟨107, by omega, rfl⟩
  | k + 4, h => exact absurd h (by simp)
theorem as_good : ∀ k, k < ([103, 111, 111, 100] : List Int32).length → ∃ n : Nat, n < 128 ∧ ([103, 111, 111, 100] : List Int32).getD k 0 = nI n := fun k hk => by
  match k, hk with
  | 0, _ => exact ⟨103, by omega, rfl⟩
  | 1, _ => exact ⟨111, by omega, rfl⟩
  | 2, _ => exact ⟨111, by omega, rfl⟩
  | 3, _ => exact ⟨100, by omega, rfl⟩
  | k + 4, h => exact absurd h (by simp)
theorem as_need : ∀ k, k < ([110, 101, 101, 100] : List Int32).length → ∃ n : Nat, n < 128 ∧ ([110, 101, 101, 100] : List Int32).getD k 0 = nI n := fun k hk => by
  match k, hk with
  | 0, _ => exact ⟨110, by omega, rfl⟩
  | 1, _ => exact ⟨101, by omega, rfl⟩
  | 2, _ => exact ⟨101, by omega, rfl⟩
  | 3, _ => exact ⟨100, by omega, rfl⟩
  | k + 4, h => exact absurd h (by simp)
theorem as_one : ∀ k, k < ([111, 110, 101] : List Int32).length → ∃ n : Nat, n < 128 ∧ ([111, 110, 101] : List Int32).getD k 0 = nI n := fun k hk => by
  match k, hk with
  | 0, _ => exact ⟨111, by omega, rfl⟩
  | 1, _ => exact ⟨110, by omega, rfl⟩
  | 2, _ => exact ⟨101, by omega, rfl⟩
  | k + 3, h => exact absurd h (by simp)
theorem as_reads : ∀ k, k < ([114, 101, 97, 100, 115] : List Int32).length → ∃ n : Nat, n < 128 ∧ ([114, 101, 97, 100, 115] : List Int32).getD k 0 = nI n := fun k hk => by
  match k, hk with
  | 0, _ => exact ⟨114, by omega, rfl⟩
  | 1, _ => exact ⟨101, by omega, rfl⟩
  | 2, _ => exact ⟨97, by omega, rfl⟩
  | 3, _ => exact ⟨100, by omega, rfl⟩
  | 4, _ => exact ⟨115, by omega, rfl⟩
  | k + 5, h => exact absurd h (by simp)
theorem as_keeps : ∀ k, k < ([107, 101, 101, 112, 115] : List Int32).length → ∃ n : Nat, n < 128 ∧ ([107, 101, 101, 112, 115] : List Int32).getD k 0 = nI n := fun k hk => by
  match k, hk with
  | 0, _ => exact ⟨107, by omega, rfl⟩
  | 1, _ => exact ⟨101, by omega, rfl⟩
  | 2, _ => exact ⟨101, by omega, rfl⟩
  | 3, _ => exact ⟨112, by omega, rfl⟩
  | 4, _ => exact ⟨115, by omega, rfl⟩
  | k + 5, h => exact absurd h (by simp)
theorem as_tells : ∀ k, k < ([116, 101, 108, 108, 115] : List Int32).length → ∃ n : Nat, n < 128 ∧ ([116, 101, 108, 108, 115] : List Int32).getD k 0 = nI n := fun k hk => by
  match k, hk with
  | 0, _ => exact ⟨116, by omega, rfl⟩
  | 1, _ => exact ⟨101, by omega, rfl⟩
  | 2, _ => exact ⟨108, by omega, rfl⟩
  | 3, _ => exact ⟨108, by omega, rfl⟩
  | 4, _ => exact ⟨115, by omega, rfl⟩
  | k + 5, h => exact absurd h (by simp)
theorem as_knows : ∀ k, k < ([107, 110, 111, 119, 115] : List Int32).length → ∃ n : Nat, n < 128 ∧ ([107, 110, 111, 119, 115] : List Int32).getD k 0 = nI n := fun k hk => by
  match k, hk with
  | 0, _ => exact ⟨107, by omega, rfl⟩
  | 1, _ => exact ⟨110, by omega, rfl⟩
  | 2, _ => exact ⟨111, by omega, rfl⟩
  | 3, _ => exact ⟨119, by omega, rfl⟩
  | 4, _ => exact ⟨115, by omega, rfl⟩
  | k + 5, h => exact absurd h (by simp)
theorem as_white : ∀ k, k < ([119, 104, 105, 116, 101] : List Int32).length → ∃ n : Nat, n < 128 ∧ ([119, 104, 105, 116, 101] : List Int32).getD k 0 = nI n := fun k hk => by
  match k, hk with
  | 0, _ => exact ⟨119, by omega, rfl⟩
  | 1, _ => exact ⟨104, by omega, rfl⟩
  | 2, _ => exact ⟨105, by omega, rfl⟩
  | 3, _ => exact ⟨116, by omega, rfl⟩
  | 4, _ => exact ⟨101, by omega, rfl⟩
  | k + 5, h => exact absurd h (by simp)
